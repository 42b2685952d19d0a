section
-- ===== PART A: goes FIRST, ahead of the names: the tables' words, and 'selects' of the private methods out of them =====
/-- a private method of a class that the tables say can be made, by its rows of tables_1 -/
def lw_okq (q : MethodName × Nat) : Prop := (q.1.cls ≠ "java/lang/invoke/MethodHandle" ∧ q.1.cls ≠ "java/lang/invoke/VarHandle") ∧ Cond.instantiable q.1.cls q.2 ∈ tables_1 ∧ Cond.privateMethod q.1 ∈ tables_1 ∧ Cond.instanceMethod q.1 ∈ tables_1
theorem lw_p0 : lw_okq (⟨"DividingHead", "hasCircleOf", "(I)Z"⟩, 9) := ⟨⟨by decide +kernel, by decide +kernel⟩, List.mem_of_getElem? (i := 5) (by decide +kernel), List.mem_of_getElem? (i := 53) (by decide +kernel), List.mem_of_getElem? (i := 54) (by decide +kernel)⟩
theorem lw_p1 : lw_okq (⟨"DividingHead", "holesAt", "(I)I"⟩, 9) := ⟨⟨by decide +kernel, by decide +kernel⟩, List.mem_of_getElem? (i := 5) (by decide +kernel), List.mem_of_getElem? (i := 61) (by decide +kernel), List.mem_of_getElem? (i := 62) (by decide +kernel)⟩
theorem lw_p2 : lw_okq (⟨"DividingHead", "plainCircle", "(I)I"⟩, 9) := ⟨⟨by decide +kernel, by decide +kernel⟩, List.mem_of_getElem? (i := 5) (by decide +kernel), List.mem_of_getElem? (i := 80) (by decide +kernel), List.mem_of_getElem? (i := 81) (by decide +kernel)⟩
theorem lw_p3 : lw_okq (⟨"DividingHead", "secondStep", "(III)I"⟩, 9) := ⟨⟨by decide +kernel, by decide +kernel⟩, List.mem_of_getElem? (i := 5) (by decide +kernel), List.mem_of_getElem? (i := 92) (by decide +kernel), List.mem_of_getElem? (i := 93) (by decide +kernel)⟩
theorem lw_p4 : lw_okq (⟨"DividingHead", "firstStep", "(IIII)I"⟩, 9) := ⟨⟨by decide +kernel, by decide +kernel⟩, List.mem_of_getElem? (i := 5) (by decide +kernel), List.mem_of_getElem? (i := 96) (by decide +kernel), List.mem_of_getElem? (i := 97) (by decide +kernel)⟩
theorem lw_p5 : lw_okq (⟨"DividingHead", "compoundTerm", "(IIIII)I"⟩, 9) := ⟨⟨by decide +kernel, by decide +kernel⟩, List.mem_of_getElem? (i := 5) (by decide +kernel), List.mem_of_getElem? (i := 100) (by decide +kernel), List.mem_of_getElem? (i := 101) (by decide +kernel)⟩
theorem lw_p6 : lw_okq (⟨"DividingHead", "partsBeside", "(I)I"⟩, 9) := ⟨⟨by decide +kernel, by decide +kernel⟩, List.mem_of_getElem? (i := 5) (by decide +kernel), List.mem_of_getElem? (i := 109) (by decide +kernel), List.mem_of_getElem? (i := 110) (by decide +kernel)⟩
theorem lw_p7 : lw_okq (⟨"DividingHead", "standsIn", "(II)Z"⟩, 9) := ⟨⟨by decide +kernel, by decide +kernel⟩, List.mem_of_getElem? (i := 5) (by decide +kernel), List.mem_of_getElem? (i := 113) (by decide +kernel), List.mem_of_getElem? (i := 114) (by decide +kernel)⟩
theorem lw_p8 : lw_okq (⟨"DividingHead", "findTrain", "(JJ)Z"⟩, 9) := ⟨⟨by decide +kernel, by decide +kernel⟩, List.mem_of_getElem? (i := 5) (by decide +kernel), List.mem_of_getElem? (i := 120) (by decide +kernel), List.mem_of_getElem? (i := 121) (by decide +kernel)⟩
theorem lw_p9 : lw_okq (⟨"DividingHead", "findTwoGears", "(JJ)Z"⟩, 9) := ⟨⟨by decide +kernel, by decide +kernel⟩, List.mem_of_getElem? (i := 5) (by decide +kernel), List.mem_of_getElem? (i := 124) (by decide +kernel), List.mem_of_getElem? (i := 125) (by decide +kernel)⟩
theorem lw_p10 : lw_okq (⟨"DividingHead", "gearWith", "(JIII)I"⟩, 9) := ⟨⟨by decide +kernel, by decide +kernel⟩, List.mem_of_getElem? (i := 5) (by decide +kernel), List.mem_of_getElem? (i := 128) (by decide +kernel), List.mem_of_getElem? (i := 129) (by decide +kernel)⟩
theorem lw_p11 : lw_okq (⟨"DividingHead", "keepTrain", "(IIII)Z"⟩, 9) := ⟨⟨by decide +kernel, by decide +kernel⟩, List.mem_of_getElem? (i := 5) (by decide +kernel), List.mem_of_getElem? (i := 132) (by decide +kernel), List.mem_of_getElem? (i := 133) (by decide +kernel)⟩
theorem lw_p12 : lw_okq (⟨"DividingHead", "findFourGears", "(JJ)Z"⟩, 9) := ⟨⟨by decide +kernel, by decide +kernel⟩, List.mem_of_getElem? (i := 5) (by decide +kernel), List.mem_of_getElem? (i := 136) (by decide +kernel), List.mem_of_getElem? (i := 137) (by decide +kernel)⟩
theorem lw_p13 : lw_okq (⟨"DividingHead", "findSecondPair", "(IIJJ)Z"⟩, 9) := ⟨⟨by decide +kernel, by decide +kernel⟩, List.mem_of_getElem? (i := 5) (by decide +kernel), List.mem_of_getElem? (i := 140) (by decide +kernel), List.mem_of_getElem? (i := 141) (by decide +kernel)⟩
theorem lw_p14 : lw_okq (⟨"DividingHead", "nearestHole", "(III)I"⟩, 9) := ⟨⟨by decide +kernel, by decide +kernel⟩, List.mem_of_getElem? (i := 5) (by decide +kernel), List.mem_of_getElem? (i := 156) (by decide +kernel), List.mem_of_getElem? (i := 157) (by decide +kernel)⟩
theorem lw_p15 : lw_okq (⟨"DividingHead", "missUpper", "(III)I"⟩, 9) := ⟨⟨by decide +kernel, by decide +kernel⟩, List.mem_of_getElem? (i := 5) (by decide +kernel), List.mem_of_getElem? (i := 169) (by decide +kernel), List.mem_of_getElem? (i := 170) (by decide +kernel)⟩
def lw_privs_1 : List (MethodName × Nat) := [(⟨"DividingHead", "hasCircleOf", "(I)Z"⟩, 9), (⟨"DividingHead", "holesAt", "(I)I"⟩, 9), (⟨"DividingHead", "plainCircle", "(I)I"⟩, 9), (⟨"DividingHead", "secondStep", "(III)I"⟩, 9), (⟨"DividingHead", "firstStep", "(IIII)I"⟩, 9), (⟨"DividingHead", "compoundTerm", "(IIIII)I"⟩, 9), (⟨"DividingHead", "partsBeside", "(I)I"⟩, 9), (⟨"DividingHead", "standsIn", "(II)Z"⟩, 9), (⟨"DividingHead", "findTrain", "(JJ)Z"⟩, 9), (⟨"DividingHead", "findTwoGears", "(JJ)Z"⟩, 9), (⟨"DividingHead", "gearWith", "(JIII)I"⟩, 9), (⟨"DividingHead", "keepTrain", "(IIII)Z"⟩, 9), (⟨"DividingHead", "findFourGears", "(JJ)Z"⟩, 9), (⟨"DividingHead", "findSecondPair", "(IIJJ)Z"⟩, 9), (⟨"DividingHead", "nearestHole", "(III)I"⟩, 9), (⟨"DividingHead", "missUpper", "(III)I"⟩, 9)]
theorem lw_r1 : ∀ q ∈ lw_privs_1, lw_okq q := List.forall_mem_cons.mpr ⟨lw_p0, List.forall_mem_cons.mpr ⟨lw_p1, List.forall_mem_cons.mpr ⟨lw_p2, List.forall_mem_cons.mpr ⟨lw_p3, List.forall_mem_cons.mpr ⟨lw_p4, List.forall_mem_cons.mpr ⟨lw_p5, List.forall_mem_cons.mpr ⟨lw_p6, List.forall_mem_cons.mpr ⟨lw_p7, List.forall_mem_cons.mpr ⟨lw_p8, List.forall_mem_cons.mpr ⟨lw_p9, List.forall_mem_cons.mpr ⟨lw_p10, List.forall_mem_cons.mpr ⟨lw_p11, List.forall_mem_cons.mpr ⟨lw_p12, List.forall_mem_cons.mpr ⟨lw_p13, List.forall_mem_cons.mpr ⟨lw_p14, List.forall_mem_cons.mpr ⟨lw_p15, fun _ h => absurd h List.not_mem_nil⟩⟩⟩⟩⟩⟩⟩⟩⟩⟩⟩⟩⟩⟩⟩⟩
theorem lw_p16 : lw_okq (⟨"DividingHead", "exactCuts", "(II)I"⟩, 9) := ⟨⟨by decide +kernel, by decide +kernel⟩, List.mem_of_getElem? (i := 5) (by decide +kernel), List.mem_of_getElem? (i := 186) (by decide +kernel), List.mem_of_getElem? (i := 187) (by decide +kernel)⟩
theorem lw_p17 : lw_okq (⟨"DividingHead", "worstUpper", "(II)I"⟩, 9) := ⟨⟨by decide +kernel, by decide +kernel⟩, List.mem_of_getElem? (i := 5) (by decide +kernel), List.mem_of_getElem? (i := 190) (by decide +kernel), List.mem_of_getElem? (i := 191) (by decide +kernel)⟩
theorem lw_p18 : lw_okq (⟨"DividingHead", "errorUpper", "(III)I"⟩, 9) := ⟨⟨by decide +kernel, by decide +kernel⟩, List.mem_of_getElem? (i := 5) (by decide +kernel), List.mem_of_getElem? (i := 213) (by decide +kernel), List.mem_of_getElem? (i := 214) (by decide +kernel)⟩
theorem lw_p19 : lw_okq (⟨"DividingHead", "mainMark", "(JJ)J"⟩, 9) := ⟨⟨by decide +kernel, by decide +kernel⟩, List.mem_of_getElem? (i := 5) (by decide +kernel), List.mem_of_getElem? (i := 245) (by decide +kernel), List.mem_of_getElem? (i := 246) (by decide +kernel)⟩
theorem lw_p20 : lw_okq (⟨"DividingHead", "vernierLine", "(JJ)J"⟩, 9) := ⟨⟨by decide +kernel, by decide +kernel⟩, List.mem_of_getElem? (i := 5) (by decide +kernel), List.mem_of_getElem? (i := 249) (by decide +kernel), List.mem_of_getElem? (i := 250) (by decide +kernel)⟩
theorem lw_p21 : lw_okq (⟨"DividingHead", "readParts", "(JJ)J"⟩, 9) := ⟨⟨by decide +kernel, by decide +kernel⟩, List.mem_of_getElem? (i := 5) (by decide +kernel), List.mem_of_getElem? (i := 253) (by decide +kernel), List.mem_of_getElem? (i := 254) (by decide +kernel)⟩
theorem lw_p22 : lw_okq (⟨"DividingHeadModel", "isCircle", "(I)Z"⟩, 9) := ⟨⟨by decide +kernel, by decide +kernel⟩, List.mem_of_getElem? (i := 270) (by decide +kernel), List.mem_of_getElem? (i := 323) (by decide +kernel), List.mem_of_getElem? (i := 324) (by decide +kernel)⟩
theorem lw_p23 : lw_okq (⟨"DividingHeadModel", "isGear", "(I)Z"⟩, 9) := ⟨⟨by decide +kernel, by decide +kernel⟩, List.mem_of_getElem? (i := 270) (by decide +kernel), List.mem_of_getElem? (i := 336) (by decide +kernel), List.mem_of_getElem? (i := 337) (by decide +kernel)⟩
theorem lw_p24 : lw_okq (⟨"DividingHeadModel", "plainOf", "(I)I"⟩, 9) := ⟨⟨by decide +kernel, by decide +kernel⟩, List.mem_of_getElem? (i := 270) (by decide +kernel), List.mem_of_getElem? (i := 349) (by decide +kernel), List.mem_of_getElem? (i := 350) (by decide +kernel)⟩
theorem lw_p25 : lw_okq (⟨"DividingHeadModel", "stepBeside", "(IIII)I"⟩, 9) := ⟨⟨by decide +kernel, by decide +kernel⟩, List.mem_of_getElem? (i := 270) (by decide +kernel), List.mem_of_getElem? (i := 359) (by decide +kernel), List.mem_of_getElem? (i := 360) (by decide +kernel)⟩
theorem lw_p26 : lw_okq (⟨"DividingHeadModel", "isTrain", "(JJ)Z"⟩, 9) := ⟨⟨by decide +kernel, by decide +kernel⟩, List.mem_of_getElem? (i := 270) (by decide +kernel), List.mem_of_getElem? (i := 369) (by decide +kernel), List.mem_of_getElem? (i := 370) (by decide +kernel)⟩
theorem lw_p27 : lw_okq (⟨"DividingHeadModel", "put", "(IIII)V"⟩, 9) := ⟨⟨by decide +kernel, by decide +kernel⟩, List.mem_of_getElem? (i := 270) (by decide +kernel), List.mem_of_getElem? (i := 373) (by decide +kernel), List.mem_of_getElem? (i := 374) (by decide +kernel)⟩
theorem lw_p28 : lw_okq (⟨"DividingHeadModel", "holeOf", "(III)J"⟩, 9) := ⟨⟨by decide +kernel, by decide +kernel⟩, List.mem_of_getElem? (i := 270) (by decide +kernel), List.mem_of_getElem? (i := 389) (by decide +kernel), List.mem_of_getElem? (i := 390) (by decide +kernel)⟩
theorem lw_p29 : lw_okq (⟨"DividingHeadModel", "missOf", "(III)J"⟩, 9) := ⟨⟨by decide +kernel, by decide +kernel⟩, List.mem_of_getElem? (i := 270) (by decide +kernel), List.mem_of_getElem? (i := 398) (by decide +kernel), List.mem_of_getElem? (i := 399) (by decide +kernel)⟩
theorem lw_p30 : lw_okq (⟨"DividingHeadModel", "exact", "(II)I"⟩, 9) := ⟨⟨by decide +kernel, by decide +kernel⟩, List.mem_of_getElem? (i := 270) (by decide +kernel), List.mem_of_getElem? (i := 412) (by decide +kernel), List.mem_of_getElem? (i := 413) (by decide +kernel)⟩
theorem lw_p31 : lw_okq (⟨"DividingHeadModel", "worstOf", "(II)J"⟩, 9) := ⟨⟨by decide +kernel, by decide +kernel⟩, List.mem_of_getElem? (i := 270) (by decide +kernel), List.mem_of_getElem? (i := 416) (by decide +kernel), List.mem_of_getElem? (i := 417) (by decide +kernel)⟩
def lw_privs_2 : List (MethodName × Nat) := [(⟨"DividingHead", "exactCuts", "(II)I"⟩, 9), (⟨"DividingHead", "worstUpper", "(II)I"⟩, 9), (⟨"DividingHead", "errorUpper", "(III)I"⟩, 9), (⟨"DividingHead", "mainMark", "(JJ)J"⟩, 9), (⟨"DividingHead", "vernierLine", "(JJ)J"⟩, 9), (⟨"DividingHead", "readParts", "(JJ)J"⟩, 9), (⟨"DividingHeadModel", "isCircle", "(I)Z"⟩, 9), (⟨"DividingHeadModel", "isGear", "(I)Z"⟩, 9), (⟨"DividingHeadModel", "plainOf", "(I)I"⟩, 9), (⟨"DividingHeadModel", "stepBeside", "(IIII)I"⟩, 9), (⟨"DividingHeadModel", "isTrain", "(JJ)Z"⟩, 9), (⟨"DividingHeadModel", "put", "(IIII)V"⟩, 9), (⟨"DividingHeadModel", "holeOf", "(III)J"⟩, 9), (⟨"DividingHeadModel", "missOf", "(III)J"⟩, 9), (⟨"DividingHeadModel", "exact", "(II)I"⟩, 9), (⟨"DividingHeadModel", "worstOf", "(II)J"⟩, 9)]
theorem lw_r2 : ∀ q ∈ lw_privs_2, lw_okq q := List.forall_mem_cons.mpr ⟨lw_p16, List.forall_mem_cons.mpr ⟨lw_p17, List.forall_mem_cons.mpr ⟨lw_p18, List.forall_mem_cons.mpr ⟨lw_p19, List.forall_mem_cons.mpr ⟨lw_p20, List.forall_mem_cons.mpr ⟨lw_p21, List.forall_mem_cons.mpr ⟨lw_p22, List.forall_mem_cons.mpr ⟨lw_p23, List.forall_mem_cons.mpr ⟨lw_p24, List.forall_mem_cons.mpr ⟨lw_p25, List.forall_mem_cons.mpr ⟨lw_p26, List.forall_mem_cons.mpr ⟨lw_p27, List.forall_mem_cons.mpr ⟨lw_p28, List.forall_mem_cons.mpr ⟨lw_p29, List.forall_mem_cons.mpr ⟨lw_p30, List.forall_mem_cons.mpr ⟨lw_p31, fun _ h => absurd h List.not_mem_nil⟩⟩⟩⟩⟩⟩⟩⟩⟩⟩⟩⟩⟩⟩⟩⟩
theorem lw_p32 : lw_okq (⟨"DividingHeadModel", "errorAt", "(III)J"⟩, 9) := ⟨⟨by decide +kernel, by decide +kernel⟩, List.mem_of_getElem? (i := 270) (by decide +kernel), List.mem_of_getElem? (i := 440) (by decide +kernel), List.mem_of_getElem? (i := 441) (by decide +kernel)⟩
theorem lw_p33 : lw_okq (⟨"DividingHeadModel", "mainOf", "(JJ)J"⟩, 9) := ⟨⟨by decide +kernel, by decide +kernel⟩, List.mem_of_getElem? (i := 270) (by decide +kernel), List.mem_of_getElem? (i := 466) (by decide +kernel), List.mem_of_getElem? (i := 467) (by decide +kernel)⟩
theorem lw_p34 : lw_okq (⟨"DividingHeadModel", "lineOf", "(JJ)J"⟩, 9) := ⟨⟨by decide +kernel, by decide +kernel⟩, List.mem_of_getElem? (i := 270) (by decide +kernel), List.mem_of_getElem? (i := 470) (by decide +kernel), List.mem_of_getElem? (i := 471) (by decide +kernel)⟩
theorem lw_p35 : lw_okq (⟨"DividingHeadModel", "readOf", "(JJ)J"⟩, 9) := ⟨⟨by decide +kernel, by decide +kernel⟩, List.mem_of_getElem? (i := 270) (by decide +kernel), List.mem_of_getElem? (i := 474) (by decide +kernel), List.mem_of_getElem? (i := 475) (by decide +kernel)⟩
def lw_privs_3 : List (MethodName × Nat) := [(⟨"DividingHeadModel", "errorAt", "(III)J"⟩, 9), (⟨"DividingHeadModel", "mainOf", "(JJ)J"⟩, 9), (⟨"DividingHeadModel", "lineOf", "(JJ)J"⟩, 9), (⟨"DividingHeadModel", "readOf", "(JJ)J"⟩, 9)]
theorem lw_r3 : ∀ q ∈ lw_privs_3, lw_okq q := List.forall_mem_cons.mpr ⟨lw_p32, List.forall_mem_cons.mpr ⟨lw_p33, List.forall_mem_cons.mpr ⟨lw_p34, List.forall_mem_cons.mpr ⟨lw_p35, fun _ h => absurd h List.not_mem_nil⟩⟩⟩⟩
def lw_privs : List (MethodName × Nat) := lw_privs_1 ++ (lw_privs_2 ++ (lw_privs_3))
def lw_tbl : List Cond := k2_sels lw_privs ++ tables_1
theorem lw_privs_ok : ∀ q ∈ lw_privs, lw_okq q := by
  show ∀ q ∈ lw_privs_1 ++ (lw_privs_2 ++ (lw_privs_3)), lw_okq q
  exact List.forall_mem_append.mpr ⟨lw_r1, List.forall_mem_append.mpr ⟨lw_r2, lw_r3⟩⟩
-- ===== end of PART A; then your names; then what follows =====
end
section
/-! ===== BEGIN words of one list among another's, by their places ===== -/
theorem goodIn_r {big : List Cond} (ws : List Cond) (ps : List Nat) (hp : ws = ps.filterMap (fun i => big[i]?)) (h : ws.all goodWord = true) : GoodIn big ws := by
  intro w hw
  have h1 := List.all_eq_true.mp h w hw
  rw [hp] at hw
  obtain ⟨i, -, hi⟩ := List.mem_filterMap.mp hw
  have hm : w ∈ big := by first | exact List.mem_of_getElem? hi | exact List.getElem?_mem hi
  exact ⟨hm, good_of_word h1⟩
theorem goodIn_app {big a b : List Cond} (ha : GoodIn big a) (hb : GoodIn big b) : GoodIn big (a ++ b) := fun w h => (List.mem_append.mp h).elim (ha w) (hb w)
theorem goodIn_ca {big a b : List Cond} {c : Cond} (ha : GoodIn big (c :: a)) (hb : GoodIn big b) : GoodIn big (c :: (a ++ b)) := fun w h => (List.mem_cons.mp h).elim (fun e => ha w (List.mem_cons.mpr (Or.inl e))) (fun h => (List.mem_append.mp h).elim (fun h => ha w (List.mem_cons.mpr (Or.inr h))) (hb w))
theorem goodIn_sub {big ws : List Cond} (hm : ∀ w ∈ ws, w ∈ big) (h : ws.all goodWord = true) : GoodIn big ws := fun w hw => ⟨hm w hw, good_of_word (List.all_eq_true.mp h w hw)⟩
/-! ===== END ===== -/

/-! ===== BEGIN printed: names, fields, word lists, decode rows ===== -/
def RX0 : String := "DividingHead"
def TX0 : u_T := fun k => match k with
  | 0 => ("DividingHead", "circleHoles", "[I", true)
  | 1 => ("DividingHead", "gearTeeth", "[I", true)
  | 2 => ("DividingHead", "wormErrors", "[I", true)
  | 3 => ("DividingHead", "trainGears", "[I", true)
  | 4 => ("DividingHead", "circleCount", "I", false)
  | 5 => ("DividingHead", "gearCount", "I", false)
  | 6 => ("DividingHead", "wheelTeeth", "I", false)
  | 7 => ("DividingHead", "circleMarks", "I", false)
  | _ => ("DividingHead", "vernierParts", "I", false)
def tyX0 : Nat → FieldType := fun k => match k with
  | 0 => .array .int
  | 1 => .array .int
  | 2 => .array .int
  | 3 => .array .int
  | 4 => .int
  | 5 => .int
  | 6 => .int
  | 7 => .int
  | _ => .int
abbrev wsX00 : List Cond := u_ws RX0 TX0 9
theorem nmX0 : ∀ a, a < 9 → ∀ b, b < 9 → a ≠ b → (TX0 a).2.1 ≠ (TX0 b).2.1 := by decide +kernel
theorem tyX0_ok : ∀ k, k < 9 → parseFieldDescriptor (TX0 k).2.2.1 = some (tyX0 k) := by decide +kernel
abbrev cX0_init : ByteArray := prog_1_method_1_code
def yX0_init : MethodName := ⟨RX0, "<init>", "()V"⟩
abbrev cX0_wheel : ByteArray := prog_1_method_2_code
def yX0_wheel : MethodName := ⟨RX0, "wheel", "(I)I"⟩
abbrev cX0_circle : ByteArray := prog_1_method_3_code
def yX0_circle : MethodName := ⟨RX0, "circle", "(I)I"⟩
abbrev cX0_holes : ByteArray := prog_1_method_4_code
def yX0_holes : MethodName := ⟨RX0, "holes", "(I)I"⟩
abbrev cX0_gear : ByteArray := prog_1_method_5_code
def yX0_gear : MethodName := ⟨RX0, "gear", "(I)I"⟩
abbrev cX0_teeth : ByteArray := prog_1_method_6_code
def yX0_teeth : MethodName := ⟨RX0, "teeth", "(I)I"⟩
abbrev cX0_plain : ByteArray := prog_1_method_7_code
def yX0_plain : MethodName := ⟨RX0, "plain", "(II)I"⟩
abbrev cX0_compound : ByteArray := prog_1_method_8_code
def yX0_compound : MethodName := ⟨RX0, "compound", "(II)I"⟩
abbrev cX0_differential : ByteArray := prog_1_method_9_code
def yX0_differential : MethodName := ⟨RX0, "differential", "(II)I"⟩
abbrev cX0_train : ByteArray := prog_1_method_10_code
def yX0_train : MethodName := ⟨RX0, "train", "(III)I"⟩
abbrev cX0_hole : ByteArray := prog_1_method_11_code
def yX0_hole : MethodName := ⟨RX0, "hole", "(III)I"⟩
abbrev cX0_miss : ByteArray := prog_1_method_12_code
def yX0_miss : MethodName := ⟨RX0, "miss", "(IIII)I"⟩
abbrev cX0_worst : ByteArray := prog_1_method_13_code
def yX0_worst : MethodName := ⟨RX0, "worst", "(III)I"⟩
abbrev cX0_best : ByteArray := prog_1_method_14_code
def yX0_best : MethodName := ⟨RX0, "best", "(I)I"⟩
abbrev cX0_error : ByteArray := prog_1_method_15_code
def yX0_error : MethodName := ⟨RX0, "error", "(II)I"⟩
abbrev cX0_spoilt : ByteArray := prog_1_method_16_code
def yX0_spoilt : MethodName := ⟨RX0, "spoilt", "(IIII)I"⟩
abbrev cX0_extreme : ByteArray := prog_1_method_17_code
def yX0_extreme : MethodName := ⟨RX0, "extreme", "(IIII)I"⟩
abbrev cX0_near : ByteArray := prog_1_method_18_code
def yX0_near : MethodName := ⟨RX0, "near", "(IIII)I"⟩
abbrev cX0_vernier : ByteArray := prog_1_method_19_code
def yX0_vernier : MethodName := ⟨RX0, "vernier", "(II)I"⟩
abbrev cX0_read : ByteArray := prog_1_method_20_code
def yX0_read : MethodName := ⟨RX0, "read", "(III)I"⟩
abbrev cX0_two : ByteArray := prog_1_method_21_code
def yX0_two : MethodName := ⟨RX0, "two", "(IIII)I"⟩
abbrev cX0_told : ByteArray := prog_1_method_22_code
def yX0_told : MethodName := ⟨RX0, "told", "(I)I"⟩
abbrev cX0_isOutside : ByteArray := prog_1_method_23_code
def yX0_isOutside : MethodName := ⟨RX0, "isOutside", "(III)Z"⟩
abbrev cX0_isNoNumberOfParts : ByteArray := prog_1_method_24_code
def yX0_isNoNumberOfParts : MethodName := ⟨RX0, "isNoNumberOfParts", "(I)Z"⟩
abbrev cX0_isNoShare : ByteArray := prog_1_method_25_code
def yX0_isNoShare : MethodName := ⟨RX0, "isNoShare", "(II)Z"⟩
abbrev cX0_isNoPlace : ByteArray := prog_1_method_26_code
def yX0_isNoPlace : MethodName := ⟨RX0, "isNoPlace", "(II)Z"⟩
abbrev cX0_isNoStep : ByteArray := prog_1_method_27_code
def yX0_isNoStep : MethodName := ⟨RX0, "isNoStep", "(I)Z"⟩
abbrev cX0_holesAt : ByteArray := prog_1_method_28_code
def yX0_holesAt : MethodName := ⟨RX0, "holesAt", "(I)I"⟩
abbrev cX0_hasCircleOf : ByteArray := prog_1_method_29_code
def yX0_hasCircleOf : MethodName := ⟨RX0, "hasCircleOf", "(I)Z"⟩
abbrev cX0_plainCircle : ByteArray := prog_1_method_30_code
def yX0_plainCircle : MethodName := ⟨RX0, "plainCircle", "(I)I"⟩
abbrev cX0_secondStep : ByteArray := prog_1_method_31_code
def yX0_secondStep : MethodName := ⟨RX0, "secondStep", "(III)I"⟩
abbrev cX0_firstStep : ByteArray := prog_1_method_32_code
def yX0_firstStep : MethodName := ⟨RX0, "firstStep", "(IIII)I"⟩
abbrev cX0_compoundTerm : ByteArray := prog_1_method_33_code
def yX0_compoundTerm : MethodName := ⟨RX0, "compoundTerm", "(IIIII)I"⟩
abbrev cX0_partsBeside : ByteArray := prog_1_method_34_code
def yX0_partsBeside : MethodName := ⟨RX0, "partsBeside", "(I)I"⟩
abbrev cX0_standsIn : ByteArray := prog_1_method_35_code
def yX0_standsIn : MethodName := ⟨RX0, "standsIn", "(II)Z"⟩
abbrev cX0_findTrain : ByteArray := prog_1_method_36_code
def yX0_findTrain : MethodName := ⟨RX0, "findTrain", "(JJ)Z"⟩
abbrev cX0_findTwoGears : ByteArray := prog_1_method_37_code
def yX0_findTwoGears : MethodName := ⟨RX0, "findTwoGears", "(JJ)Z"⟩
abbrev cX0_findFourGears : ByteArray := prog_1_method_38_code
def yX0_findFourGears : MethodName := ⟨RX0, "findFourGears", "(JJ)Z"⟩
abbrev cX0_findSecondPair : ByteArray := prog_1_method_39_code
def yX0_findSecondPair : MethodName := ⟨RX0, "findSecondPair", "(IIJJ)Z"⟩
abbrev cX0_gearWith : ByteArray := prog_1_method_40_code
def yX0_gearWith : MethodName := ⟨RX0, "gearWith", "(JIII)I"⟩
abbrev cX0_keepTrain : ByteArray := prog_1_method_41_code
def yX0_keepTrain : MethodName := ⟨RX0, "keepTrain", "(IIII)Z"⟩
abbrev cX0_nearestHole : ByteArray := prog_1_method_42_code
def yX0_nearestHole : MethodName := ⟨RX0, "nearestHole", "(III)I"⟩
abbrev cX0_missUpper : ByteArray := prog_1_method_43_code
def yX0_missUpper : MethodName := ⟨RX0, "missUpper", "(III)I"⟩
abbrev cX0_worstUpper : ByteArray := prog_1_method_44_code
def yX0_worstUpper : MethodName := ⟨RX0, "worstUpper", "(II)I"⟩
abbrev cX0_exactCuts : ByteArray := prog_1_method_45_code
def yX0_exactCuts : MethodName := ⟨RX0, "exactCuts", "(II)I"⟩
abbrev cX0_errorUpper : ByteArray := prog_1_method_46_code
def yX0_errorUpper : MethodName := ⟨RX0, "errorUpper", "(III)I"⟩
abbrev cX0_nearestLower : ByteArray := prog_1_method_47_code
def yX0_nearestLower : MethodName := ⟨RX0, "nearestLower", "(III)I"⟩
abbrev cX0_gapUpper : ByteArray := prog_1_method_48_code
def yX0_gapUpper : MethodName := ⟨RX0, "gapUpper", "(III)J"⟩
abbrev cX0_mainMark : ByteArray := prog_1_method_49_code
def yX0_mainMark : MethodName := ⟨RX0, "mainMark", "(JJ)J"⟩
abbrev cX0_vernierLine : ByteArray := prog_1_method_50_code
def yX0_vernierLine : MethodName := ⟨RX0, "vernierLine", "(JJ)J"⟩
abbrev cX0_readParts : ByteArray := prog_1_method_51_code
def yX0_readParts : MethodName := ⟨RX0, "readParts", "(JJ)J"⟩
abbrev cX0_nearestOrLesser : ByteArray := prog_1_method_52_code
def yX0_nearestOrLesser : MethodName := ⟨RX0, "nearestOrLesser", "(JJ)J"⟩
abbrev cX0_nearestOrGreater : ByteArray := prog_1_method_53_code
def yX0_nearestOrGreater : MethodName := ⟨RX0, "nearestOrGreater", "(JJ)J"⟩
abbrev cX0_exactQuotient : ByteArray := prog_1_method_54_code
def yX0_exactQuotient : MethodName := ⟨RX0, "exactQuotient", "(JJ)J"⟩
abbrev cX0_lowestTerm : ByteArray := prog_1_method_55_code
def yX0_lowestTerm : MethodName := ⟨RX0, "lowestTerm", "(JJI)I"⟩
abbrev cX0_commonMeasure : ByteArray := prog_1_method_56_code
def yX0_commonMeasure : MethodName := ⟨RX0, "commonMeasure", "(JJ)J"⟩
def RX1 : String := "DividingHeadModel"
def TX1 : u_T := fun k => match k with
  | 0 => ("DividingHeadModel", "wheel", "I", false)
  | 1 => ("DividingHeadModel", "circles", "I", false)
  | 2 => ("DividingHeadModel", "holes", "[I", true)
  | 3 => ("DividingHeadModel", "gears", "I", false)
  | 4 => ("DividingHeadModel", "teeth", "[I", true)
  | 5 => ("DividingHeadModel", "error", "[I", true)
  | 6 => ("DividingHeadModel", "marks", "I", false)
  | 7 => ("DividingHeadModel", "parts", "I", false)
  | _ => ("DividingHeadModel", "found", "[I", true)
def tyX1 : Nat → FieldType := fun k => match k with
  | 0 => .int
  | 1 => .int
  | 2 => .array .int
  | 3 => .int
  | 4 => .array .int
  | 5 => .array .int
  | 6 => .int
  | 7 => .int
  | _ => .array .int
abbrev wsX10 : List Cond := u_ws RX1 TX1 9
theorem nmX1 : ∀ a, a < 9 → ∀ b, b < 9 → a ≠ b → (TX1 a).2.1 ≠ (TX1 b).2.1 := by decide +kernel
theorem tyX1_ok : ∀ k, k < 9 → parseFieldDescriptor (TX1 k).2.2.1 = some (tyX1 k) := by decide +kernel
abbrev cX1_init : ByteArray := prog_3_method_1_code
def yX1_init : MethodName := ⟨RX1, "<init>", "()V"⟩
abbrev cX1_in : ByteArray := prog_3_method_2_code
def yX1_in : MethodName := ⟨RX1, "in", "(JJJ)Z"⟩
abbrev cX1_common : ByteArray := prog_3_method_3_code
def yX1_common : MethodName := ⟨RX1, "common", "(JJ)J"⟩
abbrev cX1_term : ByteArray := prog_3_method_4_code
def yX1_term : MethodName := ⟨RX1, "term", "(JJI)I"⟩
abbrev cX1_isParts : ByteArray := prog_3_method_5_code
def yX1_isParts : MethodName := ⟨RX1, "isParts", "(I)Z"⟩
abbrev cX1_isCircle : ByteArray := prog_3_method_6_code
def yX1_isCircle : MethodName := ⟨RX1, "isCircle", "(I)Z"⟩
abbrev cX1_isGear : ByteArray := prog_3_method_7_code
def yX1_isGear : MethodName := ⟨RX1, "isGear", "(I)Z"⟩
abbrev cX1_wheel : ByteArray := prog_3_method_8_code
def yX1_wheel : MethodName := ⟨RX1, "wheel", "(I)I"⟩
abbrev cX1_circle : ByteArray := prog_3_method_9_code
def yX1_circle : MethodName := ⟨RX1, "circle", "(I)I"⟩
abbrev cX1_holes : ByteArray := prog_3_method_10_code
def yX1_holes : MethodName := ⟨RX1, "holes", "(I)I"⟩
abbrev cX1_gear : ByteArray := prog_3_method_11_code
def yX1_gear : MethodName := ⟨RX1, "gear", "(I)I"⟩
abbrev cX1_teeth : ByteArray := prog_3_method_12_code
def yX1_teeth : MethodName := ⟨RX1, "teeth", "(I)I"⟩
abbrev cX1_plainOf : ByteArray := prog_3_method_13_code
def yX1_plainOf : MethodName := ⟨RX1, "plainOf", "(I)I"⟩
abbrev cX1_plain : ByteArray := prog_3_method_14_code
def yX1_plain : MethodName := ⟨RX1, "plain", "(II)I"⟩
abbrev cX1_stepBeside : ByteArray := prog_3_method_15_code
def yX1_stepBeside : MethodName := ⟨RX1, "stepBeside", "(IIII)I"⟩
abbrev cX1_compound : ByteArray := prog_3_method_16_code
def yX1_compound : MethodName := ⟨RX1, "compound", "(II)I"⟩
abbrev cX1_isTrain : ByteArray := prog_3_method_17_code
def yX1_isTrain : MethodName := ⟨RX1, "isTrain", "(JJ)Z"⟩
abbrev cX1_put : ByteArray := prog_3_method_18_code
def yX1_put : MethodName := ⟨RX1, "put", "(IIII)V"⟩
abbrev cX1_train : ByteArray := prog_3_method_19_code
def yX1_train : MethodName := ⟨RX1, "train", "(III)I"⟩
abbrev cX1_differential : ByteArray := prog_3_method_20_code
def yX1_differential : MethodName := ⟨RX1, "differential", "(II)I"⟩
abbrev cX1_holeOf : ByteArray := prog_3_method_21_code
def yX1_holeOf : MethodName := ⟨RX1, "holeOf", "(III)J"⟩
abbrev cX1_isCut : ByteArray := prog_3_method_22_code
def yX1_isCut : MethodName := ⟨RX1, "isCut", "(II)Z"⟩
abbrev cX1_hole : ByteArray := prog_3_method_23_code
def yX1_hole : MethodName := ⟨RX1, "hole", "(III)I"⟩
abbrev cX1_missOf : ByteArray := prog_3_method_24_code
def yX1_missOf : MethodName := ⟨RX1, "missOf", "(III)J"⟩
abbrev cX1_miss : ByteArray := prog_3_method_25_code
def yX1_miss : MethodName := ⟨RX1, "miss", "(IIII)I"⟩
abbrev cX1_worstOf : ByteArray := prog_3_method_26_code
def yX1_worstOf : MethodName := ⟨RX1, "worstOf", "(II)J"⟩
abbrev cX1_exact : ByteArray := prog_3_method_27_code
def yX1_exact : MethodName := ⟨RX1, "exact", "(II)I"⟩
abbrev cX1_worst : ByteArray := prog_3_method_28_code
def yX1_worst : MethodName := ⟨RX1, "worst", "(III)I"⟩
abbrev cX1_best : ByteArray := prog_3_method_29_code
def yX1_best : MethodName := ⟨RX1, "best", "(I)I"⟩
abbrev cX1_error : ByteArray := prog_3_method_30_code
def yX1_error : MethodName := ⟨RX1, "error", "(II)I"⟩
abbrev cX1_errorAt : ByteArray := prog_3_method_31_code
def yX1_errorAt : MethodName := ⟨RX1, "errorAt", "(III)J"⟩
abbrev cX1_isSteps : ByteArray := prog_3_method_32_code
def yX1_isSteps : MethodName := ⟨RX1, "isSteps", "(I)Z"⟩
abbrev cX1_spoilt : ByteArray := prog_3_method_33_code
def yX1_spoilt : MethodName := ⟨RX1, "spoilt", "(IIII)I"⟩
abbrev cX1_extreme : ByteArray := prog_3_method_34_code
def yX1_extreme : MethodName := ⟨RX1, "extreme", "(IIII)I"⟩
abbrev cX1_near : ByteArray := prog_3_method_35_code
def yX1_near : MethodName := ⟨RX1, "near", "(IIII)I"⟩
abbrev cX1_vernier : ByteArray := prog_3_method_36_code
def yX1_vernier : MethodName := ⟨RX1, "vernier", "(II)I"⟩
abbrev cX1_mainOf : ByteArray := prog_3_method_37_code
def yX1_mainOf : MethodName := ⟨RX1, "mainOf", "(JJ)J"⟩
abbrev cX1_lineOf : ByteArray := prog_3_method_38_code
def yX1_lineOf : MethodName := ⟨RX1, "lineOf", "(JJ)J"⟩
abbrev cX1_readOf : ByteArray := prog_3_method_39_code
def yX1_readOf : MethodName := ⟨RX1, "readOf", "(JJ)J"⟩
abbrev cX1_isPlace : ByteArray := prog_3_method_40_code
def yX1_isPlace : MethodName := ⟨RX1, "isPlace", "(II)Z"⟩
abbrev cX1_read : ByteArray := prog_3_method_41_code
def yX1_read : MethodName := ⟨RX1, "read", "(III)I"⟩
abbrev cX1_two : ByteArray := prog_3_method_42_code
def yX1_two : MethodName := ⟨RX1, "two", "(IIII)I"⟩
abbrev cX1_told : ByteArray := prog_3_method_43_code
def yX1_told : MethodName := ⟨RX1, "told", "(I)I"⟩
def RJ9 : String := "java/lang/Math"
def TJ9 : u_T := fun k => match k with
  | _ => ("", "", "", false)
def tyJ9 : Nat → FieldType := fun k => match k with
  | _ => .int
abbrev wsJ90 : List Cond := u_ws RJ9 TJ9 0
theorem nmJ9 : ∀ a, a < 0 → ∀ b, b < 0 → a ≠ b → (TJ9 a).2.1 ≠ (TJ9 b).2.1 := by decide +kernel
theorem tyJ9_ok : ∀ k, k < 0 → parseFieldDescriptor (TJ9 k).2.2.1 = some (tyJ9 k) := by decide +kernel
abbrev cJ9_floorMod_f86c9 : ByteArray := prog_4_method_52_code
def yJ9_floorMod_f86c9 : MethodName := ⟨RJ9, "floorMod", "(JJ)J"⟩
abbrev cJ9_abs_0f7a4 : ByteArray := prog_4_method_59_code
def yJ9_abs_0f7a4 : MethodName := ⟨RJ9, "abs", "(I)I"⟩
abbrev cJ9_abs_067f4 : ByteArray := prog_4_method_61_code
def yJ9_abs_067f4 : MethodName := ⟨RJ9, "abs", "(J)J"⟩
abbrev cJ9_max_7cf53 : ByteArray := prog_4_method_65_code
def yJ9_max_7cf53 : MethodName := ⟨RJ9, "max", "(II)I"⟩
def RL : String := "DividingHeadLaw"
abbrev cL_law : ByteArray := code
def yL_law : MethodName := ⟨RL, "law", "([I)Z"⟩
def wsX0_init : List Cond := .code yX0_init cX0_init 1 none :: ([.methodLink RX0 1 objectInit, .instanceMethod objectInit, .code objectInit ⟨#[0xb1]⟩ 1 none, .arrayClass .int, .fieldLink RX0 9 "DividingHead" "circleHoles" "[I", .fieldLink RX0 13 "DividingHead" "gearTeeth" "[I", .fieldLink RX0 16 "DividingHead" "wormErrors" "[I", .fieldLink RX0 19 "DividingHead" "trainGears" "[I", .fieldLink RX0 22 "DividingHead" "wheelTeeth" "I", .fieldLink RX0 26 "DividingHead" "circleMarks" "I", .fieldLink RX0 29 "DividingHead" "vernierParts" "I"] ++ wsX00)
def wsX0_isOutside : List Cond := .code yX0_isOutside cX0_isOutside 3 (some .boolean) :: ([])
def wsX0_wheel : List Cond := .code yX0_wheel cX0_wheel 3 (some .int) :: ([.fieldLink RX0 22 "DividingHead" "wheelTeeth" "I", .methodLink RX0 32 yX0_isOutside, .static yX0_isOutside, .initialized RX0, .code yX0_isOutside cX0_isOutside 3 (some .boolean)] ++ wsX00)
def wsX0_hasCircleOf : List Cond := .code yX0_hasCircleOf cX0_hasCircleOf 3 (some .boolean) :: ([.fieldLink RX0 36 "DividingHead" "circleCount" "I", .fieldLink RX0 9 "DividingHead" "circleHoles" "[I"] ++ wsX00)
def wsX0_circle : List Cond := .code yX0_circle cX0_circle 2 (some .int) :: ([.fieldLink RX0 36 "DividingHead" "circleCount" "I", .fieldLink RX0 9 "DividingHead" "circleHoles" "[I", .methodLink RX0 32 yX0_isOutside, .static yX0_isOutside, .initialized RX0, .code yX0_isOutside cX0_isOutside 3 (some .boolean), .methodLink RX0 39 yX0_hasCircleOf, .instanceMethod yX0_hasCircleOf, .selects RX0 yX0_hasCircleOf yX0_hasCircleOf, .code yX0_hasCircleOf cX0_hasCircleOf 3 (some .boolean)] ++ wsX00)
def wsX0_holesAt : List Cond := .code yX0_holesAt cX0_holesAt 2 (some .int) :: ([.fieldLink RX0 36 "DividingHead" "circleCount" "I", .fieldLink RX0 9 "DividingHead" "circleHoles" "[I"] ++ wsX00)
def wsX0_holes : List Cond := .code yX0_holes cX0_holes 3 (some .int) :: ([.methodLink RX0 43 yX0_holesAt, .instanceMethod yX0_holesAt, .selects RX0 yX0_holesAt yX0_holesAt, .initialized RX0, .code yX0_holesAt cX0_holesAt 2 (some .int), .fieldLink RX0 36 "DividingHead" "circleCount" "I", .fieldLink RX0 9 "DividingHead" "circleHoles" "[I"] ++ wsX00)
def wsX0_gear : List Cond := .code yX0_gear cX0_gear 2 (some .int) :: ([.fieldLink RX0 47 "DividingHead" "gearCount" "I", .fieldLink RX0 13 "DividingHead" "gearTeeth" "[I", .methodLink RX0 32 yX0_isOutside, .static yX0_isOutside, .initialized RX0, .code yX0_isOutside cX0_isOutside 3 (some .boolean)] ++ wsX00)
def wsX0_teeth : List Cond := .code yX0_teeth cX0_teeth 2 (some .int) :: ([.fieldLink RX0 47 "DividingHead" "gearCount" "I", .fieldLink RX0 13 "DividingHead" "gearTeeth" "[I"] ++ wsX00)
def wsX0_isNoNumberOfParts : List Cond := .code yX0_isNoNumberOfParts cX0_isNoNumberOfParts 1 (some .boolean) :: ([.methodLink RX0 32 yX0_isOutside, .static yX0_isOutside, .initialized RX0, .code yX0_isOutside cX0_isOutside 3 (some .boolean)])
def wsX0_exactQuotient : List Cond := .code yX0_exactQuotient cX0_exactQuotient 4 (some .long) :: ([])
def wsX0_plainCircle : List Cond := .code yX0_plainCircle cX0_plainCircle 5 (some .int) :: ([.fieldLink RX0 36 "DividingHead" "circleCount" "I", .fieldLink RX0 22 "DividingHead" "wheelTeeth" "I", .fieldLink RX0 9 "DividingHead" "circleHoles" "[I", .methodLink RX0 133 yX0_exactQuotient, .static yX0_exactQuotient, .initialized RX0, .code yX0_exactQuotient cX0_exactQuotient 4 (some .long)] ++ wsX00)
def wsX0_plain : List Cond := .code yX0_plain cX0_plain 4 (some .int) :: ([.fieldLink RX0 22 "DividingHead" "wheelTeeth" "I", .methodLink RX0 50 yX0_isNoNumberOfParts, .static yX0_isNoNumberOfParts, .initialized RX0, .code yX0_isNoNumberOfParts cX0_isNoNumberOfParts 1 (some .boolean), .methodLink RX0 32 yX0_isOutside, .static yX0_isOutside, .code yX0_isOutside cX0_isOutside 3 (some .boolean), .methodLink RX0 53 yX0_plainCircle, .instanceMethod yX0_plainCircle, .selects RX0 yX0_plainCircle yX0_plainCircle, .code yX0_plainCircle cX0_plainCircle 5 (some .int), .fieldLink RX0 36 "DividingHead" "circleCount" "I", .fieldLink RX0 9 "DividingHead" "circleHoles" "[I", .methodLink RX0 133 yX0_exactQuotient, .static yX0_exactQuotient, .code yX0_exactQuotient cX0_exactQuotient 4 (some .long), .methodLink RX0 43 yX0_holesAt, .instanceMethod yX0_holesAt, .selects RX0 yX0_holesAt yX0_holesAt, .code yX0_holesAt cX0_holesAt 2 (some .int)] ++ wsX00)
def wsX0_firstStep : List Cond := .code yX0_firstStep cX0_firstStep 6 (some .int) :: ([.fieldLink RX0 22 "DividingHead" "wheelTeeth" "I", .methodLink RX0 133 yX0_exactQuotient, .static yX0_exactQuotient, .initialized RX0, .code yX0_exactQuotient cX0_exactQuotient 4 (some .long)] ++ wsX00)
def wsX0_secondStep : List Cond := .code yX0_secondStep cX0_secondStep 5 (some .int) :: ([.methodLink RX0 136 yX0_firstStep, .instanceMethod yX0_firstStep, .selects RX0 yX0_firstStep yX0_firstStep, .initialized RX0, .code yX0_firstStep cX0_firstStep 6 (some .int), .fieldLink RX0 22 "DividingHead" "wheelTeeth" "I", .methodLink RX0 133 yX0_exactQuotient, .static yX0_exactQuotient, .code yX0_exactQuotient cX0_exactQuotient 4 (some .long)] ++ wsX00)
def wsX0_compoundTerm : List Cond := .code yX0_compoundTerm cX0_compoundTerm 6 (some .int) :: ([.fieldLink RX0 9 "DividingHead" "circleHoles" "[I", .methodLink RX0 136 yX0_firstStep, .instanceMethod yX0_firstStep, .selects RX0 yX0_firstStep yX0_firstStep, .initialized RX0, .code yX0_firstStep cX0_firstStep 6 (some .int), .fieldLink RX0 22 "DividingHead" "wheelTeeth" "I", .methodLink RX0 133 yX0_exactQuotient, .static yX0_exactQuotient, .code yX0_exactQuotient cX0_exactQuotient 4 (some .long)] ++ wsX00)
def wsX0_compound_r1 : List Cond := [Cond.constant RX0 56 (-1000000002), Cond.fieldLink RX0 36 "DividingHead" "circleCount" "I", Cond.fieldLink RX0 9 "DividingHead" "circleHoles" "[I", Cond.constant RX0 65 (-1000000005), Cond.methodLink RX0 50 yX0_isNoNumberOfParts, Cond.static yX0_isNoNumberOfParts, Cond.initialized RX0, Cond.code yX0_isNoNumberOfParts cX0_isNoNumberOfParts 1 (some .boolean), Cond.methodLink RX0 32 yX0_isOutside, Cond.static yX0_isOutside, Cond.code yX0_isOutside cX0_isOutside 3 (some .boolean), Cond.methodLink RX0 57 yX0_secondStep, Cond.instanceMethod yX0_secondStep, Cond.selects RX0 yX0_secondStep yX0_secondStep, Cond.code yX0_secondStep cX0_secondStep 5 (some .int), Cond.methodLink RX0 136 yX0_firstStep, Cond.instanceMethod yX0_firstStep, Cond.selects RX0 yX0_firstStep yX0_firstStep, Cond.code yX0_firstStep cX0_firstStep 6 (some .int), Cond.fieldLink RX0 22 "DividingHead" "wheelTeeth" "I", Cond.methodLink RX0 133 yX0_exactQuotient, Cond.static yX0_exactQuotient, Cond.code yX0_exactQuotient cX0_exactQuotient 4 (some .long), Cond.methodLink RX0 61 yX0_compoundTerm]
def wsX0_compound_r2 : List Cond := [Cond.instanceMethod yX0_compoundTerm, Cond.selects RX0 yX0_compoundTerm yX0_compoundTerm, Cond.code yX0_compoundTerm cX0_compoundTerm 6 (some .int)]
def wsX0_compound : List Cond := .code yX0_compound cX0_compound 6 (some .int) :: ((wsX0_compound_r1 ++ wsX0_compound_r2) ++ wsX00)
def wsX0_gearWith : List Cond := .code yX0_gearWith cX0_gearWith 7 (some .int) :: ([.fieldLink RX0 47 "DividingHead" "gearCount" "I", .fieldLink RX0 13 "DividingHead" "gearTeeth" "[I"] ++ wsX00)
def wsX0_keepTrain : List Cond := .code yX0_keepTrain cX0_keepTrain 5 (some .boolean) :: ([.fieldLink RX0 19 "DividingHead" "trainGears" "[I"] ++ wsX00)
def wsX0_findTwoGears : List Cond := .code yX0_findTwoGears cX0_findTwoGears 7 (some .boolean) :: ([.fieldLink RX0 47 "DividingHead" "gearCount" "I", .fieldLink RX0 13 "DividingHead" "gearTeeth" "[I", .methodLink RX0 133 yX0_exactQuotient, .static yX0_exactQuotient, .initialized RX0, .code yX0_exactQuotient cX0_exactQuotient 4 (some .long), .methodLink RX0 152 yX0_gearWith, .instanceMethod yX0_gearWith, .selects RX0 yX0_gearWith yX0_gearWith, .code yX0_gearWith cX0_gearWith 7 (some .int), .methodLink RX0 156 yX0_keepTrain, .instanceMethod yX0_keepTrain, .selects RX0 yX0_keepTrain yX0_keepTrain, .code yX0_keepTrain cX0_keepTrain 5 (some .boolean), .fieldLink RX0 19 "DividingHead" "trainGears" "[I"] ++ wsX00)
def wsX0_findSecondPair : List Cond := .code yX0_findSecondPair cX0_findSecondPair 11 (some .boolean) :: ([.fieldLink RX0 47 "DividingHead" "gearCount" "I", .fieldLink RX0 13 "DividingHead" "gearTeeth" "[I", .methodLink RX0 133 yX0_exactQuotient, .static yX0_exactQuotient, .initialized RX0, .code yX0_exactQuotient cX0_exactQuotient 4 (some .long), .methodLink RX0 152 yX0_gearWith, .instanceMethod yX0_gearWith, .selects RX0 yX0_gearWith yX0_gearWith, .code yX0_gearWith cX0_gearWith 7 (some .int), .methodLink RX0 156 yX0_keepTrain, .instanceMethod yX0_keepTrain, .selects RX0 yX0_keepTrain yX0_keepTrain, .code yX0_keepTrain cX0_keepTrain 5 (some .boolean), .fieldLink RX0 19 "DividingHead" "trainGears" "[I"] ++ wsX00)
def wsX0_findFourGears : List Cond := .code yX0_findFourGears cX0_findFourGears 7 (some .boolean) :: ([.fieldLink RX0 47 "DividingHead" "gearCount" "I", .methodLink RX0 160 yX0_findSecondPair, .instanceMethod yX0_findSecondPair, .selects RX0 yX0_findSecondPair yX0_findSecondPair, .initialized RX0, .code yX0_findSecondPair cX0_findSecondPair 11 (some .boolean), .fieldLink RX0 13 "DividingHead" "gearTeeth" "[I", .methodLink RX0 133 yX0_exactQuotient, .static yX0_exactQuotient, .code yX0_exactQuotient cX0_exactQuotient 4 (some .long), .methodLink RX0 152 yX0_gearWith, .instanceMethod yX0_gearWith, .selects RX0 yX0_gearWith yX0_gearWith, .code yX0_gearWith cX0_gearWith 7 (some .int), .methodLink RX0 156 yX0_keepTrain, .instanceMethod yX0_keepTrain, .selects RX0 yX0_keepTrain yX0_keepTrain, .code yX0_keepTrain cX0_keepTrain 5 (some .boolean), .fieldLink RX0 19 "DividingHead" "trainGears" "[I"] ++ wsX00)
def wsX0_findTrain_r1 : List Cond := [Cond.methodLink RX0 146 yX0_findTwoGears, Cond.instanceMethod yX0_findTwoGears, Cond.selects RX0 yX0_findTwoGears yX0_findTwoGears, Cond.initialized RX0, Cond.code yX0_findTwoGears cX0_findTwoGears 7 (some .boolean), Cond.fieldLink RX0 47 "DividingHead" "gearCount" "I", Cond.fieldLink RX0 13 "DividingHead" "gearTeeth" "[I", Cond.methodLink RX0 133 yX0_exactQuotient, Cond.static yX0_exactQuotient, Cond.code yX0_exactQuotient cX0_exactQuotient 4 (some .long), Cond.methodLink RX0 152 yX0_gearWith, Cond.instanceMethod yX0_gearWith, Cond.selects RX0 yX0_gearWith yX0_gearWith, Cond.code yX0_gearWith cX0_gearWith 7 (some .int), Cond.methodLink RX0 156 yX0_keepTrain, Cond.instanceMethod yX0_keepTrain, Cond.selects RX0 yX0_keepTrain yX0_keepTrain, Cond.code yX0_keepTrain cX0_keepTrain 5 (some .boolean), Cond.fieldLink RX0 19 "DividingHead" "trainGears" "[I", Cond.methodLink RX0 149 yX0_findFourGears, Cond.instanceMethod yX0_findFourGears, Cond.selects RX0 yX0_findFourGears yX0_findFourGears, Cond.code yX0_findFourGears cX0_findFourGears 7 (some .boolean), Cond.methodLink RX0 160 yX0_findSecondPair]
def wsX0_findTrain_r2 : List Cond := [Cond.instanceMethod yX0_findSecondPair, Cond.selects RX0 yX0_findSecondPair yX0_findSecondPair, Cond.code yX0_findSecondPair cX0_findSecondPair 11 (some .boolean)]
def wsX0_findTrain : List Cond := .code yX0_findTrain cX0_findTrain 5 (some .boolean) :: ((wsX0_findTrain_r1 ++ wsX0_findTrain_r2) ++ wsX00)
def wsX0_standsIn_r1 : List Cond := [Cond.methodLink RX0 143 Lib.Math.abs.name, Cond.static Lib.Math.abs.name, Cond.initialized "java/lang/Math", Cond.code Lib.Math.abs.name Lib.Math.abs.code 1 (some .int), Cond.fieldLink RX0 22 "DividingHead" "wheelTeeth" "I", Cond.methodLink RX0 50 yX0_isNoNumberOfParts, Cond.static yX0_isNoNumberOfParts, Cond.initialized RX0, Cond.code yX0_isNoNumberOfParts cX0_isNoNumberOfParts 1 (some .boolean), Cond.methodLink RX0 32 yX0_isOutside, Cond.static yX0_isOutside, Cond.code yX0_isOutside cX0_isOutside 3 (some .boolean), Cond.methodLink RX0 53 yX0_plainCircle, Cond.instanceMethod yX0_plainCircle, Cond.selects RX0 yX0_plainCircle yX0_plainCircle, Cond.code yX0_plainCircle cX0_plainCircle 5 (some .int), Cond.fieldLink RX0 36 "DividingHead" "circleCount" "I", Cond.fieldLink RX0 9 "DividingHead" "circleHoles" "[I", Cond.methodLink RX0 133 yX0_exactQuotient, Cond.static yX0_exactQuotient, Cond.code yX0_exactQuotient cX0_exactQuotient 4 (some .long), Cond.methodLink RX0 73 yX0_findTrain, Cond.instanceMethod yX0_findTrain, Cond.selects RX0 yX0_findTrain yX0_findTrain]
def wsX0_standsIn_r2 : List Cond := [Cond.code yX0_findTrain cX0_findTrain 5 (some .boolean), Cond.methodLink RX0 146 yX0_findTwoGears, Cond.instanceMethod yX0_findTwoGears, Cond.selects RX0 yX0_findTwoGears yX0_findTwoGears, Cond.code yX0_findTwoGears cX0_findTwoGears 7 (some .boolean), Cond.fieldLink RX0 47 "DividingHead" "gearCount" "I", Cond.fieldLink RX0 13 "DividingHead" "gearTeeth" "[I", Cond.methodLink RX0 152 yX0_gearWith, Cond.instanceMethod yX0_gearWith, Cond.selects RX0 yX0_gearWith yX0_gearWith, Cond.code yX0_gearWith cX0_gearWith 7 (some .int), Cond.methodLink RX0 156 yX0_keepTrain, Cond.instanceMethod yX0_keepTrain, Cond.selects RX0 yX0_keepTrain yX0_keepTrain, Cond.code yX0_keepTrain cX0_keepTrain 5 (some .boolean), Cond.fieldLink RX0 19 "DividingHead" "trainGears" "[I", Cond.methodLink RX0 149 yX0_findFourGears, Cond.instanceMethod yX0_findFourGears, Cond.selects RX0 yX0_findFourGears yX0_findFourGears, Cond.code yX0_findFourGears cX0_findFourGears 7 (some .boolean), Cond.methodLink RX0 160 yX0_findSecondPair, Cond.instanceMethod yX0_findSecondPair, Cond.selects RX0 yX0_findSecondPair yX0_findSecondPair, Cond.code yX0_findSecondPair cX0_findSecondPair 11 (some .boolean)]
def wsX0_standsIn : List Cond := .code yX0_standsIn cX0_standsIn 3 (some .boolean) :: ((wsX0_standsIn_r1 ++ wsX0_standsIn_r2) ++ wsX00)
def wsX0_partsBeside_r1 : List Cond := [Cond.methodLink RX0 140 yX0_standsIn, Cond.instanceMethod yX0_standsIn, Cond.selects RX0 yX0_standsIn yX0_standsIn, Cond.initialized RX0, Cond.code yX0_standsIn cX0_standsIn 3 (some .boolean), Cond.methodLink RX0 143 Lib.Math.abs.name, Cond.static Lib.Math.abs.name, Cond.initialized "java/lang/Math", Cond.code Lib.Math.abs.name Lib.Math.abs.code 1 (some .int), Cond.fieldLink RX0 22 "DividingHead" "wheelTeeth" "I", Cond.methodLink RX0 50 yX0_isNoNumberOfParts, Cond.static yX0_isNoNumberOfParts, Cond.code yX0_isNoNumberOfParts cX0_isNoNumberOfParts 1 (some .boolean), Cond.methodLink RX0 32 yX0_isOutside, Cond.static yX0_isOutside, Cond.code yX0_isOutside cX0_isOutside 3 (some .boolean), Cond.methodLink RX0 53 yX0_plainCircle, Cond.instanceMethod yX0_plainCircle, Cond.selects RX0 yX0_plainCircle yX0_plainCircle, Cond.code yX0_plainCircle cX0_plainCircle 5 (some .int), Cond.fieldLink RX0 36 "DividingHead" "circleCount" "I", Cond.fieldLink RX0 9 "DividingHead" "circleHoles" "[I", Cond.methodLink RX0 133 yX0_exactQuotient, Cond.static yX0_exactQuotient]
def wsX0_partsBeside_r2 : List Cond := [Cond.code yX0_exactQuotient cX0_exactQuotient 4 (some .long), Cond.methodLink RX0 73 yX0_findTrain, Cond.instanceMethod yX0_findTrain, Cond.selects RX0 yX0_findTrain yX0_findTrain, Cond.code yX0_findTrain cX0_findTrain 5 (some .boolean), Cond.methodLink RX0 146 yX0_findTwoGears, Cond.instanceMethod yX0_findTwoGears, Cond.selects RX0 yX0_findTwoGears yX0_findTwoGears, Cond.code yX0_findTwoGears cX0_findTwoGears 7 (some .boolean), Cond.fieldLink RX0 47 "DividingHead" "gearCount" "I", Cond.fieldLink RX0 13 "DividingHead" "gearTeeth" "[I", Cond.methodLink RX0 152 yX0_gearWith, Cond.instanceMethod yX0_gearWith, Cond.selects RX0 yX0_gearWith yX0_gearWith, Cond.code yX0_gearWith cX0_gearWith 7 (some .int), Cond.methodLink RX0 156 yX0_keepTrain, Cond.instanceMethod yX0_keepTrain, Cond.selects RX0 yX0_keepTrain yX0_keepTrain, Cond.code yX0_keepTrain cX0_keepTrain 5 (some .boolean), Cond.fieldLink RX0 19 "DividingHead" "trainGears" "[I", Cond.methodLink RX0 149 yX0_findFourGears, Cond.instanceMethod yX0_findFourGears, Cond.selects RX0 yX0_findFourGears yX0_findFourGears, Cond.code yX0_findFourGears cX0_findFourGears 7 (some .boolean)]
def wsX0_partsBeside_r3 : List Cond := [Cond.methodLink RX0 160 yX0_findSecondPair, Cond.instanceMethod yX0_findSecondPair, Cond.selects RX0 yX0_findSecondPair yX0_findSecondPair, Cond.code yX0_findSecondPair cX0_findSecondPair 11 (some .boolean)]
def wsX0_partsBeside : List Cond := .code yX0_partsBeside cX0_partsBeside 3 (some .int) :: ((wsX0_partsBeside_r1 ++ (wsX0_partsBeside_r2 ++ wsX0_partsBeside_r3)) ++ wsX00)
def wsX0_differential_r1 : List Cond := [Cond.fieldLink RX0 19 "DividingHead" "trainGears" "[I", Cond.methodLink RX0 50 yX0_isNoNumberOfParts, Cond.static yX0_isNoNumberOfParts, Cond.initialized RX0, Cond.code yX0_isNoNumberOfParts cX0_isNoNumberOfParts 1 (some .boolean), Cond.methodLink RX0 32 yX0_isOutside, Cond.static yX0_isOutside, Cond.code yX0_isOutside cX0_isOutside 3 (some .boolean), Cond.methodLink RX0 66 yX0_partsBeside, Cond.instanceMethod yX0_partsBeside, Cond.selects RX0 yX0_partsBeside yX0_partsBeside, Cond.code yX0_partsBeside cX0_partsBeside 3 (some .int), Cond.methodLink RX0 140 yX0_standsIn, Cond.instanceMethod yX0_standsIn, Cond.selects RX0 yX0_standsIn yX0_standsIn, Cond.code yX0_standsIn cX0_standsIn 3 (some .boolean), Cond.methodLink RX0 143 Lib.Math.abs.name, Cond.static Lib.Math.abs.name, Cond.initialized "java/lang/Math", Cond.code Lib.Math.abs.name Lib.Math.abs.code 1 (some .int), Cond.fieldLink RX0 22 "DividingHead" "wheelTeeth" "I", Cond.methodLink RX0 53 yX0_plainCircle, Cond.instanceMethod yX0_plainCircle, Cond.selects RX0 yX0_plainCircle yX0_plainCircle]
def wsX0_differential_r2 : List Cond := [Cond.code yX0_plainCircle cX0_plainCircle 5 (some .int), Cond.fieldLink RX0 36 "DividingHead" "circleCount" "I", Cond.fieldLink RX0 9 "DividingHead" "circleHoles" "[I", Cond.methodLink RX0 133 yX0_exactQuotient, Cond.static yX0_exactQuotient, Cond.code yX0_exactQuotient cX0_exactQuotient 4 (some .long), Cond.methodLink RX0 73 yX0_findTrain, Cond.instanceMethod yX0_findTrain, Cond.selects RX0 yX0_findTrain yX0_findTrain, Cond.code yX0_findTrain cX0_findTrain 5 (some .boolean), Cond.methodLink RX0 146 yX0_findTwoGears, Cond.instanceMethod yX0_findTwoGears, Cond.selects RX0 yX0_findTwoGears yX0_findTwoGears, Cond.code yX0_findTwoGears cX0_findTwoGears 7 (some .boolean), Cond.fieldLink RX0 47 "DividingHead" "gearCount" "I", Cond.fieldLink RX0 13 "DividingHead" "gearTeeth" "[I", Cond.methodLink RX0 152 yX0_gearWith, Cond.instanceMethod yX0_gearWith, Cond.selects RX0 yX0_gearWith yX0_gearWith, Cond.code yX0_gearWith cX0_gearWith 7 (some .int), Cond.methodLink RX0 156 yX0_keepTrain, Cond.instanceMethod yX0_keepTrain, Cond.selects RX0 yX0_keepTrain yX0_keepTrain, Cond.code yX0_keepTrain cX0_keepTrain 5 (some .boolean)]
def wsX0_differential_r3 : List Cond := [Cond.methodLink RX0 149 yX0_findFourGears, Cond.instanceMethod yX0_findFourGears, Cond.selects RX0 yX0_findFourGears yX0_findFourGears, Cond.code yX0_findFourGears cX0_findFourGears 7 (some .boolean), Cond.methodLink RX0 160 yX0_findSecondPair, Cond.instanceMethod yX0_findSecondPair, Cond.selects RX0 yX0_findSecondPair yX0_findSecondPair, Cond.code yX0_findSecondPair cX0_findSecondPair 11 (some .boolean)]
def wsX0_differential : List Cond := .code yX0_differential cX0_differential 4 (some .int) :: ((wsX0_differential_r1 ++ (wsX0_differential_r2 ++ wsX0_differential_r3)) ++ wsX00)
def wsX0_isNoShare : List Cond := .code yX0_isNoShare cX0_isNoShare 2 (some .boolean) :: ([.constant RX0 131 (1000000), .methodLink RX0 32 yX0_isOutside, .static yX0_isOutside, .initialized RX0, .code yX0_isOutside cX0_isOutside 3 (some .boolean)])
def wsX0_train_r1 : List Cond := [Cond.fieldLink RX0 19 "DividingHead" "trainGears" "[I", Cond.methodLink RX0 69 yX0_isNoShare, Cond.static yX0_isNoShare, Cond.initialized RX0, Cond.code yX0_isNoShare cX0_isNoShare 2 (some .boolean), Cond.constant RX0 131 (1000000), Cond.methodLink RX0 32 yX0_isOutside, Cond.static yX0_isOutside, Cond.code yX0_isOutside cX0_isOutside 3 (some .boolean), Cond.methodLink RX0 73 yX0_findTrain, Cond.instanceMethod yX0_findTrain, Cond.selects RX0 yX0_findTrain yX0_findTrain, Cond.code yX0_findTrain cX0_findTrain 5 (some .boolean), Cond.methodLink RX0 146 yX0_findTwoGears, Cond.instanceMethod yX0_findTwoGears, Cond.selects RX0 yX0_findTwoGears yX0_findTwoGears, Cond.code yX0_findTwoGears cX0_findTwoGears 7 (some .boolean), Cond.fieldLink RX0 47 "DividingHead" "gearCount" "I", Cond.fieldLink RX0 13 "DividingHead" "gearTeeth" "[I", Cond.methodLink RX0 133 yX0_exactQuotient, Cond.static yX0_exactQuotient, Cond.code yX0_exactQuotient cX0_exactQuotient 4 (some .long), Cond.methodLink RX0 152 yX0_gearWith, Cond.instanceMethod yX0_gearWith]
def wsX0_train_r2 : List Cond := [Cond.selects RX0 yX0_gearWith yX0_gearWith, Cond.code yX0_gearWith cX0_gearWith 7 (some .int), Cond.methodLink RX0 156 yX0_keepTrain, Cond.instanceMethod yX0_keepTrain, Cond.selects RX0 yX0_keepTrain yX0_keepTrain, Cond.code yX0_keepTrain cX0_keepTrain 5 (some .boolean), Cond.methodLink RX0 149 yX0_findFourGears, Cond.instanceMethod yX0_findFourGears, Cond.selects RX0 yX0_findFourGears yX0_findFourGears, Cond.code yX0_findFourGears cX0_findFourGears 7 (some .boolean), Cond.methodLink RX0 160 yX0_findSecondPair, Cond.instanceMethod yX0_findSecondPair, Cond.selects RX0 yX0_findSecondPair yX0_findSecondPair, Cond.code yX0_findSecondPair cX0_findSecondPair 11 (some .boolean)]
def wsX0_train : List Cond := .code yX0_train cX0_train 4 (some .int) :: ((wsX0_train_r1 ++ wsX0_train_r2) ++ wsX00)
def wsX0_nearestOrGreater : List Cond := .code yX0_nearestOrGreater cX0_nearestOrGreater 4 (some .long) :: ([.constantLong RX0 127 (2)])
def wsX0_nearestHole : List Cond := .code yX0_nearestHole cX0_nearestHole 4 (some .int) :: ([.fieldLink RX0 22 "DividingHead" "wheelTeeth" "I", .methodLink RX0 164 yX0_nearestOrGreater, .static yX0_nearestOrGreater, .initialized RX0, .code yX0_nearestOrGreater cX0_nearestOrGreater 4 (some .long), .constantLong RX0 127 (2)] ++ wsX00)
def wsX0_hole : List Cond := .code yX0_hole cX0_hole 5 (some .int) :: ([.methodLink RX0 43 yX0_holesAt, .instanceMethod yX0_holesAt, .selects RX0 yX0_holesAt yX0_holesAt, .initialized RX0, .code yX0_holesAt cX0_holesAt 2 (some .int), .fieldLink RX0 36 "DividingHead" "circleCount" "I", .fieldLink RX0 9 "DividingHead" "circleHoles" "[I", .methodLink RX0 50 yX0_isNoNumberOfParts, .static yX0_isNoNumberOfParts, .code yX0_isNoNumberOfParts cX0_isNoNumberOfParts 1 (some .boolean), .methodLink RX0 32 yX0_isOutside, .static yX0_isOutside, .code yX0_isOutside cX0_isOutside 3 (some .boolean), .methodLink RX0 77 yX0_nearestHole, .instanceMethod yX0_nearestHole, .selects RX0 yX0_nearestHole yX0_nearestHole, .code yX0_nearestHole cX0_nearestHole 4 (some .int), .fieldLink RX0 22 "DividingHead" "wheelTeeth" "I", .methodLink RX0 164 yX0_nearestOrGreater, .static yX0_nearestOrGreater, .code yX0_nearestOrGreater cX0_nearestOrGreater 4 (some .long), .constantLong RX0 127 (2)] ++ wsX00)
def wsX0_missUpper : List Cond := .code yX0_missUpper cX0_missUpper 4 (some .int) :: ([.fieldLink RX0 22 "DividingHead" "wheelTeeth" "I", .methodLink RX0 77 yX0_nearestHole, .instanceMethod yX0_nearestHole, .selects RX0 yX0_nearestHole yX0_nearestHole, .initialized RX0, .code yX0_nearestHole cX0_nearestHole 4 (some .int), .methodLink RX0 164 yX0_nearestOrGreater, .static yX0_nearestOrGreater, .code yX0_nearestOrGreater cX0_nearestOrGreater 4 (some .long), .constantLong RX0 127 (2)] ++ wsX00)
def wsX0_commonMeasure : List Cond := .code yX0_commonMeasure cX0_commonMeasure 7 (some .long) :: ([])
def wsX0_lowestTerm : List Cond := .code yX0_lowestTerm cX0_lowestTerm 9 (some .int) :: ([.methodLink RX0 174 Lib.MathLoose.abs_long.x, .static Lib.MathLoose.abs_long.x, .initialized "java/lang/Math", .code Lib.MathLoose.abs_long.x Lib.MathLoose.abs_long.code 2 (some .long), .methodLink RX0 177 yX0_commonMeasure, .static yX0_commonMeasure, .initialized RX0, .code yX0_commonMeasure cX0_commonMeasure 7 (some .long)])
def wsX0_miss_r1 : List Cond := [Cond.constant RX0 80 (-1000000001), Cond.constant RX0 56 (-1000000002), Cond.methodLink RX0 43 yX0_holesAt, Cond.instanceMethod yX0_holesAt, Cond.selects RX0 yX0_holesAt yX0_holesAt, Cond.initialized RX0, Cond.code yX0_holesAt cX0_holesAt 2 (some .int), Cond.fieldLink RX0 36 "DividingHead" "circleCount" "I", Cond.fieldLink RX0 9 "DividingHead" "circleHoles" "[I", Cond.methodLink RX0 50 yX0_isNoNumberOfParts, Cond.static yX0_isNoNumberOfParts, Cond.code yX0_isNoNumberOfParts cX0_isNoNumberOfParts 1 (some .boolean), Cond.methodLink RX0 32 yX0_isOutside, Cond.static yX0_isOutside, Cond.code yX0_isOutside cX0_isOutside 3 (some .boolean), Cond.methodLink RX0 81 yX0_missUpper, Cond.instanceMethod yX0_missUpper, Cond.selects RX0 yX0_missUpper yX0_missUpper, Cond.code yX0_missUpper cX0_missUpper 4 (some .int), Cond.fieldLink RX0 22 "DividingHead" "wheelTeeth" "I", Cond.methodLink RX0 77 yX0_nearestHole, Cond.instanceMethod yX0_nearestHole, Cond.selects RX0 yX0_nearestHole yX0_nearestHole, Cond.code yX0_nearestHole cX0_nearestHole 4 (some .int)]
def wsX0_miss_r2 : List Cond := [Cond.methodLink RX0 164 yX0_nearestOrGreater, Cond.static yX0_nearestOrGreater, Cond.code yX0_nearestOrGreater cX0_nearestOrGreater 4 (some .long), Cond.constantLong RX0 127 (2), Cond.methodLink RX0 84 yX0_lowestTerm, Cond.static yX0_lowestTerm, Cond.code yX0_lowestTerm cX0_lowestTerm 9 (some .int), Cond.methodLink RX0 174 Lib.MathLoose.abs_long.x, Cond.static Lib.MathLoose.abs_long.x, Cond.initialized "java/lang/Math", Cond.code Lib.MathLoose.abs_long.x Lib.MathLoose.abs_long.code 2 (some .long), Cond.methodLink RX0 177 yX0_commonMeasure, Cond.static yX0_commonMeasure, Cond.code yX0_commonMeasure cX0_commonMeasure 7 (some .long)]
def wsX0_miss : List Cond := .code yX0_miss cX0_miss 6 (some .int) :: ((wsX0_miss_r1 ++ wsX0_miss_r2) ++ wsX00)
def wsX0_exactCuts : List Cond := .code yX0_exactCuts cX0_exactCuts 5 (some .int) :: ([.methodLink RX0 81 yX0_missUpper, .instanceMethod yX0_missUpper, .selects RX0 yX0_missUpper yX0_missUpper, .initialized RX0, .code yX0_missUpper cX0_missUpper 4 (some .int), .fieldLink RX0 22 "DividingHead" "wheelTeeth" "I", .methodLink RX0 77 yX0_nearestHole, .instanceMethod yX0_nearestHole, .selects RX0 yX0_nearestHole yX0_nearestHole, .code yX0_nearestHole cX0_nearestHole 4 (some .int), .methodLink RX0 164 yX0_nearestOrGreater, .static yX0_nearestOrGreater, .code yX0_nearestOrGreater cX0_nearestOrGreater 4 (some .long), .constantLong RX0 127 (2)] ++ wsX00)
def wsX0_worstUpper : List Cond := .code yX0_worstUpper cX0_worstUpper 5 (some .int) :: ([.methodLink RX0 143 Lib.Math.abs.name, .static Lib.Math.abs.name, .initialized "java/lang/Math", .code Lib.Math.abs.name Lib.Math.abs.code 1 (some .int), .methodLink RX0 167 Lib.Math.max.name, .static Lib.Math.max.name, .code Lib.Math.max.name Lib.Math.max.code 2 (some .int), .methodLink RX0 81 yX0_missUpper, .instanceMethod yX0_missUpper, .selects RX0 yX0_missUpper yX0_missUpper, .initialized RX0, .code yX0_missUpper cX0_missUpper 4 (some .int), .fieldLink RX0 22 "DividingHead" "wheelTeeth" "I", .methodLink RX0 77 yX0_nearestHole, .instanceMethod yX0_nearestHole, .selects RX0 yX0_nearestHole yX0_nearestHole, .code yX0_nearestHole cX0_nearestHole 4 (some .int), .methodLink RX0 164 yX0_nearestOrGreater, .static yX0_nearestOrGreater, .code yX0_nearestOrGreater cX0_nearestOrGreater 4 (some .long), .constantLong RX0 127 (2)] ++ wsX00)
def wsX0_worst_r1 : List Cond := [Cond.methodLink RX0 43 yX0_holesAt, Cond.instanceMethod yX0_holesAt, Cond.selects RX0 yX0_holesAt yX0_holesAt, Cond.initialized RX0, Cond.code yX0_holesAt cX0_holesAt 2 (some .int), Cond.fieldLink RX0 36 "DividingHead" "circleCount" "I", Cond.fieldLink RX0 9 "DividingHead" "circleHoles" "[I", Cond.methodLink RX0 50 yX0_isNoNumberOfParts, Cond.static yX0_isNoNumberOfParts, Cond.code yX0_isNoNumberOfParts cX0_isNoNumberOfParts 1 (some .boolean), Cond.methodLink RX0 32 yX0_isOutside, Cond.static yX0_isOutside, Cond.code yX0_isOutside cX0_isOutside 3 (some .boolean), Cond.methodLink RX0 88 yX0_exactCuts, Cond.instanceMethod yX0_exactCuts, Cond.selects RX0 yX0_exactCuts yX0_exactCuts, Cond.code yX0_exactCuts cX0_exactCuts 5 (some .int), Cond.methodLink RX0 81 yX0_missUpper, Cond.instanceMethod yX0_missUpper, Cond.selects RX0 yX0_missUpper yX0_missUpper, Cond.code yX0_missUpper cX0_missUpper 4 (some .int), Cond.fieldLink RX0 22 "DividingHead" "wheelTeeth" "I", Cond.methodLink RX0 77 yX0_nearestHole, Cond.instanceMethod yX0_nearestHole]
def wsX0_worst_r2 : List Cond := [Cond.selects RX0 yX0_nearestHole yX0_nearestHole, Cond.code yX0_nearestHole cX0_nearestHole 4 (some .int), Cond.methodLink RX0 164 yX0_nearestOrGreater, Cond.static yX0_nearestOrGreater, Cond.code yX0_nearestOrGreater cX0_nearestOrGreater 4 (some .long), Cond.constantLong RX0 127 (2), Cond.methodLink RX0 92 yX0_worstUpper, Cond.instanceMethod yX0_worstUpper, Cond.selects RX0 yX0_worstUpper yX0_worstUpper, Cond.code yX0_worstUpper cX0_worstUpper 5 (some .int), Cond.methodLink RX0 143 Lib.Math.abs.name, Cond.static Lib.Math.abs.name, Cond.initialized "java/lang/Math", Cond.code Lib.Math.abs.name Lib.Math.abs.code 1 (some .int), Cond.methodLink RX0 167 Lib.Math.max.name, Cond.static Lib.Math.max.name, Cond.code Lib.Math.max.name Lib.Math.max.code 2 (some .int), Cond.methodLink RX0 84 yX0_lowestTerm, Cond.static yX0_lowestTerm, Cond.code yX0_lowestTerm cX0_lowestTerm 9 (some .int), Cond.methodLink RX0 174 Lib.MathLoose.abs_long.x, Cond.static Lib.MathLoose.abs_long.x, Cond.code Lib.MathLoose.abs_long.x Lib.MathLoose.abs_long.code 2 (some .long), Cond.methodLink RX0 177 yX0_commonMeasure]
def wsX0_worst_r3 : List Cond := [Cond.static yX0_commonMeasure, Cond.code yX0_commonMeasure cX0_commonMeasure 7 (some .long)]
def wsX0_worst : List Cond := .code yX0_worst cX0_worst 5 (some .int) :: ((wsX0_worst_r1 ++ (wsX0_worst_r2 ++ wsX0_worst_r3)) ++ wsX00)
def wsX0_best_r1 : List Cond := [Cond.fieldLink RX0 36 "DividingHead" "circleCount" "I", Cond.fieldLink RX0 9 "DividingHead" "circleHoles" "[I", Cond.methodLink RX0 50 yX0_isNoNumberOfParts, Cond.static yX0_isNoNumberOfParts, Cond.initialized RX0, Cond.code yX0_isNoNumberOfParts cX0_isNoNumberOfParts 1 (some .boolean), Cond.methodLink RX0 32 yX0_isOutside, Cond.static yX0_isOutside, Cond.code yX0_isOutside cX0_isOutside 3 (some .boolean), Cond.methodLink RX0 92 yX0_worstUpper, Cond.instanceMethod yX0_worstUpper, Cond.selects RX0 yX0_worstUpper yX0_worstUpper, Cond.code yX0_worstUpper cX0_worstUpper 5 (some .int), Cond.methodLink RX0 143 Lib.Math.abs.name, Cond.static Lib.Math.abs.name, Cond.initialized "java/lang/Math", Cond.code Lib.Math.abs.name Lib.Math.abs.code 1 (some .int), Cond.methodLink RX0 167 Lib.Math.max.name, Cond.static Lib.Math.max.name, Cond.code Lib.Math.max.name Lib.Math.max.code 2 (some .int), Cond.methodLink RX0 81 yX0_missUpper, Cond.instanceMethod yX0_missUpper, Cond.selects RX0 yX0_missUpper yX0_missUpper, Cond.code yX0_missUpper cX0_missUpper 4 (some .int)]
def wsX0_best_r2 : List Cond := [Cond.fieldLink RX0 22 "DividingHead" "wheelTeeth" "I", Cond.methodLink RX0 77 yX0_nearestHole, Cond.instanceMethod yX0_nearestHole, Cond.selects RX0 yX0_nearestHole yX0_nearestHole, Cond.code yX0_nearestHole cX0_nearestHole 4 (some .int), Cond.methodLink RX0 164 yX0_nearestOrGreater, Cond.static yX0_nearestOrGreater, Cond.code yX0_nearestOrGreater cX0_nearestOrGreater 4 (some .long), Cond.constantLong RX0 127 (2)]
def wsX0_best : List Cond := .code yX0_best cX0_best 6 (some .int) :: ((wsX0_best_r1 ++ wsX0_best_r2) ++ wsX00)
def wsX0_error : List Cond := .code yX0_error cX0_error 4 (some .int) :: ([.fieldLink RX0 16 "DividingHead" "wormErrors" "[I", .methodLink RX0 32 yX0_isOutside, .static yX0_isOutside, .initialized RX0, .code yX0_isOutside cX0_isOutside 3 (some .boolean)] ++ wsX00)
def wsX0_isNoStep : List Cond := .code yX0_isNoStep cX0_isNoStep 1 (some .boolean) :: ([.constant RX0 132 (100000), .methodLink RX0 32 yX0_isOutside, .static yX0_isOutside, .initialized RX0, .code yX0_isOutside cX0_isOutside 3 (some .boolean)])
def wsX0_errorUpper : List Cond := .code yX0_errorUpper cX0_errorUpper 7 (some .int) :: ([.fieldLink RX0 16 "DividingHead" "wormErrors" "[I"] ++ wsX00)
def wsX0_spoilt_r1 : List Cond := [Cond.constant RX0 80 (-1000000001), Cond.constant RX0 56 (-1000000002), Cond.methodLink RX0 43 yX0_holesAt, Cond.instanceMethod yX0_holesAt, Cond.selects RX0 yX0_holesAt yX0_holesAt, Cond.initialized RX0, Cond.code yX0_holesAt cX0_holesAt 2 (some .int), Cond.fieldLink RX0 36 "DividingHead" "circleCount" "I", Cond.fieldLink RX0 9 "DividingHead" "circleHoles" "[I", Cond.methodLink RX0 95 yX0_isNoStep, Cond.static yX0_isNoStep, Cond.code yX0_isNoStep cX0_isNoStep 1 (some .boolean), Cond.constant RX0 132 (100000), Cond.methodLink RX0 32 yX0_isOutside, Cond.static yX0_isOutside, Cond.code yX0_isOutside cX0_isOutside 3 (some .boolean), Cond.methodLink RX0 98 yX0_errorUpper, Cond.instanceMethod yX0_errorUpper, Cond.selects RX0 yX0_errorUpper yX0_errorUpper, Cond.code yX0_errorUpper cX0_errorUpper 7 (some .int), Cond.fieldLink RX0 16 "DividingHead" "wormErrors" "[I", Cond.methodLink RX0 84 yX0_lowestTerm, Cond.static yX0_lowestTerm, Cond.code yX0_lowestTerm cX0_lowestTerm 9 (some .int)]
def wsX0_spoilt_r2 : List Cond := [Cond.methodLink RX0 174 Lib.MathLoose.abs_long.x, Cond.static Lib.MathLoose.abs_long.x, Cond.initialized "java/lang/Math", Cond.code Lib.MathLoose.abs_long.x Lib.MathLoose.abs_long.code 2 (some .long), Cond.methodLink RX0 177 yX0_commonMeasure, Cond.static yX0_commonMeasure, Cond.code yX0_commonMeasure cX0_commonMeasure 7 (some .long)]
def wsX0_spoilt : List Cond := .code yX0_spoilt cX0_spoilt 6 (some .int) :: ((wsX0_spoilt_r1 ++ wsX0_spoilt_r2) ++ wsX00)
def wsX0_extreme : List Cond := .code yX0_extreme cX0_extreme 10 (some .int) :: ([.methodLink RX0 43 yX0_holesAt, .instanceMethod yX0_holesAt, .selects RX0 yX0_holesAt yX0_holesAt, .initialized RX0, .code yX0_holesAt cX0_holesAt 2 (some .int), .fieldLink RX0 36 "DividingHead" "circleCount" "I", .fieldLink RX0 9 "DividingHead" "circleHoles" "[I", .methodLink RX0 95 yX0_isNoStep, .static yX0_isNoStep, .code yX0_isNoStep cX0_isNoStep 1 (some .boolean), .constant RX0 132 (100000), .methodLink RX0 32 yX0_isOutside, .static yX0_isOutside, .code yX0_isOutside cX0_isOutside 3 (some .boolean), .methodLink RX0 98 yX0_errorUpper, .instanceMethod yX0_errorUpper, .selects RX0 yX0_errorUpper yX0_errorUpper, .code yX0_errorUpper cX0_errorUpper 7 (some .int), .fieldLink RX0 16 "DividingHead" "wormErrors" "[I"] ++ wsX00)
def wsX0_nearestOrLesser : List Cond := .code yX0_nearestOrLesser cX0_nearestOrLesser 4 (some .long) :: ([.constantLong RX0 127 (2)])
def wsX0_gapUpper : List Cond := .code yX0_gapUpper cX0_gapUpper 5 (some .long) :: ([.methodLink RX0 174 Lib.MathLoose.abs_long.x, .static Lib.MathLoose.abs_long.x, .initialized "java/lang/Math", .code Lib.MathLoose.abs_long.x Lib.MathLoose.abs_long.code 2 (some .long), .methodLink RX0 104 yX0_nearestOrLesser, .static yX0_nearestOrLesser, .initialized RX0, .code yX0_nearestOrLesser cX0_nearestOrLesser 4 (some .long), .constantLong RX0 127 (2)])
def wsX0_nearestLower : List Cond := .code yX0_nearestLower cX0_nearestLower 9 (some .int) :: ([.methodLink RX0 170 yX0_gapUpper, .static yX0_gapUpper, .initialized RX0, .code yX0_gapUpper cX0_gapUpper 5 (some .long), .methodLink RX0 174 Lib.MathLoose.abs_long.x, .static Lib.MathLoose.abs_long.x, .initialized "java/lang/Math", .code Lib.MathLoose.abs_long.x Lib.MathLoose.abs_long.code 2 (some .long), .methodLink RX0 104 yX0_nearestOrLesser, .static yX0_nearestOrLesser, .code yX0_nearestOrLesser cX0_nearestOrLesser 4 (some .long), .constantLong RX0 127 (2)])
def wsX0_near : List Cond := .code yX0_near cX0_near 6 (some .int) :: ([.methodLink RX0 69 yX0_isNoShare, .static yX0_isNoShare, .initialized RX0, .code yX0_isNoShare cX0_isNoShare 2 (some .boolean), .constant RX0 131 (1000000), .methodLink RX0 32 yX0_isOutside, .static yX0_isOutside, .code yX0_isOutside cX0_isOutside 3 (some .boolean), .methodLink RX0 101 yX0_nearestLower, .static yX0_nearestLower, .code yX0_nearestLower cX0_nearestLower 9 (some .int), .methodLink RX0 170 yX0_gapUpper, .static yX0_gapUpper, .code yX0_gapUpper cX0_gapUpper 5 (some .long), .methodLink RX0 174 Lib.MathLoose.abs_long.x, .static Lib.MathLoose.abs_long.x, .initialized "java/lang/Math", .code Lib.MathLoose.abs_long.x Lib.MathLoose.abs_long.code 2 (some .long), .methodLink RX0 104 yX0_nearestOrLesser, .static yX0_nearestOrLesser, .code yX0_nearestOrLesser cX0_nearestOrLesser 4 (some .long), .constantLong RX0 127 (2)])
def wsX0_vernier : List Cond := .code yX0_vernier cX0_vernier 3 (some .int) :: ([.fieldLink RX0 26 "DividingHead" "circleMarks" "I", .fieldLink RX0 29 "DividingHead" "vernierParts" "I", .methodLink RX0 32 yX0_isOutside, .static yX0_isOutside, .initialized RX0, .code yX0_isOutside cX0_isOutside 3 (some .boolean)] ++ wsX00)
def wsX0_isNoPlace : List Cond := .code yX0_isNoPlace cX0_isNoPlace 2 (some .boolean) :: ([.constant RX0 131 (1000000), .methodLink RX0 32 yX0_isOutside, .static yX0_isOutside, .initialized RX0, .code yX0_isOutside cX0_isOutside 3 (some .boolean)])
def wsX0_mainMark : List Cond := .code yX0_mainMark cX0_mainMark 5 (some .long) :: ([.fieldLink RX0 26 "DividingHead" "circleMarks" "I"] ++ wsX00)
def wsX0_vernierLine : List Cond := .code yX0_vernierLine cX0_vernierLine 7 (some .long) :: ([.fieldLink RX0 26 "DividingHead" "circleMarks" "I", .fieldLink RX0 29 "DividingHead" "vernierParts" "I", .methodLink RX0 111 yX0_mainMark, .instanceMethod yX0_mainMark, .selects RX0 yX0_mainMark yX0_mainMark, .initialized RX0, .code yX0_mainMark cX0_mainMark 5 (some .long), .methodLink RX0 104 yX0_nearestOrLesser, .static yX0_nearestOrLesser, .code yX0_nearestOrLesser cX0_nearestOrLesser 4 (some .long), .constantLong RX0 127 (2)] ++ wsX00)
def wsX0_readParts : List Cond := .code yX0_readParts cX0_readParts 5 (some .long) :: ([.fieldLink RX0 29 "DividingHead" "vernierParts" "I", .methodLink RX0 111 yX0_mainMark, .instanceMethod yX0_mainMark, .selects RX0 yX0_mainMark yX0_mainMark, .initialized RX0, .code yX0_mainMark cX0_mainMark 5 (some .long), .fieldLink RX0 26 "DividingHead" "circleMarks" "I", .methodLink RX0 114 yX0_vernierLine, .instanceMethod yX0_vernierLine, .selects RX0 yX0_vernierLine yX0_vernierLine, .code yX0_vernierLine cX0_vernierLine 7 (some .long), .methodLink RX0 104 yX0_nearestOrLesser, .static yX0_nearestOrLesser, .code yX0_nearestOrLesser cX0_nearestOrLesser 4 (some .long), .constantLong RX0 127 (2)] ++ wsX00)
def wsX0_read_r1 : List Cond := [Cond.methodLink RX0 108 yX0_isNoPlace, Cond.static yX0_isNoPlace, Cond.initialized RX0, Cond.code yX0_isNoPlace cX0_isNoPlace 2 (some .boolean), Cond.constant RX0 131 (1000000), Cond.methodLink RX0 32 yX0_isOutside, Cond.static yX0_isOutside, Cond.code yX0_isOutside cX0_isOutside 3 (some .boolean), Cond.methodLink RX0 111 yX0_mainMark, Cond.instanceMethod yX0_mainMark, Cond.selects RX0 yX0_mainMark yX0_mainMark, Cond.code yX0_mainMark cX0_mainMark 5 (some .long), Cond.fieldLink RX0 26 "DividingHead" "circleMarks" "I", Cond.methodLink RX0 114 yX0_vernierLine, Cond.instanceMethod yX0_vernierLine, Cond.selects RX0 yX0_vernierLine yX0_vernierLine, Cond.code yX0_vernierLine cX0_vernierLine 7 (some .long), Cond.fieldLink RX0 29 "DividingHead" "vernierParts" "I", Cond.methodLink RX0 104 yX0_nearestOrLesser, Cond.static yX0_nearestOrLesser, Cond.code yX0_nearestOrLesser cX0_nearestOrLesser 4 (some .long), Cond.constantLong RX0 127 (2), Cond.methodLink RX0 117 yX0_readParts, Cond.instanceMethod yX0_readParts]
def wsX0_read_r2 : List Cond := [Cond.selects RX0 yX0_readParts yX0_readParts, Cond.code yX0_readParts cX0_readParts 5 (some .long)]
def wsX0_read : List Cond := .code yX0_read cX0_read 4 (some .int) :: ((wsX0_read_r1 ++ wsX0_read_r2) ++ wsX00)
def wsJ9_floorMod_f86c9 : List Cond := .code yJ9_floorMod_f86c9 cJ9_floorMod_f86c9 6 (some .long) :: ([])
def wsX0_two_r1 : List Cond := [Cond.constant RX0 56 (-1000000002), Cond.constantLong RX0 120 (1000000), Cond.constantLong RX0 127 (2), Cond.fieldLink RX0 26 "DividingHead" "circleMarks" "I", Cond.fieldLink RX0 29 "DividingHead" "vernierParts" "I", Cond.constantLong RX0 129 (4), Cond.methodLink RX0 108 yX0_isNoPlace, Cond.static yX0_isNoPlace, Cond.initialized RX0, Cond.code yX0_isNoPlace cX0_isNoPlace 2 (some .boolean), Cond.constant RX0 131 (1000000), Cond.methodLink RX0 32 yX0_isOutside, Cond.static yX0_isOutside, Cond.code yX0_isOutside cX0_isOutside 3 (some .boolean), Cond.methodLink RX0 122 yJ9_floorMod_f86c9, Cond.static yJ9_floorMod_f86c9, Cond.initialized RJ9, Cond.code yJ9_floorMod_f86c9 cJ9_floorMod_f86c9 6 (some .long), Cond.methodLink RX0 117 yX0_readParts, Cond.instanceMethod yX0_readParts, Cond.selects RX0 yX0_readParts yX0_readParts, Cond.code yX0_readParts cX0_readParts 5 (some .long), Cond.methodLink RX0 111 yX0_mainMark, Cond.instanceMethod yX0_mainMark]
def wsX0_two_r2 : List Cond := [Cond.selects RX0 yX0_mainMark yX0_mainMark, Cond.code yX0_mainMark cX0_mainMark 5 (some .long), Cond.methodLink RX0 114 yX0_vernierLine, Cond.instanceMethod yX0_vernierLine, Cond.selects RX0 yX0_vernierLine yX0_vernierLine, Cond.code yX0_vernierLine cX0_vernierLine 7 (some .long), Cond.methodLink RX0 104 yX0_nearestOrLesser, Cond.static yX0_nearestOrLesser, Cond.code yX0_nearestOrLesser cX0_nearestOrLesser 4 (some .long), Cond.methodLink RX0 84 yX0_lowestTerm, Cond.static yX0_lowestTerm, Cond.code yX0_lowestTerm cX0_lowestTerm 9 (some .int), Cond.methodLink RX0 174 Lib.MathLoose.abs_long.x, Cond.static Lib.MathLoose.abs_long.x, Cond.initialized "java/lang/Math", Cond.code Lib.MathLoose.abs_long.x Lib.MathLoose.abs_long.code 2 (some .long), Cond.methodLink RX0 177 yX0_commonMeasure, Cond.static yX0_commonMeasure, Cond.code yX0_commonMeasure cX0_commonMeasure 7 (some .long)]
def wsX0_two : List Cond := .code yX0_two cX0_two 19 (some .int) :: ((wsX0_two_r1 ++ wsX0_two_r2) ++ wsX00)
def wsX0_told : List Cond := .code yX0_told cX0_told 2 (some .int) :: ([.fieldLink RX0 22 "DividingHead" "wheelTeeth" "I", .fieldLink RX0 36 "DividingHead" "circleCount" "I", .fieldLink RX0 47 "DividingHead" "gearCount" "I", .fieldLink RX0 26 "DividingHead" "circleMarks" "I", .fieldLink RX0 29 "DividingHead" "vernierParts" "I"] ++ wsX00)
def wsX1_init : List Cond := .code yX1_init cX1_init 1 none :: ([.methodLink RX1 1 objectInit, .instanceMethod objectInit, .code objectInit ⟨#[0xb1]⟩ 1 none, .fieldLink RX1 7 "DividingHeadModel" "wheel" "I", .arrayClass .int, .fieldLink RX1 13 "DividingHeadModel" "holes" "[I", .fieldLink RX1 17 "DividingHeadModel" "teeth" "[I", .fieldLink RX1 20 "DividingHeadModel" "error" "[I", .fieldLink RX1 23 "DividingHeadModel" "marks" "I", .fieldLink RX1 26 "DividingHeadModel" "parts" "I", .fieldLink RX1 29 "DividingHeadModel" "found" "[I"] ++ wsX10)
def wsX1_in : List Cond := .code yX1_in cX1_in 6 (some .boolean) :: ([])
def wsX1_common : List Cond := .code yX1_common cX1_common 10 (some .long) :: ([])
def wsX1_term : List Cond := .code yX1_term cX1_term 7 (some .int) :: ([.methodLink RX1 32 yX1_common, .static yX1_common, .initialized RX1, .code yX1_common cX1_common 10 (some .long)])
def wsX1_isParts : List Cond := .code yX1_isParts cX1_isParts 1 (some .boolean) :: ([.constantLong RX1 36 (2), .constantLong RX1 38 (1000), .methodLink RX1 40 yX1_in, .static yX1_in, .initialized RX1, .code yX1_in cX1_in 6 (some .boolean)])
def wsX1_isCircle : List Cond := .code yX1_isCircle cX1_isCircle 2 (some .boolean) :: ([.fieldLink RX1 44 "DividingHeadModel" "circles" "I", .methodLink RX1 40 yX1_in, .static yX1_in, .initialized RX1, .code yX1_in cX1_in 6 (some .boolean)] ++ wsX10)
def wsX1_isGear : List Cond := .code yX1_isGear cX1_isGear 2 (some .boolean) :: ([.fieldLink RX1 47 "DividingHeadModel" "gears" "I", .methodLink RX1 40 yX1_in, .static yX1_in, .initialized RX1, .code yX1_in cX1_in 6 (some .boolean)] ++ wsX10)
def wsX1_wheel : List Cond := .code yX1_wheel cX1_wheel 3 (some .int) :: ([.constantLong RX1 50 (10), .constantLong RX1 52 (200), .fieldLink RX1 7 "DividingHeadModel" "wheel" "I", .methodLink RX1 40 yX1_in, .static yX1_in, .initialized RX1, .code yX1_in cX1_in 6 (some .boolean)] ++ wsX10)
def wsX1_circle : List Cond := .code yX1_circle cX1_circle 3 (some .int) :: ([.constantLong RX1 54 (5), .constantLong RX1 56 (120), .fieldLink RX1 44 "DividingHeadModel" "circles" "I", .fieldLink RX1 13 "DividingHeadModel" "holes" "[I", .methodLink RX1 40 yX1_in, .static yX1_in, .initialized RX1, .code yX1_in cX1_in 6 (some .boolean)] ++ wsX10)
def wsX1_holes : List Cond := .code yX1_holes cX1_holes 2 (some .int) :: ([.fieldLink RX1 13 "DividingHeadModel" "holes" "[I", .methodLink RX1 58 yX1_isCircle, .instanceMethod yX1_isCircle, .selects RX1 yX1_isCircle yX1_isCircle, .initialized RX1, .code yX1_isCircle cX1_isCircle 2 (some .boolean), .fieldLink RX1 44 "DividingHeadModel" "circles" "I", .methodLink RX1 40 yX1_in, .static yX1_in, .code yX1_in cX1_in 6 (some .boolean)] ++ wsX10)
def wsX1_gear : List Cond := .code yX1_gear cX1_gear 2 (some .int) :: ([.constantLong RX1 62 (12), .constantLong RX1 56 (120), .fieldLink RX1 47 "DividingHeadModel" "gears" "I", .fieldLink RX1 17 "DividingHeadModel" "teeth" "[I", .methodLink RX1 40 yX1_in, .static yX1_in, .initialized RX1, .code yX1_in cX1_in 6 (some .boolean)] ++ wsX10)
def wsX1_teeth : List Cond := .code yX1_teeth cX1_teeth 2 (some .int) :: ([.fieldLink RX1 17 "DividingHeadModel" "teeth" "[I", .methodLink RX1 64 yX1_isGear, .instanceMethod yX1_isGear, .selects RX1 yX1_isGear yX1_isGear, .initialized RX1, .code yX1_isGear cX1_isGear 2 (some .boolean), .fieldLink RX1 47 "DividingHeadModel" "gears" "I", .methodLink RX1 40 yX1_in, .static yX1_in, .code yX1_in cX1_in 6 (some .boolean)] ++ wsX10)
def wsX1_plainOf : List Cond := .code yX1_plainOf cX1_plainOf 5 (some .int) :: ([.fieldLink RX1 44 "DividingHeadModel" "circles" "I", .fieldLink RX1 7 "DividingHeadModel" "wheel" "I", .fieldLink RX1 13 "DividingHeadModel" "holes" "[I"] ++ wsX10)
def wsX1_plain : List Cond := .code yX1_plain cX1_plain 4 (some .int) :: ([.constantLong RX1 36 (2), .fieldLink RX1 7 "DividingHeadModel" "wheel" "I", .fieldLink RX1 13 "DividingHeadModel" "holes" "[I", .methodLink RX1 67 yX1_isParts, .static yX1_isParts, .initialized RX1, .code yX1_isParts cX1_isParts 1 (some .boolean), .constantLong RX1 38 (1000), .methodLink RX1 40 yX1_in, .static yX1_in, .code yX1_in cX1_in 6 (some .boolean), .methodLink RX1 70 yX1_plainOf, .instanceMethod yX1_plainOf, .selects RX1 yX1_plainOf yX1_plainOf, .code yX1_plainOf cX1_plainOf 5 (some .int), .fieldLink RX1 44 "DividingHeadModel" "circles" "I"] ++ wsX10)
def wsX1_stepBeside : List Cond := .code yX1_stepBeside cX1_stepBeside 9 (some .int) :: ([.fieldLink RX1 13 "DividingHeadModel" "holes" "[I", .fieldLink RX1 7 "DividingHeadModel" "wheel" "I"] ++ wsX10)
def wsX1_compound : List Cond := .code yX1_compound cX1_compound 8 (some .int) :: ([.constantLong RX1 74 (3), .constant RX1 76 (-1000000002), .fieldLink RX1 44 "DividingHeadModel" "circles" "I", .fieldLink RX1 13 "DividingHeadModel" "holes" "[I", .constant RX1 81 (-1000000005), .methodLink RX1 67 yX1_isParts, .static yX1_isParts, .initialized RX1, .code yX1_isParts cX1_isParts 1 (some .boolean), .constantLong RX1 36 (2), .constantLong RX1 38 (1000), .methodLink RX1 40 yX1_in, .static yX1_in, .code yX1_in cX1_in 6 (some .boolean), .methodLink RX1 77 yX1_stepBeside, .instanceMethod yX1_stepBeside, .selects RX1 yX1_stepBeside yX1_stepBeside, .code yX1_stepBeside cX1_stepBeside 9 (some .int), .fieldLink RX1 7 "DividingHeadModel" "wheel" "I"] ++ wsX10)
def wsX1_put : List Cond := .code yX1_put cX1_put 5 none :: ([.fieldLink RX1 29 "DividingHeadModel" "found" "[I"] ++ wsX10)
def wsX1_isTrain : List Cond := .code yX1_isTrain cX1_isTrain 12 (some .boolean) :: ([.fieldLink RX1 47 "DividingHeadModel" "gears" "I", .fieldLink RX1 17 "DividingHeadModel" "teeth" "[I", .methodLink RX1 82 yX1_put, .instanceMethod yX1_put, .selects RX1 yX1_put yX1_put, .initialized RX1, .code yX1_put cX1_put 5 none, .fieldLink RX1 29 "DividingHeadModel" "found" "[I"] ++ wsX10)
def wsX1_train : List Cond := .code yX1_train cX1_train 4 (some .int) :: ([.constantLong RX1 86 (1000000), .constantLong RX1 74 (3), .fieldLink RX1 29 "DividingHeadModel" "found" "[I", .methodLink RX1 40 yX1_in, .static yX1_in, .initialized RX1, .code yX1_in cX1_in 6 (some .boolean), .methodLink RX1 88 yX1_isTrain, .instanceMethod yX1_isTrain, .selects RX1 yX1_isTrain yX1_isTrain, .code yX1_isTrain cX1_isTrain 12 (some .boolean), .fieldLink RX1 47 "DividingHeadModel" "gears" "I", .fieldLink RX1 17 "DividingHeadModel" "teeth" "[I", .methodLink RX1 82 yX1_put, .instanceMethod yX1_put, .selects RX1 yX1_put yX1_put, .code yX1_put cX1_put 5 none] ++ wsX10)
def wsX1_differential_r1 : List Cond := [Cond.constantLong RX1 92 (6), Cond.fieldLink RX1 7 "DividingHeadModel" "wheel" "I", Cond.fieldLink RX1 29 "DividingHeadModel" "found" "[I", Cond.methodLink RX1 67 yX1_isParts, Cond.static yX1_isParts, Cond.initialized RX1, Cond.code yX1_isParts cX1_isParts 1 (some .boolean), Cond.constantLong RX1 36 (2), Cond.constantLong RX1 38 (1000), Cond.methodLink RX1 40 yX1_in, Cond.static yX1_in, Cond.code yX1_in cX1_in 6 (some .boolean), Cond.methodLink RX1 70 yX1_plainOf, Cond.instanceMethod yX1_plainOf, Cond.selects RX1 yX1_plainOf yX1_plainOf, Cond.code yX1_plainOf cX1_plainOf 5 (some .int), Cond.fieldLink RX1 44 "DividingHeadModel" "circles" "I", Cond.fieldLink RX1 13 "DividingHeadModel" "holes" "[I", Cond.methodLink RX1 88 yX1_isTrain, Cond.instanceMethod yX1_isTrain, Cond.selects RX1 yX1_isTrain yX1_isTrain, Cond.code yX1_isTrain cX1_isTrain 12 (some .boolean), Cond.fieldLink RX1 47 "DividingHeadModel" "gears" "I", Cond.fieldLink RX1 17 "DividingHeadModel" "teeth" "[I"]
def wsX1_differential_r2 : List Cond := [Cond.methodLink RX1 82 yX1_put, Cond.instanceMethod yX1_put, Cond.selects RX1 yX1_put yX1_put, Cond.code yX1_put cX1_put 5 none]
def wsX1_differential : List Cond := .code yX1_differential cX1_differential 6 (some .int) :: ((wsX1_differential_r1 ++ wsX1_differential_r2) ++ wsX10)
def wsX1_holeOf : List Cond := .code yX1_holeOf cX1_holeOf 4 (some .long) :: ([.constantLong RX1 36 (2), .fieldLink RX1 7 "DividingHeadModel" "wheel" "I", .fieldLink RX1 13 "DividingHeadModel" "holes" "[I"] ++ wsX10)
def wsX1_isCut : List Cond := .code yX1_isCut cX1_isCut 2 (some .boolean) :: ([.methodLink RX1 67 yX1_isParts, .static yX1_isParts, .initialized RX1, .code yX1_isParts cX1_isParts 1 (some .boolean), .constantLong RX1 36 (2), .constantLong RX1 38 (1000), .methodLink RX1 40 yX1_in, .static yX1_in, .code yX1_in cX1_in 6 (some .boolean)])
def wsX1_hole : List Cond := .code yX1_hole cX1_hole 4 (some .int) :: ([.methodLink RX1 58 yX1_isCircle, .instanceMethod yX1_isCircle, .selects RX1 yX1_isCircle yX1_isCircle, .initialized RX1, .code yX1_isCircle cX1_isCircle 2 (some .boolean), .fieldLink RX1 44 "DividingHeadModel" "circles" "I", .methodLink RX1 40 yX1_in, .static yX1_in, .code yX1_in cX1_in 6 (some .boolean), .methodLink RX1 94 yX1_isCut, .static yX1_isCut, .code yX1_isCut cX1_isCut 2 (some .boolean), .methodLink RX1 67 yX1_isParts, .static yX1_isParts, .code yX1_isParts cX1_isParts 1 (some .boolean), .constantLong RX1 36 (2), .constantLong RX1 38 (1000), .methodLink RX1 98 yX1_holeOf, .instanceMethod yX1_holeOf, .selects RX1 yX1_holeOf yX1_holeOf, .code yX1_holeOf cX1_holeOf 4 (some .long), .fieldLink RX1 7 "DividingHeadModel" "wheel" "I", .fieldLink RX1 13 "DividingHeadModel" "holes" "[I"] ++ wsX10)
def wsX1_missOf : List Cond := .code yX1_missOf cX1_missOf 4 (some .long) :: ([.fieldLink RX1 7 "DividingHeadModel" "wheel" "I", .fieldLink RX1 13 "DividingHeadModel" "holes" "[I", .methodLink RX1 98 yX1_holeOf, .instanceMethod yX1_holeOf, .selects RX1 yX1_holeOf yX1_holeOf, .initialized RX1, .code yX1_holeOf cX1_holeOf 4 (some .long), .constantLong RX1 36 (2)] ++ wsX10)
def wsX1_miss_r1 : List Cond := [Cond.constant RX1 102 (-1000000001), Cond.constant RX1 76 (-1000000002), Cond.methodLink RX1 58 yX1_isCircle, Cond.instanceMethod yX1_isCircle, Cond.selects RX1 yX1_isCircle yX1_isCircle, Cond.initialized RX1, Cond.code yX1_isCircle cX1_isCircle 2 (some .boolean), Cond.fieldLink RX1 44 "DividingHeadModel" "circles" "I", Cond.methodLink RX1 40 yX1_in, Cond.static yX1_in, Cond.code yX1_in cX1_in 6 (some .boolean), Cond.methodLink RX1 94 yX1_isCut, Cond.static yX1_isCut, Cond.code yX1_isCut cX1_isCut 2 (some .boolean), Cond.methodLink RX1 67 yX1_isParts, Cond.static yX1_isParts, Cond.code yX1_isParts cX1_isParts 1 (some .boolean), Cond.constantLong RX1 36 (2), Cond.constantLong RX1 38 (1000), Cond.methodLink RX1 103 yX1_missOf, Cond.instanceMethod yX1_missOf, Cond.selects RX1 yX1_missOf yX1_missOf, Cond.code yX1_missOf cX1_missOf 4 (some .long), Cond.fieldLink RX1 7 "DividingHeadModel" "wheel" "I"]
def wsX1_miss_r2 : List Cond := [Cond.fieldLink RX1 13 "DividingHeadModel" "holes" "[I", Cond.methodLink RX1 98 yX1_holeOf, Cond.instanceMethod yX1_holeOf, Cond.selects RX1 yX1_holeOf yX1_holeOf, Cond.code yX1_holeOf cX1_holeOf 4 (some .long), Cond.methodLink RX1 106 yX1_term, Cond.static yX1_term, Cond.code yX1_term cX1_term 7 (some .int), Cond.methodLink RX1 32 yX1_common, Cond.static yX1_common, Cond.code yX1_common cX1_common 10 (some .long)]
def wsX1_miss : List Cond := .code yX1_miss cX1_miss 5 (some .int) :: ((wsX1_miss_r1 ++ wsX1_miss_r2) ++ wsX10)
def wsX1_worstOf : List Cond := .code yX1_worstOf cX1_worstOf 8 (some .long) :: ([.methodLink RX1 103 yX1_missOf, .instanceMethod yX1_missOf, .selects RX1 yX1_missOf yX1_missOf, .initialized RX1, .code yX1_missOf cX1_missOf 4 (some .long), .fieldLink RX1 7 "DividingHeadModel" "wheel" "I", .fieldLink RX1 13 "DividingHeadModel" "holes" "[I", .methodLink RX1 98 yX1_holeOf, .instanceMethod yX1_holeOf, .selects RX1 yX1_holeOf yX1_holeOf, .code yX1_holeOf cX1_holeOf 4 (some .long), .constantLong RX1 36 (2)] ++ wsX10)
def wsX1_exact : List Cond := .code yX1_exact cX1_exact 5 (some .int) :: ([.methodLink RX1 103 yX1_missOf, .instanceMethod yX1_missOf, .selects RX1 yX1_missOf yX1_missOf, .initialized RX1, .code yX1_missOf cX1_missOf 4 (some .long), .fieldLink RX1 7 "DividingHeadModel" "wheel" "I", .fieldLink RX1 13 "DividingHeadModel" "holes" "[I", .methodLink RX1 98 yX1_holeOf, .instanceMethod yX1_holeOf, .selects RX1 yX1_holeOf yX1_holeOf, .code yX1_holeOf cX1_holeOf 4 (some .long), .constantLong RX1 36 (2)] ++ wsX10)
def wsX1_worst_r1 : List Cond := [Cond.constantLong RX1 36 (2), Cond.methodLink RX1 58 yX1_isCircle, Cond.instanceMethod yX1_isCircle, Cond.selects RX1 yX1_isCircle yX1_isCircle, Cond.initialized RX1, Cond.code yX1_isCircle cX1_isCircle 2 (some .boolean), Cond.fieldLink RX1 44 "DividingHeadModel" "circles" "I", Cond.methodLink RX1 40 yX1_in, Cond.static yX1_in, Cond.code yX1_in cX1_in 6 (some .boolean), Cond.methodLink RX1 67 yX1_isParts, Cond.static yX1_isParts, Cond.code yX1_isParts cX1_isParts 1 (some .boolean), Cond.constantLong RX1 38 (1000), Cond.methodLink RX1 110 yX1_exact, Cond.instanceMethod yX1_exact, Cond.selects RX1 yX1_exact yX1_exact, Cond.code yX1_exact cX1_exact 5 (some .int), Cond.methodLink RX1 103 yX1_missOf, Cond.instanceMethod yX1_missOf, Cond.selects RX1 yX1_missOf yX1_missOf, Cond.code yX1_missOf cX1_missOf 4 (some .long), Cond.fieldLink RX1 7 "DividingHeadModel" "wheel" "I", Cond.fieldLink RX1 13 "DividingHeadModel" "holes" "[I"]
def wsX1_worst_r2 : List Cond := [Cond.methodLink RX1 98 yX1_holeOf, Cond.instanceMethod yX1_holeOf, Cond.selects RX1 yX1_holeOf yX1_holeOf, Cond.code yX1_holeOf cX1_holeOf 4 (some .long), Cond.methodLink RX1 114 yX1_worstOf, Cond.instanceMethod yX1_worstOf, Cond.selects RX1 yX1_worstOf yX1_worstOf, Cond.code yX1_worstOf cX1_worstOf 8 (some .long), Cond.methodLink RX1 106 yX1_term, Cond.static yX1_term, Cond.code yX1_term cX1_term 7 (some .int), Cond.methodLink RX1 32 yX1_common, Cond.static yX1_common, Cond.code yX1_common cX1_common 10 (some .long)]
def wsX1_worst : List Cond := .code yX1_worst cX1_worst 4 (some .int) :: ((wsX1_worst_r1 ++ wsX1_worst_r2) ++ wsX10)
def wsX1_best : List Cond := .code yX1_best cX1_best 4 (some .int) :: ([.fieldLink RX1 44 "DividingHeadModel" "circles" "I", .fieldLink RX1 13 "DividingHeadModel" "holes" "[I", .methodLink RX1 67 yX1_isParts, .static yX1_isParts, .initialized RX1, .code yX1_isParts cX1_isParts 1 (some .boolean), .constantLong RX1 36 (2), .constantLong RX1 38 (1000), .methodLink RX1 40 yX1_in, .static yX1_in, .code yX1_in cX1_in 6 (some .boolean), .methodLink RX1 114 yX1_worstOf, .instanceMethod yX1_worstOf, .selects RX1 yX1_worstOf yX1_worstOf, .code yX1_worstOf cX1_worstOf 8 (some .long), .methodLink RX1 103 yX1_missOf, .instanceMethod yX1_missOf, .selects RX1 yX1_missOf yX1_missOf, .code yX1_missOf cX1_missOf 4 (some .long), .fieldLink RX1 7 "DividingHeadModel" "wheel" "I", .methodLink RX1 98 yX1_holeOf, .instanceMethod yX1_holeOf, .selects RX1 yX1_holeOf yX1_holeOf, .code yX1_holeOf cX1_holeOf 4 (some .long)] ++ wsX10)
def wsX1_error : List Cond := .code yX1_error cX1_error 4 (some .int) :: ([.constantLong RX1 118 (7), .constantLong RX1 120 (-100), .constantLong RX1 122 (100), .fieldLink RX1 20 "DividingHeadModel" "error" "[I", .methodLink RX1 40 yX1_in, .static yX1_in, .initialized RX1, .code yX1_in cX1_in 6 (some .boolean)] ++ wsX10)
def wsX1_errorAt : List Cond := .code yX1_errorAt cX1_errorAt 9 (some .long) :: ([.constantLong RX1 124 (8), .fieldLink RX1 13 "DividingHeadModel" "holes" "[I", .fieldLink RX1 20 "DividingHeadModel" "error" "[I"] ++ wsX10)
def wsX1_isSteps : List Cond := .code yX1_isSteps cX1_isSteps 1 (some .boolean) :: ([.constantLong RX1 126 (100000), .methodLink RX1 40 yX1_in, .static yX1_in, .initialized RX1, .code yX1_in cX1_in 6 (some .boolean)])
def wsX1_spoilt_r1 : List Cond := [Cond.constant RX1 102 (-1000000001), Cond.constantLong RX1 131 (10000), Cond.constant RX1 76 (-1000000002), Cond.fieldLink RX1 13 "DividingHeadModel" "holes" "[I", Cond.methodLink RX1 58 yX1_isCircle, Cond.instanceMethod yX1_isCircle, Cond.selects RX1 yX1_isCircle yX1_isCircle, Cond.initialized RX1, Cond.code yX1_isCircle cX1_isCircle 2 (some .boolean), Cond.fieldLink RX1 44 "DividingHeadModel" "circles" "I", Cond.methodLink RX1 40 yX1_in, Cond.static yX1_in, Cond.code yX1_in cX1_in 6 (some .boolean), Cond.methodLink RX1 128 yX1_isSteps, Cond.static yX1_isSteps, Cond.code yX1_isSteps cX1_isSteps 1 (some .boolean), Cond.constantLong RX1 126 (100000), Cond.methodLink RX1 133 yX1_errorAt, Cond.instanceMethod yX1_errorAt, Cond.selects RX1 yX1_errorAt yX1_errorAt, Cond.code yX1_errorAt cX1_errorAt 9 (some .long), Cond.constantLong RX1 124 (8), Cond.fieldLink RX1 20 "DividingHeadModel" "error" "[I", Cond.methodLink RX1 106 yX1_term]
def wsX1_spoilt_r2 : List Cond := [Cond.static yX1_term, Cond.code yX1_term cX1_term 7 (some .int), Cond.methodLink RX1 32 yX1_common, Cond.static yX1_common, Cond.code yX1_common cX1_common 10 (some .long)]
def wsX1_spoilt : List Cond := .code yX1_spoilt cX1_spoilt 5 (some .int) :: ((wsX1_spoilt_r1 ++ wsX1_spoilt_r2) ++ wsX10)
def wsX1_extreme : List Cond := .code yX1_extreme cX1_extreme 11 (some .int) :: ([.constantLong RX1 38 (1000), .methodLink RX1 58 yX1_isCircle, .instanceMethod yX1_isCircle, .selects RX1 yX1_isCircle yX1_isCircle, .initialized RX1, .code yX1_isCircle cX1_isCircle 2 (some .boolean), .fieldLink RX1 44 "DividingHeadModel" "circles" "I", .methodLink RX1 40 yX1_in, .static yX1_in, .code yX1_in cX1_in 6 (some .boolean), .methodLink RX1 128 yX1_isSteps, .static yX1_isSteps, .code yX1_isSteps cX1_isSteps 1 (some .boolean), .constantLong RX1 126 (100000), .methodLink RX1 133 yX1_errorAt, .instanceMethod yX1_errorAt, .selects RX1 yX1_errorAt yX1_errorAt, .code yX1_errorAt cX1_errorAt 9 (some .long), .constantLong RX1 124 (8), .fieldLink RX1 13 "DividingHeadModel" "holes" "[I", .fieldLink RX1 20 "DividingHeadModel" "error" "[I"] ++ wsX10)
def wsX1_near : List Cond := .code yX1_near cX1_near 17 (some .int) :: ([.constantLong RX1 86 (1000000), .constantLong RX1 131 (10000), .methodLink RX1 40 yX1_in, .static yX1_in, .initialized RX1, .code yX1_in cX1_in 6 (some .boolean)])
def wsX1_vernier : List Cond := .code yX1_vernier cX1_vernier 3 (some .int) :: ([.constantLong RX1 36 (2), .constantLong RX1 136 (720), .constantLong RX1 138 (60), .fieldLink RX1 23 "DividingHeadModel" "marks" "I", .fieldLink RX1 26 "DividingHeadModel" "parts" "I", .methodLink RX1 40 yX1_in, .static yX1_in, .initialized RX1, .code yX1_in cX1_in 6 (some .boolean)] ++ wsX10)
def wsX1_mainOf : List Cond := .code yX1_mainOf cX1_mainOf 5 (some .long) :: ([.fieldLink RX1 23 "DividingHeadModel" "marks" "I"] ++ wsX10)
def wsX1_lineOf : List Cond := .code yX1_lineOf cX1_lineOf 7 (some .long) :: ([.fieldLink RX1 23 "DividingHeadModel" "marks" "I", .constantLong RX1 36 (2), .fieldLink RX1 26 "DividingHeadModel" "parts" "I"] ++ wsX10)
def wsX1_readOf : List Cond := .code yX1_readOf cX1_readOf 5 (some .long) :: ([.fieldLink RX1 26 "DividingHeadModel" "parts" "I", .methodLink RX1 140 yX1_mainOf, .instanceMethod yX1_mainOf, .selects RX1 yX1_mainOf yX1_mainOf, .initialized RX1, .code yX1_mainOf cX1_mainOf 5 (some .long), .fieldLink RX1 23 "DividingHeadModel" "marks" "I", .methodLink RX1 143 yX1_lineOf, .instanceMethod yX1_lineOf, .selects RX1 yX1_lineOf yX1_lineOf, .code yX1_lineOf cX1_lineOf 7 (some .long), .constantLong RX1 36 (2)] ++ wsX10)
def wsX1_isPlace : List Cond := .code yX1_isPlace cX1_isPlace 2 (some .boolean) :: ([.constantLong RX1 86 (1000000), .methodLink RX1 40 yX1_in, .static yX1_in, .initialized RX1, .code yX1_in cX1_in 6 (some .boolean)])
def wsX1_read : List Cond := .code yX1_read cX1_read 4 (some .int) :: ([.constantLong RX1 36 (2), .methodLink RX1 146 yX1_isPlace, .static yX1_isPlace, .initialized RX1, .code yX1_isPlace cX1_isPlace 2 (some .boolean), .constantLong RX1 86 (1000000), .methodLink RX1 40 yX1_in, .static yX1_in, .code yX1_in cX1_in 6 (some .boolean), .methodLink RX1 140 yX1_mainOf, .instanceMethod yX1_mainOf, .selects RX1 yX1_mainOf yX1_mainOf, .code yX1_mainOf cX1_mainOf 5 (some .long), .fieldLink RX1 23 "DividingHeadModel" "marks" "I", .methodLink RX1 143 yX1_lineOf, .instanceMethod yX1_lineOf, .selects RX1 yX1_lineOf yX1_lineOf, .code yX1_lineOf cX1_lineOf 7 (some .long), .fieldLink RX1 26 "DividingHeadModel" "parts" "I", .methodLink RX1 149 yX1_readOf, .instanceMethod yX1_readOf, .selects RX1 yX1_readOf yX1_readOf, .code yX1_readOf cX1_readOf 5 (some .long)] ++ wsX10)
def wsX1_two_r1 : List Cond := [Cond.constantLong RX1 152 (-1000), Cond.constantLong RX1 38 (1000), Cond.constant RX1 76 (-1000000002), Cond.constantLong RX1 154 (2000000), Cond.constantLong RX1 36 (2), Cond.constantLong RX1 86 (1000000), Cond.fieldLink RX1 23 "DividingHeadModel" "marks" "I", Cond.fieldLink RX1 26 "DividingHeadModel" "parts" "I", Cond.constantLong RX1 156 (4), Cond.methodLink RX1 146 yX1_isPlace, Cond.static yX1_isPlace, Cond.initialized RX1, Cond.code yX1_isPlace cX1_isPlace 2 (some .boolean), Cond.methodLink RX1 40 yX1_in, Cond.static yX1_in, Cond.code yX1_in cX1_in 6 (some .boolean), Cond.methodLink RX1 149 yX1_readOf, Cond.instanceMethod yX1_readOf, Cond.selects RX1 yX1_readOf yX1_readOf, Cond.code yX1_readOf cX1_readOf 5 (some .long), Cond.methodLink RX1 140 yX1_mainOf, Cond.instanceMethod yX1_mainOf, Cond.selects RX1 yX1_mainOf yX1_mainOf, Cond.code yX1_mainOf cX1_mainOf 5 (some .long)]
def wsX1_two_r2 : List Cond := [Cond.methodLink RX1 143 yX1_lineOf, Cond.instanceMethod yX1_lineOf, Cond.selects RX1 yX1_lineOf yX1_lineOf, Cond.code yX1_lineOf cX1_lineOf 7 (some .long), Cond.methodLink RX1 106 yX1_term, Cond.static yX1_term, Cond.code yX1_term cX1_term 7 (some .int), Cond.methodLink RX1 32 yX1_common, Cond.static yX1_common, Cond.code yX1_common cX1_common 10 (some .long)]
def wsX1_two : List Cond := .code yX1_two cX1_two 17 (some .int) :: ((wsX1_two_r1 ++ wsX1_two_r2) ++ wsX10)
def wsX1_told : List Cond := .code yX1_told cX1_told 2 (some .int) :: ([.fieldLink RX1 7 "DividingHeadModel" "wheel" "I", .fieldLink RX1 44 "DividingHeadModel" "circles" "I", .fieldLink RX1 47 "DividingHeadModel" "gears" "I", .fieldLink RX1 23 "DividingHeadModel" "marks" "I", .fieldLink RX1 26 "DividingHeadModel" "parts" "I"] ++ wsX10)
def wsJ9_abs_0f7a4 : List Cond := .code yJ9_abs_0f7a4 cJ9_abs_0f7a4 1 (some .int) :: ([])
def wsJ9_abs_067f4 : List Cond := .code yJ9_abs_067f4 cJ9_abs_067f4 2 (some .long) :: ([])
def wsJ9_max_7cf53 : List Cond := .code yJ9_max_7cf53 cJ9_max_7cf53 2 (some .int) :: ([])
def wsL_law_r1 : List Cond := [Cond.classLink RL 7 RX0, Cond.instantiable RX0 9, Cond.initialized RX0, Cond.classLink RL 10 RX1, Cond.instantiable RX1 9, Cond.initialized RX1, Cond.methodLink RL 9 yX0_init, Cond.instanceMethod yX0_init, Cond.code yX0_init cX0_init 1 none, Cond.methodLink RX0 1 objectInit, Cond.instanceMethod objectInit, Cond.code objectInit ⟨#[0xb1]⟩ 1 none, Cond.arrayClass .int, Cond.fieldLink RX0 9 "DividingHead" "circleHoles" "[I", Cond.fieldLink RX0 13 "DividingHead" "gearTeeth" "[I", Cond.fieldLink RX0 16 "DividingHead" "wormErrors" "[I", Cond.fieldLink RX0 19 "DividingHead" "trainGears" "[I", Cond.fieldLink RX0 22 "DividingHead" "wheelTeeth" "I", Cond.fieldLink RX0 26 "DividingHead" "circleMarks" "I", Cond.fieldLink RX0 29 "DividingHead" "vernierParts" "I", Cond.methodLink RL 12 yX1_init, Cond.instanceMethod yX1_init, Cond.code yX1_init cX1_init 1 none, Cond.methodLink RX1 1 objectInit]
def wsL_law_r2 : List Cond := [Cond.fieldLink RX1 7 "DividingHeadModel" "wheel" "I", Cond.fieldLink RX1 13 "DividingHeadModel" "holes" "[I", Cond.fieldLink RX1 17 "DividingHeadModel" "teeth" "[I", Cond.fieldLink RX1 20 "DividingHeadModel" "error" "[I", Cond.fieldLink RX1 23 "DividingHeadModel" "marks" "I", Cond.fieldLink RX1 26 "DividingHeadModel" "parts" "I", Cond.fieldLink RX1 29 "DividingHeadModel" "found" "[I", Cond.methodLink RL 13 yX0_wheel, Cond.instanceMethod yX0_wheel, Cond.selects RX0 yX0_wheel yX0_wheel, Cond.code yX0_wheel cX0_wheel 3 (some .int), Cond.methodLink RX0 32 yX0_isOutside, Cond.static yX0_isOutside, Cond.code yX0_isOutside cX0_isOutside 3 (some .boolean), Cond.methodLink RL 17 yX1_wheel, Cond.instanceMethod yX1_wheel, Cond.selects RX1 yX1_wheel yX1_wheel, Cond.code yX1_wheel cX1_wheel 3 (some .int), Cond.constantLong RX1 50 (10), Cond.constantLong RX1 52 (200), Cond.methodLink RX1 40 yX1_in, Cond.static yX1_in, Cond.code yX1_in cX1_in 6 (some .boolean), Cond.methodLink RL 18 yX0_circle]
def wsL_law_r3 : List Cond := [Cond.instanceMethod yX0_circle, Cond.selects RX0 yX0_circle yX0_circle, Cond.code yX0_circle cX0_circle 2 (some .int), Cond.fieldLink RX0 36 "DividingHead" "circleCount" "I", Cond.methodLink RX0 39 yX0_hasCircleOf, Cond.instanceMethod yX0_hasCircleOf, Cond.selects RX0 yX0_hasCircleOf yX0_hasCircleOf, Cond.code yX0_hasCircleOf cX0_hasCircleOf 3 (some .boolean), Cond.methodLink RL 21 yX1_circle, Cond.instanceMethod yX1_circle, Cond.selects RX1 yX1_circle yX1_circle, Cond.code yX1_circle cX1_circle 3 (some .int), Cond.constantLong RX1 54 (5), Cond.constantLong RX1 56 (120), Cond.fieldLink RX1 44 "DividingHeadModel" "circles" "I", Cond.methodLink RL 22 yX0_holes, Cond.instanceMethod yX0_holes, Cond.selects RX0 yX0_holes yX0_holes, Cond.code yX0_holes cX0_holes 3 (some .int), Cond.methodLink RX0 43 yX0_holesAt, Cond.instanceMethod yX0_holesAt, Cond.selects RX0 yX0_holesAt yX0_holesAt, Cond.code yX0_holesAt cX0_holesAt 2 (some .int), Cond.methodLink RL 25 yX1_holes]
def wsL_law_r4 : List Cond := [Cond.instanceMethod yX1_holes, Cond.selects RX1 yX1_holes yX1_holes, Cond.code yX1_holes cX1_holes 2 (some .int), Cond.methodLink RX1 58 yX1_isCircle, Cond.instanceMethod yX1_isCircle, Cond.selects RX1 yX1_isCircle yX1_isCircle, Cond.code yX1_isCircle cX1_isCircle 2 (some .boolean), Cond.methodLink RL 26 yX0_gear, Cond.instanceMethod yX0_gear, Cond.selects RX0 yX0_gear yX0_gear, Cond.code yX0_gear cX0_gear 2 (some .int), Cond.fieldLink RX0 47 "DividingHead" "gearCount" "I", Cond.methodLink RL 29 yX1_gear, Cond.instanceMethod yX1_gear, Cond.selects RX1 yX1_gear yX1_gear, Cond.code yX1_gear cX1_gear 2 (some .int), Cond.constantLong RX1 62 (12), Cond.fieldLink RX1 47 "DividingHeadModel" "gears" "I", Cond.methodLink RL 30 yX0_teeth, Cond.instanceMethod yX0_teeth, Cond.selects RX0 yX0_teeth yX0_teeth, Cond.code yX0_teeth cX0_teeth 2 (some .int), Cond.methodLink RL 33 yX1_teeth, Cond.instanceMethod yX1_teeth]
def wsL_law_r5 : List Cond := [Cond.selects RX1 yX1_teeth yX1_teeth, Cond.code yX1_teeth cX1_teeth 2 (some .int), Cond.methodLink RX1 64 yX1_isGear, Cond.instanceMethod yX1_isGear, Cond.selects RX1 yX1_isGear yX1_isGear, Cond.code yX1_isGear cX1_isGear 2 (some .boolean), Cond.methodLink RL 34 yX0_plain, Cond.instanceMethod yX0_plain, Cond.selects RX0 yX0_plain yX0_plain, Cond.code yX0_plain cX0_plain 4 (some .int), Cond.methodLink RX0 50 yX0_isNoNumberOfParts, Cond.static yX0_isNoNumberOfParts, Cond.code yX0_isNoNumberOfParts cX0_isNoNumberOfParts 1 (some .boolean), Cond.methodLink RX0 53 yX0_plainCircle, Cond.instanceMethod yX0_plainCircle, Cond.selects RX0 yX0_plainCircle yX0_plainCircle, Cond.code yX0_plainCircle cX0_plainCircle 5 (some .int), Cond.methodLink RX0 133 yX0_exactQuotient, Cond.static yX0_exactQuotient, Cond.code yX0_exactQuotient cX0_exactQuotient 4 (some .long), Cond.methodLink RL 38 yX1_plain, Cond.instanceMethod yX1_plain, Cond.selects RX1 yX1_plain yX1_plain, Cond.code yX1_plain cX1_plain 4 (some .int)]
def wsL_law_r6 : List Cond := [Cond.constantLong RX1 36 (2), Cond.methodLink RX1 67 yX1_isParts, Cond.static yX1_isParts, Cond.code yX1_isParts cX1_isParts 1 (some .boolean), Cond.constantLong RX1 38 (1000), Cond.methodLink RX1 70 yX1_plainOf, Cond.instanceMethod yX1_plainOf, Cond.selects RX1 yX1_plainOf yX1_plainOf, Cond.code yX1_plainOf cX1_plainOf 5 (some .int), Cond.methodLink RL 39 yX0_compound, Cond.instanceMethod yX0_compound, Cond.selects RX0 yX0_compound yX0_compound, Cond.code yX0_compound cX0_compound 6 (some .int), Cond.constant RX0 56 (-1000000002), Cond.constant RX0 65 (-1000000005), Cond.methodLink RX0 57 yX0_secondStep, Cond.instanceMethod yX0_secondStep, Cond.selects RX0 yX0_secondStep yX0_secondStep, Cond.code yX0_secondStep cX0_secondStep 5 (some .int), Cond.methodLink RX0 136 yX0_firstStep, Cond.instanceMethod yX0_firstStep, Cond.selects RX0 yX0_firstStep yX0_firstStep, Cond.code yX0_firstStep cX0_firstStep 6 (some .int), Cond.methodLink RX0 61 yX0_compoundTerm]
def wsL_law_r7 : List Cond := [Cond.instanceMethod yX0_compoundTerm, Cond.selects RX0 yX0_compoundTerm yX0_compoundTerm, Cond.code yX0_compoundTerm cX0_compoundTerm 6 (some .int), Cond.methodLink RL 42 yX1_compound, Cond.instanceMethod yX1_compound, Cond.selects RX1 yX1_compound yX1_compound, Cond.code yX1_compound cX1_compound 8 (some .int), Cond.constantLong RX1 74 (3), Cond.constant RX1 76 (-1000000002), Cond.constant RX1 81 (-1000000005), Cond.methodLink RX1 77 yX1_stepBeside, Cond.instanceMethod yX1_stepBeside, Cond.selects RX1 yX1_stepBeside yX1_stepBeside, Cond.code yX1_stepBeside cX1_stepBeside 9 (some .int), Cond.methodLink RL 43 yX0_differential, Cond.instanceMethod yX0_differential, Cond.selects RX0 yX0_differential yX0_differential, Cond.code yX0_differential cX0_differential 4 (some .int), Cond.methodLink RX0 66 yX0_partsBeside, Cond.instanceMethod yX0_partsBeside, Cond.selects RX0 yX0_partsBeside yX0_partsBeside, Cond.code yX0_partsBeside cX0_partsBeside 3 (some .int), Cond.methodLink RX0 140 yX0_standsIn, Cond.instanceMethod yX0_standsIn]
def wsL_law_r8 : List Cond := [Cond.selects RX0 yX0_standsIn yX0_standsIn, Cond.code yX0_standsIn cX0_standsIn 3 (some .boolean), Cond.methodLink RX0 143 Lib.Math.abs.name, Cond.static Lib.Math.abs.name, Cond.initialized "java/lang/Math", Cond.code Lib.Math.abs.name Lib.Math.abs.code 1 (some .int), Cond.methodLink RX0 73 yX0_findTrain, Cond.instanceMethod yX0_findTrain, Cond.selects RX0 yX0_findTrain yX0_findTrain, Cond.code yX0_findTrain cX0_findTrain 5 (some .boolean), Cond.methodLink RX0 146 yX0_findTwoGears, Cond.instanceMethod yX0_findTwoGears, Cond.selects RX0 yX0_findTwoGears yX0_findTwoGears, Cond.code yX0_findTwoGears cX0_findTwoGears 7 (some .boolean), Cond.methodLink RX0 152 yX0_gearWith, Cond.instanceMethod yX0_gearWith, Cond.selects RX0 yX0_gearWith yX0_gearWith, Cond.code yX0_gearWith cX0_gearWith 7 (some .int), Cond.methodLink RX0 156 yX0_keepTrain, Cond.instanceMethod yX0_keepTrain, Cond.selects RX0 yX0_keepTrain yX0_keepTrain, Cond.code yX0_keepTrain cX0_keepTrain 5 (some .boolean), Cond.methodLink RX0 149 yX0_findFourGears, Cond.instanceMethod yX0_findFourGears]
def wsL_law_r9 : List Cond := [Cond.selects RX0 yX0_findFourGears yX0_findFourGears, Cond.code yX0_findFourGears cX0_findFourGears 7 (some .boolean), Cond.methodLink RX0 160 yX0_findSecondPair, Cond.instanceMethod yX0_findSecondPair, Cond.selects RX0 yX0_findSecondPair yX0_findSecondPair, Cond.code yX0_findSecondPair cX0_findSecondPair 11 (some .boolean), Cond.methodLink RL 46 yX1_differential, Cond.instanceMethod yX1_differential, Cond.selects RX1 yX1_differential yX1_differential, Cond.code yX1_differential cX1_differential 6 (some .int), Cond.constantLong RX1 92 (6), Cond.methodLink RX1 88 yX1_isTrain, Cond.instanceMethod yX1_isTrain, Cond.selects RX1 yX1_isTrain yX1_isTrain, Cond.code yX1_isTrain cX1_isTrain 12 (some .boolean), Cond.methodLink RX1 82 yX1_put, Cond.instanceMethod yX1_put, Cond.selects RX1 yX1_put yX1_put, Cond.code yX1_put cX1_put 5 none, Cond.methodLink RL 47 yX0_train, Cond.instanceMethod yX0_train, Cond.selects RX0 yX0_train yX0_train, Cond.code yX0_train cX0_train 4 (some .int), Cond.methodLink RX0 69 yX0_isNoShare]
def wsL_law_r10 : List Cond := [Cond.static yX0_isNoShare, Cond.code yX0_isNoShare cX0_isNoShare 2 (some .boolean), Cond.constant RX0 131 (1000000), Cond.methodLink RL 51 yX1_train, Cond.instanceMethod yX1_train, Cond.selects RX1 yX1_train yX1_train, Cond.code yX1_train cX1_train 4 (some .int), Cond.constantLong RX1 86 (1000000), Cond.methodLink RL 52 yX0_hole, Cond.instanceMethod yX0_hole, Cond.selects RX0 yX0_hole yX0_hole, Cond.code yX0_hole cX0_hole 5 (some .int), Cond.methodLink RX0 77 yX0_nearestHole, Cond.instanceMethod yX0_nearestHole, Cond.selects RX0 yX0_nearestHole yX0_nearestHole, Cond.code yX0_nearestHole cX0_nearestHole 4 (some .int), Cond.methodLink RX0 164 yX0_nearestOrGreater, Cond.static yX0_nearestOrGreater, Cond.code yX0_nearestOrGreater cX0_nearestOrGreater 4 (some .long), Cond.constantLong RX0 127 (2), Cond.methodLink RL 55 yX1_hole, Cond.instanceMethod yX1_hole, Cond.selects RX1 yX1_hole yX1_hole, Cond.code yX1_hole cX1_hole 4 (some .int)]
def wsL_law_r11 : List Cond := [Cond.methodLink RX1 94 yX1_isCut, Cond.static yX1_isCut, Cond.code yX1_isCut cX1_isCut 2 (some .boolean), Cond.methodLink RX1 98 yX1_holeOf, Cond.instanceMethod yX1_holeOf, Cond.selects RX1 yX1_holeOf yX1_holeOf, Cond.code yX1_holeOf cX1_holeOf 4 (some .long), Cond.methodLink RL 56 yX0_miss, Cond.instanceMethod yX0_miss, Cond.selects RX0 yX0_miss yX0_miss, Cond.code yX0_miss cX0_miss 6 (some .int), Cond.constant RX0 80 (-1000000001), Cond.methodLink RX0 81 yX0_missUpper, Cond.instanceMethod yX0_missUpper, Cond.selects RX0 yX0_missUpper yX0_missUpper, Cond.code yX0_missUpper cX0_missUpper 4 (some .int), Cond.methodLink RX0 84 yX0_lowestTerm, Cond.static yX0_lowestTerm, Cond.code yX0_lowestTerm cX0_lowestTerm 9 (some .int), Cond.methodLink RX0 174 Lib.MathLoose.abs_long.x, Cond.static Lib.MathLoose.abs_long.x, Cond.code Lib.MathLoose.abs_long.x Lib.MathLoose.abs_long.code 2 (some .long), Cond.methodLink RX0 177 yX0_commonMeasure, Cond.static yX0_commonMeasure]
def wsL_law_r12 : List Cond := [Cond.code yX0_commonMeasure cX0_commonMeasure 7 (some .long), Cond.methodLink RL 60 yX1_miss, Cond.instanceMethod yX1_miss, Cond.selects RX1 yX1_miss yX1_miss, Cond.code yX1_miss cX1_miss 5 (some .int), Cond.constant RX1 102 (-1000000001), Cond.methodLink RX1 103 yX1_missOf, Cond.instanceMethod yX1_missOf, Cond.selects RX1 yX1_missOf yX1_missOf, Cond.code yX1_missOf cX1_missOf 4 (some .long), Cond.methodLink RX1 106 yX1_term, Cond.static yX1_term, Cond.code yX1_term cX1_term 7 (some .int), Cond.methodLink RX1 32 yX1_common, Cond.static yX1_common, Cond.code yX1_common cX1_common 10 (some .long), Cond.methodLink RL 61 yX0_worst, Cond.instanceMethod yX0_worst, Cond.selects RX0 yX0_worst yX0_worst, Cond.code yX0_worst cX0_worst 5 (some .int), Cond.methodLink RX0 88 yX0_exactCuts, Cond.instanceMethod yX0_exactCuts, Cond.selects RX0 yX0_exactCuts yX0_exactCuts, Cond.code yX0_exactCuts cX0_exactCuts 5 (some .int)]
def wsL_law_r13 : List Cond := [Cond.methodLink RX0 92 yX0_worstUpper, Cond.instanceMethod yX0_worstUpper, Cond.selects RX0 yX0_worstUpper yX0_worstUpper, Cond.code yX0_worstUpper cX0_worstUpper 5 (some .int), Cond.methodLink RX0 167 Lib.Math.max.name, Cond.static Lib.Math.max.name, Cond.code Lib.Math.max.name Lib.Math.max.code 2 (some .int), Cond.methodLink RL 64 yX1_worst, Cond.instanceMethod yX1_worst, Cond.selects RX1 yX1_worst yX1_worst, Cond.code yX1_worst cX1_worst 4 (some .int), Cond.methodLink RX1 110 yX1_exact, Cond.instanceMethod yX1_exact, Cond.selects RX1 yX1_exact yX1_exact, Cond.code yX1_exact cX1_exact 5 (some .int), Cond.methodLink RX1 114 yX1_worstOf, Cond.instanceMethod yX1_worstOf, Cond.selects RX1 yX1_worstOf yX1_worstOf, Cond.code yX1_worstOf cX1_worstOf 8 (some .long), Cond.methodLink RL 65 yX0_best, Cond.instanceMethod yX0_best, Cond.selects RX0 yX0_best yX0_best, Cond.code yX0_best cX0_best 6 (some .int), Cond.methodLink RL 68 yX1_best]
def wsL_law_r14 : List Cond := [Cond.instanceMethod yX1_best, Cond.selects RX1 yX1_best yX1_best, Cond.code yX1_best cX1_best 4 (some .int), Cond.methodLink RL 69 yX0_error, Cond.instanceMethod yX0_error, Cond.selects RX0 yX0_error yX0_error, Cond.code yX0_error cX0_error 4 (some .int), Cond.methodLink RL 72 yX1_error, Cond.instanceMethod yX1_error, Cond.selects RX1 yX1_error yX1_error, Cond.code yX1_error cX1_error 4 (some .int), Cond.constantLong RX1 118 (7), Cond.constantLong RX1 120 (-100), Cond.constantLong RX1 122 (100), Cond.methodLink RL 73 yX0_spoilt, Cond.instanceMethod yX0_spoilt, Cond.selects RX0 yX0_spoilt yX0_spoilt, Cond.code yX0_spoilt cX0_spoilt 6 (some .int), Cond.methodLink RX0 95 yX0_isNoStep, Cond.static yX0_isNoStep, Cond.code yX0_isNoStep cX0_isNoStep 1 (some .boolean), Cond.constant RX0 132 (100000), Cond.methodLink RX0 98 yX0_errorUpper, Cond.instanceMethod yX0_errorUpper]
def wsL_law_r15 : List Cond := [Cond.selects RX0 yX0_errorUpper yX0_errorUpper, Cond.code yX0_errorUpper cX0_errorUpper 7 (some .int), Cond.methodLink RL 76 yX1_spoilt, Cond.instanceMethod yX1_spoilt, Cond.selects RX1 yX1_spoilt yX1_spoilt, Cond.code yX1_spoilt cX1_spoilt 5 (some .int), Cond.constantLong RX1 131 (10000), Cond.methodLink RX1 128 yX1_isSteps, Cond.static yX1_isSteps, Cond.code yX1_isSteps cX1_isSteps 1 (some .boolean), Cond.constantLong RX1 126 (100000), Cond.methodLink RX1 133 yX1_errorAt, Cond.instanceMethod yX1_errorAt, Cond.selects RX1 yX1_errorAt yX1_errorAt, Cond.code yX1_errorAt cX1_errorAt 9 (some .long), Cond.constantLong RX1 124 (8), Cond.methodLink RL 77 yX0_extreme, Cond.instanceMethod yX0_extreme, Cond.selects RX0 yX0_extreme yX0_extreme, Cond.code yX0_extreme cX0_extreme 10 (some .int), Cond.methodLink RL 80 yX1_extreme, Cond.instanceMethod yX1_extreme, Cond.selects RX1 yX1_extreme yX1_extreme, Cond.code yX1_extreme cX1_extreme 11 (some .int)]
def wsL_law_r16 : List Cond := [Cond.methodLink RL 81 yX0_near, Cond.instanceMethod yX0_near, Cond.selects RX0 yX0_near yX0_near, Cond.code yX0_near cX0_near 6 (some .int), Cond.methodLink RX0 101 yX0_nearestLower, Cond.static yX0_nearestLower, Cond.code yX0_nearestLower cX0_nearestLower 9 (some .int), Cond.methodLink RX0 170 yX0_gapUpper, Cond.static yX0_gapUpper, Cond.code yX0_gapUpper cX0_gapUpper 5 (some .long), Cond.methodLink RX0 104 yX0_nearestOrLesser, Cond.static yX0_nearestOrLesser, Cond.code yX0_nearestOrLesser cX0_nearestOrLesser 4 (some .long), Cond.methodLink RL 84 yX1_near, Cond.instanceMethod yX1_near, Cond.selects RX1 yX1_near yX1_near, Cond.code yX1_near cX1_near 17 (some .int), Cond.methodLink RL 85 yX0_vernier, Cond.instanceMethod yX0_vernier, Cond.selects RX0 yX0_vernier yX0_vernier, Cond.code yX0_vernier cX0_vernier 3 (some .int), Cond.methodLink RL 88 yX1_vernier, Cond.instanceMethod yX1_vernier, Cond.selects RX1 yX1_vernier yX1_vernier]
def wsL_law_r17 : List Cond := [Cond.code yX1_vernier cX1_vernier 3 (some .int), Cond.constantLong RX1 136 (720), Cond.constantLong RX1 138 (60), Cond.methodLink RL 89 yX0_read, Cond.instanceMethod yX0_read, Cond.selects RX0 yX0_read yX0_read, Cond.code yX0_read cX0_read 4 (some .int), Cond.methodLink RX0 108 yX0_isNoPlace, Cond.static yX0_isNoPlace, Cond.code yX0_isNoPlace cX0_isNoPlace 2 (some .boolean), Cond.methodLink RX0 111 yX0_mainMark, Cond.instanceMethod yX0_mainMark, Cond.selects RX0 yX0_mainMark yX0_mainMark, Cond.code yX0_mainMark cX0_mainMark 5 (some .long), Cond.methodLink RX0 114 yX0_vernierLine, Cond.instanceMethod yX0_vernierLine, Cond.selects RX0 yX0_vernierLine yX0_vernierLine, Cond.code yX0_vernierLine cX0_vernierLine 7 (some .long), Cond.methodLink RX0 117 yX0_readParts, Cond.instanceMethod yX0_readParts, Cond.selects RX0 yX0_readParts yX0_readParts, Cond.code yX0_readParts cX0_readParts 5 (some .long), Cond.methodLink RL 92 yX1_read, Cond.instanceMethod yX1_read]
def wsL_law_r18 : List Cond := [Cond.selects RX1 yX1_read yX1_read, Cond.code yX1_read cX1_read 4 (some .int), Cond.methodLink RX1 146 yX1_isPlace, Cond.static yX1_isPlace, Cond.code yX1_isPlace cX1_isPlace 2 (some .boolean), Cond.methodLink RX1 140 yX1_mainOf, Cond.instanceMethod yX1_mainOf, Cond.selects RX1 yX1_mainOf yX1_mainOf, Cond.code yX1_mainOf cX1_mainOf 5 (some .long), Cond.methodLink RX1 143 yX1_lineOf, Cond.instanceMethod yX1_lineOf, Cond.selects RX1 yX1_lineOf yX1_lineOf, Cond.code yX1_lineOf cX1_lineOf 7 (some .long), Cond.methodLink RX1 149 yX1_readOf, Cond.instanceMethod yX1_readOf, Cond.selects RX1 yX1_readOf yX1_readOf, Cond.code yX1_readOf cX1_readOf 5 (some .long), Cond.methodLink RL 93 yX0_two, Cond.instanceMethod yX0_two, Cond.selects RX0 yX0_two yX0_two, Cond.code yX0_two cX0_two 19 (some .int), Cond.constantLong RX0 120 (1000000), Cond.constantLong RX0 129 (4), Cond.methodLink RX0 122 yJ9_floorMod_f86c9]
def wsL_law_r19 : List Cond := [Cond.static yJ9_floorMod_f86c9, Cond.initialized RJ9, Cond.code yJ9_floorMod_f86c9 cJ9_floorMod_f86c9 6 (some .long), Cond.methodLink RL 96 yX1_two, Cond.instanceMethod yX1_two, Cond.selects RX1 yX1_two yX1_two, Cond.code yX1_two cX1_two 17 (some .int), Cond.constantLong RX1 152 (-1000), Cond.constantLong RX1 154 (2000000), Cond.constantLong RX1 156 (4), Cond.methodLink RL 97 yX0_told, Cond.instanceMethod yX0_told, Cond.selects RX0 yX0_told yX0_told, Cond.code yX0_told cX0_told 2 (some .int), Cond.methodLink RL 100 yX1_told, Cond.instanceMethod yX1_told, Cond.selects RX1 yX1_told yX1_told, Cond.code yX1_told cX1_told 2 (some .int)]
def wsL_law : List Cond := (wsL_law_r1 ++ (wsL_law_r2 ++ (wsL_law_r3 ++ (wsL_law_r4 ++ (wsL_law_r5 ++ (wsL_law_r6 ++ (wsL_law_r7 ++ (wsL_law_r8 ++ (wsL_law_r9 ++ (wsL_law_r10 ++ (wsL_law_r11 ++ (wsL_law_r12 ++ (wsL_law_r13 ++ (wsL_law_r14 ++ (wsL_law_r15 ++ (wsL_law_r16 ++ (wsL_law_r17 ++ (wsL_law_r18 ++ wsL_law_r19)))))))))))))))))) ++ wsX00 ++ wsX10 ++ ([] : List Cond)
abbrev vwCl : List vw_C := [(RX0, TX0, 9), (RX1, TX1, 9)]
end
section
theorem dX0_init_0 : decode cX0_init 0 = .ok (.aload_n 0, 1) := by decide +kernel
theorem dX0_init_1 : decode cX0_init 1 = .ok (.invokespecial 1, 3) := by decide +kernel
theorem dX0_init_4 : decode cX0_init 4 = .ok (.aload_n 0, 1) := by decide +kernel
theorem dX0_init_5 : decode cX0_init 5 = .ok (.bipush 8, 2) := by decide +kernel
theorem dX0_init_7 : decode cX0_init 7 = .ok (.newarray .int, 2) := by decide +kernel
theorem dX0_init_9 : decode cX0_init 9 = .ok (.putfield 9, 3) := by decide +kernel
theorem dX0_init_12 : decode cX0_init 12 = .ok (.aload_n 0, 1) := by decide +kernel
theorem dX0_init_13 : decode cX0_init 13 = .ok (.bipush 10, 2) := by decide +kernel
theorem dX0_init_15 : decode cX0_init 15 = .ok (.newarray .int, 2) := by decide +kernel
theorem dX0_init_17 : decode cX0_init 17 = .ok (.putfield 13, 3) := by decide +kernel
theorem dX0_init_20 : decode cX0_init 20 = .ok (.aload_n 0, 1) := by decide +kernel
theorem dX0_init_21 : decode cX0_init 21 = .ok (.bipush 8, 2) := by decide +kernel
theorem dX0_init_23 : decode cX0_init 23 = .ok (.newarray .int, 2) := by decide +kernel
theorem dX0_init_25 : decode cX0_init 25 = .ok (.putfield 16, 3) := by decide +kernel
theorem dX0_init_28 : decode cX0_init 28 = .ok (.aload_n 0, 1) := by decide +kernel
theorem dX0_init_29 : decode cX0_init 29 = .ok (.iconst 4, 1) := by decide +kernel
theorem dX0_init_30 : decode cX0_init 30 = .ok (.newarray .int, 2) := by decide +kernel
theorem dX0_init_32 : decode cX0_init 32 = .ok (.putfield 19, 3) := by decide +kernel
theorem dX0_init_35 : decode cX0_init 35 = .ok (.aload_n 0, 1) := by decide +kernel
theorem dX0_init_36 : decode cX0_init 36 = .ok (.bipush 40, 2) := by decide +kernel
theorem dX0_init_38 : decode cX0_init 38 = .ok (.putfield 22, 3) := by decide +kernel
theorem dX0_init_41 : decode cX0_init 41 = .ok (.aload_n 0, 1) := by decide +kernel
theorem dX0_init_42 : decode cX0_init 42 = .ok (.sipush 360, 3) := by decide +kernel
theorem dX0_init_45 : decode cX0_init 45 = .ok (.putfield 26, 3) := by decide +kernel
theorem dX0_init_48 : decode cX0_init 48 = .ok (.aload_n 0, 1) := by decide +kernel
theorem dX0_init_49 : decode cX0_init 49 = .ok (.bipush 10, 2) := by decide +kernel
theorem dX0_init_51 : decode cX0_init 51 = .ok (.putfield 29, 3) := by decide +kernel
theorem dX0_init_54 : decode cX0_init 54 = .ok (.return_, 1) := by decide +kernel
set_option maxRecDepth 20000 in
theorem ggX0_wheel_X0_isOutside : GoodIn wsX0_wheel wsX0_isOutside := goodIn_r _ [5] (by decide +kernel) (by decide +kernel)
set_option maxRecDepth 20000 in
theorem gX0_wheel_X0_isOutside : GoodIn wsX0_wheel (va_wsS RX0 32 yX0_isOutside wsX0_isOutside) := goodIn_app (goodIn_of _ (by decide +kernel)) ggX0_wheel_X0_isOutside
theorem dX0_wheel_0 : decode cX0_wheel 0 = .ok (.iload_n 1, 1) := by decide +kernel
theorem dX0_wheel_1 : decode cX0_wheel 1 = .ok (.bipush 10, 2) := by decide +kernel
theorem dX0_wheel_3 : decode cX0_wheel 3 = .ok (.sipush 200, 3) := by decide +kernel
theorem dX0_wheel_6 : decode cX0_wheel 6 = .ok (.invokestatic 32, 3) := by decide +kernel
theorem dX0_wheel_9 : decode cX0_wheel 9 = .ok (.ifCond .eq 6, 3) := by decide +kernel
theorem dX0_wheel_12 : decode cX0_wheel 12 = .ok (.bipush (-2), 2) := by decide +kernel
theorem dX0_wheel_14 : decode cX0_wheel 14 = .ok (.ireturn, 1) := by decide +kernel
theorem dX0_wheel_15 : decode cX0_wheel 15 = .ok (.aload_n 0, 1) := by decide +kernel
theorem dX0_wheel_16 : decode cX0_wheel 16 = .ok (.getfield 22, 3) := by decide +kernel
theorem dX0_wheel_19 : decode cX0_wheel 19 = .ok (.istore_n 2, 1) := by decide +kernel
theorem dX0_wheel_20 : decode cX0_wheel 20 = .ok (.aload_n 0, 1) := by decide +kernel
theorem dX0_wheel_21 : decode cX0_wheel 21 = .ok (.iload_n 1, 1) := by decide +kernel
theorem dX0_wheel_22 : decode cX0_wheel 22 = .ok (.putfield 22, 3) := by decide +kernel
theorem dX0_wheel_25 : decode cX0_wheel 25 = .ok (.iload_n 2, 1) := by decide +kernel
theorem dX0_wheel_26 : decode cX0_wheel 26 = .ok (.ireturn, 1) := by decide +kernel
set_option maxRecDepth 20000 in
theorem ggX0_circle_X0_isOutside : GoodIn wsX0_circle wsX0_isOutside := goodIn_r _ [6] (by decide +kernel) (by decide +kernel)
set_option maxRecDepth 20000 in
theorem gX0_circle_X0_isOutside : GoodIn wsX0_circle (va_wsS RX0 32 yX0_isOutside wsX0_isOutside) := goodIn_app (goodIn_of _ (by decide +kernel)) ggX0_circle_X0_isOutside
set_option maxRecDepth 20000 in
theorem ggX0_circle_X0_hasCircleOf : GoodIn wsX0_circle wsX0_hasCircleOf := goodIn_r _ [10, 1, 2, 11, 12, 13, 14, 15, 16, 17, 18, 19] (by decide +kernel) (by decide +kernel)
set_option maxRecDepth 20000 in
theorem gX0_circle_X0_hasCircleOf : GoodIn wsX0_circle (wsV RX0 39 RX0 yX0_hasCircleOf wsX0_hasCircleOf) := goodIn_app (goodIn_of _ (by decide +kernel)) ggX0_circle_X0_hasCircleOf
theorem dX0_circle_0 : decode cX0_circle 0 = .ok (.iload_n 1, 1) := by decide +kernel
theorem dX0_circle_1 : decode cX0_circle 1 = .ok (.iconst 5, 1) := by decide +kernel
theorem dX0_circle_2 : decode cX0_circle 2 = .ok (.bipush 120, 2) := by decide +kernel
theorem dX0_circle_4 : decode cX0_circle 4 = .ok (.invokestatic 32, 3) := by decide +kernel
theorem dX0_circle_7 : decode cX0_circle 7 = .ok (.ifCond .eq 6, 3) := by decide +kernel
theorem dX0_circle_10 : decode cX0_circle 10 = .ok (.bipush (-2), 2) := by decide +kernel
theorem dX0_circle_12 : decode cX0_circle 12 = .ok (.ireturn, 1) := by decide +kernel
theorem dX0_circle_13 : decode cX0_circle 13 = .ok (.aload_n 0, 1) := by decide +kernel
theorem dX0_circle_14 : decode cX0_circle 14 = .ok (.getfield 36, 3) := by decide +kernel
theorem dX0_circle_17 : decode cX0_circle 17 = .ok (.bipush 8, 2) := by decide +kernel
theorem dX0_circle_19 : decode cX0_circle 19 = .ok (.if_icmp .lt 6, 3) := by decide +kernel
theorem dX0_circle_22 : decode cX0_circle 22 = .ok (.bipush (-4), 2) := by decide +kernel
theorem dX0_circle_24 : decode cX0_circle 24 = .ok (.ireturn, 1) := by decide +kernel
theorem dX0_circle_25 : decode cX0_circle 25 = .ok (.aload_n 0, 1) := by decide +kernel
theorem dX0_circle_26 : decode cX0_circle 26 = .ok (.iload_n 1, 1) := by decide +kernel
theorem dX0_circle_27 : decode cX0_circle 27 = .ok (.invokevirtual 39, 3) := by decide +kernel
theorem dX0_circle_30 : decode cX0_circle 30 = .ok (.ifCond .eq 6, 3) := by decide +kernel
theorem dX0_circle_33 : decode cX0_circle 33 = .ok (.bipush (-5), 2) := by decide +kernel
theorem dX0_circle_35 : decode cX0_circle 35 = .ok (.ireturn, 1) := by decide +kernel
theorem dX0_circle_36 : decode cX0_circle 36 = .ok (.aload_n 0, 1) := by decide +kernel
theorem dX0_circle_37 : decode cX0_circle 37 = .ok (.getfield 9, 3) := by decide +kernel
theorem dX0_circle_40 : decode cX0_circle 40 = .ok (.aload_n 0, 1) := by decide +kernel
theorem dX0_circle_41 : decode cX0_circle 41 = .ok (.getfield 36, 3) := by decide +kernel
theorem dX0_circle_44 : decode cX0_circle 44 = .ok (.iload_n 1, 1) := by decide +kernel
theorem dX0_circle_45 : decode cX0_circle 45 = .ok (.iastore, 1) := by decide +kernel
theorem dX0_circle_46 : decode cX0_circle 46 = .ok (.aload_n 0, 1) := by decide +kernel
theorem dX0_circle_47 : decode cX0_circle 47 = .ok (.dup, 1) := by decide +kernel
theorem dX0_circle_48 : decode cX0_circle 48 = .ok (.getfield 36, 3) := by decide +kernel
theorem dX0_circle_51 : decode cX0_circle 51 = .ok (.iconst 1, 1) := by decide +kernel
theorem dX0_circle_52 : decode cX0_circle 52 = .ok (.iadd, 1) := by decide +kernel
theorem dX0_circle_53 : decode cX0_circle 53 = .ok (.putfield 36, 3) := by decide +kernel
theorem dX0_circle_56 : decode cX0_circle 56 = .ok (.aload_n 0, 1) := by decide +kernel
theorem dX0_circle_57 : decode cX0_circle 57 = .ok (.getfield 36, 3) := by decide +kernel
theorem dX0_circle_60 : decode cX0_circle 60 = .ok (.iconst 1, 1) := by decide +kernel
theorem dX0_circle_61 : decode cX0_circle 61 = .ok (.isub, 1) := by decide +kernel
theorem dX0_circle_62 : decode cX0_circle 62 = .ok (.ireturn, 1) := by decide +kernel
set_option maxRecDepth 20000 in
theorem ggX0_holes_X0_holesAt : GoodIn wsX0_holes wsX0_holesAt := goodIn_r _ [5, 6, 7, 8, 9, 10, 11, 12, 13, 14, 15, 16] (by decide +kernel) (by decide +kernel)
set_option maxRecDepth 20000 in
theorem gX0_holes_X0_holesAt : GoodIn wsX0_holes (wsV RX0 43 RX0 yX0_holesAt wsX0_holesAt) := goodIn_app (goodIn_of _ (by decide +kernel)) ggX0_holes_X0_holesAt
theorem dX0_holes_0 : decode cX0_holes 0 = .ok (.aload_n 0, 1) := by decide +kernel
theorem dX0_holes_1 : decode cX0_holes 1 = .ok (.iload_n 1, 1) := by decide +kernel
theorem dX0_holes_2 : decode cX0_holes 2 = .ok (.invokevirtual 43, 3) := by decide +kernel
theorem dX0_holes_5 : decode cX0_holes 5 = .ok (.istore_n 2, 1) := by decide +kernel
theorem dX0_holes_6 : decode cX0_holes 6 = .ok (.iload_n 2, 1) := by decide +kernel
theorem dX0_holes_7 : decode cX0_holes 7 = .ok (.ifCond .ne 7, 3) := by decide +kernel
theorem dX0_holes_10 : decode cX0_holes 10 = .ok (.iconst (-1), 1) := by decide +kernel
theorem dX0_holes_11 : decode cX0_holes 11 = .ok (.goto 4, 3) := by decide +kernel
theorem dX0_holes_14 : decode cX0_holes 14 = .ok (.iload_n 2, 1) := by decide +kernel
theorem dX0_holes_15 : decode cX0_holes 15 = .ok (.ireturn, 1) := by decide +kernel
set_option maxRecDepth 20000 in
theorem ggX0_gear_X0_isOutside : GoodIn wsX0_gear wsX0_isOutside := goodIn_r _ [6] (by decide +kernel) (by decide +kernel)
set_option maxRecDepth 20000 in
theorem gX0_gear_X0_isOutside : GoodIn wsX0_gear (va_wsS RX0 32 yX0_isOutside wsX0_isOutside) := goodIn_app (goodIn_of _ (by decide +kernel)) ggX0_gear_X0_isOutside
theorem dX0_gear_0 : decode cX0_gear 0 = .ok (.iload_n 1, 1) := by decide +kernel
theorem dX0_gear_1 : decode cX0_gear 1 = .ok (.bipush 12, 2) := by decide +kernel
theorem dX0_gear_3 : decode cX0_gear 3 = .ok (.bipush 120, 2) := by decide +kernel
theorem dX0_gear_5 : decode cX0_gear 5 = .ok (.invokestatic 32, 3) := by decide +kernel
theorem dX0_gear_8 : decode cX0_gear 8 = .ok (.ifCond .eq 6, 3) := by decide +kernel
theorem dX0_gear_11 : decode cX0_gear 11 = .ok (.bipush (-2), 2) := by decide +kernel
theorem dX0_gear_13 : decode cX0_gear 13 = .ok (.ireturn, 1) := by decide +kernel
theorem dX0_gear_14 : decode cX0_gear 14 = .ok (.aload_n 0, 1) := by decide +kernel
theorem dX0_gear_15 : decode cX0_gear 15 = .ok (.getfield 47, 3) := by decide +kernel
theorem dX0_gear_18 : decode cX0_gear 18 = .ok (.bipush 10, 2) := by decide +kernel
theorem dX0_gear_20 : decode cX0_gear 20 = .ok (.if_icmp .lt 6, 3) := by decide +kernel
theorem dX0_gear_23 : decode cX0_gear 23 = .ok (.bipush (-4), 2) := by decide +kernel
theorem dX0_gear_25 : decode cX0_gear 25 = .ok (.ireturn, 1) := by decide +kernel
theorem dX0_gear_26 : decode cX0_gear 26 = .ok (.aload_n 0, 1) := by decide +kernel
theorem dX0_gear_27 : decode cX0_gear 27 = .ok (.getfield 13, 3) := by decide +kernel
theorem dX0_gear_30 : decode cX0_gear 30 = .ok (.aload_n 0, 1) := by decide +kernel
theorem dX0_gear_31 : decode cX0_gear 31 = .ok (.getfield 47, 3) := by decide +kernel
theorem dX0_gear_34 : decode cX0_gear 34 = .ok (.iload_n 1, 1) := by decide +kernel
theorem dX0_gear_35 : decode cX0_gear 35 = .ok (.iastore, 1) := by decide +kernel
theorem dX0_gear_36 : decode cX0_gear 36 = .ok (.aload_n 0, 1) := by decide +kernel
theorem dX0_gear_37 : decode cX0_gear 37 = .ok (.dup, 1) := by decide +kernel
theorem dX0_gear_38 : decode cX0_gear 38 = .ok (.getfield 47, 3) := by decide +kernel
theorem dX0_gear_41 : decode cX0_gear 41 = .ok (.iconst 1, 1) := by decide +kernel
theorem dX0_gear_42 : decode cX0_gear 42 = .ok (.iadd, 1) := by decide +kernel
theorem dX0_gear_43 : decode cX0_gear 43 = .ok (.putfield 47, 3) := by decide +kernel
theorem dX0_gear_46 : decode cX0_gear 46 = .ok (.aload_n 0, 1) := by decide +kernel
theorem dX0_gear_47 : decode cX0_gear 47 = .ok (.getfield 47, 3) := by decide +kernel
theorem dX0_gear_50 : decode cX0_gear 50 = .ok (.iconst 1, 1) := by decide +kernel
theorem dX0_gear_51 : decode cX0_gear 51 = .ok (.isub, 1) := by decide +kernel
theorem dX0_gear_52 : decode cX0_gear 52 = .ok (.ireturn, 1) := by decide +kernel
theorem dX0_teeth_0 : decode cX0_teeth 0 = .ok (.iload_n 1, 1) := by decide +kernel
theorem dX0_teeth_1 : decode cX0_teeth 1 = .ok (.ifCond .lt 11, 3) := by decide +kernel
theorem dX0_teeth_4 : decode cX0_teeth 4 = .ok (.iload_n 1, 1) := by decide +kernel
theorem dX0_teeth_5 : decode cX0_teeth 5 = .ok (.aload_n 0, 1) := by decide +kernel
theorem dX0_teeth_6 : decode cX0_teeth 6 = .ok (.getfield 47, 3) := by decide +kernel
theorem dX0_teeth_9 : decode cX0_teeth 9 = .ok (.if_icmp .lt 7, 3) := by decide +kernel
theorem dX0_teeth_12 : decode cX0_teeth 12 = .ok (.iconst (-1), 1) := by decide +kernel
theorem dX0_teeth_13 : decode cX0_teeth 13 = .ok (.goto 9, 3) := by decide +kernel
theorem dX0_teeth_16 : decode cX0_teeth 16 = .ok (.aload_n 0, 1) := by decide +kernel
theorem dX0_teeth_17 : decode cX0_teeth 17 = .ok (.getfield 13, 3) := by decide +kernel
theorem dX0_teeth_20 : decode cX0_teeth 20 = .ok (.iload_n 1, 1) := by decide +kernel
theorem dX0_teeth_21 : decode cX0_teeth 21 = .ok (.iaload, 1) := by decide +kernel
theorem dX0_teeth_22 : decode cX0_teeth 22 = .ok (.ireturn, 1) := by decide +kernel
set_option maxRecDepth 20000 in
theorem ggX0_plain_X0_isNoNumberOfParts : GoodIn wsX0_plain wsX0_isNoNumberOfParts := goodIn_r _ [5, 6, 7, 4, 8] (by decide +kernel) (by decide +kernel)
set_option maxRecDepth 20000 in
theorem gX0_plain_X0_isNoNumberOfParts : GoodIn wsX0_plain (va_wsS RX0 50 yX0_isNoNumberOfParts wsX0_isNoNumberOfParts) := goodIn_app (goodIn_of _ (by decide +kernel)) ggX0_plain_X0_isNoNumberOfParts
set_option maxRecDepth 20000 in
theorem ggX0_plain_X0_isOutside : GoodIn wsX0_plain wsX0_isOutside := goodIn_r _ [8] (by decide +kernel) (by decide +kernel)
set_option maxRecDepth 20000 in
theorem gX0_plain_X0_isOutside : GoodIn wsX0_plain (va_wsS RX0 32 yX0_isOutside wsX0_isOutside) := goodIn_app (goodIn_of _ (by decide +kernel)) ggX0_plain_X0_isOutside
set_option maxRecDepth 20000 in
theorem ggX0_plain_X0_plainCircle : GoodIn wsX0_plain wsX0_plainCircle := goodIn_r _ [12, 13, 1, 14, 15, 16, 4, 17, 22, 23, 24, 25, 26, 27, 28, 29, 30] (by decide +kernel) (by decide +kernel)
set_option maxRecDepth 20000 in
theorem gX0_plain_X0_plainCircle : GoodIn wsX0_plain (wsV RX0 53 RX0 yX0_plainCircle wsX0_plainCircle) := goodIn_app (goodIn_of _ (by decide +kernel)) ggX0_plain_X0_plainCircle
set_option maxRecDepth 20000 in
theorem ggX0_plain_X0_holesAt : GoodIn wsX0_plain wsX0_holesAt := goodIn_r _ [21, 13, 14, 22, 23, 24, 25, 26, 27, 28, 29, 30] (by decide +kernel) (by decide +kernel)
set_option maxRecDepth 20000 in
theorem gX0_plain_X0_holesAt : GoodIn wsX0_plain (wsV RX0 43 RX0 yX0_holesAt wsX0_holesAt) := goodIn_app (goodIn_of _ (by decide +kernel)) ggX0_plain_X0_holesAt
theorem dX0_plain_0 : decode cX0_plain 0 = .ok (.iload_n 1, 1) := by decide +kernel
theorem dX0_plain_1 : decode cX0_plain 1 = .ok (.invokestatic 50, 3) := by decide +kernel
theorem dX0_plain_4 : decode cX0_plain 4 = .ok (.ifCond .ne 12, 3) := by decide +kernel
theorem dX0_plain_7 : decode cX0_plain 7 = .ok (.iload_n 2, 1) := by decide +kernel
theorem dX0_plain_8 : decode cX0_plain 8 = .ok (.iconst 0, 1) := by decide +kernel
theorem dX0_plain_9 : decode cX0_plain 9 = .ok (.iconst 2, 1) := by decide +kernel
theorem dX0_plain_10 : decode cX0_plain 10 = .ok (.invokestatic 32, 3) := by decide +kernel
theorem dX0_plain_13 : decode cX0_plain 13 = .ok (.ifCond .eq 6, 3) := by decide +kernel
theorem dX0_plain_16 : decode cX0_plain 16 = .ok (.bipush (-2), 2) := by decide +kernel
theorem dX0_plain_18 : decode cX0_plain 18 = .ok (.ireturn, 1) := by decide +kernel
theorem dX0_plain_19 : decode cX0_plain 19 = .ok (.aload_n 0, 1) := by decide +kernel
theorem dX0_plain_20 : decode cX0_plain 20 = .ok (.iload_n 1, 1) := by decide +kernel
theorem dX0_plain_21 : decode cX0_plain 21 = .ok (.invokevirtual 53, 3) := by decide +kernel
theorem dX0_plain_24 : decode cX0_plain 24 = .ok (.istore_n 3, 1) := by decide +kernel
theorem dX0_plain_25 : decode cX0_plain 25 = .ok (.iload_n 2, 1) := by decide +kernel
theorem dX0_plain_26 : decode cX0_plain 26 = .ok (.ifCond .eq 9, 3) := by decide +kernel
theorem dX0_plain_29 : decode cX0_plain 29 = .ok (.iload_n 3, 1) := by decide +kernel
theorem dX0_plain_30 : decode cX0_plain 30 = .ok (.bipush (-6), 2) := by decide +kernel
theorem dX0_plain_32 : decode cX0_plain 32 = .ok (.if_icmp .ne 5, 3) := by decide +kernel
theorem dX0_plain_35 : decode cX0_plain 35 = .ok (.iload_n 3, 1) := by decide +kernel
theorem dX0_plain_36 : decode cX0_plain 36 = .ok (.ireturn, 1) := by decide +kernel
theorem dX0_plain_37 : decode cX0_plain 37 = .ok (.iload_n 2, 1) := by decide +kernel
theorem dX0_plain_38 : decode cX0_plain 38 = .ok (.iconst 1, 1) := by decide +kernel
theorem dX0_plain_39 : decode cX0_plain 39 = .ok (.if_icmp .ne 12, 3) := by decide +kernel
theorem dX0_plain_42 : decode cX0_plain 42 = .ok (.aload_n 0, 1) := by decide +kernel
theorem dX0_plain_43 : decode cX0_plain 43 = .ok (.getfield 22, 3) := by decide +kernel
theorem dX0_plain_46 : decode cX0_plain 46 = .ok (.iload_n 1, 1) := by decide +kernel
theorem dX0_plain_47 : decode cX0_plain 47 = .ok (.idiv, 1) := by decide +kernel
theorem dX0_plain_48 : decode cX0_plain 48 = .ok (.goto 17, 3) := by decide +kernel
theorem dX0_plain_51 : decode cX0_plain 51 = .ok (.aload_n 0, 1) := by decide +kernel
theorem dX0_plain_52 : decode cX0_plain 52 = .ok (.getfield 22, 3) := by decide +kernel
theorem dX0_plain_55 : decode cX0_plain 55 = .ok (.iload_n 1, 1) := by decide +kernel
theorem dX0_plain_56 : decode cX0_plain 56 = .ok (.irem, 1) := by decide +kernel
theorem dX0_plain_57 : decode cX0_plain 57 = .ok (.aload_n 0, 1) := by decide +kernel
theorem dX0_plain_58 : decode cX0_plain 58 = .ok (.iload_n 3, 1) := by decide +kernel
theorem dX0_plain_59 : decode cX0_plain 59 = .ok (.invokevirtual 43, 3) := by decide +kernel
theorem dX0_plain_62 : decode cX0_plain 62 = .ok (.imul, 1) := by decide +kernel
theorem dX0_plain_63 : decode cX0_plain 63 = .ok (.iload_n 1, 1) := by decide +kernel
theorem dX0_plain_64 : decode cX0_plain 64 = .ok (.idiv, 1) := by decide +kernel
theorem dX0_plain_65 : decode cX0_plain 65 = .ok (.ireturn, 1) := by decide +kernel
set_option maxRecDepth 20000 in
theorem ggX0_compound_X0_isNoNumberOfParts : GoodIn wsX0_compound wsX0_isNoNumberOfParts := goodIn_r _ [8, 9, 10, 7, 11] (by decide +kernel) (by decide +kernel)
set_option maxRecDepth 20000 in
theorem gX0_compound_X0_isNoNumberOfParts : GoodIn wsX0_compound (va_wsS RX0 50 yX0_isNoNumberOfParts wsX0_isNoNumberOfParts) := goodIn_app (goodIn_of _ (by decide +kernel)) ggX0_compound_X0_isNoNumberOfParts
set_option maxRecDepth 20000 in
theorem ggX0_compound_X0_isOutside : GoodIn wsX0_compound wsX0_isOutside := goodIn_r _ [11] (by decide +kernel) (by decide +kernel)
set_option maxRecDepth 20000 in
theorem gX0_compound_X0_isOutside : GoodIn wsX0_compound (va_wsS RX0 32 yX0_isOutside wsX0_isOutside) := goodIn_app (goodIn_of _ (by decide +kernel)) ggX0_compound_X0_isOutside
set_option maxRecDepth 20000 in
theorem ggX0_compound_X0_secondStep : GoodIn wsX0_compound wsX0_secondStep := goodIn_r _ [15, 16, 17, 18, 7, 19, 20, 21, 22, 23, 28, 29, 30, 31, 32, 33, 34, 35, 36] (by decide +kernel) (by decide +kernel)
set_option maxRecDepth 20000 in
theorem gX0_compound_X0_secondStep : GoodIn wsX0_compound (wsV RX0 57 RX0 yX0_secondStep wsX0_secondStep) := goodIn_app (goodIn_of _ (by decide +kernel)) ggX0_compound_X0_secondStep
set_option maxRecDepth 20000 in
theorem ggX0_compound_X0_compoundTerm : GoodIn wsX0_compound wsX0_compoundTerm := goodIn_r _ [27, 3, 16, 17, 18, 7, 19, 20, 21, 22, 23, 28, 29, 30, 31, 32, 33, 34, 35, 36] (by decide +kernel) (by decide +kernel)
set_option maxRecDepth 20000 in
theorem gX0_compound_X0_compoundTerm : GoodIn wsX0_compound (wsV RX0 61 RX0 yX0_compoundTerm wsX0_compoundTerm) := goodIn_app (goodIn_of _ (by decide +kernel)) ggX0_compound_X0_compoundTerm
theorem dX0_compound_0 : decode cX0_compound 0 = .ok (.iload_n 1, 1) := by decide +kernel
theorem dX0_compound_1 : decode cX0_compound 1 = .ok (.invokestatic 50, 3) := by decide +kernel
theorem dX0_compound_4 : decode cX0_compound 4 = .ok (.ifCond .ne 12, 3) := by decide +kernel
theorem dX0_compound_7 : decode cX0_compound 7 = .ok (.iload_n 2, 1) := by decide +kernel
theorem dX0_compound_8 : decode cX0_compound 8 = .ok (.iconst 0, 1) := by decide +kernel
theorem dX0_compound_9 : decode cX0_compound 9 = .ok (.iconst 3, 1) := by decide +kernel
theorem dX0_compound_10 : decode cX0_compound 10 = .ok (.invokestatic 32, 3) := by decide +kernel
theorem dX0_compound_13 : decode cX0_compound 13 = .ok (.ifCond .eq 6, 3) := by decide +kernel
theorem dX0_compound_16 : decode cX0_compound 16 = .ok (.ldc 56, 2) := by decide +kernel
theorem dX0_compound_18 : decode cX0_compound 18 = .ok (.ireturn, 1) := by decide +kernel
theorem dX0_compound_19 : decode cX0_compound 19 = .ok (.iconst 0, 1) := by decide +kernel
theorem dX0_compound_20 : decode cX0_compound 20 = .ok (.istore_n 3, 1) := by decide +kernel
theorem dX0_compound_21 : decode cX0_compound 21 = .ok (.iload_n 3, 1) := by decide +kernel
theorem dX0_compound_22 : decode cX0_compound 22 = .ok (.aload_n 0, 1) := by decide +kernel
theorem dX0_compound_23 : decode cX0_compound 23 = .ok (.getfield 36, 3) := by decide +kernel
theorem dX0_compound_26 : decode cX0_compound 26 = .ok (.if_icmp .ge 66, 3) := by decide +kernel
theorem dX0_compound_29 : decode cX0_compound 29 = .ok (.iload_n 3, 1) := by decide +kernel
theorem dX0_compound_30 : decode cX0_compound 30 = .ok (.iconst 1, 1) := by decide +kernel
theorem dX0_compound_31 : decode cX0_compound 31 = .ok (.iadd, 1) := by decide +kernel
theorem dX0_compound_32 : decode cX0_compound 32 = .ok (.istore 4, 2) := by decide +kernel
theorem dX0_compound_34 : decode cX0_compound 34 = .ok (.iload 4, 2) := by decide +kernel
theorem dX0_compound_36 : decode cX0_compound 36 = .ok (.aload_n 0, 1) := by decide +kernel
theorem dX0_compound_37 : decode cX0_compound 37 = .ok (.getfield 36, 3) := by decide +kernel
theorem dX0_compound_40 : decode cX0_compound 40 = .ok (.if_icmp .ge 46, 3) := by decide +kernel
theorem dX0_compound_43 : decode cX0_compound 43 = .ok (.aload_n 0, 1) := by decide +kernel
theorem dX0_compound_44 : decode cX0_compound 44 = .ok (.aload_n 0, 1) := by decide +kernel
theorem dX0_compound_45 : decode cX0_compound 45 = .ok (.getfield 9, 3) := by decide +kernel
theorem dX0_compound_48 : decode cX0_compound 48 = .ok (.iload_n 3, 1) := by decide +kernel
theorem dX0_compound_49 : decode cX0_compound 49 = .ok (.iaload, 1) := by decide +kernel
theorem dX0_compound_50 : decode cX0_compound 50 = .ok (.aload_n 0, 1) := by decide +kernel
theorem dX0_compound_51 : decode cX0_compound 51 = .ok (.getfield 9, 3) := by decide +kernel
theorem dX0_compound_54 : decode cX0_compound 54 = .ok (.iload 4, 2) := by decide +kernel
theorem dX0_compound_56 : decode cX0_compound 56 = .ok (.iaload, 1) := by decide +kernel
theorem dX0_compound_57 : decode cX0_compound 57 = .ok (.iload_n 1, 1) := by decide +kernel
theorem dX0_compound_58 : decode cX0_compound 58 = .ok (.invokevirtual 57, 3) := by decide +kernel
theorem dX0_compound_61 : decode cX0_compound 61 = .ok (.istore 5, 2) := by decide +kernel
theorem dX0_compound_63 : decode cX0_compound 63 = .ok (.iload 5, 2) := by decide +kernel
theorem dX0_compound_65 : decode cX0_compound 65 = .ok (.ifCond .eq 15, 3) := by decide +kernel
theorem dX0_compound_68 : decode cX0_compound 68 = .ok (.aload_n 0, 1) := by decide +kernel
theorem dX0_compound_69 : decode cX0_compound 69 = .ok (.iload_n 3, 1) := by decide +kernel
theorem dX0_compound_70 : decode cX0_compound 70 = .ok (.iload 4, 2) := by decide +kernel
theorem dX0_compound_72 : decode cX0_compound 72 = .ok (.iload_n 1, 1) := by decide +kernel
theorem dX0_compound_73 : decode cX0_compound 73 = .ok (.iload 5, 2) := by decide +kernel
theorem dX0_compound_75 : decode cX0_compound 75 = .ok (.iload_n 2, 1) := by decide +kernel
theorem dX0_compound_76 : decode cX0_compound 76 = .ok (.invokevirtual 61, 3) := by decide +kernel
theorem dX0_compound_79 : decode cX0_compound 79 = .ok (.ireturn, 1) := by decide +kernel
theorem dX0_compound_80 : decode cX0_compound 80 = .ok (.iinc 4 1, 3) := by decide +kernel
theorem dX0_compound_83 : decode cX0_compound 83 = .ok (.goto (-49), 3) := by decide +kernel
theorem dX0_compound_86 : decode cX0_compound 86 = .ok (.iinc 3 1, 3) := by decide +kernel
theorem dX0_compound_89 : decode cX0_compound 89 = .ok (.goto (-68), 3) := by decide +kernel
theorem dX0_compound_92 : decode cX0_compound 92 = .ok (.ldc 65, 2) := by decide +kernel
theorem dX0_compound_94 : decode cX0_compound 94 = .ok (.ireturn, 1) := by decide +kernel
set_option maxRecDepth 20000 in
theorem ggX0_differential_X0_isNoNumberOfParts : GoodIn wsX0_differential wsX0_isNoNumberOfParts := goodIn_r _ [5, 6, 7, 4, 8] (by decide +kernel) (by decide +kernel)
set_option maxRecDepth 20000 in
theorem gX0_differential_X0_isNoNumberOfParts : GoodIn wsX0_differential (va_wsS RX0 50 yX0_isNoNumberOfParts wsX0_isNoNumberOfParts) := goodIn_app (goodIn_of _ (by decide +kernel)) ggX0_differential_X0_isNoNumberOfParts
set_option maxRecDepth 20000 in
theorem ggX0_differential_X0_isOutside : GoodIn wsX0_differential wsX0_isOutside := goodIn_r _ [8] (by decide +kernel) (by decide +kernel)
set_option maxRecDepth 20000 in
theorem gX0_differential_X0_isOutside : GoodIn wsX0_differential (va_wsS RX0 32 yX0_isOutside wsX0_isOutside) := goodIn_app (goodIn_of _ (by decide +kernel)) ggX0_differential_X0_isOutside
set_option maxRecDepth 20000 in
theorem ggX0_differential_X0_partsBeside : GoodIn wsX0_differential wsX0_partsBeside := goodIn_r _ [12, 13, 14, 15, 4, 16, 17, 18, 19, 20, 21, 2, 3, 5, 6, 7, 8, 22, 23, 24, 25, 26, 27, 28, 29, 30, 31, 32, 33, 34, 35, 36, 37, 38, 39, 40, 41, 42, 43, 44, 45, 46, 47, 48, 1, 49, 50, 51, 52, 53, 54, 55, 56, 57, 58, 59, 60, 61, 62, 63, 64, 65] (by decide +kernel) (by decide +kernel)
set_option maxRecDepth 20000 in
theorem gX0_differential_X0_partsBeside : GoodIn wsX0_differential (wsV RX0 66 RX0 yX0_partsBeside wsX0_partsBeside) := goodIn_app (goodIn_of _ (by decide +kernel)) ggX0_differential_X0_partsBeside
set_option maxRecDepth 20000 in
theorem ggX0_differential_X0_plainCircle : GoodIn wsX0_differential wsX0_plainCircle := goodIn_r _ [25, 26, 21, 27, 28, 29, 4, 30, 57, 58, 59, 60, 61, 62, 63, 64, 65] (by decide +kernel) (by decide +kernel)
set_option maxRecDepth 20000 in
theorem gX0_differential_X0_plainCircle : GoodIn wsX0_differential (wsV RX0 53 RX0 yX0_plainCircle wsX0_plainCircle) := goodIn_app (goodIn_of _ (by decide +kernel)) ggX0_differential_X0_plainCircle
theorem dX0_differential_0 : decode cX0_differential 0 = .ok (.iload_n 1, 1) := by decide +kernel
theorem dX0_differential_1 : decode cX0_differential 1 = .ok (.invokestatic 50, 3) := by decide +kernel
theorem dX0_differential_4 : decode cX0_differential 4 = .ok (.ifCond .ne 13, 3) := by decide +kernel
theorem dX0_differential_7 : decode cX0_differential 7 = .ok (.iload_n 2, 1) := by decide +kernel
theorem dX0_differential_8 : decode cX0_differential 8 = .ok (.iconst 0, 1) := by decide +kernel
theorem dX0_differential_9 : decode cX0_differential 9 = .ok (.bipush 6, 2) := by decide +kernel
theorem dX0_differential_11 : decode cX0_differential 11 = .ok (.invokestatic 32, 3) := by decide +kernel
theorem dX0_differential_14 : decode cX0_differential 14 = .ok (.ifCond .eq 6, 3) := by decide +kernel
theorem dX0_differential_17 : decode cX0_differential 17 = .ok (.bipush (-2), 2) := by decide +kernel
theorem dX0_differential_19 : decode cX0_differential 19 = .ok (.ireturn, 1) := by decide +kernel
theorem dX0_differential_20 : decode cX0_differential 20 = .ok (.aload_n 0, 1) := by decide +kernel
theorem dX0_differential_21 : decode cX0_differential 21 = .ok (.iload_n 1, 1) := by decide +kernel
theorem dX0_differential_22 : decode cX0_differential 22 = .ok (.invokevirtual 66, 3) := by decide +kernel
theorem dX0_differential_25 : decode cX0_differential 25 = .ok (.istore_n 3, 1) := by decide +kernel
theorem dX0_differential_26 : decode cX0_differential 26 = .ok (.iload_n 2, 1) := by decide +kernel
theorem dX0_differential_27 : decode cX0_differential 27 = .ok (.ifCond .eq 9, 3) := by decide +kernel
theorem dX0_differential_30 : decode cX0_differential 30 = .ok (.iload_n 3, 1) := by decide +kernel
theorem dX0_differential_31 : decode cX0_differential 31 = .ok (.bipush (-6), 2) := by decide +kernel
theorem dX0_differential_33 : decode cX0_differential 33 = .ok (.if_icmp .ne 5, 3) := by decide +kernel
theorem dX0_differential_36 : decode cX0_differential 36 = .ok (.iload_n 3, 1) := by decide +kernel
theorem dX0_differential_37 : decode cX0_differential 37 = .ok (.ireturn, 1) := by decide +kernel
theorem dX0_differential_38 : decode cX0_differential 38 = .ok (.iload_n 2, 1) := by decide +kernel
theorem dX0_differential_39 : decode cX0_differential 39 = .ok (.iconst 1, 1) := by decide +kernel
theorem dX0_differential_40 : decode cX0_differential 40 = .ok (.if_icmp .ne 9, 3) := by decide +kernel
theorem dX0_differential_43 : decode cX0_differential 43 = .ok (.aload_n 0, 1) := by decide +kernel
theorem dX0_differential_44 : decode cX0_differential 44 = .ok (.iload_n 3, 1) := by decide +kernel
theorem dX0_differential_45 : decode cX0_differential 45 = .ok (.invokevirtual 53, 3) := by decide +kernel
theorem dX0_differential_48 : decode cX0_differential 48 = .ok (.ireturn, 1) := by decide +kernel
theorem dX0_differential_49 : decode cX0_differential 49 = .ok (.iload_n 2, 1) := by decide +kernel
theorem dX0_differential_50 : decode cX0_differential 50 = .ok (.bipush 6, 2) := by decide +kernel
theorem dX0_differential_52 : decode cX0_differential 52 = .ok (.if_icmp .ne 14, 3) := by decide +kernel
theorem dX0_differential_55 : decode cX0_differential 55 = .ok (.iload_n 3, 1) := by decide +kernel
theorem dX0_differential_56 : decode cX0_differential 56 = .ok (.iload_n 1, 1) := by decide +kernel
theorem dX0_differential_57 : decode cX0_differential 57 = .ok (.if_icmp .le 7, 3) := by decide +kernel
theorem dX0_differential_60 : decode cX0_differential 60 = .ok (.iconst 1, 1) := by decide +kernel
theorem dX0_differential_61 : decode cX0_differential 61 = .ok (.goto 4, 3) := by decide +kernel
theorem dX0_differential_64 : decode cX0_differential 64 = .ok (.iconst 0, 1) := by decide +kernel
theorem dX0_differential_65 : decode cX0_differential 65 = .ok (.ireturn, 1) := by decide +kernel
theorem dX0_differential_66 : decode cX0_differential 66 = .ok (.aload_n 0, 1) := by decide +kernel
theorem dX0_differential_67 : decode cX0_differential 67 = .ok (.getfield 19, 3) := by decide +kernel
theorem dX0_differential_70 : decode cX0_differential 70 = .ok (.iload_n 2, 1) := by decide +kernel
theorem dX0_differential_71 : decode cX0_differential 71 = .ok (.iconst 2, 1) := by decide +kernel
theorem dX0_differential_72 : decode cX0_differential 72 = .ok (.isub, 1) := by decide +kernel
theorem dX0_differential_73 : decode cX0_differential 73 = .ok (.iaload, 1) := by decide +kernel
theorem dX0_differential_74 : decode cX0_differential 74 = .ok (.ireturn, 1) := by decide +kernel
set_option maxRecDepth 20000 in
theorem ggX0_train_X0_isNoShare : GoodIn wsX0_train wsX0_isNoShare := goodIn_r _ [5, 6, 7, 8, 4, 9] (by decide +kernel) (by decide +kernel)
set_option maxRecDepth 20000 in
theorem gX0_train_X0_isNoShare : GoodIn wsX0_train (va_wsS RX0 69 yX0_isNoShare wsX0_isNoShare) := goodIn_app (goodIn_of _ (by decide +kernel)) ggX0_train_X0_isNoShare
set_option maxRecDepth 20000 in
theorem ggX0_train_X0_isOutside : GoodIn wsX0_train wsX0_isOutside := goodIn_r _ [9] (by decide +kernel) (by decide +kernel)
set_option maxRecDepth 20000 in
theorem gX0_train_X0_isOutside : GoodIn wsX0_train (va_wsS RX0 32 yX0_isOutside wsX0_isOutside) := goodIn_app (goodIn_of _ (by decide +kernel)) ggX0_train_X0_isOutside
set_option maxRecDepth 20000 in
theorem ggX0_train_X0_findTrain : GoodIn wsX0_train wsX0_findTrain := goodIn_r _ [13, 14, 15, 16, 4, 17, 18, 19, 20, 21, 22, 23, 24, 25, 26, 27, 28, 29, 30, 1, 31, 32, 33, 34, 35, 36, 37, 38, 39, 40, 41, 42, 43, 44, 45, 46, 47] (by decide +kernel) (by decide +kernel)
set_option maxRecDepth 20000 in
theorem gX0_train_X0_findTrain : GoodIn wsX0_train (wsV RX0 73 RX0 yX0_findTrain wsX0_findTrain) := goodIn_app (goodIn_of _ (by decide +kernel)) ggX0_train_X0_findTrain
theorem dX0_train_0 : decode cX0_train 0 = .ok (.iload_n 1, 1) := by decide +kernel
theorem dX0_train_1 : decode cX0_train 1 = .ok (.iload_n 2, 1) := by decide +kernel
theorem dX0_train_2 : decode cX0_train 2 = .ok (.invokestatic 69, 3) := by decide +kernel
theorem dX0_train_5 : decode cX0_train 5 = .ok (.ifCond .ne 12, 3) := by decide +kernel
theorem dX0_train_8 : decode cX0_train 8 = .ok (.iload_n 3, 1) := by decide +kernel
theorem dX0_train_9 : decode cX0_train 9 = .ok (.iconst 0, 1) := by decide +kernel
theorem dX0_train_10 : decode cX0_train 10 = .ok (.iconst 3, 1) := by decide +kernel
theorem dX0_train_11 : decode cX0_train 11 = .ok (.invokestatic 32, 3) := by decide +kernel
theorem dX0_train_14 : decode cX0_train 14 = .ok (.ifCond .eq 6, 3) := by decide +kernel
theorem dX0_train_17 : decode cX0_train 17 = .ok (.bipush (-2), 2) := by decide +kernel
theorem dX0_train_19 : decode cX0_train 19 = .ok (.ireturn, 1) := by decide +kernel
theorem dX0_train_20 : decode cX0_train 20 = .ok (.aload_n 0, 1) := by decide +kernel
theorem dX0_train_21 : decode cX0_train 21 = .ok (.iload_n 1, 1) := by decide +kernel
theorem dX0_train_22 : decode cX0_train 22 = .ok (.i2l, 1) := by decide +kernel
theorem dX0_train_23 : decode cX0_train 23 = .ok (.iload_n 2, 1) := by decide +kernel
theorem dX0_train_24 : decode cX0_train 24 = .ok (.i2l, 1) := by decide +kernel
theorem dX0_train_25 : decode cX0_train 25 = .ok (.invokevirtual 73, 3) := by decide +kernel
theorem dX0_train_28 : decode cX0_train 28 = .ok (.ifCond .eq 12, 3) := by decide +kernel
theorem dX0_train_31 : decode cX0_train 31 = .ok (.aload_n 0, 1) := by decide +kernel
theorem dX0_train_32 : decode cX0_train 32 = .ok (.getfield 19, 3) := by decide +kernel
theorem dX0_train_35 : decode cX0_train 35 = .ok (.iload_n 3, 1) := by decide +kernel
theorem dX0_train_36 : decode cX0_train 36 = .ok (.iaload, 1) := by decide +kernel
theorem dX0_train_37 : decode cX0_train 37 = .ok (.goto 5, 3) := by decide +kernel
theorem dX0_train_40 : decode cX0_train 40 = .ok (.bipush (-6), 2) := by decide +kernel
theorem dX0_train_42 : decode cX0_train 42 = .ok (.ireturn, 1) := by decide +kernel
set_option maxRecDepth 20000 in
theorem ggX0_hole_X0_holesAt : GoodIn wsX0_hole wsX0_holesAt := goodIn_r _ [5, 6, 7, 23, 24, 25, 26, 27, 28, 29, 30, 31] (by decide +kernel) (by decide +kernel)
set_option maxRecDepth 20000 in
theorem gX0_hole_X0_holesAt : GoodIn wsX0_hole (wsV RX0 43 RX0 yX0_holesAt wsX0_holesAt) := goodIn_app (goodIn_of _ (by decide +kernel)) ggX0_hole_X0_holesAt
set_option maxRecDepth 20000 in
theorem ggX0_hole_X0_isNoNumberOfParts : GoodIn wsX0_hole wsX0_isNoNumberOfParts := goodIn_r _ [10, 11, 12, 4, 13] (by decide +kernel) (by decide +kernel)
set_option maxRecDepth 20000 in
theorem gX0_hole_X0_isNoNumberOfParts : GoodIn wsX0_hole (va_wsS RX0 50 yX0_isNoNumberOfParts wsX0_isNoNumberOfParts) := goodIn_app (goodIn_of _ (by decide +kernel)) ggX0_hole_X0_isNoNumberOfParts
set_option maxRecDepth 20000 in
theorem ggX0_hole_X0_isOutside : GoodIn wsX0_hole wsX0_isOutside := goodIn_r _ [13] (by decide +kernel) (by decide +kernel)
set_option maxRecDepth 20000 in
theorem gX0_hole_X0_isOutside : GoodIn wsX0_hole (va_wsS RX0 32 yX0_isOutside wsX0_isOutside) := goodIn_app (goodIn_of _ (by decide +kernel)) ggX0_hole_X0_isOutside
set_option maxRecDepth 20000 in
theorem ggX0_hole_X0_nearestHole : GoodIn wsX0_hole wsX0_nearestHole := goodIn_r _ [17, 18, 19, 20, 4, 21, 22, 23, 24, 25, 26, 27, 28, 29, 30, 31] (by decide +kernel) (by decide +kernel)
set_option maxRecDepth 20000 in
theorem gX0_hole_X0_nearestHole : GoodIn wsX0_hole (wsV RX0 77 RX0 yX0_nearestHole wsX0_nearestHole) := goodIn_app (goodIn_of _ (by decide +kernel)) ggX0_hole_X0_nearestHole
theorem dX0_hole_0 : decode cX0_hole 0 = .ok (.aload_n 0, 1) := by decide +kernel
theorem dX0_hole_1 : decode cX0_hole 1 = .ok (.iload_n 1, 1) := by decide +kernel
theorem dX0_hole_2 : decode cX0_hole 2 = .ok (.invokevirtual 43, 3) := by decide +kernel
theorem dX0_hole_5 : decode cX0_hole 5 = .ok (.istore 4, 2) := by decide +kernel
theorem dX0_hole_7 : decode cX0_hole 7 = .ok (.iload 4, 2) := by decide +kernel
theorem dX0_hole_9 : decode cX0_hole 9 = .ok (.ifCond .ne 5, 3) := by decide +kernel
theorem dX0_hole_12 : decode cX0_hole 12 = .ok (.iconst (-1), 1) := by decide +kernel
theorem dX0_hole_13 : decode cX0_hole 13 = .ok (.ireturn, 1) := by decide +kernel
theorem dX0_hole_14 : decode cX0_hole 14 = .ok (.iload_n 2, 1) := by decide +kernel
theorem dX0_hole_15 : decode cX0_hole 15 = .ok (.invokestatic 50, 3) := by decide +kernel
theorem dX0_hole_18 : decode cX0_hole 18 = .ok (.ifCond .ne 12, 3) := by decide +kernel
theorem dX0_hole_21 : decode cX0_hole 21 = .ok (.iload_n 3, 1) := by decide +kernel
theorem dX0_hole_22 : decode cX0_hole 22 = .ok (.iconst 0, 1) := by decide +kernel
theorem dX0_hole_23 : decode cX0_hole 23 = .ok (.iload_n 2, 1) := by decide +kernel
theorem dX0_hole_24 : decode cX0_hole 24 = .ok (.invokestatic 32, 3) := by decide +kernel
theorem dX0_hole_27 : decode cX0_hole 27 = .ok (.ifCond .eq 6, 3) := by decide +kernel
theorem dX0_hole_30 : decode cX0_hole 30 = .ok (.bipush (-2), 2) := by decide +kernel
theorem dX0_hole_32 : decode cX0_hole 32 = .ok (.ireturn, 1) := by decide +kernel
theorem dX0_hole_33 : decode cX0_hole 33 = .ok (.aload_n 0, 1) := by decide +kernel
theorem dX0_hole_34 : decode cX0_hole 34 = .ok (.iload 4, 2) := by decide +kernel
theorem dX0_hole_36 : decode cX0_hole 36 = .ok (.iload_n 2, 1) := by decide +kernel
theorem dX0_hole_37 : decode cX0_hole 37 = .ok (.iload_n 3, 1) := by decide +kernel
theorem dX0_hole_38 : decode cX0_hole 38 = .ok (.invokevirtual 77, 3) := by decide +kernel
theorem dX0_hole_41 : decode cX0_hole 41 = .ok (.ireturn, 1) := by decide +kernel
set_option maxRecDepth 20000 in
theorem ggX0_miss_X0_holesAt : GoodIn wsX0_miss wsX0_holesAt := goodIn_r _ [7, 8, 9, 39, 40, 41, 42, 43, 44, 45, 46, 47] (by decide +kernel) (by decide +kernel)
set_option maxRecDepth 20000 in
theorem gX0_miss_X0_holesAt : GoodIn wsX0_miss (wsV RX0 43 RX0 yX0_holesAt wsX0_holesAt) := goodIn_app (goodIn_of _ (by decide +kernel)) ggX0_miss_X0_holesAt
set_option maxRecDepth 20000 in
theorem ggX0_miss_X0_isNoNumberOfParts : GoodIn wsX0_miss wsX0_isNoNumberOfParts := goodIn_r _ [12, 13, 14, 6, 15] (by decide +kernel) (by decide +kernel)
set_option maxRecDepth 20000 in
theorem gX0_miss_X0_isNoNumberOfParts : GoodIn wsX0_miss (va_wsS RX0 50 yX0_isNoNumberOfParts wsX0_isNoNumberOfParts) := goodIn_app (goodIn_of _ (by decide +kernel)) ggX0_miss_X0_isNoNumberOfParts
set_option maxRecDepth 20000 in
theorem ggX0_miss_X0_isOutside : GoodIn wsX0_miss wsX0_isOutside := goodIn_r _ [15] (by decide +kernel) (by decide +kernel)
set_option maxRecDepth 20000 in
theorem gX0_miss_X0_isOutside : GoodIn wsX0_miss (va_wsS RX0 32 yX0_isOutside wsX0_isOutside) := goodIn_app (goodIn_of _ (by decide +kernel)) ggX0_miss_X0_isOutside
set_option maxRecDepth 20000 in
theorem ggX0_miss_X0_missUpper : GoodIn wsX0_miss wsX0_missUpper := goodIn_r _ [19, 20, 21, 22, 23, 6, 24, 25, 26, 27, 28, 39, 40, 41, 42, 43, 44, 45, 46, 47] (by decide +kernel) (by decide +kernel)
set_option maxRecDepth 20000 in
theorem gX0_miss_X0_missUpper : GoodIn wsX0_miss (wsV RX0 81 RX0 yX0_missUpper wsX0_missUpper) := goodIn_app (goodIn_of _ (by decide +kernel)) ggX0_miss_X0_missUpper
set_option maxRecDepth 20000 in
theorem ggX0_miss_X0_lowestTerm : GoodIn wsX0_miss wsX0_lowestTerm := goodIn_r _ [31, 32, 33, 34, 35, 36, 37, 6, 38] (by decide +kernel) (by decide +kernel)
set_option maxRecDepth 20000 in
theorem gX0_miss_X0_lowestTerm : GoodIn wsX0_miss (va_wsS RX0 84 yX0_lowestTerm wsX0_lowestTerm) := goodIn_app (goodIn_of _ (by decide +kernel)) ggX0_miss_X0_lowestTerm
theorem dX0_miss_0 : decode cX0_miss 0 = .ok (.aload_n 0, 1) := by decide +kernel
theorem dX0_miss_1 : decode cX0_miss 1 = .ok (.iload_n 1, 1) := by decide +kernel
theorem dX0_miss_2 : decode cX0_miss 2 = .ok (.invokevirtual 43, 3) := by decide +kernel
theorem dX0_miss_5 : decode cX0_miss 5 = .ok (.istore 5, 2) := by decide +kernel
theorem dX0_miss_7 : decode cX0_miss 7 = .ok (.iload 5, 2) := by decide +kernel
theorem dX0_miss_9 : decode cX0_miss 9 = .ok (.ifCond .ne 6, 3) := by decide +kernel
theorem dX0_miss_12 : decode cX0_miss 12 = .ok (.ldc 80, 2) := by decide +kernel
theorem dX0_miss_14 : decode cX0_miss 14 = .ok (.ireturn, 1) := by decide +kernel
theorem dX0_miss_15 : decode cX0_miss 15 = .ok (.iload_n 2, 1) := by decide +kernel
theorem dX0_miss_16 : decode cX0_miss 16 = .ok (.invokestatic 50, 3) := by decide +kernel
theorem dX0_miss_19 : decode cX0_miss 19 = .ok (.ifCond .ne 22, 3) := by decide +kernel
theorem dX0_miss_22 : decode cX0_miss 22 = .ok (.iload_n 3, 1) := by decide +kernel
theorem dX0_miss_23 : decode cX0_miss 23 = .ok (.iconst 0, 1) := by decide +kernel
theorem dX0_miss_24 : decode cX0_miss 24 = .ok (.iload_n 2, 1) := by decide +kernel
theorem dX0_miss_25 : decode cX0_miss 25 = .ok (.invokestatic 32, 3) := by decide +kernel
theorem dX0_miss_28 : decode cX0_miss 28 = .ok (.ifCond .ne 13, 3) := by decide +kernel
theorem dX0_miss_31 : decode cX0_miss 31 = .ok (.iload 4, 2) := by decide +kernel
theorem dX0_miss_33 : decode cX0_miss 33 = .ok (.iconst 0, 1) := by decide +kernel
theorem dX0_miss_34 : decode cX0_miss 34 = .ok (.iconst 1, 1) := by decide +kernel
theorem dX0_miss_35 : decode cX0_miss 35 = .ok (.invokestatic 32, 3) := by decide +kernel
theorem dX0_miss_38 : decode cX0_miss 38 = .ok (.ifCond .eq 6, 3) := by decide +kernel
theorem dX0_miss_41 : decode cX0_miss 41 = .ok (.ldc 56, 2) := by decide +kernel
theorem dX0_miss_43 : decode cX0_miss 43 = .ok (.ireturn, 1) := by decide +kernel
theorem dX0_miss_44 : decode cX0_miss 44 = .ok (.aload_n 0, 1) := by decide +kernel
theorem dX0_miss_45 : decode cX0_miss 45 = .ok (.iload 5, 2) := by decide +kernel
theorem dX0_miss_47 : decode cX0_miss 47 = .ok (.iload_n 2, 1) := by decide +kernel
theorem dX0_miss_48 : decode cX0_miss 48 = .ok (.iload_n 3, 1) := by decide +kernel
theorem dX0_miss_49 : decode cX0_miss 49 = .ok (.invokevirtual 81, 3) := by decide +kernel
theorem dX0_miss_52 : decode cX0_miss 52 = .ok (.i2l, 1) := by decide +kernel
theorem dX0_miss_53 : decode cX0_miss 53 = .ok (.iload_n 2, 1) := by decide +kernel
theorem dX0_miss_54 : decode cX0_miss 54 = .ok (.i2l, 1) := by decide +kernel
theorem dX0_miss_55 : decode cX0_miss 55 = .ok (.iload 4, 2) := by decide +kernel
theorem dX0_miss_57 : decode cX0_miss 57 = .ok (.invokestatic 84, 3) := by decide +kernel
theorem dX0_miss_60 : decode cX0_miss 60 = .ok (.ireturn, 1) := by decide +kernel
set_option maxRecDepth 20000 in
theorem ggX0_worst_X0_holesAt : GoodIn wsX0_worst wsX0_holesAt := goodIn_r _ [5, 6, 7, 51, 52, 53, 54, 55, 56, 57, 58, 59] (by decide +kernel) (by decide +kernel)
set_option maxRecDepth 20000 in
theorem gX0_worst_X0_holesAt : GoodIn wsX0_worst (wsV RX0 43 RX0 yX0_holesAt wsX0_holesAt) := goodIn_app (goodIn_of _ (by decide +kernel)) ggX0_worst_X0_holesAt
set_option maxRecDepth 20000 in
theorem ggX0_worst_X0_isNoNumberOfParts : GoodIn wsX0_worst wsX0_isNoNumberOfParts := goodIn_r _ [10, 11, 12, 4, 13] (by decide +kernel) (by decide +kernel)
set_option maxRecDepth 20000 in
theorem gX0_worst_X0_isNoNumberOfParts : GoodIn wsX0_worst (va_wsS RX0 50 yX0_isNoNumberOfParts wsX0_isNoNumberOfParts) := goodIn_app (goodIn_of _ (by decide +kernel)) ggX0_worst_X0_isNoNumberOfParts
set_option maxRecDepth 20000 in
theorem ggX0_worst_X0_isOutside : GoodIn wsX0_worst wsX0_isOutside := goodIn_r _ [13] (by decide +kernel) (by decide +kernel)
set_option maxRecDepth 20000 in
theorem gX0_worst_X0_isOutside : GoodIn wsX0_worst (va_wsS RX0 32 yX0_isOutside wsX0_isOutside) := goodIn_app (goodIn_of _ (by decide +kernel)) ggX0_worst_X0_isOutside
set_option maxRecDepth 20000 in
theorem ggX0_worst_X0_exactCuts : GoodIn wsX0_worst wsX0_exactCuts := goodIn_r _ [17, 18, 19, 20, 4, 21, 22, 23, 24, 25, 26, 27, 28, 29, 30, 51, 52, 53, 54, 55, 56, 57, 58, 59] (by decide +kernel) (by decide +kernel)
set_option maxRecDepth 20000 in
theorem gX0_worst_X0_exactCuts : GoodIn wsX0_worst (wsV RX0 88 RX0 yX0_exactCuts wsX0_exactCuts) := goodIn_app (goodIn_of _ (by decide +kernel)) ggX0_worst_X0_exactCuts
set_option maxRecDepth 20000 in
theorem ggX0_worst_X0_worstUpper : GoodIn wsX0_worst wsX0_worstUpper := goodIn_r _ [34, 35, 36, 37, 38, 39, 40, 41, 18, 19, 20, 4, 21, 22, 23, 24, 25, 26, 27, 28, 29, 30, 51, 52, 53, 54, 55, 56, 57, 58, 59] (by decide +kernel) (by decide +kernel)
set_option maxRecDepth 20000 in
theorem gX0_worst_X0_worstUpper : GoodIn wsX0_worst (wsV RX0 92 RX0 yX0_worstUpper wsX0_worstUpper) := goodIn_app (goodIn_of _ (by decide +kernel)) ggX0_worst_X0_worstUpper
set_option maxRecDepth 20000 in
theorem ggX0_worst_X0_lowestTerm : GoodIn wsX0_worst wsX0_lowestTerm := goodIn_r _ [44, 45, 46, 37, 47, 48, 49, 4, 50] (by decide +kernel) (by decide +kernel)
set_option maxRecDepth 20000 in
theorem gX0_worst_X0_lowestTerm : GoodIn wsX0_worst (va_wsS RX0 84 yX0_lowestTerm wsX0_lowestTerm) := goodIn_app (goodIn_of _ (by decide +kernel)) ggX0_worst_X0_lowestTerm
theorem dX0_worst_0 : decode cX0_worst 0 = .ok (.aload_n 0, 1) := by decide +kernel
theorem dX0_worst_1 : decode cX0_worst 1 = .ok (.iload_n 1, 1) := by decide +kernel
theorem dX0_worst_2 : decode cX0_worst 2 = .ok (.invokevirtual 43, 3) := by decide +kernel
theorem dX0_worst_5 : decode cX0_worst 5 = .ok (.istore 4, 2) := by decide +kernel
theorem dX0_worst_7 : decode cX0_worst 7 = .ok (.iload 4, 2) := by decide +kernel
theorem dX0_worst_9 : decode cX0_worst 9 = .ok (.ifCond .ne 5, 3) := by decide +kernel
theorem dX0_worst_12 : decode cX0_worst 12 = .ok (.iconst (-1), 1) := by decide +kernel
theorem dX0_worst_13 : decode cX0_worst 13 = .ok (.ireturn, 1) := by decide +kernel
theorem dX0_worst_14 : decode cX0_worst 14 = .ok (.iload_n 2, 1) := by decide +kernel
theorem dX0_worst_15 : decode cX0_worst 15 = .ok (.invokestatic 50, 3) := by decide +kernel
theorem dX0_worst_18 : decode cX0_worst 18 = .ok (.ifCond .ne 12, 3) := by decide +kernel
theorem dX0_worst_21 : decode cX0_worst 21 = .ok (.iload_n 3, 1) := by decide +kernel
theorem dX0_worst_22 : decode cX0_worst 22 = .ok (.iconst 0, 1) := by decide +kernel
theorem dX0_worst_23 : decode cX0_worst 23 = .ok (.iconst 2, 1) := by decide +kernel
theorem dX0_worst_24 : decode cX0_worst 24 = .ok (.invokestatic 32, 3) := by decide +kernel
theorem dX0_worst_27 : decode cX0_worst 27 = .ok (.ifCond .eq 6, 3) := by decide +kernel
theorem dX0_worst_30 : decode cX0_worst 30 = .ok (.bipush (-2), 2) := by decide +kernel
theorem dX0_worst_32 : decode cX0_worst 32 = .ok (.ireturn, 1) := by decide +kernel
theorem dX0_worst_33 : decode cX0_worst 33 = .ok (.iload_n 3, 1) := by decide +kernel
theorem dX0_worst_34 : decode cX0_worst 34 = .ok (.iconst 2, 1) := by decide +kernel
theorem dX0_worst_35 : decode cX0_worst 35 = .ok (.if_icmp .ne 13, 3) := by decide +kernel
theorem dX0_worst_38 : decode cX0_worst 38 = .ok (.aload_n 0, 1) := by decide +kernel
theorem dX0_worst_39 : decode cX0_worst 39 = .ok (.iload 4, 2) := by decide +kernel
theorem dX0_worst_41 : decode cX0_worst 41 = .ok (.iload_n 2, 1) := by decide +kernel
theorem dX0_worst_42 : decode cX0_worst 42 = .ok (.invokevirtual 88, 3) := by decide +kernel
theorem dX0_worst_45 : decode cX0_worst 45 = .ok (.goto 17, 3) := by decide +kernel
theorem dX0_worst_48 : decode cX0_worst 48 = .ok (.aload_n 0, 1) := by decide +kernel
theorem dX0_worst_49 : decode cX0_worst 49 = .ok (.iload 4, 2) := by decide +kernel
theorem dX0_worst_51 : decode cX0_worst 51 = .ok (.iload_n 2, 1) := by decide +kernel
theorem dX0_worst_52 : decode cX0_worst 52 = .ok (.invokevirtual 92, 3) := by decide +kernel
theorem dX0_worst_55 : decode cX0_worst 55 = .ok (.i2l, 1) := by decide +kernel
theorem dX0_worst_56 : decode cX0_worst 56 = .ok (.iload_n 2, 1) := by decide +kernel
theorem dX0_worst_57 : decode cX0_worst 57 = .ok (.i2l, 1) := by decide +kernel
theorem dX0_worst_58 : decode cX0_worst 58 = .ok (.iload_n 3, 1) := by decide +kernel
theorem dX0_worst_59 : decode cX0_worst 59 = .ok (.invokestatic 84, 3) := by decide +kernel
theorem dX0_worst_62 : decode cX0_worst 62 = .ok (.ireturn, 1) := by decide +kernel
set_option maxRecDepth 20000 in
theorem ggX0_best_X0_isNoNumberOfParts : GoodIn wsX0_best wsX0_isNoNumberOfParts := goodIn_r _ [6, 7, 8, 5, 9] (by decide +kernel) (by decide +kernel)
set_option maxRecDepth 20000 in
theorem gX0_best_X0_isNoNumberOfParts : GoodIn wsX0_best (va_wsS RX0 50 yX0_isNoNumberOfParts wsX0_isNoNumberOfParts) := goodIn_app (goodIn_of _ (by decide +kernel)) ggX0_best_X0_isNoNumberOfParts
set_option maxRecDepth 20000 in
theorem ggX0_best_X0_worstUpper : GoodIn wsX0_best wsX0_worstUpper := goodIn_r _ [13, 14, 15, 16, 17, 18, 19, 20, 21, 22, 23, 5, 24, 25, 26, 27, 28, 29, 30, 31, 32, 33, 34, 35, 36, 37, 38, 39, 40, 41, 42] (by decide +kernel) (by decide +kernel)
set_option maxRecDepth 20000 in
theorem gX0_best_X0_worstUpper : GoodIn wsX0_best (wsV RX0 92 RX0 yX0_worstUpper wsX0_worstUpper) := goodIn_app (goodIn_of _ (by decide +kernel)) ggX0_best_X0_worstUpper
theorem dX0_best_0 : decode cX0_best 0 = .ok (.iload_n 1, 1) := by decide +kernel
theorem dX0_best_1 : decode cX0_best 1 = .ok (.invokestatic 50, 3) := by decide +kernel
theorem dX0_best_4 : decode cX0_best 4 = .ok (.ifCond .eq 6, 3) := by decide +kernel
theorem dX0_best_7 : decode cX0_best 7 = .ok (.bipush (-2), 2) := by decide +kernel
theorem dX0_best_9 : decode cX0_best 9 = .ok (.ireturn, 1) := by decide +kernel
theorem dX0_best_10 : decode cX0_best 10 = .ok (.aload_n 0, 1) := by decide +kernel
theorem dX0_best_11 : decode cX0_best 11 = .ok (.getfield 36, 3) := by decide +kernel
theorem dX0_best_14 : decode cX0_best 14 = .ok (.ifCond .ne 6, 3) := by decide +kernel
theorem dX0_best_17 : decode cX0_best 17 = .ok (.bipush (-3), 2) := by decide +kernel
theorem dX0_best_19 : decode cX0_best 19 = .ok (.ireturn, 1) := by decide +kernel
theorem dX0_best_20 : decode cX0_best 20 = .ok (.iconst 0, 1) := by decide +kernel
theorem dX0_best_21 : decode cX0_best 21 = .ok (.istore_n 2, 1) := by decide +kernel
theorem dX0_best_22 : decode cX0_best 22 = .ok (.aload_n 0, 1) := by decide +kernel
theorem dX0_best_23 : decode cX0_best 23 = .ok (.aload_n 0, 1) := by decide +kernel
theorem dX0_best_24 : decode cX0_best 24 = .ok (.getfield 9, 3) := by decide +kernel
theorem dX0_best_27 : decode cX0_best 27 = .ok (.iconst 0, 1) := by decide +kernel
theorem dX0_best_28 : decode cX0_best 28 = .ok (.iaload, 1) := by decide +kernel
theorem dX0_best_29 : decode cX0_best 29 = .ok (.iload_n 1, 1) := by decide +kernel
theorem dX0_best_30 : decode cX0_best 30 = .ok (.invokevirtual 92, 3) := by decide +kernel
theorem dX0_best_33 : decode cX0_best 33 = .ok (.istore_n 3, 1) := by decide +kernel
theorem dX0_best_34 : decode cX0_best 34 = .ok (.iconst 1, 1) := by decide +kernel
theorem dX0_best_35 : decode cX0_best 35 = .ok (.istore 4, 2) := by decide +kernel
theorem dX0_best_37 : decode cX0_best 37 = .ok (.iload 4, 2) := by decide +kernel
theorem dX0_best_39 : decode cX0_best 39 = .ok (.aload_n 0, 1) := by decide +kernel
theorem dX0_best_40 : decode cX0_best 40 = .ok (.getfield 36, 3) := by decide +kernel
theorem dX0_best_43 : decode cX0_best 43 = .ok (.if_icmp .ge 50, 3) := by decide +kernel
theorem dX0_best_46 : decode cX0_best 46 = .ok (.aload_n 0, 1) := by decide +kernel
theorem dX0_best_47 : decode cX0_best 47 = .ok (.aload_n 0, 1) := by decide +kernel
theorem dX0_best_48 : decode cX0_best 48 = .ok (.getfield 9, 3) := by decide +kernel
theorem dX0_best_51 : decode cX0_best 51 = .ok (.iload 4, 2) := by decide +kernel
theorem dX0_best_53 : decode cX0_best 53 = .ok (.iaload, 1) := by decide +kernel
theorem dX0_best_54 : decode cX0_best 54 = .ok (.iload_n 1, 1) := by decide +kernel
theorem dX0_best_55 : decode cX0_best 55 = .ok (.invokevirtual 92, 3) := by decide +kernel
theorem dX0_best_58 : decode cX0_best 58 = .ok (.istore 5, 2) := by decide +kernel
theorem dX0_best_60 : decode cX0_best 60 = .ok (.iload 5, 2) := by decide +kernel
theorem dX0_best_62 : decode cX0_best 62 = .ok (.aload_n 0, 1) := by decide +kernel
theorem dX0_best_63 : decode cX0_best 63 = .ok (.getfield 9, 3) := by decide +kernel
theorem dX0_best_66 : decode cX0_best 66 = .ok (.iload_n 2, 1) := by decide +kernel
theorem dX0_best_67 : decode cX0_best 67 = .ok (.iaload, 1) := by decide +kernel
theorem dX0_best_68 : decode cX0_best 68 = .ok (.imul, 1) := by decide +kernel
theorem dX0_best_69 : decode cX0_best 69 = .ok (.iload_n 3, 1) := by decide +kernel
theorem dX0_best_70 : decode cX0_best 70 = .ok (.aload_n 0, 1) := by decide +kernel
theorem dX0_best_71 : decode cX0_best 71 = .ok (.getfield 9, 3) := by decide +kernel
theorem dX0_best_74 : decode cX0_best 74 = .ok (.iload 4, 2) := by decide +kernel
theorem dX0_best_76 : decode cX0_best 76 = .ok (.iaload, 1) := by decide +kernel
theorem dX0_best_77 : decode cX0_best 77 = .ok (.imul, 1) := by decide +kernel
theorem dX0_best_78 : decode cX0_best 78 = .ok (.if_icmp .ge 9, 3) := by decide +kernel
theorem dX0_best_81 : decode cX0_best 81 = .ok (.iload 4, 2) := by decide +kernel
theorem dX0_best_83 : decode cX0_best 83 = .ok (.istore_n 2, 1) := by decide +kernel
theorem dX0_best_84 : decode cX0_best 84 = .ok (.iload 5, 2) := by decide +kernel
theorem dX0_best_86 : decode cX0_best 86 = .ok (.istore_n 3, 1) := by decide +kernel
theorem dX0_best_87 : decode cX0_best 87 = .ok (.iinc 4 1, 3) := by decide +kernel
theorem dX0_best_90 : decode cX0_best 90 = .ok (.goto (-53), 3) := by decide +kernel
theorem dX0_best_93 : decode cX0_best 93 = .ok (.iload_n 2, 1) := by decide +kernel
theorem dX0_best_94 : decode cX0_best 94 = .ok (.ireturn, 1) := by decide +kernel
set_option maxRecDepth 20000 in
theorem ggX0_error_X0_isOutside : GoodIn wsX0_error wsX0_isOutside := goodIn_r _ [5] (by decide +kernel) (by decide +kernel)
set_option maxRecDepth 20000 in
theorem gX0_error_X0_isOutside : GoodIn wsX0_error (va_wsS RX0 32 yX0_isOutside wsX0_isOutside) := goodIn_app (goodIn_of _ (by decide +kernel)) ggX0_error_X0_isOutside
theorem dX0_error_0 : decode cX0_error 0 = .ok (.iload_n 1, 1) := by decide +kernel
theorem dX0_error_1 : decode cX0_error 1 = .ok (.iconst 0, 1) := by decide +kernel
theorem dX0_error_2 : decode cX0_error 2 = .ok (.bipush 7, 2) := by decide +kernel
theorem dX0_error_4 : decode cX0_error 4 = .ok (.invokestatic 32, 3) := by decide +kernel
theorem dX0_error_7 : decode cX0_error 7 = .ok (.ifCond .eq 7, 3) := by decide +kernel
theorem dX0_error_10 : decode cX0_error 10 = .ok (.sipush (-1001), 3) := by decide +kernel
theorem dX0_error_13 : decode cX0_error 13 = .ok (.ireturn, 1) := by decide +kernel
theorem dX0_error_14 : decode cX0_error 14 = .ok (.iload_n 2, 1) := by decide +kernel
theorem dX0_error_15 : decode cX0_error 15 = .ok (.bipush (-100), 2) := by decide +kernel
theorem dX0_error_17 : decode cX0_error 17 = .ok (.bipush 100, 2) := by decide +kernel
theorem dX0_error_19 : decode cX0_error 19 = .ok (.invokestatic 32, 3) := by decide +kernel
theorem dX0_error_22 : decode cX0_error 22 = .ok (.ifCond .eq 7, 3) := by decide +kernel
theorem dX0_error_25 : decode cX0_error 25 = .ok (.sipush (-1002), 3) := by decide +kernel
theorem dX0_error_28 : decode cX0_error 28 = .ok (.ireturn, 1) := by decide +kernel
theorem dX0_error_29 : decode cX0_error 29 = .ok (.aload_n 0, 1) := by decide +kernel
theorem dX0_error_30 : decode cX0_error 30 = .ok (.getfield 16, 3) := by decide +kernel
theorem dX0_error_33 : decode cX0_error 33 = .ok (.iload_n 1, 1) := by decide +kernel
theorem dX0_error_34 : decode cX0_error 34 = .ok (.iaload, 1) := by decide +kernel
theorem dX0_error_35 : decode cX0_error 35 = .ok (.istore_n 3, 1) := by decide +kernel
theorem dX0_error_36 : decode cX0_error 36 = .ok (.aload_n 0, 1) := by decide +kernel
theorem dX0_error_37 : decode cX0_error 37 = .ok (.getfield 16, 3) := by decide +kernel
theorem dX0_error_40 : decode cX0_error 40 = .ok (.iload_n 1, 1) := by decide +kernel
theorem dX0_error_41 : decode cX0_error 41 = .ok (.iload_n 2, 1) := by decide +kernel
theorem dX0_error_42 : decode cX0_error 42 = .ok (.iastore, 1) := by decide +kernel
theorem dX0_error_43 : decode cX0_error 43 = .ok (.iload_n 3, 1) := by decide +kernel
theorem dX0_error_44 : decode cX0_error 44 = .ok (.ireturn, 1) := by decide +kernel
set_option maxRecDepth 20000 in
theorem ggX0_spoilt_X0_holesAt : GoodIn wsX0_spoilt wsX0_holesAt := goodIn_r _ [7, 8, 9, 32, 33, 34, 35, 36, 37, 38, 39, 40] (by decide +kernel) (by decide +kernel)
set_option maxRecDepth 20000 in
theorem gX0_spoilt_X0_holesAt : GoodIn wsX0_spoilt (wsV RX0 43 RX0 yX0_holesAt wsX0_holesAt) := goodIn_app (goodIn_of _ (by decide +kernel)) ggX0_spoilt_X0_holesAt
set_option maxRecDepth 20000 in
theorem ggX0_spoilt_X0_isNoStep : GoodIn wsX0_spoilt wsX0_isNoStep := goodIn_r _ [12, 13, 14, 15, 6, 16] (by decide +kernel) (by decide +kernel)
set_option maxRecDepth 20000 in
theorem gX0_spoilt_X0_isNoStep : GoodIn wsX0_spoilt (va_wsS RX0 95 yX0_isNoStep wsX0_isNoStep) := goodIn_app (goodIn_of _ (by decide +kernel)) ggX0_spoilt_X0_isNoStep
set_option maxRecDepth 20000 in
theorem ggX0_spoilt_X0_isOutside : GoodIn wsX0_spoilt wsX0_isOutside := goodIn_r _ [16] (by decide +kernel) (by decide +kernel)
set_option maxRecDepth 20000 in
theorem gX0_spoilt_X0_isOutside : GoodIn wsX0_spoilt (va_wsS RX0 32 yX0_isOutside wsX0_isOutside) := goodIn_app (goodIn_of _ (by decide +kernel)) ggX0_spoilt_X0_isOutside
set_option maxRecDepth 20000 in
theorem ggX0_spoilt_X0_errorUpper : GoodIn wsX0_spoilt wsX0_errorUpper := goodIn_r _ [20, 21, 32, 33, 34, 35, 36, 37, 38, 39, 40] (by decide +kernel) (by decide +kernel)
set_option maxRecDepth 20000 in
theorem gX0_spoilt_X0_errorUpper : GoodIn wsX0_spoilt (wsV RX0 98 RX0 yX0_errorUpper wsX0_errorUpper) := goodIn_app (goodIn_of _ (by decide +kernel)) ggX0_spoilt_X0_errorUpper
set_option maxRecDepth 20000 in
theorem ggX0_spoilt_X0_lowestTerm : GoodIn wsX0_spoilt wsX0_lowestTerm := goodIn_r _ [24, 25, 26, 27, 28, 29, 30, 6, 31] (by decide +kernel) (by decide +kernel)
set_option maxRecDepth 20000 in
theorem gX0_spoilt_X0_lowestTerm : GoodIn wsX0_spoilt (va_wsS RX0 84 yX0_lowestTerm wsX0_lowestTerm) := goodIn_app (goodIn_of _ (by decide +kernel)) ggX0_spoilt_X0_lowestTerm
theorem dX0_spoilt_0 : decode cX0_spoilt 0 = .ok (.aload_n 0, 1) := by decide +kernel
theorem dX0_spoilt_1 : decode cX0_spoilt 1 = .ok (.iload_n 1, 1) := by decide +kernel
theorem dX0_spoilt_2 : decode cX0_spoilt 2 = .ok (.invokevirtual 43, 3) := by decide +kernel
theorem dX0_spoilt_5 : decode cX0_spoilt 5 = .ok (.istore 5, 2) := by decide +kernel
theorem dX0_spoilt_7 : decode cX0_spoilt 7 = .ok (.iload 5, 2) := by decide +kernel
theorem dX0_spoilt_9 : decode cX0_spoilt 9 = .ok (.ifCond .ne 6, 3) := by decide +kernel
theorem dX0_spoilt_12 : decode cX0_spoilt 12 = .ok (.ldc 80, 2) := by decide +kernel
theorem dX0_spoilt_14 : decode cX0_spoilt 14 = .ok (.ireturn, 1) := by decide +kernel
theorem dX0_spoilt_15 : decode cX0_spoilt 15 = .ok (.iload_n 2, 1) := by decide +kernel
theorem dX0_spoilt_16 : decode cX0_spoilt 16 = .ok (.invokestatic 95, 3) := by decide +kernel
theorem dX0_spoilt_19 : decode cX0_spoilt 19 = .ok (.ifCond .ne 24, 3) := by decide +kernel
theorem dX0_spoilt_22 : decode cX0_spoilt 22 = .ok (.iload_n 3, 1) := by decide +kernel
theorem dX0_spoilt_23 : decode cX0_spoilt 23 = .ok (.iconst 0, 1) := by decide +kernel
theorem dX0_spoilt_24 : decode cX0_spoilt 24 = .ok (.sipush 10000, 3) := by decide +kernel
theorem dX0_spoilt_27 : decode cX0_spoilt 27 = .ok (.invokestatic 32, 3) := by decide +kernel
theorem dX0_spoilt_30 : decode cX0_spoilt 30 = .ok (.ifCond .ne 13, 3) := by decide +kernel
theorem dX0_spoilt_33 : decode cX0_spoilt 33 = .ok (.iload 4, 2) := by decide +kernel
theorem dX0_spoilt_35 : decode cX0_spoilt 35 = .ok (.iconst 0, 1) := by decide +kernel
theorem dX0_spoilt_36 : decode cX0_spoilt 36 = .ok (.iconst 1, 1) := by decide +kernel
theorem dX0_spoilt_37 : decode cX0_spoilt 37 = .ok (.invokestatic 32, 3) := by decide +kernel
theorem dX0_spoilt_40 : decode cX0_spoilt 40 = .ok (.ifCond .eq 6, 3) := by decide +kernel
theorem dX0_spoilt_43 : decode cX0_spoilt 43 = .ok (.ldc 56, 2) := by decide +kernel
theorem dX0_spoilt_45 : decode cX0_spoilt 45 = .ok (.ireturn, 1) := by decide +kernel
theorem dX0_spoilt_46 : decode cX0_spoilt 46 = .ok (.aload_n 0, 1) := by decide +kernel
theorem dX0_spoilt_47 : decode cX0_spoilt 47 = .ok (.iload 5, 2) := by decide +kernel
theorem dX0_spoilt_49 : decode cX0_spoilt 49 = .ok (.iload_n 2, 1) := by decide +kernel
theorem dX0_spoilt_50 : decode cX0_spoilt 50 = .ok (.iload_n 3, 1) := by decide +kernel
theorem dX0_spoilt_51 : decode cX0_spoilt 51 = .ok (.invokevirtual 98, 3) := by decide +kernel
theorem dX0_spoilt_54 : decode cX0_spoilt 54 = .ok (.i2l, 1) := by decide +kernel
theorem dX0_spoilt_55 : decode cX0_spoilt 55 = .ok (.iload 5, 2) := by decide +kernel
theorem dX0_spoilt_57 : decode cX0_spoilt 57 = .ok (.i2l, 1) := by decide +kernel
theorem dX0_spoilt_58 : decode cX0_spoilt 58 = .ok (.iload 4, 2) := by decide +kernel
theorem dX0_spoilt_60 : decode cX0_spoilt 60 = .ok (.invokestatic 84, 3) := by decide +kernel
theorem dX0_spoilt_63 : decode cX0_spoilt 63 = .ok (.ireturn, 1) := by decide +kernel
set_option maxRecDepth 20000 in
theorem ggX0_extreme_X0_holesAt : GoodIn wsX0_extreme wsX0_holesAt := goodIn_r _ [5, 6, 7, 20, 21, 22, 23, 24, 25, 26, 27, 28] (by decide +kernel) (by decide +kernel)
set_option maxRecDepth 20000 in
theorem gX0_extreme_X0_holesAt : GoodIn wsX0_extreme (wsV RX0 43 RX0 yX0_holesAt wsX0_holesAt) := goodIn_app (goodIn_of _ (by decide +kernel)) ggX0_extreme_X0_holesAt
set_option maxRecDepth 20000 in
theorem ggX0_extreme_X0_isNoStep : GoodIn wsX0_extreme wsX0_isNoStep := goodIn_r _ [10, 11, 12, 13, 4, 14] (by decide +kernel) (by decide +kernel)
set_option maxRecDepth 20000 in
theorem gX0_extreme_X0_isNoStep : GoodIn wsX0_extreme (va_wsS RX0 95 yX0_isNoStep wsX0_isNoStep) := goodIn_app (goodIn_of _ (by decide +kernel)) ggX0_extreme_X0_isNoStep
set_option maxRecDepth 20000 in
theorem ggX0_extreme_X0_isOutside : GoodIn wsX0_extreme wsX0_isOutside := goodIn_r _ [14] (by decide +kernel) (by decide +kernel)
set_option maxRecDepth 20000 in
theorem gX0_extreme_X0_isOutside : GoodIn wsX0_extreme (va_wsS RX0 32 yX0_isOutside wsX0_isOutside) := goodIn_app (goodIn_of _ (by decide +kernel)) ggX0_extreme_X0_isOutside
set_option maxRecDepth 20000 in
theorem ggX0_extreme_X0_errorUpper : GoodIn wsX0_extreme wsX0_errorUpper := goodIn_r _ [18, 19, 20, 21, 22, 23, 24, 25, 26, 27, 28] (by decide +kernel) (by decide +kernel)
set_option maxRecDepth 20000 in
theorem gX0_extreme_X0_errorUpper : GoodIn wsX0_extreme (wsV RX0 98 RX0 yX0_errorUpper wsX0_errorUpper) := goodIn_app (goodIn_of _ (by decide +kernel)) ggX0_extreme_X0_errorUpper
theorem dX0_extreme_0 : decode cX0_extreme 0 = .ok (.aload_n 0, 1) := by decide +kernel
theorem dX0_extreme_1 : decode cX0_extreme 1 = .ok (.iload_n 1, 1) := by decide +kernel
theorem dX0_extreme_2 : decode cX0_extreme 2 = .ok (.invokevirtual 43, 3) := by decide +kernel
theorem dX0_extreme_5 : decode cX0_extreme 5 = .ok (.istore 5, 2) := by decide +kernel
theorem dX0_extreme_7 : decode cX0_extreme 7 = .ok (.iload 5, 2) := by decide +kernel
theorem dX0_extreme_9 : decode cX0_extreme 9 = .ok (.ifCond .ne 5, 3) := by decide +kernel
theorem dX0_extreme_12 : decode cX0_extreme 12 = .ok (.iconst (-1), 1) := by decide +kernel
theorem dX0_extreme_13 : decode cX0_extreme 13 = .ok (.ireturn, 1) := by decide +kernel
theorem dX0_extreme_14 : decode cX0_extreme 14 = .ok (.iload_n 2, 1) := by decide +kernel
theorem dX0_extreme_15 : decode cX0_extreme 15 = .ok (.invokestatic 95, 3) := by decide +kernel
theorem dX0_extreme_18 : decode cX0_extreme 18 = .ok (.ifCond .ne 24, 3) := by decide +kernel
theorem dX0_extreme_21 : decode cX0_extreme 21 = .ok (.iload_n 3, 1) := by decide +kernel
theorem dX0_extreme_22 : decode cX0_extreme 22 = .ok (.iconst 0, 1) := by decide +kernel
theorem dX0_extreme_23 : decode cX0_extreme 23 = .ok (.sipush 1000, 3) := by decide +kernel
theorem dX0_extreme_26 : decode cX0_extreme 26 = .ok (.invokestatic 32, 3) := by decide +kernel
theorem dX0_extreme_29 : decode cX0_extreme 29 = .ok (.ifCond .ne 13, 3) := by decide +kernel
theorem dX0_extreme_32 : decode cX0_extreme 32 = .ok (.iload 4, 2) := by decide +kernel
theorem dX0_extreme_34 : decode cX0_extreme 34 = .ok (.iconst 0, 1) := by decide +kernel
theorem dX0_extreme_35 : decode cX0_extreme 35 = .ok (.iconst 1, 1) := by decide +kernel
theorem dX0_extreme_36 : decode cX0_extreme 36 = .ok (.invokestatic 32, 3) := by decide +kernel
theorem dX0_extreme_39 : decode cX0_extreme 39 = .ok (.ifCond .eq 6, 3) := by decide +kernel
theorem dX0_extreme_42 : decode cX0_extreme 42 = .ok (.bipush (-2), 2) := by decide +kernel
theorem dX0_extreme_44 : decode cX0_extreme 44 = .ok (.ireturn, 1) := by decide +kernel
theorem dX0_extreme_45 : decode cX0_extreme 45 = .ok (.iconst 0, 1) := by decide +kernel
theorem dX0_extreme_46 : decode cX0_extreme 46 = .ok (.istore 6, 2) := by decide +kernel
theorem dX0_extreme_48 : decode cX0_extreme 48 = .ok (.aload_n 0, 1) := by decide +kernel
theorem dX0_extreme_49 : decode cX0_extreme 49 = .ok (.iload 5, 2) := by decide +kernel
theorem dX0_extreme_51 : decode cX0_extreme 51 = .ok (.iload_n 2, 1) := by decide +kernel
theorem dX0_extreme_52 : decode cX0_extreme 52 = .ok (.iconst 0, 1) := by decide +kernel
theorem dX0_extreme_53 : decode cX0_extreme 53 = .ok (.invokevirtual 98, 3) := by decide +kernel
theorem dX0_extreme_56 : decode cX0_extreme 56 = .ok (.istore 7, 2) := by decide +kernel
theorem dX0_extreme_58 : decode cX0_extreme 58 = .ok (.iconst 1, 1) := by decide +kernel
theorem dX0_extreme_59 : decode cX0_extreme 59 = .ok (.istore 8, 2) := by decide +kernel
theorem dX0_extreme_61 : decode cX0_extreme 61 = .ok (.iload 8, 2) := by decide +kernel
theorem dX0_extreme_63 : decode cX0_extreme 63 = .ok (.iload_n 3, 1) := by decide +kernel
theorem dX0_extreme_64 : decode cX0_extreme 64 = .ok (.if_icmp .gt 50, 3) := by decide +kernel
theorem dX0_extreme_67 : decode cX0_extreme 67 = .ok (.aload_n 0, 1) := by decide +kernel
theorem dX0_extreme_68 : decode cX0_extreme 68 = .ok (.iload 5, 2) := by decide +kernel
theorem dX0_extreme_70 : decode cX0_extreme 70 = .ok (.iload_n 2, 1) := by decide +kernel
theorem dX0_extreme_71 : decode cX0_extreme 71 = .ok (.iload 8, 2) := by decide +kernel
theorem dX0_extreme_73 : decode cX0_extreme 73 = .ok (.invokevirtual 98, 3) := by decide +kernel
theorem dX0_extreme_76 : decode cX0_extreme 76 = .ok (.istore 9, 2) := by decide +kernel
theorem dX0_extreme_78 : decode cX0_extreme 78 = .ok (.iload 4, 2) := by decide +kernel
theorem dX0_extreme_80 : decode cX0_extreme 80 = .ok (.ifCond .ne 13, 3) := by decide +kernel
theorem dX0_extreme_83 : decode cX0_extreme 83 = .ok (.iload 9, 2) := by decide +kernel
theorem dX0_extreme_85 : decode cX0_extreme 85 = .ok (.iload 7, 2) := by decide +kernel
theorem dX0_extreme_87 : decode cX0_extreme 87 = .ok (.if_icmp .le 21, 3) := by decide +kernel
theorem dX0_extreme_90 : decode cX0_extreme 90 = .ok (.goto 10, 3) := by decide +kernel
theorem dX0_extreme_93 : decode cX0_extreme 93 = .ok (.iload 9, 2) := by decide +kernel
theorem dX0_extreme_95 : decode cX0_extreme 95 = .ok (.iload 7, 2) := by decide +kernel
theorem dX0_extreme_97 : decode cX0_extreme 97 = .ok (.if_icmp .ge 11, 3) := by decide +kernel
theorem dX0_extreme_100 : decode cX0_extreme 100 = .ok (.iload 8, 2) := by decide +kernel
theorem dX0_extreme_102 : decode cX0_extreme 102 = .ok (.istore 6, 2) := by decide +kernel
theorem dX0_extreme_104 : decode cX0_extreme 104 = .ok (.iload 9, 2) := by decide +kernel
theorem dX0_extreme_106 : decode cX0_extreme 106 = .ok (.istore 7, 2) := by decide +kernel
theorem dX0_extreme_108 : decode cX0_extreme 108 = .ok (.iinc 8 1, 3) := by decide +kernel
theorem dX0_extreme_111 : decode cX0_extreme 111 = .ok (.goto (-50), 3) := by decide +kernel
theorem dX0_extreme_114 : decode cX0_extreme 114 = .ok (.iload 6, 2) := by decide +kernel
theorem dX0_extreme_116 : decode cX0_extreme 116 = .ok (.ireturn, 1) := by decide +kernel
set_option maxRecDepth 20000 in
theorem ggX0_near_X0_isNoShare : GoodIn wsX0_near wsX0_isNoShare := goodIn_r _ [4, 5, 6, 7, 3, 8] (by decide +kernel) (by decide +kernel)
set_option maxRecDepth 20000 in
theorem gX0_near_X0_isNoShare : GoodIn wsX0_near (va_wsS RX0 69 yX0_isNoShare wsX0_isNoShare) := goodIn_app (goodIn_of _ (by decide +kernel)) ggX0_near_X0_isNoShare
set_option maxRecDepth 20000 in
theorem ggX0_near_X0_isOutside : GoodIn wsX0_near wsX0_isOutside := goodIn_r _ [8] (by decide +kernel) (by decide +kernel)
set_option maxRecDepth 20000 in
theorem gX0_near_X0_isOutside : GoodIn wsX0_near (va_wsS RX0 32 yX0_isOutside wsX0_isOutside) := goodIn_app (goodIn_of _ (by decide +kernel)) ggX0_near_X0_isOutside
set_option maxRecDepth 20000 in
theorem ggX0_near_X0_nearestLower : GoodIn wsX0_near wsX0_nearestLower := goodIn_r _ [11, 12, 13, 3, 14, 15, 16, 17, 18, 19, 20, 21, 22] (by decide +kernel) (by decide +kernel)
set_option maxRecDepth 20000 in
theorem gX0_near_X0_nearestLower : GoodIn wsX0_near (va_wsS RX0 101 yX0_nearestLower wsX0_nearestLower) := goodIn_app (goodIn_of _ (by decide +kernel)) ggX0_near_X0_nearestLower
set_option maxRecDepth 20000 in
theorem ggX0_near_X0_nearestOrLesser : GoodIn wsX0_near wsX0_nearestOrLesser := goodIn_r _ [21, 22] (by decide +kernel) (by decide +kernel)
set_option maxRecDepth 20000 in
theorem gX0_near_X0_nearestOrLesser : GoodIn wsX0_near (va_wsS RX0 104 yX0_nearestOrLesser wsX0_nearestOrLesser) := goodIn_app (goodIn_of _ (by decide +kernel)) ggX0_near_X0_nearestOrLesser
theorem dX0_near_0 : decode cX0_near 0 = .ok (.iload_n 1, 1) := by decide +kernel
theorem dX0_near_1 : decode cX0_near 1 = .ok (.iload_n 2, 1) := by decide +kernel
theorem dX0_near_2 : decode cX0_near 2 = .ok (.invokestatic 69, 3) := by decide +kernel
theorem dX0_near_5 : decode cX0_near 5 = .ok (.ifCond .ne 24, 3) := by decide +kernel
theorem dX0_near_8 : decode cX0_near 8 = .ok (.iload_n 3, 1) := by decide +kernel
theorem dX0_near_9 : decode cX0_near 9 = .ok (.iconst 1, 1) := by decide +kernel
theorem dX0_near_10 : decode cX0_near 10 = .ok (.sipush 10000, 3) := by decide +kernel
theorem dX0_near_13 : decode cX0_near 13 = .ok (.invokestatic 32, 3) := by decide +kernel
theorem dX0_near_16 : decode cX0_near 16 = .ok (.ifCond .ne 13, 3) := by decide +kernel
theorem dX0_near_19 : decode cX0_near 19 = .ok (.iload 4, 2) := by decide +kernel
theorem dX0_near_21 : decode cX0_near 21 = .ok (.iconst 0, 1) := by decide +kernel
theorem dX0_near_22 : decode cX0_near 22 = .ok (.iconst 1, 1) := by decide +kernel
theorem dX0_near_23 : decode cX0_near 23 = .ok (.invokestatic 32, 3) := by decide +kernel
theorem dX0_near_26 : decode cX0_near 26 = .ok (.ifCond .eq 6, 3) := by decide +kernel
theorem dX0_near_29 : decode cX0_near 29 = .ok (.bipush (-2), 2) := by decide +kernel
theorem dX0_near_31 : decode cX0_near 31 = .ok (.ireturn, 1) := by decide +kernel
theorem dX0_near_32 : decode cX0_near 32 = .ok (.iload_n 1, 1) := by decide +kernel
theorem dX0_near_33 : decode cX0_near 33 = .ok (.iload_n 2, 1) := by decide +kernel
theorem dX0_near_34 : decode cX0_near 34 = .ok (.iload_n 3, 1) := by decide +kernel
theorem dX0_near_35 : decode cX0_near 35 = .ok (.invokestatic 101, 3) := by decide +kernel
theorem dX0_near_38 : decode cX0_near 38 = .ok (.istore 5, 2) := by decide +kernel
theorem dX0_near_40 : decode cX0_near 40 = .ok (.iload 4, 2) := by decide +kernel
theorem dX0_near_42 : decode cX0_near 42 = .ok (.iconst 1, 1) := by decide +kernel
theorem dX0_near_43 : decode cX0_near 43 = .ok (.if_icmp .ne 8, 3) := by decide +kernel
theorem dX0_near_46 : decode cX0_near 46 = .ok (.iload 5, 2) := by decide +kernel
theorem dX0_near_48 : decode cX0_near 48 = .ok (.goto 15, 3) := by decide +kernel
theorem dX0_near_51 : decode cX0_near 51 = .ok (.iload_n 1, 1) := by decide +kernel
theorem dX0_near_52 : decode cX0_near 52 = .ok (.i2l, 1) := by decide +kernel
theorem dX0_near_53 : decode cX0_near 53 = .ok (.iload 5, 2) := by decide +kernel
theorem dX0_near_55 : decode cX0_near 55 = .ok (.i2l, 1) := by decide +kernel
theorem dX0_near_56 : decode cX0_near 56 = .ok (.lmul, 1) := by decide +kernel
theorem dX0_near_57 : decode cX0_near 57 = .ok (.iload_n 2, 1) := by decide +kernel
theorem dX0_near_58 : decode cX0_near 58 = .ok (.i2l, 1) := by decide +kernel
theorem dX0_near_59 : decode cX0_near 59 = .ok (.invokestatic 104, 3) := by decide +kernel
theorem dX0_near_62 : decode cX0_near 62 = .ok (.l2i, 1) := by decide +kernel
theorem dX0_near_63 : decode cX0_near 63 = .ok (.ireturn, 1) := by decide +kernel
set_option maxRecDepth 20000 in
theorem ggX0_vernier_X0_isOutside : GoodIn wsX0_vernier wsX0_isOutside := goodIn_r _ [6] (by decide +kernel) (by decide +kernel)
set_option maxRecDepth 20000 in
theorem gX0_vernier_X0_isOutside : GoodIn wsX0_vernier (va_wsS RX0 32 yX0_isOutside wsX0_isOutside) := goodIn_app (goodIn_of _ (by decide +kernel)) ggX0_vernier_X0_isOutside
theorem dX0_vernier_0 : decode cX0_vernier 0 = .ok (.iload_n 1, 1) := by decide +kernel
theorem dX0_vernier_1 : decode cX0_vernier 1 = .ok (.iconst 2, 1) := by decide +kernel
theorem dX0_vernier_2 : decode cX0_vernier 2 = .ok (.sipush 720, 3) := by decide +kernel
theorem dX0_vernier_5 : decode cX0_vernier 5 = .ok (.invokestatic 32, 3) := by decide +kernel
theorem dX0_vernier_8 : decode cX0_vernier 8 = .ok (.ifCond .ne 13, 3) := by decide +kernel
theorem dX0_vernier_11 : decode cX0_vernier 11 = .ok (.iload_n 2, 1) := by decide +kernel
theorem dX0_vernier_12 : decode cX0_vernier 12 = .ok (.iconst 2, 1) := by decide +kernel
theorem dX0_vernier_13 : decode cX0_vernier 13 = .ok (.bipush 60, 2) := by decide +kernel
theorem dX0_vernier_15 : decode cX0_vernier 15 = .ok (.invokestatic 32, 3) := by decide +kernel
theorem dX0_vernier_18 : decode cX0_vernier 18 = .ok (.ifCond .eq 6, 3) := by decide +kernel
theorem dX0_vernier_21 : decode cX0_vernier 21 = .ok (.bipush (-2), 2) := by decide +kernel
theorem dX0_vernier_23 : decode cX0_vernier 23 = .ok (.ireturn, 1) := by decide +kernel
theorem dX0_vernier_24 : decode cX0_vernier 24 = .ok (.aload_n 0, 1) := by decide +kernel
theorem dX0_vernier_25 : decode cX0_vernier 25 = .ok (.iload_n 1, 1) := by decide +kernel
theorem dX0_vernier_26 : decode cX0_vernier 26 = .ok (.putfield 26, 3) := by decide +kernel
theorem dX0_vernier_29 : decode cX0_vernier 29 = .ok (.aload_n 0, 1) := by decide +kernel
theorem dX0_vernier_30 : decode cX0_vernier 30 = .ok (.iload_n 2, 1) := by decide +kernel
theorem dX0_vernier_31 : decode cX0_vernier 31 = .ok (.putfield 29, 3) := by decide +kernel
theorem dX0_vernier_34 : decode cX0_vernier 34 = .ok (.iconst 1, 1) := by decide +kernel
theorem dX0_vernier_35 : decode cX0_vernier 35 = .ok (.ireturn, 1) := by decide +kernel
set_option maxRecDepth 20000 in
theorem ggX0_read_X0_isNoPlace : GoodIn wsX0_read wsX0_isNoPlace := goodIn_r _ [4, 5, 6, 7, 3, 8] (by decide +kernel) (by decide +kernel)
set_option maxRecDepth 20000 in
theorem gX0_read_X0_isNoPlace : GoodIn wsX0_read (va_wsS RX0 108 yX0_isNoPlace wsX0_isNoPlace) := goodIn_app (goodIn_of _ (by decide +kernel)) ggX0_read_X0_isNoPlace
set_option maxRecDepth 20000 in
theorem ggX0_read_X0_isOutside : GoodIn wsX0_read wsX0_isOutside := goodIn_r _ [8] (by decide +kernel) (by decide +kernel)
set_option maxRecDepth 20000 in
theorem gX0_read_X0_isOutside : GoodIn wsX0_read (va_wsS RX0 32 yX0_isOutside wsX0_isOutside) := goodIn_app (goodIn_of _ (by decide +kernel)) ggX0_read_X0_isOutside
set_option maxRecDepth 20000 in
theorem ggX0_read_X0_mainMark : GoodIn wsX0_read wsX0_mainMark := goodIn_r _ [12, 13, 27, 28, 29, 30, 31, 32, 33, 34, 35] (by decide +kernel) (by decide +kernel)
set_option maxRecDepth 20000 in
theorem gX0_read_X0_mainMark : GoodIn wsX0_read (wsV RX0 111 RX0 yX0_mainMark wsX0_mainMark) := goodIn_app (goodIn_of _ (by decide +kernel)) ggX0_read_X0_mainMark
set_option maxRecDepth 20000 in
theorem ggX0_read_X0_vernierLine : GoodIn wsX0_read wsX0_vernierLine := goodIn_r _ [17, 13, 18, 9, 10, 11, 3, 12, 19, 20, 21, 22, 27, 28, 29, 30, 31, 32, 33, 34, 35] (by decide +kernel) (by decide +kernel)
set_option maxRecDepth 20000 in
theorem gX0_read_X0_vernierLine : GoodIn wsX0_read (wsV RX0 114 RX0 yX0_vernierLine wsX0_vernierLine) := goodIn_app (goodIn_of _ (by decide +kernel)) ggX0_read_X0_vernierLine
set_option maxRecDepth 20000 in
theorem ggX0_read_X0_readParts : GoodIn wsX0_read wsX0_readParts := goodIn_r _ [26, 18, 9, 10, 11, 3, 12, 13, 14, 15, 16, 17, 19, 20, 21, 22, 27, 28, 29, 30, 31, 32, 33, 34, 35] (by decide +kernel) (by decide +kernel)
set_option maxRecDepth 20000 in
theorem gX0_read_X0_readParts : GoodIn wsX0_read (wsV RX0 117 RX0 yX0_readParts wsX0_readParts) := goodIn_app (goodIn_of _ (by decide +kernel)) ggX0_read_X0_readParts
theorem dX0_read_0 : decode cX0_read 0 = .ok (.iload_n 1, 1) := by decide +kernel
theorem dX0_read_1 : decode cX0_read 1 = .ok (.iload_n 2, 1) := by decide +kernel
theorem dX0_read_2 : decode cX0_read 2 = .ok (.invokestatic 108, 3) := by decide +kernel
theorem dX0_read_5 : decode cX0_read 5 = .ok (.ifCond .ne 12, 3) := by decide +kernel
theorem dX0_read_8 : decode cX0_read 8 = .ok (.iload_n 3, 1) := by decide +kernel
theorem dX0_read_9 : decode cX0_read 9 = .ok (.iconst 0, 1) := by decide +kernel
theorem dX0_read_10 : decode cX0_read 10 = .ok (.iconst 2, 1) := by decide +kernel
theorem dX0_read_11 : decode cX0_read 11 = .ok (.invokestatic 32, 3) := by decide +kernel
theorem dX0_read_14 : decode cX0_read 14 = .ok (.ifCond .eq 6, 3) := by decide +kernel
theorem dX0_read_17 : decode cX0_read 17 = .ok (.bipush (-2), 2) := by decide +kernel
theorem dX0_read_19 : decode cX0_read 19 = .ok (.ireturn, 1) := by decide +kernel
theorem dX0_read_20 : decode cX0_read 20 = .ok (.iload_n 3, 1) := by decide +kernel
theorem dX0_read_21 : decode cX0_read 21 = .ok (.ifCond .ne 13, 3) := by decide +kernel
theorem dX0_read_24 : decode cX0_read 24 = .ok (.aload_n 0, 1) := by decide +kernel
theorem dX0_read_25 : decode cX0_read 25 = .ok (.iload_n 1, 1) := by decide +kernel
theorem dX0_read_26 : decode cX0_read 26 = .ok (.i2l, 1) := by decide +kernel
theorem dX0_read_27 : decode cX0_read 27 = .ok (.iload_n 2, 1) := by decide +kernel
theorem dX0_read_28 : decode cX0_read 28 = .ok (.i2l, 1) := by decide +kernel
theorem dX0_read_29 : decode cX0_read 29 = .ok (.invokevirtual 111, 3) := by decide +kernel
theorem dX0_read_32 : decode cX0_read 32 = .ok (.l2i, 1) := by decide +kernel
theorem dX0_read_33 : decode cX0_read 33 = .ok (.ireturn, 1) := by decide +kernel
theorem dX0_read_34 : decode cX0_read 34 = .ok (.iload_n 3, 1) := by decide +kernel
theorem dX0_read_35 : decode cX0_read 35 = .ok (.iconst 1, 1) := by decide +kernel
theorem dX0_read_36 : decode cX0_read 36 = .ok (.if_icmp .ne 14, 3) := by decide +kernel
theorem dX0_read_39 : decode cX0_read 39 = .ok (.aload_n 0, 1) := by decide +kernel
theorem dX0_read_40 : decode cX0_read 40 = .ok (.iload_n 1, 1) := by decide +kernel
theorem dX0_read_41 : decode cX0_read 41 = .ok (.i2l, 1) := by decide +kernel
theorem dX0_read_42 : decode cX0_read 42 = .ok (.iload_n 2, 1) := by decide +kernel
theorem dX0_read_43 : decode cX0_read 43 = .ok (.i2l, 1) := by decide +kernel
theorem dX0_read_44 : decode cX0_read 44 = .ok (.invokevirtual 114, 3) := by decide +kernel
theorem dX0_read_47 : decode cX0_read 47 = .ok (.goto 11, 3) := by decide +kernel
theorem dX0_read_50 : decode cX0_read 50 = .ok (.aload_n 0, 1) := by decide +kernel
theorem dX0_read_51 : decode cX0_read 51 = .ok (.iload_n 1, 1) := by decide +kernel
theorem dX0_read_52 : decode cX0_read 52 = .ok (.i2l, 1) := by decide +kernel
theorem dX0_read_53 : decode cX0_read 53 = .ok (.iload_n 2, 1) := by decide +kernel
theorem dX0_read_54 : decode cX0_read 54 = .ok (.i2l, 1) := by decide +kernel
theorem dX0_read_55 : decode cX0_read 55 = .ok (.invokevirtual 117, 3) := by decide +kernel
theorem dX0_read_58 : decode cX0_read 58 = .ok (.l2i, 1) := by decide +kernel
theorem dX0_read_59 : decode cX0_read 59 = .ok (.ireturn, 1) := by decide +kernel
set_option maxRecDepth 20000 in
theorem ggX0_two_X0_isNoPlace : GoodIn wsX0_two wsX0_isNoPlace := goodIn_r _ [10, 11, 12, 13, 9, 14] (by decide +kernel) (by decide +kernel)
set_option maxRecDepth 20000 in
theorem gX0_two_X0_isNoPlace : GoodIn wsX0_two (va_wsS RX0 108 yX0_isNoPlace wsX0_isNoPlace) := goodIn_app (goodIn_of _ (by decide +kernel)) ggX0_two_X0_isNoPlace
set_option maxRecDepth 20000 in
theorem ggX0_two_X0_isOutside : GoodIn wsX0_two wsX0_isOutside := goodIn_r _ [14] (by decide +kernel) (by decide +kernel)
set_option maxRecDepth 20000 in
theorem gX0_two_X0_isOutside : GoodIn wsX0_two (va_wsS RX0 32 yX0_isOutside wsX0_isOutside) := goodIn_app (goodIn_of _ (by decide +kernel)) ggX0_two_X0_isOutside
set_option maxRecDepth 20000 in
theorem ggX0_two_J9_floorMod_f86c9 : GoodIn wsX0_two wsJ9_floorMod_f86c9 := goodIn_r _ [18] (by decide +kernel) (by decide +kernel)
set_option maxRecDepth 20000 in
theorem gX0_two_J9_floorMod_f86c9 : GoodIn wsX0_two (va_wsS RX0 122 yJ9_floorMod_f86c9 wsJ9_floorMod_f86c9) := goodIn_app (goodIn_of _ (by decide +kernel)) ggX0_two_J9_floorMod_f86c9
set_option maxRecDepth 20000 in
theorem ggX0_two_X0_readParts : GoodIn wsX0_two wsX0_readParts := goodIn_r _ [22, 5, 23, 24, 25, 9, 26, 4, 27, 28, 29, 30, 31, 32, 33, 3, 44, 45, 46, 47, 48, 49, 50, 51, 52] (by decide +kernel) (by decide +kernel)
set_option maxRecDepth 20000 in
theorem gX0_two_X0_readParts : GoodIn wsX0_two (wsV RX0 117 RX0 yX0_readParts wsX0_readParts) := goodIn_app (goodIn_of _ (by decide +kernel)) ggX0_two_X0_readParts
set_option maxRecDepth 20000 in
theorem ggX0_two_X0_lowestTerm : GoodIn wsX0_two wsX0_lowestTerm := goodIn_r _ [36, 37, 38, 39, 40, 41, 42, 9, 43] (by decide +kernel) (by decide +kernel)
set_option maxRecDepth 20000 in
theorem gX0_two_X0_lowestTerm : GoodIn wsX0_two (va_wsS RX0 84 yX0_lowestTerm wsX0_lowestTerm) := goodIn_app (goodIn_of _ (by decide +kernel)) ggX0_two_X0_lowestTerm
theorem dX0_two_0 : decode cX0_two 0 = .ok (.iload_n 1, 1) := by decide +kernel
theorem dX0_two_1 : decode cX0_two 1 = .ok (.iload_n 2, 1) := by decide +kernel
theorem dX0_two_2 : decode cX0_two 2 = .ok (.invokestatic 108, 3) := by decide +kernel
theorem dX0_two_5 : decode cX0_two 5 = .ok (.ifCond .ne 26, 3) := by decide +kernel
theorem dX0_two_8 : decode cX0_two 8 = .ok (.iload_n 3, 1) := by decide +kernel
theorem dX0_two_9 : decode cX0_two 9 = .ok (.sipush (-1000), 3) := by decide +kernel
theorem dX0_two_12 : decode cX0_two 12 = .ok (.sipush 1000, 3) := by decide +kernel
theorem dX0_two_15 : decode cX0_two 15 = .ok (.invokestatic 32, 3) := by decide +kernel
theorem dX0_two_18 : decode cX0_two 18 = .ok (.ifCond .ne 13, 3) := by decide +kernel
theorem dX0_two_21 : decode cX0_two 21 = .ok (.iload 4, 2) := by decide +kernel
theorem dX0_two_23 : decode cX0_two 23 = .ok (.iconst 0, 1) := by decide +kernel
theorem dX0_two_24 : decode cX0_two 24 = .ok (.iconst 1, 1) := by decide +kernel
theorem dX0_two_25 : decode cX0_two 25 = .ok (.invokestatic 32, 3) := by decide +kernel
theorem dX0_two_28 : decode cX0_two 28 = .ok (.ifCond .eq 6, 3) := by decide +kernel
theorem dX0_two_31 : decode cX0_two 31 = .ok (.ldc 56, 2) := by decide +kernel
theorem dX0_two_33 : decode cX0_two 33 = .ok (.ireturn, 1) := by decide +kernel
theorem dX0_two_34 : decode cX0_two 34 = .ok (.iload_n 2, 1) := by decide +kernel
theorem dX0_two_35 : decode cX0_two 35 = .ok (.i2l, 1) := by decide +kernel
theorem dX0_two_36 : decode cX0_two 36 = .ok (.ldc2_w 120, 3) := by decide +kernel
theorem dX0_two_39 : decode cX0_two 39 = .ok (.lmul, 1) := by decide +kernel
theorem dX0_two_40 : decode cX0_two 40 = .ok (.lstore 5, 2) := by decide +kernel
theorem dX0_two_42 : decode cX0_two 42 = .ok (.iload_n 1, 1) := by decide +kernel
theorem dX0_two_43 : decode cX0_two 43 = .ok (.i2l, 1) := by decide +kernel
theorem dX0_two_44 : decode cX0_two 44 = .ok (.ldc2_w 120, 3) := by decide +kernel
theorem dX0_two_47 : decode cX0_two 47 = .ok (.lmul, 1) := by decide +kernel
theorem dX0_two_48 : decode cX0_two 48 = .ok (.lstore 7, 2) := by decide +kernel
theorem dX0_two_50 : decode cX0_two 50 = .ok (.iload_n 3, 1) := by decide +kernel
theorem dX0_two_51 : decode cX0_two 51 = .ok (.i2l, 1) := by decide +kernel
theorem dX0_two_52 : decode cX0_two 52 = .ok (.iload_n 2, 1) := by decide +kernel
theorem dX0_two_53 : decode cX0_two 53 = .ok (.i2l, 1) := by decide +kernel
theorem dX0_two_54 : decode cX0_two 54 = .ok (.lmul, 1) := by decide +kernel
theorem dX0_two_55 : decode cX0_two 55 = .ok (.lstore 9, 2) := by decide +kernel
theorem dX0_two_57 : decode cX0_two 57 = .ok (.aload_n 0, 1) := by decide +kernel
theorem dX0_two_58 : decode cX0_two 58 = .ok (.lload 7, 2) := by decide +kernel
theorem dX0_two_60 : decode cX0_two 60 = .ok (.lload 9, 2) := by decide +kernel
theorem dX0_two_62 : decode cX0_two 62 = .ok (.ladd, 1) := by decide +kernel
theorem dX0_two_63 : decode cX0_two 63 = .ok (.lload 5, 2) := by decide +kernel
theorem dX0_two_65 : decode cX0_two 65 = .ok (.invokestatic 122, 3) := by decide +kernel
theorem dX0_two_68 : decode cX0_two 68 = .ok (.lload 5, 2) := by decide +kernel
theorem dX0_two_70 : decode cX0_two 70 = .ok (.invokevirtual 117, 3) := by decide +kernel
theorem dX0_two_73 : decode cX0_two 73 = .ok (.lstore 11, 2) := by decide +kernel
theorem dX0_two_75 : decode cX0_two 75 = .ok (.aload_n 0, 1) := by decide +kernel
theorem dX0_two_76 : decode cX0_two 76 = .ok (.lload 7, 2) := by decide +kernel
theorem dX0_two_78 : decode cX0_two 78 = .ok (.lload 5, 2) := by decide +kernel
theorem dX0_two_80 : decode cX0_two 80 = .ok (.ldc2_w 127, 3) := by decide +kernel
theorem dX0_two_83 : decode cX0_two 83 = .ok (.ldiv, 1) := by decide +kernel
theorem dX0_two_84 : decode cX0_two 84 = .ok (.ladd, 1) := by decide +kernel
theorem dX0_two_85 : decode cX0_two 85 = .ok (.lload 9, 2) := by decide +kernel
theorem dX0_two_87 : decode cX0_two 87 = .ok (.lsub, 1) := by decide +kernel
theorem dX0_two_88 : decode cX0_two 88 = .ok (.lload 5, 2) := by decide +kernel
theorem dX0_two_90 : decode cX0_two 90 = .ok (.invokestatic 122, 3) := by decide +kernel
theorem dX0_two_93 : decode cX0_two 93 = .ok (.lload 5, 2) := by decide +kernel
theorem dX0_two_95 : decode cX0_two 95 = .ok (.invokevirtual 117, 3) := by decide +kernel
theorem dX0_two_98 : decode cX0_two 98 = .ok (.lstore 13, 2) := by decide +kernel
theorem dX0_two_100 : decode cX0_two 100 = .ok (.aload_n 0, 1) := by decide +kernel
theorem dX0_two_101 : decode cX0_two 101 = .ok (.getfield 26, 3) := by decide +kernel
theorem dX0_two_104 : decode cX0_two 104 = .ok (.i2l, 1) := by decide +kernel
theorem dX0_two_105 : decode cX0_two 105 = .ok (.aload_n 0, 1) := by decide +kernel
theorem dX0_two_106 : decode cX0_two 106 = .ok (.getfield 29, 3) := by decide +kernel
theorem dX0_two_109 : decode cX0_two 109 = .ok (.i2l, 1) := by decide +kernel
theorem dX0_two_110 : decode cX0_two 110 = .ok (.lmul, 1) := by decide +kernel
theorem dX0_two_111 : decode cX0_two 111 = .ok (.lstore 15, 2) := by decide +kernel
theorem dX0_two_113 : decode cX0_two 113 = .ok (.ldc2_w 127, 3) := by decide +kernel
theorem dX0_two_116 : decode cX0_two 116 = .ok (.lload 11, 2) := by decide +kernel
theorem dX0_two_118 : decode cX0_two 118 = .ok (.lload 13, 2) := by decide +kernel
theorem dX0_two_120 : decode cX0_two 120 = .ok (.ladd, 1) := by decide +kernel
theorem dX0_two_121 : decode cX0_two 121 = .ok (.lmul, 1) := by decide +kernel
theorem dX0_two_122 : decode cX0_two 122 = .ok (.lstore 17, 2) := by decide +kernel
theorem dX0_two_124 : decode cX0_two 124 = .ok (.lload 11, 2) := by decide +kernel
theorem dX0_two_126 : decode cX0_two 126 = .ok (.lload 13, 2) := by decide +kernel
theorem dX0_two_128 : decode cX0_two 128 = .ok (.lcmp, 1) := by decide +kernel
theorem dX0_two_129 : decode cX0_two 129 = .ok (.ifCond .le 11, 3) := by decide +kernel
theorem dX0_two_132 : decode cX0_two 132 = .ok (.lload 17, 2) := by decide +kernel
theorem dX0_two_134 : decode cX0_two 134 = .ok (.lload 15, 2) := by decide +kernel
theorem dX0_two_136 : decode cX0_two 136 = .ok (.ladd, 1) := by decide +kernel
theorem dX0_two_137 : decode cX0_two 137 = .ok (.goto 8, 3) := by decide +kernel
theorem dX0_two_140 : decode cX0_two 140 = .ok (.lload 17, 2) := by decide +kernel
theorem dX0_two_142 : decode cX0_two 142 = .ok (.lload 15, 2) := by decide +kernel
theorem dX0_two_144 : decode cX0_two 144 = .ok (.lsub, 1) := by decide +kernel
theorem dX0_two_145 : decode cX0_two 145 = .ok (.ldc2_w 129, 3) := by decide +kernel
theorem dX0_two_148 : decode cX0_two 148 = .ok (.iload 4, 2) := by decide +kernel
theorem dX0_two_150 : decode cX0_two 150 = .ok (.invokestatic 84, 3) := by decide +kernel
theorem dX0_two_153 : decode cX0_two 153 = .ok (.ireturn, 1) := by decide +kernel
theorem dX0_told_0 : decode cX0_told 0 = .ok (.iload_n 1, 1) := by decide +kernel
theorem dX0_told_1 : decode cX0_told 1 = .ok (.tableswitch 60 0 4 #[35, 40, 45, 50, 55], 35) := by decide +kernel
theorem dX0_told_36 : decode cX0_told 36 = .ok (.aload_n 0, 1) := by decide +kernel
theorem dX0_told_37 : decode cX0_told 37 = .ok (.getfield 22, 3) := by decide +kernel
theorem dX0_told_40 : decode cX0_told 40 = .ok (.ireturn, 1) := by decide +kernel
theorem dX0_told_41 : decode cX0_told 41 = .ok (.aload_n 0, 1) := by decide +kernel
theorem dX0_told_42 : decode cX0_told 42 = .ok (.getfield 36, 3) := by decide +kernel
theorem dX0_told_45 : decode cX0_told 45 = .ok (.ireturn, 1) := by decide +kernel
theorem dX0_told_46 : decode cX0_told 46 = .ok (.aload_n 0, 1) := by decide +kernel
theorem dX0_told_47 : decode cX0_told 47 = .ok (.getfield 47, 3) := by decide +kernel
theorem dX0_told_50 : decode cX0_told 50 = .ok (.ireturn, 1) := by decide +kernel
theorem dX0_told_51 : decode cX0_told 51 = .ok (.aload_n 0, 1) := by decide +kernel
theorem dX0_told_52 : decode cX0_told 52 = .ok (.getfield 26, 3) := by decide +kernel
theorem dX0_told_55 : decode cX0_told 55 = .ok (.ireturn, 1) := by decide +kernel
theorem dX0_told_56 : decode cX0_told 56 = .ok (.aload_n 0, 1) := by decide +kernel
theorem dX0_told_57 : decode cX0_told 57 = .ok (.getfield 29, 3) := by decide +kernel
theorem dX0_told_60 : decode cX0_told 60 = .ok (.ireturn, 1) := by decide +kernel
theorem dX0_told_61 : decode cX0_told 61 = .ok (.bipush (-2), 2) := by decide +kernel
theorem dX0_told_63 : decode cX0_told 63 = .ok (.ireturn, 1) := by decide +kernel
theorem dX0_isOutside_0 : decode cX0_isOutside 0 = .ok (.iload_n 0, 1) := by decide +kernel
theorem dX0_isOutside_1 : decode cX0_isOutside 1 = .ok (.iload_n 1, 1) := by decide +kernel
theorem dX0_isOutside_2 : decode cX0_isOutside 2 = .ok (.if_icmp .lt 8, 3) := by decide +kernel
theorem dX0_isOutside_5 : decode cX0_isOutside 5 = .ok (.iload_n 0, 1) := by decide +kernel
theorem dX0_isOutside_6 : decode cX0_isOutside 6 = .ok (.iload_n 2, 1) := by decide +kernel
theorem dX0_isOutside_7 : decode cX0_isOutside 7 = .ok (.if_icmp .le 7, 3) := by decide +kernel
theorem dX0_isOutside_10 : decode cX0_isOutside 10 = .ok (.iconst 1, 1) := by decide +kernel
theorem dX0_isOutside_11 : decode cX0_isOutside 11 = .ok (.goto 4, 3) := by decide +kernel
theorem dX0_isOutside_14 : decode cX0_isOutside 14 = .ok (.iconst 0, 1) := by decide +kernel
theorem dX0_isOutside_15 : decode cX0_isOutside 15 = .ok (.ireturn, 1) := by decide +kernel
set_option maxRecDepth 20000 in
theorem ggX0_isNoNumberOfParts_X0_isOutside : GoodIn wsX0_isNoNumberOfParts wsX0_isOutside := goodIn_r _ [4] (by decide +kernel) (by decide +kernel)
set_option maxRecDepth 20000 in
theorem gX0_isNoNumberOfParts_X0_isOutside : GoodIn wsX0_isNoNumberOfParts (va_wsS RX0 32 yX0_isOutside wsX0_isOutside) := goodIn_app (goodIn_of _ (by decide +kernel)) ggX0_isNoNumberOfParts_X0_isOutside
theorem dX0_isNoNumberOfParts_0 : decode cX0_isNoNumberOfParts 0 = .ok (.iload_n 0, 1) := by decide +kernel
theorem dX0_isNoNumberOfParts_1 : decode cX0_isNoNumberOfParts 1 = .ok (.iconst 2, 1) := by decide +kernel
theorem dX0_isNoNumberOfParts_2 : decode cX0_isNoNumberOfParts 2 = .ok (.sipush 1000, 3) := by decide +kernel
theorem dX0_isNoNumberOfParts_5 : decode cX0_isNoNumberOfParts 5 = .ok (.invokestatic 32, 3) := by decide +kernel
theorem dX0_isNoNumberOfParts_8 : decode cX0_isNoNumberOfParts 8 = .ok (.ireturn, 1) := by decide +kernel
set_option maxRecDepth 20000 in
theorem ggX0_isNoShare_X0_isOutside : GoodIn wsX0_isNoShare wsX0_isOutside := goodIn_r _ [5] (by decide +kernel) (by decide +kernel)
set_option maxRecDepth 20000 in
theorem gX0_isNoShare_X0_isOutside : GoodIn wsX0_isNoShare (va_wsS RX0 32 yX0_isOutside wsX0_isOutside) := goodIn_app (goodIn_of _ (by decide +kernel)) ggX0_isNoShare_X0_isOutside
theorem dX0_isNoShare_0 : decode cX0_isNoShare 0 = .ok (.iload_n 0, 1) := by decide +kernel
theorem dX0_isNoShare_1 : decode cX0_isNoShare 1 = .ok (.iconst 1, 1) := by decide +kernel
theorem dX0_isNoShare_2 : decode cX0_isNoShare 2 = .ok (.ldc 131, 2) := by decide +kernel
theorem dX0_isNoShare_4 : decode cX0_isNoShare 4 = .ok (.invokestatic 32, 3) := by decide +kernel
theorem dX0_isNoShare_7 : decode cX0_isNoShare 7 = .ok (.ifCond .ne 13, 3) := by decide +kernel
theorem dX0_isNoShare_10 : decode cX0_isNoShare 10 = .ok (.iload_n 1, 1) := by decide +kernel
theorem dX0_isNoShare_11 : decode cX0_isNoShare 11 = .ok (.iconst 1, 1) := by decide +kernel
theorem dX0_isNoShare_12 : decode cX0_isNoShare 12 = .ok (.ldc 131, 2) := by decide +kernel
theorem dX0_isNoShare_14 : decode cX0_isNoShare 14 = .ok (.invokestatic 32, 3) := by decide +kernel
theorem dX0_isNoShare_17 : decode cX0_isNoShare 17 = .ok (.ifCond .eq 7, 3) := by decide +kernel
theorem dX0_isNoShare_20 : decode cX0_isNoShare 20 = .ok (.iconst 1, 1) := by decide +kernel
theorem dX0_isNoShare_21 : decode cX0_isNoShare 21 = .ok (.goto 4, 3) := by decide +kernel
theorem dX0_isNoShare_24 : decode cX0_isNoShare 24 = .ok (.iconst 0, 1) := by decide +kernel
theorem dX0_isNoShare_25 : decode cX0_isNoShare 25 = .ok (.ireturn, 1) := by decide +kernel
set_option maxRecDepth 20000 in
theorem ggX0_isNoPlace_X0_isOutside : GoodIn wsX0_isNoPlace wsX0_isOutside := goodIn_r _ [5] (by decide +kernel) (by decide +kernel)
set_option maxRecDepth 20000 in
theorem gX0_isNoPlace_X0_isOutside : GoodIn wsX0_isNoPlace (va_wsS RX0 32 yX0_isOutside wsX0_isOutside) := goodIn_app (goodIn_of _ (by decide +kernel)) ggX0_isNoPlace_X0_isOutside
theorem dX0_isNoPlace_0 : decode cX0_isNoPlace 0 = .ok (.iload_n 1, 1) := by decide +kernel
theorem dX0_isNoPlace_1 : decode cX0_isNoPlace 1 = .ok (.iconst 1, 1) := by decide +kernel
theorem dX0_isNoPlace_2 : decode cX0_isNoPlace 2 = .ok (.ldc 131, 2) := by decide +kernel
theorem dX0_isNoPlace_4 : decode cX0_isNoPlace 4 = .ok (.invokestatic 32, 3) := by decide +kernel
theorem dX0_isNoPlace_7 : decode cX0_isNoPlace 7 = .ok (.ifCond .ne 14, 3) := by decide +kernel
theorem dX0_isNoPlace_10 : decode cX0_isNoPlace 10 = .ok (.iload_n 0, 1) := by decide +kernel
theorem dX0_isNoPlace_11 : decode cX0_isNoPlace 11 = .ok (.iconst 0, 1) := by decide +kernel
theorem dX0_isNoPlace_12 : decode cX0_isNoPlace 12 = .ok (.iload_n 1, 1) := by decide +kernel
theorem dX0_isNoPlace_13 : decode cX0_isNoPlace 13 = .ok (.iconst 1, 1) := by decide +kernel
theorem dX0_isNoPlace_14 : decode cX0_isNoPlace 14 = .ok (.isub, 1) := by decide +kernel
theorem dX0_isNoPlace_15 : decode cX0_isNoPlace 15 = .ok (.invokestatic 32, 3) := by decide +kernel
theorem dX0_isNoPlace_18 : decode cX0_isNoPlace 18 = .ok (.ifCond .eq 7, 3) := by decide +kernel
theorem dX0_isNoPlace_21 : decode cX0_isNoPlace 21 = .ok (.iconst 1, 1) := by decide +kernel
theorem dX0_isNoPlace_22 : decode cX0_isNoPlace 22 = .ok (.goto 4, 3) := by decide +kernel
theorem dX0_isNoPlace_25 : decode cX0_isNoPlace 25 = .ok (.iconst 0, 1) := by decide +kernel
theorem dX0_isNoPlace_26 : decode cX0_isNoPlace 26 = .ok (.ireturn, 1) := by decide +kernel
set_option maxRecDepth 20000 in
theorem ggX0_isNoStep_X0_isOutside : GoodIn wsX0_isNoStep wsX0_isOutside := goodIn_r _ [5] (by decide +kernel) (by decide +kernel)
set_option maxRecDepth 20000 in
theorem gX0_isNoStep_X0_isOutside : GoodIn wsX0_isNoStep (va_wsS RX0 32 yX0_isOutside wsX0_isOutside) := goodIn_app (goodIn_of _ (by decide +kernel)) ggX0_isNoStep_X0_isOutside
theorem dX0_isNoStep_0 : decode cX0_isNoStep 0 = .ok (.iload_n 0, 1) := by decide +kernel
theorem dX0_isNoStep_1 : decode cX0_isNoStep 1 = .ok (.iconst 1, 1) := by decide +kernel
theorem dX0_isNoStep_2 : decode cX0_isNoStep 2 = .ok (.ldc 132, 2) := by decide +kernel
theorem dX0_isNoStep_4 : decode cX0_isNoStep 4 = .ok (.invokestatic 32, 3) := by decide +kernel
theorem dX0_isNoStep_7 : decode cX0_isNoStep 7 = .ok (.ireturn, 1) := by decide +kernel
theorem dX0_holesAt_0 : decode cX0_holesAt 0 = .ok (.iload_n 1, 1) := by decide +kernel
theorem dX0_holesAt_1 : decode cX0_holesAt 1 = .ok (.ifCond .lt 11, 3) := by decide +kernel
theorem dX0_holesAt_4 : decode cX0_holesAt 4 = .ok (.iload_n 1, 1) := by decide +kernel
theorem dX0_holesAt_5 : decode cX0_holesAt 5 = .ok (.aload_n 0, 1) := by decide +kernel
theorem dX0_holesAt_6 : decode cX0_holesAt 6 = .ok (.getfield 36, 3) := by decide +kernel
theorem dX0_holesAt_9 : decode cX0_holesAt 9 = .ok (.if_icmp .lt 7, 3) := by decide +kernel
theorem dX0_holesAt_12 : decode cX0_holesAt 12 = .ok (.iconst 0, 1) := by decide +kernel
theorem dX0_holesAt_13 : decode cX0_holesAt 13 = .ok (.goto 9, 3) := by decide +kernel
theorem dX0_holesAt_16 : decode cX0_holesAt 16 = .ok (.aload_n 0, 1) := by decide +kernel
theorem dX0_holesAt_17 : decode cX0_holesAt 17 = .ok (.getfield 9, 3) := by decide +kernel
theorem dX0_holesAt_20 : decode cX0_holesAt 20 = .ok (.iload_n 1, 1) := by decide +kernel
theorem dX0_holesAt_21 : decode cX0_holesAt 21 = .ok (.iaload, 1) := by decide +kernel
theorem dX0_holesAt_22 : decode cX0_holesAt 22 = .ok (.ireturn, 1) := by decide +kernel
theorem dX0_hasCircleOf_0 : decode cX0_hasCircleOf 0 = .ok (.iconst 0, 1) := by decide +kernel
theorem dX0_hasCircleOf_1 : decode cX0_hasCircleOf 1 = .ok (.istore_n 2, 1) := by decide +kernel
theorem dX0_hasCircleOf_2 : decode cX0_hasCircleOf 2 = .ok (.iload_n 2, 1) := by decide +kernel
theorem dX0_hasCircleOf_3 : decode cX0_hasCircleOf 3 = .ok (.aload_n 0, 1) := by decide +kernel
theorem dX0_hasCircleOf_4 : decode cX0_hasCircleOf 4 = .ok (.getfield 36, 3) := by decide +kernel
theorem dX0_hasCircleOf_7 : decode cX0_hasCircleOf 7 = .ok (.if_icmp .ge 21, 3) := by decide +kernel
theorem dX0_hasCircleOf_10 : decode cX0_hasCircleOf 10 = .ok (.aload_n 0, 1) := by decide +kernel
theorem dX0_hasCircleOf_11 : decode cX0_hasCircleOf 11 = .ok (.getfield 9, 3) := by decide +kernel
theorem dX0_hasCircleOf_14 : decode cX0_hasCircleOf 14 = .ok (.iload_n 2, 1) := by decide +kernel
theorem dX0_hasCircleOf_15 : decode cX0_hasCircleOf 15 = .ok (.iaload, 1) := by decide +kernel
theorem dX0_hasCircleOf_16 : decode cX0_hasCircleOf 16 = .ok (.iload_n 1, 1) := by decide +kernel
theorem dX0_hasCircleOf_17 : decode cX0_hasCircleOf 17 = .ok (.if_icmp .ne 5, 3) := by decide +kernel
theorem dX0_hasCircleOf_20 : decode cX0_hasCircleOf 20 = .ok (.iconst 1, 1) := by decide +kernel
theorem dX0_hasCircleOf_21 : decode cX0_hasCircleOf 21 = .ok (.ireturn, 1) := by decide +kernel
theorem dX0_hasCircleOf_22 : decode cX0_hasCircleOf 22 = .ok (.iinc 2 1, 3) := by decide +kernel
theorem dX0_hasCircleOf_25 : decode cX0_hasCircleOf 25 = .ok (.goto (-23), 3) := by decide +kernel
theorem dX0_hasCircleOf_28 : decode cX0_hasCircleOf 28 = .ok (.iconst 0, 1) := by decide +kernel
theorem dX0_hasCircleOf_29 : decode cX0_hasCircleOf 29 = .ok (.ireturn, 1) := by decide +kernel
set_option maxRecDepth 20000 in
theorem ggX0_plainCircle_X0_exactQuotient : GoodIn wsX0_plainCircle wsX0_exactQuotient := goodIn_r _ [7] (by decide +kernel) (by decide +kernel)
set_option maxRecDepth 20000 in
theorem gX0_plainCircle_X0_exactQuotient : GoodIn wsX0_plainCircle (va_wsS RX0 133 yX0_exactQuotient wsX0_exactQuotient) := goodIn_app (goodIn_of _ (by decide +kernel)) ggX0_plainCircle_X0_exactQuotient
theorem dX0_plainCircle_0 : decode cX0_plainCircle 0 = .ok (.bipush (-6), 2) := by decide +kernel
theorem dX0_plainCircle_2 : decode cX0_plainCircle 2 = .ok (.istore_n 2, 1) := by decide +kernel
theorem dX0_plainCircle_3 : decode cX0_plainCircle 3 = .ok (.iconst 0, 1) := by decide +kernel
theorem dX0_plainCircle_4 : decode cX0_plainCircle 4 = .ok (.istore_n 3, 1) := by decide +kernel
theorem dX0_plainCircle_5 : decode cX0_plainCircle 5 = .ok (.iload_n 3, 1) := by decide +kernel
theorem dX0_plainCircle_6 : decode cX0_plainCircle 6 = .ok (.aload_n 0, 1) := by decide +kernel
theorem dX0_plainCircle_7 : decode cX0_plainCircle 7 = .ok (.getfield 36, 3) := by decide +kernel
theorem dX0_plainCircle_10 : decode cX0_plainCircle 10 = .ok (.if_icmp .ge 66, 3) := by decide +kernel
theorem dX0_plainCircle_13 : decode cX0_plainCircle 13 = .ok (.aload_n 0, 1) := by decide +kernel
theorem dX0_plainCircle_14 : decode cX0_plainCircle 14 = .ok (.getfield 22, 3) := by decide +kernel
theorem dX0_plainCircle_17 : decode cX0_plainCircle 17 = .ok (.aload_n 0, 1) := by decide +kernel
theorem dX0_plainCircle_18 : decode cX0_plainCircle 18 = .ok (.getfield 9, 3) := by decide +kernel
theorem dX0_plainCircle_21 : decode cX0_plainCircle 21 = .ok (.iload_n 3, 1) := by decide +kernel
theorem dX0_plainCircle_22 : decode cX0_plainCircle 22 = .ok (.iaload, 1) := by decide +kernel
theorem dX0_plainCircle_23 : decode cX0_plainCircle 23 = .ok (.imul, 1) := by decide +kernel
theorem dX0_plainCircle_24 : decode cX0_plainCircle 24 = .ok (.i2l, 1) := by decide +kernel
theorem dX0_plainCircle_25 : decode cX0_plainCircle 25 = .ok (.iload_n 1, 1) := by decide +kernel
theorem dX0_plainCircle_26 : decode cX0_plainCircle 26 = .ok (.i2l, 1) := by decide +kernel
theorem dX0_plainCircle_27 : decode cX0_plainCircle 27 = .ok (.invokestatic 133, 3) := by decide +kernel
theorem dX0_plainCircle_30 : decode cX0_plainCircle 30 = .ok (.lconst 0, 1) := by decide +kernel
theorem dX0_plainCircle_31 : decode cX0_plainCircle 31 = .ok (.lcmp, 1) := by decide +kernel
theorem dX0_plainCircle_32 : decode cX0_plainCircle 32 = .ok (.ifCond .eq 7, 3) := by decide +kernel
theorem dX0_plainCircle_35 : decode cX0_plainCircle 35 = .ok (.iconst 1, 1) := by decide +kernel
theorem dX0_plainCircle_36 : decode cX0_plainCircle 36 = .ok (.goto 4, 3) := by decide +kernel
theorem dX0_plainCircle_39 : decode cX0_plainCircle 39 = .ok (.iconst 0, 1) := by decide +kernel
theorem dX0_plainCircle_40 : decode cX0_plainCircle 40 = .ok (.istore 4, 2) := by decide +kernel
theorem dX0_plainCircle_42 : decode cX0_plainCircle 42 = .ok (.iload 4, 2) := by decide +kernel
theorem dX0_plainCircle_44 : decode cX0_plainCircle 44 = .ok (.ifCond .eq 26, 3) := by decide +kernel
theorem dX0_plainCircle_47 : decode cX0_plainCircle 47 = .ok (.iload_n 2, 1) := by decide +kernel
theorem dX0_plainCircle_48 : decode cX0_plainCircle 48 = .ok (.bipush (-6), 2) := by decide +kernel
theorem dX0_plainCircle_50 : decode cX0_plainCircle 50 = .ok (.if_icmp .eq 18, 3) := by decide +kernel
theorem dX0_plainCircle_53 : decode cX0_plainCircle 53 = .ok (.aload_n 0, 1) := by decide +kernel
theorem dX0_plainCircle_54 : decode cX0_plainCircle 54 = .ok (.getfield 9, 3) := by decide +kernel
theorem dX0_plainCircle_57 : decode cX0_plainCircle 57 = .ok (.iload_n 3, 1) := by decide +kernel
theorem dX0_plainCircle_58 : decode cX0_plainCircle 58 = .ok (.iaload, 1) := by decide +kernel
theorem dX0_plainCircle_59 : decode cX0_plainCircle 59 = .ok (.aload_n 0, 1) := by decide +kernel
theorem dX0_plainCircle_60 : decode cX0_plainCircle 60 = .ok (.getfield 9, 3) := by decide +kernel
theorem dX0_plainCircle_63 : decode cX0_plainCircle 63 = .ok (.iload_n 2, 1) := by decide +kernel
theorem dX0_plainCircle_64 : decode cX0_plainCircle 64 = .ok (.iaload, 1) := by decide +kernel
theorem dX0_plainCircle_65 : decode cX0_plainCircle 65 = .ok (.if_icmp .ge 5, 3) := by decide +kernel
theorem dX0_plainCircle_68 : decode cX0_plainCircle 68 = .ok (.iload_n 3, 1) := by decide +kernel
theorem dX0_plainCircle_69 : decode cX0_plainCircle 69 = .ok (.istore_n 2, 1) := by decide +kernel
theorem dX0_plainCircle_70 : decode cX0_plainCircle 70 = .ok (.iinc 3 1, 3) := by decide +kernel
theorem dX0_plainCircle_73 : decode cX0_plainCircle 73 = .ok (.goto (-68), 3) := by decide +kernel
theorem dX0_plainCircle_76 : decode cX0_plainCircle 76 = .ok (.iload_n 2, 1) := by decide +kernel
theorem dX0_plainCircle_77 : decode cX0_plainCircle 77 = .ok (.ireturn, 1) := by decide +kernel
set_option maxRecDepth 20000 in
theorem ggX0_secondStep_X0_firstStep : GoodIn wsX0_secondStep wsX0_firstStep := goodIn_r _ [5, 6, 7, 8, 4, 9, 10, 11, 12, 13, 14, 15, 16, 17, 18] (by decide +kernel) (by decide +kernel)
set_option maxRecDepth 20000 in
theorem gX0_secondStep_X0_firstStep : GoodIn wsX0_secondStep (wsV RX0 136 RX0 yX0_firstStep wsX0_firstStep) := goodIn_app (goodIn_of _ (by decide +kernel)) ggX0_secondStep_X0_firstStep
theorem dX0_secondStep_0 : decode cX0_secondStep 0 = .ok (.iconst 1, 1) := by decide +kernel
theorem dX0_secondStep_1 : decode cX0_secondStep 1 = .ok (.istore 4, 2) := by decide +kernel
theorem dX0_secondStep_3 : decode cX0_secondStep 3 = .ok (.iload 4, 2) := by decide +kernel
theorem dX0_secondStep_5 : decode cX0_secondStep 5 = .ok (.iload_n 2, 1) := by decide +kernel
theorem dX0_secondStep_6 : decode cX0_secondStep 6 = .ok (.if_icmp .gt 41, 3) := by decide +kernel
theorem dX0_secondStep_9 : decode cX0_secondStep 9 = .ok (.aload_n 0, 1) := by decide +kernel
theorem dX0_secondStep_10 : decode cX0_secondStep 10 = .ok (.iload_n 1, 1) := by decide +kernel
theorem dX0_secondStep_11 : decode cX0_secondStep 11 = .ok (.iload_n 2, 1) := by decide +kernel
theorem dX0_secondStep_12 : decode cX0_secondStep 12 = .ok (.iload_n 3, 1) := by decide +kernel
theorem dX0_secondStep_13 : decode cX0_secondStep 13 = .ok (.iload 4, 2) := by decide +kernel
theorem dX0_secondStep_15 : decode cX0_secondStep 15 = .ok (.invokevirtual 136, 3) := by decide +kernel
theorem dX0_secondStep_18 : decode cX0_secondStep 18 = .ok (.ifCond .eq 6, 3) := by decide +kernel
theorem dX0_secondStep_21 : decode cX0_secondStep 21 = .ok (.iload 4, 2) := by decide +kernel
theorem dX0_secondStep_23 : decode cX0_secondStep 23 = .ok (.ireturn, 1) := by decide +kernel
theorem dX0_secondStep_24 : decode cX0_secondStep 24 = .ok (.aload_n 0, 1) := by decide +kernel
theorem dX0_secondStep_25 : decode cX0_secondStep 25 = .ok (.iload_n 1, 1) := by decide +kernel
theorem dX0_secondStep_26 : decode cX0_secondStep 26 = .ok (.iload_n 2, 1) := by decide +kernel
theorem dX0_secondStep_27 : decode cX0_secondStep 27 = .ok (.iload_n 3, 1) := by decide +kernel
theorem dX0_secondStep_28 : decode cX0_secondStep 28 = .ok (.iload 4, 2) := by decide +kernel
theorem dX0_secondStep_30 : decode cX0_secondStep 30 = .ok (.ineg, 1) := by decide +kernel
theorem dX0_secondStep_31 : decode cX0_secondStep 31 = .ok (.invokevirtual 136, 3) := by decide +kernel
theorem dX0_secondStep_34 : decode cX0_secondStep 34 = .ok (.ifCond .eq 7, 3) := by decide +kernel
theorem dX0_secondStep_37 : decode cX0_secondStep 37 = .ok (.iload 4, 2) := by decide +kernel
theorem dX0_secondStep_39 : decode cX0_secondStep 39 = .ok (.ineg, 1) := by decide +kernel
theorem dX0_secondStep_40 : decode cX0_secondStep 40 = .ok (.ireturn, 1) := by decide +kernel
theorem dX0_secondStep_41 : decode cX0_secondStep 41 = .ok (.iinc 4 1, 3) := by decide +kernel
theorem dX0_secondStep_44 : decode cX0_secondStep 44 = .ok (.goto (-41), 3) := by decide +kernel
theorem dX0_secondStep_47 : decode cX0_secondStep 47 = .ok (.iconst 0, 1) := by decide +kernel
theorem dX0_secondStep_48 : decode cX0_secondStep 48 = .ok (.ireturn, 1) := by decide +kernel
set_option maxRecDepth 20000 in
theorem ggX0_firstStep_X0_exactQuotient : GoodIn wsX0_firstStep wsX0_exactQuotient := goodIn_r _ [5] (by decide +kernel) (by decide +kernel)
set_option maxRecDepth 20000 in
theorem gX0_firstStep_X0_exactQuotient : GoodIn wsX0_firstStep (va_wsS RX0 133 yX0_exactQuotient wsX0_exactQuotient) := goodIn_app (goodIn_of _ (by decide +kernel)) ggX0_firstStep_X0_exactQuotient
theorem dX0_firstStep_0 : decode cX0_firstStep 0 = .ok (.aload_n 0, 1) := by decide +kernel
theorem dX0_firstStep_1 : decode cX0_firstStep 1 = .ok (.getfield 22, 3) := by decide +kernel
theorem dX0_firstStep_4 : decode cX0_firstStep 4 = .ok (.iload_n 2, 1) := by decide +kernel
theorem dX0_firstStep_5 : decode cX0_firstStep 5 = .ok (.imul, 1) := by decide +kernel
theorem dX0_firstStep_6 : decode cX0_firstStep 6 = .ok (.iload 4, 2) := by decide +kernel
theorem dX0_firstStep_8 : decode cX0_firstStep 8 = .ok (.iload_n 3, 1) := by decide +kernel
theorem dX0_firstStep_9 : decode cX0_firstStep 9 = .ok (.imul, 1) := by decide +kernel
theorem dX0_firstStep_10 : decode cX0_firstStep 10 = .ok (.isub, 1) := by decide +kernel
theorem dX0_firstStep_11 : decode cX0_firstStep 11 = .ok (.istore 5, 2) := by decide +kernel
theorem dX0_firstStep_13 : decode cX0_firstStep 13 = .ok (.iload_n 1, 1) := by decide +kernel
theorem dX0_firstStep_14 : decode cX0_firstStep 14 = .ok (.iload 5, 2) := by decide +kernel
theorem dX0_firstStep_16 : decode cX0_firstStep 16 = .ok (.imul, 1) := by decide +kernel
theorem dX0_firstStep_17 : decode cX0_firstStep 17 = .ok (.i2l, 1) := by decide +kernel
theorem dX0_firstStep_18 : decode cX0_firstStep 18 = .ok (.iload_n 3, 1) := by decide +kernel
theorem dX0_firstStep_19 : decode cX0_firstStep 19 = .ok (.iload_n 2, 1) := by decide +kernel
theorem dX0_firstStep_20 : decode cX0_firstStep 20 = .ok (.imul, 1) := by decide +kernel
theorem dX0_firstStep_21 : decode cX0_firstStep 21 = .ok (.i2l, 1) := by decide +kernel
theorem dX0_firstStep_22 : decode cX0_firstStep 22 = .ok (.invokestatic 133, 3) := by decide +kernel
theorem dX0_firstStep_25 : decode cX0_firstStep 25 = .ok (.l2i, 1) := by decide +kernel
theorem dX0_firstStep_26 : decode cX0_firstStep 26 = .ok (.ireturn, 1) := by decide +kernel
set_option maxRecDepth 20000 in
theorem ggX0_compoundTerm_X0_firstStep : GoodIn wsX0_compoundTerm wsX0_firstStep := goodIn_r _ [6, 7, 8, 9, 5, 10, 11, 12, 13, 14, 15, 16, 17, 18, 19] (by decide +kernel) (by decide +kernel)
set_option maxRecDepth 20000 in
theorem gX0_compoundTerm_X0_firstStep : GoodIn wsX0_compoundTerm (wsV RX0 136 RX0 yX0_firstStep wsX0_firstStep) := goodIn_app (goodIn_of _ (by decide +kernel)) ggX0_compoundTerm_X0_firstStep
theorem dX0_compoundTerm_0 : decode cX0_compoundTerm 0 = .ok (.iload 5, 2) := by decide +kernel
theorem dX0_compoundTerm_2 : decode cX0_compoundTerm 2 = .ok (.tableswitch 50 0 2 #[26, 28, 48], 26) := by decide +kernel
theorem dX0_compoundTerm_28 : decode cX0_compoundTerm 28 = .ok (.iload_n 1, 1) := by decide +kernel
theorem dX0_compoundTerm_29 : decode cX0_compoundTerm 29 = .ok (.ireturn, 1) := by decide +kernel
theorem dX0_compoundTerm_30 : decode cX0_compoundTerm 30 = .ok (.aload_n 0, 1) := by decide +kernel
theorem dX0_compoundTerm_31 : decode cX0_compoundTerm 31 = .ok (.aload_n 0, 1) := by decide +kernel
theorem dX0_compoundTerm_32 : decode cX0_compoundTerm 32 = .ok (.getfield 9, 3) := by decide +kernel
theorem dX0_compoundTerm_35 : decode cX0_compoundTerm 35 = .ok (.iload_n 1, 1) := by decide +kernel
theorem dX0_compoundTerm_36 : decode cX0_compoundTerm 36 = .ok (.iaload, 1) := by decide +kernel
theorem dX0_compoundTerm_37 : decode cX0_compoundTerm 37 = .ok (.aload_n 0, 1) := by decide +kernel
theorem dX0_compoundTerm_38 : decode cX0_compoundTerm 38 = .ok (.getfield 9, 3) := by decide +kernel
theorem dX0_compoundTerm_41 : decode cX0_compoundTerm 41 = .ok (.iload_n 2, 1) := by decide +kernel
theorem dX0_compoundTerm_42 : decode cX0_compoundTerm 42 = .ok (.iaload, 1) := by decide +kernel
theorem dX0_compoundTerm_43 : decode cX0_compoundTerm 43 = .ok (.iload_n 3, 1) := by decide +kernel
theorem dX0_compoundTerm_44 : decode cX0_compoundTerm 44 = .ok (.iload 4, 2) := by decide +kernel
theorem dX0_compoundTerm_46 : decode cX0_compoundTerm 46 = .ok (.invokevirtual 136, 3) := by decide +kernel
theorem dX0_compoundTerm_49 : decode cX0_compoundTerm 49 = .ok (.ireturn, 1) := by decide +kernel
theorem dX0_compoundTerm_50 : decode cX0_compoundTerm 50 = .ok (.iload_n 2, 1) := by decide +kernel
theorem dX0_compoundTerm_51 : decode cX0_compoundTerm 51 = .ok (.ireturn, 1) := by decide +kernel
theorem dX0_compoundTerm_52 : decode cX0_compoundTerm 52 = .ok (.iload 4, 2) := by decide +kernel
theorem dX0_compoundTerm_54 : decode cX0_compoundTerm 54 = .ok (.ireturn, 1) := by decide +kernel
set_option maxRecDepth 20000 in
theorem ggX0_partsBeside_X0_standsIn : GoodIn wsX0_partsBeside wsX0_standsIn := goodIn_r _ [5, 6, 7, 8, 9, 10, 11, 12, 4, 13, 14, 15, 16, 17, 18, 19, 20, 21, 22, 23, 24, 25, 26, 27, 28, 29, 30, 31, 32, 33, 34, 35, 36, 37, 38, 39, 40, 41, 42, 43, 44, 45, 46, 47, 48, 49, 50, 51, 52, 53, 54, 55, 56, 57, 58, 59, 60, 61] (by decide +kernel) (by decide +kernel)
set_option maxRecDepth 20000 in
theorem gX0_partsBeside_X0_standsIn : GoodIn wsX0_partsBeside (wsV RX0 140 RX0 yX0_standsIn wsX0_standsIn) := goodIn_app (goodIn_of _ (by decide +kernel)) ggX0_partsBeside_X0_standsIn
theorem dX0_partsBeside_0 : decode cX0_partsBeside 0 = .ok (.iconst 1, 1) := by decide +kernel
theorem dX0_partsBeside_1 : decode cX0_partsBeside 1 = .ok (.istore_n 2, 1) := by decide +kernel
theorem dX0_partsBeside_2 : decode cX0_partsBeside 2 = .ok (.iload_n 2, 1) := by decide +kernel
theorem dX0_partsBeside_3 : decode cX0_partsBeside 3 = .ok (.bipush 10, 2) := by decide +kernel
theorem dX0_partsBeside_5 : decode cX0_partsBeside 5 = .ok (.if_icmp .gt 39, 3) := by decide +kernel
theorem dX0_partsBeside_8 : decode cX0_partsBeside 8 = .ok (.aload_n 0, 1) := by decide +kernel
theorem dX0_partsBeside_9 : decode cX0_partsBeside 9 = .ok (.iload_n 1, 1) := by decide +kernel
theorem dX0_partsBeside_10 : decode cX0_partsBeside 10 = .ok (.iload_n 2, 1) := by decide +kernel
theorem dX0_partsBeside_11 : decode cX0_partsBeside 11 = .ok (.isub, 1) := by decide +kernel
theorem dX0_partsBeside_12 : decode cX0_partsBeside 12 = .ok (.iload_n 1, 1) := by decide +kernel
theorem dX0_partsBeside_13 : decode cX0_partsBeside 13 = .ok (.invokevirtual 140, 3) := by decide +kernel
theorem dX0_partsBeside_16 : decode cX0_partsBeside 16 = .ok (.ifCond .eq 7, 3) := by decide +kernel
theorem dX0_partsBeside_19 : decode cX0_partsBeside 19 = .ok (.iload_n 1, 1) := by decide +kernel
theorem dX0_partsBeside_20 : decode cX0_partsBeside 20 = .ok (.iload_n 2, 1) := by decide +kernel
theorem dX0_partsBeside_21 : decode cX0_partsBeside 21 = .ok (.isub, 1) := by decide +kernel
theorem dX0_partsBeside_22 : decode cX0_partsBeside 22 = .ok (.ireturn, 1) := by decide +kernel
theorem dX0_partsBeside_23 : decode cX0_partsBeside 23 = .ok (.aload_n 0, 1) := by decide +kernel
theorem dX0_partsBeside_24 : decode cX0_partsBeside 24 = .ok (.iload_n 1, 1) := by decide +kernel
theorem dX0_partsBeside_25 : decode cX0_partsBeside 25 = .ok (.iload_n 2, 1) := by decide +kernel
theorem dX0_partsBeside_26 : decode cX0_partsBeside 26 = .ok (.iadd, 1) := by decide +kernel
theorem dX0_partsBeside_27 : decode cX0_partsBeside 27 = .ok (.iload_n 1, 1) := by decide +kernel
theorem dX0_partsBeside_28 : decode cX0_partsBeside 28 = .ok (.invokevirtual 140, 3) := by decide +kernel
theorem dX0_partsBeside_31 : decode cX0_partsBeside 31 = .ok (.ifCond .eq 7, 3) := by decide +kernel
theorem dX0_partsBeside_34 : decode cX0_partsBeside 34 = .ok (.iload_n 1, 1) := by decide +kernel
theorem dX0_partsBeside_35 : decode cX0_partsBeside 35 = .ok (.iload_n 2, 1) := by decide +kernel
theorem dX0_partsBeside_36 : decode cX0_partsBeside 36 = .ok (.iadd, 1) := by decide +kernel
theorem dX0_partsBeside_37 : decode cX0_partsBeside 37 = .ok (.ireturn, 1) := by decide +kernel
theorem dX0_partsBeside_38 : decode cX0_partsBeside 38 = .ok (.iinc 2 1, 3) := by decide +kernel
theorem dX0_partsBeside_41 : decode cX0_partsBeside 41 = .ok (.goto (-39), 3) := by decide +kernel
theorem dX0_partsBeside_44 : decode cX0_partsBeside 44 = .ok (.bipush (-6), 2) := by decide +kernel
theorem dX0_partsBeside_46 : decode cX0_partsBeside 46 = .ok (.ireturn, 1) := by decide +kernel
set_option maxRecDepth 20000 in
theorem ggX0_standsIn_X0_isNoNumberOfParts : GoodIn wsX0_standsIn wsX0_isNoNumberOfParts := goodIn_r _ [9, 10, 11, 8, 12] (by decide +kernel) (by decide +kernel)
set_option maxRecDepth 20000 in
theorem gX0_standsIn_X0_isNoNumberOfParts : GoodIn wsX0_standsIn (va_wsS RX0 50 yX0_isNoNumberOfParts wsX0_isNoNumberOfParts) := goodIn_app (goodIn_of _ (by decide +kernel)) ggX0_standsIn_X0_isNoNumberOfParts
set_option maxRecDepth 20000 in
theorem ggX0_standsIn_X0_plainCircle : GoodIn wsX0_standsIn wsX0_plainCircle := goodIn_r _ [16, 17, 5, 18, 19, 20, 8, 21, 49, 50, 51, 52, 53, 54, 55, 56, 57] (by decide +kernel) (by decide +kernel)
set_option maxRecDepth 20000 in
theorem gX0_standsIn_X0_plainCircle : GoodIn wsX0_standsIn (wsV RX0 53 RX0 yX0_plainCircle wsX0_plainCircle) := goodIn_app (goodIn_of _ (by decide +kernel)) ggX0_standsIn_X0_plainCircle
set_option maxRecDepth 20000 in
theorem ggX0_standsIn_X0_findTrain : GoodIn wsX0_standsIn wsX0_findTrain := goodIn_r _ [25, 26, 27, 28, 8, 29, 30, 31, 19, 20, 21, 32, 33, 34, 35, 36, 37, 38, 39, 40, 41, 42, 43, 44, 45, 46, 47, 48, 49, 50, 51, 52, 53, 54, 55, 56, 57] (by decide +kernel) (by decide +kernel)
set_option maxRecDepth 20000 in
theorem gX0_standsIn_X0_findTrain : GoodIn wsX0_standsIn (wsV RX0 73 RX0 yX0_findTrain wsX0_findTrain) := goodIn_app (goodIn_of _ (by decide +kernel)) ggX0_standsIn_X0_findTrain
theorem dX0_standsIn_0 : decode cX0_standsIn 0 = .ok (.iload_n 1, 1) := by decide +kernel
theorem dX0_standsIn_1 : decode cX0_standsIn 1 = .ok (.invokestatic 50, 3) := by decide +kernel
theorem dX0_standsIn_4 : decode cX0_standsIn 4 = .ok (.ifCond .ne 38, 3) := by decide +kernel
theorem dX0_standsIn_7 : decode cX0_standsIn 7 = .ok (.aload_n 0, 1) := by decide +kernel
theorem dX0_standsIn_8 : decode cX0_standsIn 8 = .ok (.iload_n 1, 1) := by decide +kernel
theorem dX0_standsIn_9 : decode cX0_standsIn 9 = .ok (.invokevirtual 53, 3) := by decide +kernel
theorem dX0_standsIn_12 : decode cX0_standsIn 12 = .ok (.bipush (-6), 2) := by decide +kernel
theorem dX0_standsIn_14 : decode cX0_standsIn 14 = .ok (.if_icmp .eq 28, 3) := by decide +kernel
theorem dX0_standsIn_17 : decode cX0_standsIn 17 = .ok (.aload_n 0, 1) := by decide +kernel
theorem dX0_standsIn_18 : decode cX0_standsIn 18 = .ok (.iload_n 1, 1) := by decide +kernel
theorem dX0_standsIn_19 : decode cX0_standsIn 19 = .ok (.iload_n 2, 1) := by decide +kernel
theorem dX0_standsIn_20 : decode cX0_standsIn 20 = .ok (.isub, 1) := by decide +kernel
theorem dX0_standsIn_21 : decode cX0_standsIn 21 = .ok (.invokestatic 143, 3) := by decide +kernel
theorem dX0_standsIn_24 : decode cX0_standsIn 24 = .ok (.aload_n 0, 1) := by decide +kernel
theorem dX0_standsIn_25 : decode cX0_standsIn 25 = .ok (.getfield 22, 3) := by decide +kernel
theorem dX0_standsIn_28 : decode cX0_standsIn 28 = .ok (.imul, 1) := by decide +kernel
theorem dX0_standsIn_29 : decode cX0_standsIn 29 = .ok (.i2l, 1) := by decide +kernel
theorem dX0_standsIn_30 : decode cX0_standsIn 30 = .ok (.iload_n 1, 1) := by decide +kernel
theorem dX0_standsIn_31 : decode cX0_standsIn 31 = .ok (.i2l, 1) := by decide +kernel
theorem dX0_standsIn_32 : decode cX0_standsIn 32 = .ok (.invokevirtual 73, 3) := by decide +kernel
theorem dX0_standsIn_35 : decode cX0_standsIn 35 = .ok (.ifCond .eq 7, 3) := by decide +kernel
theorem dX0_standsIn_38 : decode cX0_standsIn 38 = .ok (.iconst 1, 1) := by decide +kernel
theorem dX0_standsIn_39 : decode cX0_standsIn 39 = .ok (.goto 4, 3) := by decide +kernel
theorem dX0_standsIn_42 : decode cX0_standsIn 42 = .ok (.iconst 0, 1) := by decide +kernel
theorem dX0_standsIn_43 : decode cX0_standsIn 43 = .ok (.ireturn, 1) := by decide +kernel
set_option maxRecDepth 20000 in
theorem ggX0_findTrain_X0_findTwoGears : GoodIn wsX0_findTrain wsX0_findTwoGears := goodIn_r _ [5, 6, 7, 8, 9, 4, 10, 11, 12, 13, 14, 15, 16, 17, 18, 19, 28, 29, 30, 31, 32, 33, 34, 35, 36] (by decide +kernel) (by decide +kernel)
set_option maxRecDepth 20000 in
theorem gX0_findTrain_X0_findTwoGears : GoodIn wsX0_findTrain (wsV RX0 146 RX0 yX0_findTwoGears wsX0_findTwoGears) := goodIn_app (goodIn_of _ (by decide +kernel)) ggX0_findTrain_X0_findTwoGears
set_option maxRecDepth 20000 in
theorem ggX0_findTrain_X0_findFourGears : GoodIn wsX0_findTrain wsX0_findFourGears := goodIn_r _ [23, 6, 24, 25, 26, 4, 27, 7, 8, 9, 10, 11, 12, 13, 14, 15, 16, 17, 18, 19, 28, 29, 30, 31, 32, 33, 34, 35, 36] (by decide +kernel) (by decide +kernel)
set_option maxRecDepth 20000 in
theorem gX0_findTrain_X0_findFourGears : GoodIn wsX0_findTrain (wsV RX0 149 RX0 yX0_findFourGears wsX0_findFourGears) := goodIn_app (goodIn_of _ (by decide +kernel)) ggX0_findTrain_X0_findFourGears
theorem dX0_findTrain_0 : decode cX0_findTrain 0 = .ok (.aload_n 0, 1) := by decide +kernel
theorem dX0_findTrain_1 : decode cX0_findTrain 1 = .ok (.lload_n 1, 1) := by decide +kernel
theorem dX0_findTrain_2 : decode cX0_findTrain 2 = .ok (.lload_n 3, 1) := by decide +kernel
theorem dX0_findTrain_3 : decode cX0_findTrain 3 = .ok (.invokevirtual 146, 3) := by decide +kernel
theorem dX0_findTrain_6 : decode cX0_findTrain 6 = .ok (.ifCond .ne 12, 3) := by decide +kernel
theorem dX0_findTrain_9 : decode cX0_findTrain 9 = .ok (.aload_n 0, 1) := by decide +kernel
theorem dX0_findTrain_10 : decode cX0_findTrain 10 = .ok (.lload_n 1, 1) := by decide +kernel
theorem dX0_findTrain_11 : decode cX0_findTrain 11 = .ok (.lload_n 3, 1) := by decide +kernel
theorem dX0_findTrain_12 : decode cX0_findTrain 12 = .ok (.invokevirtual 149, 3) := by decide +kernel
theorem dX0_findTrain_15 : decode cX0_findTrain 15 = .ok (.ifCond .eq 7, 3) := by decide +kernel
theorem dX0_findTrain_18 : decode cX0_findTrain 18 = .ok (.iconst 1, 1) := by decide +kernel
theorem dX0_findTrain_19 : decode cX0_findTrain 19 = .ok (.goto 4, 3) := by decide +kernel
theorem dX0_findTrain_22 : decode cX0_findTrain 22 = .ok (.iconst 0, 1) := by decide +kernel
theorem dX0_findTrain_23 : decode cX0_findTrain 23 = .ok (.ireturn, 1) := by decide +kernel
set_option maxRecDepth 20000 in
theorem ggX0_findTwoGears_X0_exactQuotient : GoodIn wsX0_findTwoGears wsX0_exactQuotient := goodIn_r _ [6] (by decide +kernel) (by decide +kernel)
set_option maxRecDepth 20000 in
theorem gX0_findTwoGears_X0_exactQuotient : GoodIn wsX0_findTwoGears (va_wsS RX0 133 yX0_exactQuotient wsX0_exactQuotient) := goodIn_app (goodIn_of _ (by decide +kernel)) ggX0_findTwoGears_X0_exactQuotient
set_option maxRecDepth 20000 in
theorem ggX0_findTwoGears_X0_gearWith : GoodIn wsX0_findTwoGears wsX0_gearWith := goodIn_r _ [10, 1, 2, 16, 17, 18, 19, 20, 21, 22, 23, 24] (by decide +kernel) (by decide +kernel)
set_option maxRecDepth 20000 in
theorem gX0_findTwoGears_X0_gearWith : GoodIn wsX0_findTwoGears (wsV RX0 152 RX0 yX0_gearWith wsX0_gearWith) := goodIn_app (goodIn_of _ (by decide +kernel)) ggX0_findTwoGears_X0_gearWith
set_option maxRecDepth 20000 in
theorem ggX0_findTwoGears_X0_keepTrain : GoodIn wsX0_findTwoGears wsX0_keepTrain := goodIn_r _ [14, 15, 16, 17, 18, 19, 20, 21, 22, 23, 24] (by decide +kernel) (by decide +kernel)
set_option maxRecDepth 20000 in
theorem gX0_findTwoGears_X0_keepTrain : GoodIn wsX0_findTwoGears (wsV RX0 156 RX0 yX0_keepTrain wsX0_keepTrain) := goodIn_app (goodIn_of _ (by decide +kernel)) ggX0_findTwoGears_X0_keepTrain
theorem dX0_findTwoGears_0 : decode cX0_findTwoGears 0 = .ok (.iconst 0, 1) := by decide +kernel
theorem dX0_findTwoGears_1 : decode cX0_findTwoGears 1 = .ok (.istore 5, 2) := by decide +kernel
theorem dX0_findTwoGears_3 : decode cX0_findTwoGears 3 = .ok (.iload 5, 2) := by decide +kernel
theorem dX0_findTwoGears_5 : decode cX0_findTwoGears 5 = .ok (.aload_n 0, 1) := by decide +kernel
theorem dX0_findTwoGears_6 : decode cX0_findTwoGears 6 = .ok (.getfield 47, 3) := by decide +kernel
theorem dX0_findTwoGears_9 : decode cX0_findTwoGears 9 = .ok (.if_icmp .ge 55, 3) := by decide +kernel
theorem dX0_findTwoGears_12 : decode cX0_findTwoGears 12 = .ok (.aload_n 0, 1) := by decide +kernel
theorem dX0_findTwoGears_13 : decode cX0_findTwoGears 13 = .ok (.aload_n 0, 1) := by decide +kernel
theorem dX0_findTwoGears_14 : decode cX0_findTwoGears 14 = .ok (.getfield 13, 3) := by decide +kernel
theorem dX0_findTwoGears_17 : decode cX0_findTwoGears 17 = .ok (.iload 5, 2) := by decide +kernel
theorem dX0_findTwoGears_19 : decode cX0_findTwoGears 19 = .ok (.iaload, 1) := by decide +kernel
theorem dX0_findTwoGears_20 : decode cX0_findTwoGears 20 = .ok (.i2l, 1) := by decide +kernel
theorem dX0_findTwoGears_21 : decode cX0_findTwoGears 21 = .ok (.lload_n 3, 1) := by decide +kernel
theorem dX0_findTwoGears_22 : decode cX0_findTwoGears 22 = .ok (.lmul, 1) := by decide +kernel
theorem dX0_findTwoGears_23 : decode cX0_findTwoGears 23 = .ok (.lload_n 1, 1) := by decide +kernel
theorem dX0_findTwoGears_24 : decode cX0_findTwoGears 24 = .ok (.invokestatic 133, 3) := by decide +kernel
theorem dX0_findTwoGears_27 : decode cX0_findTwoGears 27 = .ok (.iload 5, 2) := by decide +kernel
theorem dX0_findTwoGears_29 : decode cX0_findTwoGears 29 = .ok (.iload 5, 2) := by decide +kernel
theorem dX0_findTwoGears_31 : decode cX0_findTwoGears 31 = .ok (.iload 5, 2) := by decide +kernel
theorem dX0_findTwoGears_33 : decode cX0_findTwoGears 33 = .ok (.invokevirtual 152, 3) := by decide +kernel
theorem dX0_findTwoGears_36 : decode cX0_findTwoGears 36 = .ok (.istore 6, 2) := by decide +kernel
theorem dX0_findTwoGears_38 : decode cX0_findTwoGears 38 = .ok (.iload 6, 2) := by decide +kernel
theorem dX0_findTwoGears_40 : decode cX0_findTwoGears 40 = .ok (.bipush (-6), 2) := by decide +kernel
theorem dX0_findTwoGears_42 : decode cX0_findTwoGears 42 = .ok (.if_icmp .eq 16, 3) := by decide +kernel
theorem dX0_findTwoGears_45 : decode cX0_findTwoGears 45 = .ok (.aload_n 0, 1) := by decide +kernel
theorem dX0_findTwoGears_46 : decode cX0_findTwoGears 46 = .ok (.iload 5, 2) := by decide +kernel
theorem dX0_findTwoGears_48 : decode cX0_findTwoGears 48 = .ok (.iload 6, 2) := by decide +kernel
theorem dX0_findTwoGears_50 : decode cX0_findTwoGears 50 = .ok (.bipush (-6), 2) := by decide +kernel
theorem dX0_findTwoGears_52 : decode cX0_findTwoGears 52 = .ok (.bipush (-6), 2) := by decide +kernel
theorem dX0_findTwoGears_54 : decode cX0_findTwoGears 54 = .ok (.invokevirtual 156, 3) := by decide +kernel
theorem dX0_findTwoGears_57 : decode cX0_findTwoGears 57 = .ok (.ireturn, 1) := by decide +kernel
theorem dX0_findTwoGears_58 : decode cX0_findTwoGears 58 = .ok (.iinc 5 1, 3) := by decide +kernel
theorem dX0_findTwoGears_61 : decode cX0_findTwoGears 61 = .ok (.goto (-58), 3) := by decide +kernel
theorem dX0_findTwoGears_64 : decode cX0_findTwoGears 64 = .ok (.iconst 0, 1) := by decide +kernel
theorem dX0_findTwoGears_65 : decode cX0_findTwoGears 65 = .ok (.ireturn, 1) := by decide +kernel
set_option maxRecDepth 20000 in
theorem ggX0_findFourGears_X0_findSecondPair : GoodIn wsX0_findFourGears wsX0_findSecondPair := goodIn_r _ [6, 1, 7, 8, 9, 5, 10, 11, 12, 13, 14, 15, 16, 17, 18, 19, 20, 21, 22, 23, 24, 25, 26, 27, 28] (by decide +kernel) (by decide +kernel)
set_option maxRecDepth 20000 in
theorem gX0_findFourGears_X0_findSecondPair : GoodIn wsX0_findFourGears (wsV RX0 160 RX0 yX0_findSecondPair wsX0_findSecondPair) := goodIn_app (goodIn_of _ (by decide +kernel)) ggX0_findFourGears_X0_findSecondPair
theorem dX0_findFourGears_0 : decode cX0_findFourGears 0 = .ok (.iconst 0, 1) := by decide +kernel
theorem dX0_findFourGears_1 : decode cX0_findFourGears 1 = .ok (.istore 5, 2) := by decide +kernel
theorem dX0_findFourGears_3 : decode cX0_findFourGears 3 = .ok (.iload 5, 2) := by decide +kernel
theorem dX0_findFourGears_5 : decode cX0_findFourGears 5 = .ok (.aload_n 0, 1) := by decide +kernel
theorem dX0_findFourGears_6 : decode cX0_findFourGears 6 = .ok (.getfield 47, 3) := by decide +kernel
theorem dX0_findFourGears_9 : decode cX0_findFourGears 9 = .ok (.if_icmp .ge 49, 3) := by decide +kernel
theorem dX0_findFourGears_12 : decode cX0_findFourGears 12 = .ok (.iconst 0, 1) := by decide +kernel
theorem dX0_findFourGears_13 : decode cX0_findFourGears 13 = .ok (.istore 6, 2) := by decide +kernel
theorem dX0_findFourGears_15 : decode cX0_findFourGears 15 = .ok (.iload 6, 2) := by decide +kernel
theorem dX0_findFourGears_17 : decode cX0_findFourGears 17 = .ok (.aload_n 0, 1) := by decide +kernel
theorem dX0_findFourGears_18 : decode cX0_findFourGears 18 = .ok (.getfield 47, 3) := by decide +kernel
theorem dX0_findFourGears_21 : decode cX0_findFourGears 21 = .ok (.if_icmp .ge 31, 3) := by decide +kernel
theorem dX0_findFourGears_24 : decode cX0_findFourGears 24 = .ok (.iload 6, 2) := by decide +kernel
theorem dX0_findFourGears_26 : decode cX0_findFourGears 26 = .ok (.iload 5, 2) := by decide +kernel
theorem dX0_findFourGears_28 : decode cX0_findFourGears 28 = .ok (.if_icmp .eq 18, 3) := by decide +kernel
theorem dX0_findFourGears_31 : decode cX0_findFourGears 31 = .ok (.aload_n 0, 1) := by decide +kernel
theorem dX0_findFourGears_32 : decode cX0_findFourGears 32 = .ok (.iload 5, 2) := by decide +kernel
theorem dX0_findFourGears_34 : decode cX0_findFourGears 34 = .ok (.iload 6, 2) := by decide +kernel
theorem dX0_findFourGears_36 : decode cX0_findFourGears 36 = .ok (.lload_n 1, 1) := by decide +kernel
theorem dX0_findFourGears_37 : decode cX0_findFourGears 37 = .ok (.lload_n 3, 1) := by decide +kernel
theorem dX0_findFourGears_38 : decode cX0_findFourGears 38 = .ok (.invokevirtual 160, 3) := by decide +kernel
theorem dX0_findFourGears_41 : decode cX0_findFourGears 41 = .ok (.ifCond .eq 5, 3) := by decide +kernel
theorem dX0_findFourGears_44 : decode cX0_findFourGears 44 = .ok (.iconst 1, 1) := by decide +kernel
theorem dX0_findFourGears_45 : decode cX0_findFourGears 45 = .ok (.ireturn, 1) := by decide +kernel
theorem dX0_findFourGears_46 : decode cX0_findFourGears 46 = .ok (.iinc 6 1, 3) := by decide +kernel
theorem dX0_findFourGears_49 : decode cX0_findFourGears 49 = .ok (.goto (-34), 3) := by decide +kernel
theorem dX0_findFourGears_52 : decode cX0_findFourGears 52 = .ok (.iinc 5 1, 3) := by decide +kernel
theorem dX0_findFourGears_55 : decode cX0_findFourGears 55 = .ok (.goto (-52), 3) := by decide +kernel
theorem dX0_findFourGears_58 : decode cX0_findFourGears 58 = .ok (.iconst 0, 1) := by decide +kernel
theorem dX0_findFourGears_59 : decode cX0_findFourGears 59 = .ok (.ireturn, 1) := by decide +kernel
set_option maxRecDepth 20000 in
theorem ggX0_findSecondPair_X0_exactQuotient : GoodIn wsX0_findSecondPair wsX0_exactQuotient := goodIn_r _ [6] (by decide +kernel) (by decide +kernel)
set_option maxRecDepth 20000 in
theorem gX0_findSecondPair_X0_exactQuotient : GoodIn wsX0_findSecondPair (va_wsS RX0 133 yX0_exactQuotient wsX0_exactQuotient) := goodIn_app (goodIn_of _ (by decide +kernel)) ggX0_findSecondPair_X0_exactQuotient
set_option maxRecDepth 20000 in
theorem ggX0_findSecondPair_X0_gearWith : GoodIn wsX0_findSecondPair wsX0_gearWith := goodIn_r _ [10, 1, 2, 16, 17, 18, 19, 20, 21, 22, 23, 24] (by decide +kernel) (by decide +kernel)
set_option maxRecDepth 20000 in
theorem gX0_findSecondPair_X0_gearWith : GoodIn wsX0_findSecondPair (wsV RX0 152 RX0 yX0_gearWith wsX0_gearWith) := goodIn_app (goodIn_of _ (by decide +kernel)) ggX0_findSecondPair_X0_gearWith
set_option maxRecDepth 20000 in
theorem ggX0_findSecondPair_X0_keepTrain : GoodIn wsX0_findSecondPair wsX0_keepTrain := goodIn_r _ [14, 15, 16, 17, 18, 19, 20, 21, 22, 23, 24] (by decide +kernel) (by decide +kernel)
set_option maxRecDepth 20000 in
theorem gX0_findSecondPair_X0_keepTrain : GoodIn wsX0_findSecondPair (wsV RX0 156 RX0 yX0_keepTrain wsX0_keepTrain) := goodIn_app (goodIn_of _ (by decide +kernel)) ggX0_findSecondPair_X0_keepTrain
theorem dX0_findSecondPair_0 : decode cX0_findSecondPair 0 = .ok (.iconst 0, 1) := by decide +kernel
theorem dX0_findSecondPair_1 : decode cX0_findSecondPair 1 = .ok (.istore 7, 2) := by decide +kernel
theorem dX0_findSecondPair_3 : decode cX0_findSecondPair 3 = .ok (.iload 7, 2) := by decide +kernel
theorem dX0_findSecondPair_5 : decode cX0_findSecondPair 5 = .ok (.aload_n 0, 1) := by decide +kernel
theorem dX0_findSecondPair_6 : decode cX0_findSecondPair 6 = .ok (.getfield 47, 3) := by decide +kernel
theorem dX0_findSecondPair_9 : decode cX0_findSecondPair 9 = .ok (.if_icmp .ge 83, 3) := by decide +kernel
theorem dX0_findSecondPair_12 : decode cX0_findSecondPair 12 = .ok (.iload 7, 2) := by decide +kernel
theorem dX0_findSecondPair_14 : decode cX0_findSecondPair 14 = .ok (.iload_n 1, 1) := by decide +kernel
theorem dX0_findSecondPair_15 : decode cX0_findSecondPair 15 = .ok (.if_icmp .eq 71, 3) := by decide +kernel
theorem dX0_findSecondPair_18 : decode cX0_findSecondPair 18 = .ok (.iload 7, 2) := by decide +kernel
theorem dX0_findSecondPair_20 : decode cX0_findSecondPair 20 = .ok (.iload_n 2, 1) := by decide +kernel
theorem dX0_findSecondPair_21 : decode cX0_findSecondPair 21 = .ok (.if_icmp .eq 65, 3) := by decide +kernel
theorem dX0_findSecondPair_24 : decode cX0_findSecondPair 24 = .ok (.aload_n 0, 1) := by decide +kernel
theorem dX0_findSecondPair_25 : decode cX0_findSecondPair 25 = .ok (.getfield 13, 3) := by decide +kernel
theorem dX0_findSecondPair_28 : decode cX0_findSecondPair 28 = .ok (.iload_n 1, 1) := by decide +kernel
theorem dX0_findSecondPair_29 : decode cX0_findSecondPair 29 = .ok (.iaload, 1) := by decide +kernel
theorem dX0_findSecondPair_30 : decode cX0_findSecondPair 30 = .ok (.aload_n 0, 1) := by decide +kernel
theorem dX0_findSecondPair_31 : decode cX0_findSecondPair 31 = .ok (.getfield 13, 3) := by decide +kernel
theorem dX0_findSecondPair_34 : decode cX0_findSecondPair 34 = .ok (.iload 7, 2) := by decide +kernel
theorem dX0_findSecondPair_36 : decode cX0_findSecondPair 36 = .ok (.iaload, 1) := by decide +kernel
theorem dX0_findSecondPair_37 : decode cX0_findSecondPair 37 = .ok (.imul, 1) := by decide +kernel
theorem dX0_findSecondPair_38 : decode cX0_findSecondPair 38 = .ok (.i2l, 1) := by decide +kernel
theorem dX0_findSecondPair_39 : decode cX0_findSecondPair 39 = .ok (.lload 5, 2) := by decide +kernel
theorem dX0_findSecondPair_41 : decode cX0_findSecondPair 41 = .ok (.lmul, 1) := by decide +kernel
theorem dX0_findSecondPair_42 : decode cX0_findSecondPair 42 = .ok (.lstore 8, 2) := by decide +kernel
theorem dX0_findSecondPair_44 : decode cX0_findSecondPair 44 = .ok (.aload_n 0, 1) := by decide +kernel
theorem dX0_findSecondPair_45 : decode cX0_findSecondPair 45 = .ok (.lload 8, 2) := by decide +kernel
theorem dX0_findSecondPair_47 : decode cX0_findSecondPair 47 = .ok (.aload_n 0, 1) := by decide +kernel
theorem dX0_findSecondPair_48 : decode cX0_findSecondPair 48 = .ok (.getfield 13, 3) := by decide +kernel
theorem dX0_findSecondPair_51 : decode cX0_findSecondPair 51 = .ok (.iload_n 2, 1) := by decide +kernel
theorem dX0_findSecondPair_52 : decode cX0_findSecondPair 52 = .ok (.iaload, 1) := by decide +kernel
theorem dX0_findSecondPair_53 : decode cX0_findSecondPair 53 = .ok (.i2l, 1) := by decide +kernel
theorem dX0_findSecondPair_54 : decode cX0_findSecondPair 54 = .ok (.lload_n 3, 1) := by decide +kernel
theorem dX0_findSecondPair_55 : decode cX0_findSecondPair 55 = .ok (.lmul, 1) := by decide +kernel
theorem dX0_findSecondPair_56 : decode cX0_findSecondPair 56 = .ok (.invokestatic 133, 3) := by decide +kernel
theorem dX0_findSecondPair_59 : decode cX0_findSecondPair 59 = .ok (.iload_n 1, 1) := by decide +kernel
theorem dX0_findSecondPair_60 : decode cX0_findSecondPair 60 = .ok (.iload_n 2, 1) := by decide +kernel
theorem dX0_findSecondPair_61 : decode cX0_findSecondPair 61 = .ok (.iload 7, 2) := by decide +kernel
theorem dX0_findSecondPair_63 : decode cX0_findSecondPair 63 = .ok (.invokevirtual 152, 3) := by decide +kernel
theorem dX0_findSecondPair_66 : decode cX0_findSecondPair 66 = .ok (.istore 10, 2) := by decide +kernel
theorem dX0_findSecondPair_68 : decode cX0_findSecondPair 68 = .ok (.iload 10, 2) := by decide +kernel
theorem dX0_findSecondPair_70 : decode cX0_findSecondPair 70 = .ok (.bipush (-6), 2) := by decide +kernel
theorem dX0_findSecondPair_72 : decode cX0_findSecondPair 72 = .ok (.if_icmp .eq 14, 3) := by decide +kernel
theorem dX0_findSecondPair_75 : decode cX0_findSecondPair 75 = .ok (.aload_n 0, 1) := by decide +kernel
theorem dX0_findSecondPair_76 : decode cX0_findSecondPair 76 = .ok (.iload_n 1, 1) := by decide +kernel
theorem dX0_findSecondPair_77 : decode cX0_findSecondPair 77 = .ok (.iload_n 2, 1) := by decide +kernel
theorem dX0_findSecondPair_78 : decode cX0_findSecondPair 78 = .ok (.iload 7, 2) := by decide +kernel
theorem dX0_findSecondPair_80 : decode cX0_findSecondPair 80 = .ok (.iload 10, 2) := by decide +kernel
theorem dX0_findSecondPair_82 : decode cX0_findSecondPair 82 = .ok (.invokevirtual 156, 3) := by decide +kernel
theorem dX0_findSecondPair_85 : decode cX0_findSecondPair 85 = .ok (.ireturn, 1) := by decide +kernel
theorem dX0_findSecondPair_86 : decode cX0_findSecondPair 86 = .ok (.iinc 7 1, 3) := by decide +kernel
theorem dX0_findSecondPair_89 : decode cX0_findSecondPair 89 = .ok (.goto (-86), 3) := by decide +kernel
theorem dX0_findSecondPair_92 : decode cX0_findSecondPair 92 = .ok (.iconst 0, 1) := by decide +kernel
theorem dX0_findSecondPair_93 : decode cX0_findSecondPair 93 = .ok (.ireturn, 1) := by decide +kernel
theorem dX0_gearWith_0 : decode cX0_gearWith 0 = .ok (.iconst 0, 1) := by decide +kernel
theorem dX0_gearWith_1 : decode cX0_gearWith 1 = .ok (.istore 6, 2) := by decide +kernel
theorem dX0_gearWith_3 : decode cX0_gearWith 3 = .ok (.iload 6, 2) := by decide +kernel
theorem dX0_gearWith_5 : decode cX0_gearWith 5 = .ok (.aload_n 0, 1) := by decide +kernel
theorem dX0_gearWith_6 : decode cX0_gearWith 6 = .ok (.getfield 47, 3) := by decide +kernel
theorem dX0_gearWith_9 : decode cX0_gearWith 9 = .ok (.if_icmp .ge 45, 3) := by decide +kernel
theorem dX0_gearWith_12 : decode cX0_gearWith 12 = .ok (.aload_n 0, 1) := by decide +kernel
theorem dX0_gearWith_13 : decode cX0_gearWith 13 = .ok (.getfield 13, 3) := by decide +kernel
theorem dX0_gearWith_16 : decode cX0_gearWith 16 = .ok (.iload 6, 2) := by decide +kernel
theorem dX0_gearWith_18 : decode cX0_gearWith 18 = .ok (.iaload, 1) := by decide +kernel
theorem dX0_gearWith_19 : decode cX0_gearWith 19 = .ok (.i2l, 1) := by decide +kernel
theorem dX0_gearWith_20 : decode cX0_gearWith 20 = .ok (.lload_n 1, 1) := by decide +kernel
theorem dX0_gearWith_21 : decode cX0_gearWith 21 = .ok (.lcmp, 1) := by decide +kernel
theorem dX0_gearWith_22 : decode cX0_gearWith 22 = .ok (.ifCond .ne 26, 3) := by decide +kernel
theorem dX0_gearWith_25 : decode cX0_gearWith 25 = .ok (.iload 6, 2) := by decide +kernel
theorem dX0_gearWith_27 : decode cX0_gearWith 27 = .ok (.iload_n 3, 1) := by decide +kernel
theorem dX0_gearWith_28 : decode cX0_gearWith 28 = .ok (.if_icmp .eq 20, 3) := by decide +kernel
theorem dX0_gearWith_31 : decode cX0_gearWith 31 = .ok (.iload 6, 2) := by decide +kernel
theorem dX0_gearWith_33 : decode cX0_gearWith 33 = .ok (.iload 4, 2) := by decide +kernel
theorem dX0_gearWith_35 : decode cX0_gearWith 35 = .ok (.if_icmp .eq 13, 3) := by decide +kernel
theorem dX0_gearWith_38 : decode cX0_gearWith 38 = .ok (.iload 6, 2) := by decide +kernel
theorem dX0_gearWith_40 : decode cX0_gearWith 40 = .ok (.iload 5, 2) := by decide +kernel
theorem dX0_gearWith_42 : decode cX0_gearWith 42 = .ok (.if_icmp .eq 6, 3) := by decide +kernel
theorem dX0_gearWith_45 : decode cX0_gearWith 45 = .ok (.iload 6, 2) := by decide +kernel
theorem dX0_gearWith_47 : decode cX0_gearWith 47 = .ok (.ireturn, 1) := by decide +kernel
theorem dX0_gearWith_48 : decode cX0_gearWith 48 = .ok (.iinc 6 1, 3) := by decide +kernel
theorem dX0_gearWith_51 : decode cX0_gearWith 51 = .ok (.goto (-48), 3) := by decide +kernel
theorem dX0_gearWith_54 : decode cX0_gearWith 54 = .ok (.bipush (-6), 2) := by decide +kernel
theorem dX0_gearWith_56 : decode cX0_gearWith 56 = .ok (.ireturn, 1) := by decide +kernel
theorem dX0_keepTrain_0 : decode cX0_keepTrain 0 = .ok (.aload_n 0, 1) := by decide +kernel
theorem dX0_keepTrain_1 : decode cX0_keepTrain 1 = .ok (.getfield 19, 3) := by decide +kernel
theorem dX0_keepTrain_4 : decode cX0_keepTrain 4 = .ok (.iconst 0, 1) := by decide +kernel
theorem dX0_keepTrain_5 : decode cX0_keepTrain 5 = .ok (.iload_n 1, 1) := by decide +kernel
theorem dX0_keepTrain_6 : decode cX0_keepTrain 6 = .ok (.iastore, 1) := by decide +kernel
theorem dX0_keepTrain_7 : decode cX0_keepTrain 7 = .ok (.aload_n 0, 1) := by decide +kernel
theorem dX0_keepTrain_8 : decode cX0_keepTrain 8 = .ok (.getfield 19, 3) := by decide +kernel
theorem dX0_keepTrain_11 : decode cX0_keepTrain 11 = .ok (.iconst 1, 1) := by decide +kernel
theorem dX0_keepTrain_12 : decode cX0_keepTrain 12 = .ok (.iload_n 2, 1) := by decide +kernel
theorem dX0_keepTrain_13 : decode cX0_keepTrain 13 = .ok (.iastore, 1) := by decide +kernel
theorem dX0_keepTrain_14 : decode cX0_keepTrain 14 = .ok (.aload_n 0, 1) := by decide +kernel
theorem dX0_keepTrain_15 : decode cX0_keepTrain 15 = .ok (.getfield 19, 3) := by decide +kernel
theorem dX0_keepTrain_18 : decode cX0_keepTrain 18 = .ok (.iconst 2, 1) := by decide +kernel
theorem dX0_keepTrain_19 : decode cX0_keepTrain 19 = .ok (.iload_n 3, 1) := by decide +kernel
theorem dX0_keepTrain_20 : decode cX0_keepTrain 20 = .ok (.iastore, 1) := by decide +kernel
theorem dX0_keepTrain_21 : decode cX0_keepTrain 21 = .ok (.aload_n 0, 1) := by decide +kernel
theorem dX0_keepTrain_22 : decode cX0_keepTrain 22 = .ok (.getfield 19, 3) := by decide +kernel
theorem dX0_keepTrain_25 : decode cX0_keepTrain 25 = .ok (.iconst 3, 1) := by decide +kernel
theorem dX0_keepTrain_26 : decode cX0_keepTrain 26 = .ok (.iload 4, 2) := by decide +kernel
theorem dX0_keepTrain_28 : decode cX0_keepTrain 28 = .ok (.iastore, 1) := by decide +kernel
theorem dX0_keepTrain_29 : decode cX0_keepTrain 29 = .ok (.iconst 1, 1) := by decide +kernel
theorem dX0_keepTrain_30 : decode cX0_keepTrain 30 = .ok (.ireturn, 1) := by decide +kernel
set_option maxRecDepth 20000 in
theorem ggX0_nearestHole_X0_nearestOrGreater : GoodIn wsX0_nearestHole wsX0_nearestOrGreater := goodIn_r _ [5, 6] (by decide +kernel) (by decide +kernel)
set_option maxRecDepth 20000 in
theorem gX0_nearestHole_X0_nearestOrGreater : GoodIn wsX0_nearestHole (va_wsS RX0 164 yX0_nearestOrGreater wsX0_nearestOrGreater) := goodIn_app (goodIn_of _ (by decide +kernel)) ggX0_nearestHole_X0_nearestOrGreater
theorem dX0_nearestHole_0 : decode cX0_nearestHole 0 = .ok (.iload_n 3, 1) := by decide +kernel
theorem dX0_nearestHole_1 : decode cX0_nearestHole 1 = .ok (.aload_n 0, 1) := by decide +kernel
theorem dX0_nearestHole_2 : decode cX0_nearestHole 2 = .ok (.getfield 22, 3) := by decide +kernel
theorem dX0_nearestHole_5 : decode cX0_nearestHole 5 = .ok (.imul, 1) := by decide +kernel
theorem dX0_nearestHole_6 : decode cX0_nearestHole 6 = .ok (.iload_n 1, 1) := by decide +kernel
theorem dX0_nearestHole_7 : decode cX0_nearestHole 7 = .ok (.imul, 1) := by decide +kernel
theorem dX0_nearestHole_8 : decode cX0_nearestHole 8 = .ok (.i2l, 1) := by decide +kernel
theorem dX0_nearestHole_9 : decode cX0_nearestHole 9 = .ok (.iload_n 2, 1) := by decide +kernel
theorem dX0_nearestHole_10 : decode cX0_nearestHole 10 = .ok (.i2l, 1) := by decide +kernel
theorem dX0_nearestHole_11 : decode cX0_nearestHole 11 = .ok (.invokestatic 164, 3) := by decide +kernel
theorem dX0_nearestHole_14 : decode cX0_nearestHole 14 = .ok (.l2i, 1) := by decide +kernel
theorem dX0_nearestHole_15 : decode cX0_nearestHole 15 = .ok (.ireturn, 1) := by decide +kernel
set_option maxRecDepth 20000 in
theorem ggX0_missUpper_X0_nearestHole : GoodIn wsX0_missUpper wsX0_nearestHole := goodIn_r _ [6, 1, 7, 8, 5, 9, 10, 11, 12, 13, 14, 15, 16, 17, 18, 19] (by decide +kernel) (by decide +kernel)
set_option maxRecDepth 20000 in
theorem gX0_missUpper_X0_nearestHole : GoodIn wsX0_missUpper (wsV RX0 77 RX0 yX0_nearestHole wsX0_nearestHole) := goodIn_app (goodIn_of _ (by decide +kernel)) ggX0_missUpper_X0_nearestHole
theorem dX0_missUpper_0 : decode cX0_missUpper 0 = .ok (.aload_n 0, 1) := by decide +kernel
theorem dX0_missUpper_1 : decode cX0_missUpper 1 = .ok (.iload_n 1, 1) := by decide +kernel
theorem dX0_missUpper_2 : decode cX0_missUpper 2 = .ok (.iload_n 2, 1) := by decide +kernel
theorem dX0_missUpper_3 : decode cX0_missUpper 3 = .ok (.iload_n 3, 1) := by decide +kernel
theorem dX0_missUpper_4 : decode cX0_missUpper 4 = .ok (.invokevirtual 77, 3) := by decide +kernel
theorem dX0_missUpper_7 : decode cX0_missUpper 7 = .ok (.iload_n 2, 1) := by decide +kernel
theorem dX0_missUpper_8 : decode cX0_missUpper 8 = .ok (.imul, 1) := by decide +kernel
theorem dX0_missUpper_9 : decode cX0_missUpper 9 = .ok (.iload_n 3, 1) := by decide +kernel
theorem dX0_missUpper_10 : decode cX0_missUpper 10 = .ok (.aload_n 0, 1) := by decide +kernel
theorem dX0_missUpper_11 : decode cX0_missUpper 11 = .ok (.getfield 22, 3) := by decide +kernel
theorem dX0_missUpper_14 : decode cX0_missUpper 14 = .ok (.imul, 1) := by decide +kernel
theorem dX0_missUpper_15 : decode cX0_missUpper 15 = .ok (.iload_n 1, 1) := by decide +kernel
theorem dX0_missUpper_16 : decode cX0_missUpper 16 = .ok (.imul, 1) := by decide +kernel
theorem dX0_missUpper_17 : decode cX0_missUpper 17 = .ok (.isub, 1) := by decide +kernel
theorem dX0_missUpper_18 : decode cX0_missUpper 18 = .ok (.ireturn, 1) := by decide +kernel
set_option maxRecDepth 20000 in
theorem ggX0_worstUpper_X0_missUpper : GoodIn wsX0_worstUpper wsX0_missUpper := goodIn_r _ [12, 13, 14, 15, 16, 11, 17, 18, 19, 20, 21, 22, 23, 24, 25, 26, 27, 28, 29, 30] (by decide +kernel) (by decide +kernel)
set_option maxRecDepth 20000 in
theorem gX0_worstUpper_X0_missUpper : GoodIn wsX0_worstUpper (wsV RX0 81 RX0 yX0_missUpper wsX0_missUpper) := goodIn_app (goodIn_of _ (by decide +kernel)) ggX0_worstUpper_X0_missUpper
theorem dX0_worstUpper_0 : decode cX0_worstUpper 0 = .ok (.iconst 0, 1) := by decide +kernel
theorem dX0_worstUpper_1 : decode cX0_worstUpper 1 = .ok (.istore_n 3, 1) := by decide +kernel
theorem dX0_worstUpper_2 : decode cX0_worstUpper 2 = .ok (.iconst 0, 1) := by decide +kernel
theorem dX0_worstUpper_3 : decode cX0_worstUpper 3 = .ok (.istore 4, 2) := by decide +kernel
theorem dX0_worstUpper_5 : decode cX0_worstUpper 5 = .ok (.iload 4, 2) := by decide +kernel
theorem dX0_worstUpper_7 : decode cX0_worstUpper 7 = .ok (.iload_n 2, 1) := by decide +kernel
theorem dX0_worstUpper_8 : decode cX0_worstUpper 8 = .ok (.if_icmp .gt 25, 3) := by decide +kernel
theorem dX0_worstUpper_11 : decode cX0_worstUpper 11 = .ok (.iload_n 3, 1) := by decide +kernel
theorem dX0_worstUpper_12 : decode cX0_worstUpper 12 = .ok (.aload_n 0, 1) := by decide +kernel
theorem dX0_worstUpper_13 : decode cX0_worstUpper 13 = .ok (.iload_n 1, 1) := by decide +kernel
theorem dX0_worstUpper_14 : decode cX0_worstUpper 14 = .ok (.iload_n 2, 1) := by decide +kernel
theorem dX0_worstUpper_15 : decode cX0_worstUpper 15 = .ok (.iload 4, 2) := by decide +kernel
theorem dX0_worstUpper_17 : decode cX0_worstUpper 17 = .ok (.invokevirtual 81, 3) := by decide +kernel
theorem dX0_worstUpper_20 : decode cX0_worstUpper 20 = .ok (.invokestatic 143, 3) := by decide +kernel
theorem dX0_worstUpper_23 : decode cX0_worstUpper 23 = .ok (.invokestatic 167, 3) := by decide +kernel
theorem dX0_worstUpper_26 : decode cX0_worstUpper 26 = .ok (.istore_n 3, 1) := by decide +kernel
theorem dX0_worstUpper_27 : decode cX0_worstUpper 27 = .ok (.iinc 4 1, 3) := by decide +kernel
theorem dX0_worstUpper_30 : decode cX0_worstUpper 30 = .ok (.goto (-25), 3) := by decide +kernel
theorem dX0_worstUpper_33 : decode cX0_worstUpper 33 = .ok (.iload_n 3, 1) := by decide +kernel
theorem dX0_worstUpper_34 : decode cX0_worstUpper 34 = .ok (.ireturn, 1) := by decide +kernel
set_option maxRecDepth 20000 in
theorem ggX0_exactCuts_X0_missUpper : GoodIn wsX0_exactCuts wsX0_missUpper := goodIn_r _ [5, 6, 7, 8, 9, 4, 10, 11, 12, 13, 14, 15, 16, 17, 18, 19, 20, 21, 22, 23] (by decide +kernel) (by decide +kernel)
set_option maxRecDepth 20000 in
theorem gX0_exactCuts_X0_missUpper : GoodIn wsX0_exactCuts (wsV RX0 81 RX0 yX0_missUpper wsX0_missUpper) := goodIn_app (goodIn_of _ (by decide +kernel)) ggX0_exactCuts_X0_missUpper
theorem dX0_exactCuts_0 : decode cX0_exactCuts 0 = .ok (.iconst 0, 1) := by decide +kernel
theorem dX0_exactCuts_1 : decode cX0_exactCuts 1 = .ok (.istore_n 3, 1) := by decide +kernel
theorem dX0_exactCuts_2 : decode cX0_exactCuts 2 = .ok (.iconst 0, 1) := by decide +kernel
theorem dX0_exactCuts_3 : decode cX0_exactCuts 3 = .ok (.istore 4, 2) := by decide +kernel
theorem dX0_exactCuts_5 : decode cX0_exactCuts 5 = .ok (.iload 4, 2) := by decide +kernel
theorem dX0_exactCuts_7 : decode cX0_exactCuts 7 = .ok (.iload_n 2, 1) := by decide +kernel
theorem dX0_exactCuts_8 : decode cX0_exactCuts 8 = .ok (.if_icmp .ge 23, 3) := by decide +kernel
theorem dX0_exactCuts_11 : decode cX0_exactCuts 11 = .ok (.aload_n 0, 1) := by decide +kernel
theorem dX0_exactCuts_12 : decode cX0_exactCuts 12 = .ok (.iload_n 1, 1) := by decide +kernel
theorem dX0_exactCuts_13 : decode cX0_exactCuts 13 = .ok (.iload_n 2, 1) := by decide +kernel
theorem dX0_exactCuts_14 : decode cX0_exactCuts 14 = .ok (.iload 4, 2) := by decide +kernel
theorem dX0_exactCuts_16 : decode cX0_exactCuts 16 = .ok (.invokevirtual 81, 3) := by decide +kernel
theorem dX0_exactCuts_19 : decode cX0_exactCuts 19 = .ok (.ifCond .ne 6, 3) := by decide +kernel
theorem dX0_exactCuts_22 : decode cX0_exactCuts 22 = .ok (.iinc 3 1, 3) := by decide +kernel
theorem dX0_exactCuts_25 : decode cX0_exactCuts 25 = .ok (.iinc 4 1, 3) := by decide +kernel
theorem dX0_exactCuts_28 : decode cX0_exactCuts 28 = .ok (.goto (-23), 3) := by decide +kernel
theorem dX0_exactCuts_31 : decode cX0_exactCuts 31 = .ok (.iload_n 3, 1) := by decide +kernel
theorem dX0_exactCuts_32 : decode cX0_exactCuts 32 = .ok (.ireturn, 1) := by decide +kernel
theorem dX0_errorUpper_0 : decode cX0_errorUpper 0 = .ok (.iload_n 1, 1) := by decide +kernel
theorem dX0_errorUpper_1 : decode cX0_errorUpper 1 = .ok (.iconst 1, 1) := by decide +kernel
theorem dX0_errorUpper_2 : decode cX0_errorUpper 2 = .ok (.if_icmp .ge 5, 3) := by decide +kernel
theorem dX0_errorUpper_5 : decode cX0_errorUpper 5 = .ok (.iconst 0, 1) := by decide +kernel
theorem dX0_errorUpper_6 : decode cX0_errorUpper 6 = .ok (.ireturn, 1) := by decide +kernel
theorem dX0_errorUpper_7 : decode cX0_errorUpper 7 = .ok (.iload_n 3, 1) := by decide +kernel
theorem dX0_errorUpper_8 : decode cX0_errorUpper 8 = .ok (.i2l, 1) := by decide +kernel
theorem dX0_errorUpper_9 : decode cX0_errorUpper 9 = .ok (.iload_n 2, 1) := by decide +kernel
theorem dX0_errorUpper_10 : decode cX0_errorUpper 10 = .ok (.i2l, 1) := by decide +kernel
theorem dX0_errorUpper_11 : decode cX0_errorUpper 11 = .ok (.lmul, 1) := by decide +kernel
theorem dX0_errorUpper_12 : decode cX0_errorUpper 12 = .ok (.iload_n 1, 1) := by decide +kernel
theorem dX0_errorUpper_13 : decode cX0_errorUpper 13 = .ok (.i2l, 1) := by decide +kernel
theorem dX0_errorUpper_14 : decode cX0_errorUpper 14 = .ok (.lrem, 1) := by decide +kernel
theorem dX0_errorUpper_15 : decode cX0_errorUpper 15 = .ok (.l2i, 1) := by decide +kernel
theorem dX0_errorUpper_16 : decode cX0_errorUpper 16 = .ok (.istore 4, 2) := by decide +kernel
theorem dX0_errorUpper_18 : decode cX0_errorUpper 18 = .ok (.iload 4, 2) := by decide +kernel
theorem dX0_errorUpper_20 : decode cX0_errorUpper 20 = .ok (.bipush 8, 2) := by decide +kernel
theorem dX0_errorUpper_22 : decode cX0_errorUpper 22 = .ok (.imul, 1) := by decide +kernel
theorem dX0_errorUpper_23 : decode cX0_errorUpper 23 = .ok (.iload_n 1, 1) := by decide +kernel
theorem dX0_errorUpper_24 : decode cX0_errorUpper 24 = .ok (.idiv, 1) := by decide +kernel
theorem dX0_errorUpper_25 : decode cX0_errorUpper 25 = .ok (.istore 5, 2) := by decide +kernel
theorem dX0_errorUpper_27 : decode cX0_errorUpper 27 = .ok (.iload 4, 2) := by decide +kernel
theorem dX0_errorUpper_29 : decode cX0_errorUpper 29 = .ok (.bipush 8, 2) := by decide +kernel
theorem dX0_errorUpper_31 : decode cX0_errorUpper 31 = .ok (.imul, 1) := by decide +kernel
theorem dX0_errorUpper_32 : decode cX0_errorUpper 32 = .ok (.iload_n 1, 1) := by decide +kernel
theorem dX0_errorUpper_33 : decode cX0_errorUpper 33 = .ok (.irem, 1) := by decide +kernel
theorem dX0_errorUpper_34 : decode cX0_errorUpper 34 = .ok (.istore 6, 2) := by decide +kernel
theorem dX0_errorUpper_36 : decode cX0_errorUpper 36 = .ok (.aload_n 0, 1) := by decide +kernel
theorem dX0_errorUpper_37 : decode cX0_errorUpper 37 = .ok (.getfield 16, 3) := by decide +kernel
theorem dX0_errorUpper_40 : decode cX0_errorUpper 40 = .ok (.iload 5, 2) := by decide +kernel
theorem dX0_errorUpper_42 : decode cX0_errorUpper 42 = .ok (.bipush 8, 2) := by decide +kernel
theorem dX0_errorUpper_44 : decode cX0_errorUpper 44 = .ok (.irem, 1) := by decide +kernel
theorem dX0_errorUpper_45 : decode cX0_errorUpper 45 = .ok (.iaload, 1) := by decide +kernel
theorem dX0_errorUpper_46 : decode cX0_errorUpper 46 = .ok (.iload_n 1, 1) := by decide +kernel
theorem dX0_errorUpper_47 : decode cX0_errorUpper 47 = .ok (.iload 6, 2) := by decide +kernel
theorem dX0_errorUpper_49 : decode cX0_errorUpper 49 = .ok (.isub, 1) := by decide +kernel
theorem dX0_errorUpper_50 : decode cX0_errorUpper 50 = .ok (.imul, 1) := by decide +kernel
theorem dX0_errorUpper_51 : decode cX0_errorUpper 51 = .ok (.aload_n 0, 1) := by decide +kernel
theorem dX0_errorUpper_52 : decode cX0_errorUpper 52 = .ok (.getfield 16, 3) := by decide +kernel
theorem dX0_errorUpper_55 : decode cX0_errorUpper 55 = .ok (.iload 5, 2) := by decide +kernel
theorem dX0_errorUpper_57 : decode cX0_errorUpper 57 = .ok (.iconst 1, 1) := by decide +kernel
theorem dX0_errorUpper_58 : decode cX0_errorUpper 58 = .ok (.iadd, 1) := by decide +kernel
theorem dX0_errorUpper_59 : decode cX0_errorUpper 59 = .ok (.bipush 8, 2) := by decide +kernel
theorem dX0_errorUpper_61 : decode cX0_errorUpper 61 = .ok (.irem, 1) := by decide +kernel
theorem dX0_errorUpper_62 : decode cX0_errorUpper 62 = .ok (.iaload, 1) := by decide +kernel
theorem dX0_errorUpper_63 : decode cX0_errorUpper 63 = .ok (.iload 6, 2) := by decide +kernel
theorem dX0_errorUpper_65 : decode cX0_errorUpper 65 = .ok (.imul, 1) := by decide +kernel
theorem dX0_errorUpper_66 : decode cX0_errorUpper 66 = .ok (.iadd, 1) := by decide +kernel
theorem dX0_errorUpper_67 : decode cX0_errorUpper 67 = .ok (.ireturn, 1) := by decide +kernel
set_option maxRecDepth 20000 in
theorem ggX0_nearestLower_X0_gapUpper : GoodIn wsX0_nearestLower wsX0_gapUpper := goodIn_r _ [4, 5, 6, 7, 8, 9, 10, 3, 11, 12] (by decide +kernel) (by decide +kernel)
set_option maxRecDepth 20000 in
theorem gX0_nearestLower_X0_gapUpper : GoodIn wsX0_nearestLower (va_wsS RX0 170 yX0_gapUpper wsX0_gapUpper) := goodIn_app (goodIn_of _ (by decide +kernel)) ggX0_nearestLower_X0_gapUpper
theorem dX0_nearestLower_0 : decode cX0_nearestLower 0 = .ok (.iconst 1, 1) := by decide +kernel
theorem dX0_nearestLower_1 : decode cX0_nearestLower 1 = .ok (.istore_n 3, 1) := by decide +kernel
theorem dX0_nearestLower_2 : decode cX0_nearestLower 2 = .ok (.iload_n 0, 1) := by decide +kernel
theorem dX0_nearestLower_3 : decode cX0_nearestLower 3 = .ok (.iload_n 1, 1) := by decide +kernel
theorem dX0_nearestLower_4 : decode cX0_nearestLower 4 = .ok (.iconst 1, 1) := by decide +kernel
theorem dX0_nearestLower_5 : decode cX0_nearestLower 5 = .ok (.invokestatic 170, 3) := by decide +kernel
theorem dX0_nearestLower_8 : decode cX0_nearestLower 8 = .ok (.lstore 4, 2) := by decide +kernel
theorem dX0_nearestLower_10 : decode cX0_nearestLower 10 = .ok (.iconst 2, 1) := by decide +kernel
theorem dX0_nearestLower_11 : decode cX0_nearestLower 11 = .ok (.istore 6, 2) := by decide +kernel
theorem dX0_nearestLower_13 : decode cX0_nearestLower 13 = .ok (.iload 6, 2) := by decide +kernel
theorem dX0_nearestLower_15 : decode cX0_nearestLower 15 = .ok (.iload_n 2, 1) := by decide +kernel
theorem dX0_nearestLower_16 : decode cX0_nearestLower 16 = .ok (.if_icmp .gt 47, 3) := by decide +kernel
theorem dX0_nearestLower_19 : decode cX0_nearestLower 19 = .ok (.lload 4, 2) := by decide +kernel
theorem dX0_nearestLower_21 : decode cX0_nearestLower 21 = .ok (.lconst 0, 1) := by decide +kernel
theorem dX0_nearestLower_22 : decode cX0_nearestLower 22 = .ok (.lcmp, 1) := by decide +kernel
theorem dX0_nearestLower_23 : decode cX0_nearestLower 23 = .ok (.ifCond .le 40, 3) := by decide +kernel
theorem dX0_nearestLower_26 : decode cX0_nearestLower 26 = .ok (.iload_n 0, 1) := by decide +kernel
theorem dX0_nearestLower_27 : decode cX0_nearestLower 27 = .ok (.iload_n 1, 1) := by decide +kernel
theorem dX0_nearestLower_28 : decode cX0_nearestLower 28 = .ok (.iload 6, 2) := by decide +kernel
theorem dX0_nearestLower_30 : decode cX0_nearestLower 30 = .ok (.invokestatic 170, 3) := by decide +kernel
theorem dX0_nearestLower_33 : decode cX0_nearestLower 33 = .ok (.lstore 7, 2) := by decide +kernel
theorem dX0_nearestLower_35 : decode cX0_nearestLower 35 = .ok (.lload 7, 2) := by decide +kernel
theorem dX0_nearestLower_37 : decode cX0_nearestLower 37 = .ok (.iload_n 3, 1) := by decide +kernel
theorem dX0_nearestLower_38 : decode cX0_nearestLower 38 = .ok (.i2l, 1) := by decide +kernel
theorem dX0_nearestLower_39 : decode cX0_nearestLower 39 = .ok (.lmul, 1) := by decide +kernel
theorem dX0_nearestLower_40 : decode cX0_nearestLower 40 = .ok (.lload 4, 2) := by decide +kernel
theorem dX0_nearestLower_42 : decode cX0_nearestLower 42 = .ok (.iload 6, 2) := by decide +kernel
theorem dX0_nearestLower_44 : decode cX0_nearestLower 44 = .ok (.i2l, 1) := by decide +kernel
theorem dX0_nearestLower_45 : decode cX0_nearestLower 45 = .ok (.lmul, 1) := by decide +kernel
theorem dX0_nearestLower_46 : decode cX0_nearestLower 46 = .ok (.lcmp, 1) := by decide +kernel
theorem dX0_nearestLower_47 : decode cX0_nearestLower 47 = .ok (.ifCond .ge 10, 3) := by decide +kernel
theorem dX0_nearestLower_50 : decode cX0_nearestLower 50 = .ok (.iload 6, 2) := by decide +kernel
theorem dX0_nearestLower_52 : decode cX0_nearestLower 52 = .ok (.istore_n 3, 1) := by decide +kernel
theorem dX0_nearestLower_53 : decode cX0_nearestLower 53 = .ok (.lload 7, 2) := by decide +kernel
theorem dX0_nearestLower_55 : decode cX0_nearestLower 55 = .ok (.lstore 4, 2) := by decide +kernel
theorem dX0_nearestLower_57 : decode cX0_nearestLower 57 = .ok (.iinc 6 1, 3) := by decide +kernel
theorem dX0_nearestLower_60 : decode cX0_nearestLower 60 = .ok (.goto (-47), 3) := by decide +kernel
theorem dX0_nearestLower_63 : decode cX0_nearestLower 63 = .ok (.iload_n 3, 1) := by decide +kernel
theorem dX0_nearestLower_64 : decode cX0_nearestLower 64 = .ok (.ireturn, 1) := by decide +kernel
set_option maxRecDepth 20000 in
theorem ggX0_gapUpper_X0_nearestOrLesser : GoodIn wsX0_gapUpper wsX0_nearestOrLesser := goodIn_r _ [8, 9] (by decide +kernel) (by decide +kernel)
set_option maxRecDepth 20000 in
theorem gX0_gapUpper_X0_nearestOrLesser : GoodIn wsX0_gapUpper (va_wsS RX0 104 yX0_nearestOrLesser wsX0_nearestOrLesser) := goodIn_app (goodIn_of _ (by decide +kernel)) ggX0_gapUpper_X0_nearestOrLesser
theorem dX0_gapUpper_0 : decode cX0_gapUpper 0 = .ok (.iload_n 0, 1) := by decide +kernel
theorem dX0_gapUpper_1 : decode cX0_gapUpper 1 = .ok (.i2l, 1) := by decide +kernel
theorem dX0_gapUpper_2 : decode cX0_gapUpper 2 = .ok (.iload_n 2, 1) := by decide +kernel
theorem dX0_gapUpper_3 : decode cX0_gapUpper 3 = .ok (.i2l, 1) := by decide +kernel
theorem dX0_gapUpper_4 : decode cX0_gapUpper 4 = .ok (.lmul, 1) := by decide +kernel
theorem dX0_gapUpper_5 : decode cX0_gapUpper 5 = .ok (.lstore_n 3, 1) := by decide +kernel
theorem dX0_gapUpper_6 : decode cX0_gapUpper 6 = .ok (.lload_n 3, 1) := by decide +kernel
theorem dX0_gapUpper_7 : decode cX0_gapUpper 7 = .ok (.iload_n 1, 1) := by decide +kernel
theorem dX0_gapUpper_8 : decode cX0_gapUpper 8 = .ok (.i2l, 1) := by decide +kernel
theorem dX0_gapUpper_9 : decode cX0_gapUpper 9 = .ok (.invokestatic 104, 3) := by decide +kernel
theorem dX0_gapUpper_12 : decode cX0_gapUpper 12 = .ok (.iload_n 1, 1) := by decide +kernel
theorem dX0_gapUpper_13 : decode cX0_gapUpper 13 = .ok (.i2l, 1) := by decide +kernel
theorem dX0_gapUpper_14 : decode cX0_gapUpper 14 = .ok (.lmul, 1) := by decide +kernel
theorem dX0_gapUpper_15 : decode cX0_gapUpper 15 = .ok (.lload_n 3, 1) := by decide +kernel
theorem dX0_gapUpper_16 : decode cX0_gapUpper 16 = .ok (.lsub, 1) := by decide +kernel
theorem dX0_gapUpper_17 : decode cX0_gapUpper 17 = .ok (.invokestatic 174, 3) := by decide +kernel
theorem dX0_gapUpper_20 : decode cX0_gapUpper 20 = .ok (.lreturn, 1) := by decide +kernel
theorem dX0_mainMark_0 : decode cX0_mainMark 0 = .ok (.lload_n 3, 1) := by decide +kernel
theorem dX0_mainMark_1 : decode cX0_mainMark 1 = .ok (.lconst 1, 1) := by decide +kernel
theorem dX0_mainMark_2 : decode cX0_mainMark 2 = .ok (.lcmp, 1) := by decide +kernel
theorem dX0_mainMark_3 : decode cX0_mainMark 3 = .ok (.ifCond .ge 7, 3) := by decide +kernel
theorem dX0_mainMark_6 : decode cX0_mainMark 6 = .ok (.lconst 0, 1) := by decide +kernel
theorem dX0_mainMark_7 : decode cX0_mainMark 7 = .ok (.goto 12, 3) := by decide +kernel
theorem dX0_mainMark_10 : decode cX0_mainMark 10 = .ok (.lload_n 1, 1) := by decide +kernel
theorem dX0_mainMark_11 : decode cX0_mainMark 11 = .ok (.aload_n 0, 1) := by decide +kernel
theorem dX0_mainMark_12 : decode cX0_mainMark 12 = .ok (.getfield 26, 3) := by decide +kernel
theorem dX0_mainMark_15 : decode cX0_mainMark 15 = .ok (.i2l, 1) := by decide +kernel
theorem dX0_mainMark_16 : decode cX0_mainMark 16 = .ok (.lmul, 1) := by decide +kernel
theorem dX0_mainMark_17 : decode cX0_mainMark 17 = .ok (.lload_n 3, 1) := by decide +kernel
theorem dX0_mainMark_18 : decode cX0_mainMark 18 = .ok (.ldiv, 1) := by decide +kernel
theorem dX0_mainMark_19 : decode cX0_mainMark 19 = .ok (.lreturn, 1) := by decide +kernel
set_option maxRecDepth 20000 in
theorem ggX0_vernierLine_X0_mainMark : GoodIn wsX0_vernierLine wsX0_mainMark := goodIn_r _ [7, 1, 12, 13, 14, 15, 16, 17, 18, 19, 20] (by decide +kernel) (by decide +kernel)
set_option maxRecDepth 20000 in
theorem gX0_vernierLine_X0_mainMark : GoodIn wsX0_vernierLine (wsV RX0 111 RX0 yX0_mainMark wsX0_mainMark) := goodIn_app (goodIn_of _ (by decide +kernel)) ggX0_vernierLine_X0_mainMark
set_option maxRecDepth 20000 in
theorem ggX0_vernierLine_X0_nearestOrLesser : GoodIn wsX0_vernierLine wsX0_nearestOrLesser := goodIn_r _ [10, 11] (by decide +kernel) (by decide +kernel)
set_option maxRecDepth 20000 in
theorem gX0_vernierLine_X0_nearestOrLesser : GoodIn wsX0_vernierLine (va_wsS RX0 104 yX0_nearestOrLesser wsX0_nearestOrLesser) := goodIn_app (goodIn_of _ (by decide +kernel)) ggX0_vernierLine_X0_nearestOrLesser
theorem dX0_vernierLine_0 : decode cX0_vernierLine 0 = .ok (.lload_n 1, 1) := by decide +kernel
theorem dX0_vernierLine_1 : decode cX0_vernierLine 1 = .ok (.aload_n 0, 1) := by decide +kernel
theorem dX0_vernierLine_2 : decode cX0_vernierLine 2 = .ok (.getfield 26, 3) := by decide +kernel
theorem dX0_vernierLine_5 : decode cX0_vernierLine 5 = .ok (.i2l, 1) := by decide +kernel
theorem dX0_vernierLine_6 : decode cX0_vernierLine 6 = .ok (.lmul, 1) := by decide +kernel
theorem dX0_vernierLine_7 : decode cX0_vernierLine 7 = .ok (.aload_n 0, 1) := by decide +kernel
theorem dX0_vernierLine_8 : decode cX0_vernierLine 8 = .ok (.lload_n 1, 1) := by decide +kernel
theorem dX0_vernierLine_9 : decode cX0_vernierLine 9 = .ok (.lload_n 3, 1) := by decide +kernel
theorem dX0_vernierLine_10 : decode cX0_vernierLine 10 = .ok (.invokevirtual 111, 3) := by decide +kernel
theorem dX0_vernierLine_13 : decode cX0_vernierLine 13 = .ok (.lload_n 3, 1) := by decide +kernel
theorem dX0_vernierLine_14 : decode cX0_vernierLine 14 = .ok (.lmul, 1) := by decide +kernel
theorem dX0_vernierLine_15 : decode cX0_vernierLine 15 = .ok (.lsub, 1) := by decide +kernel
theorem dX0_vernierLine_16 : decode cX0_vernierLine 16 = .ok (.lstore 5, 2) := by decide +kernel
theorem dX0_vernierLine_18 : decode cX0_vernierLine 18 = .ok (.lload 5, 2) := by decide +kernel
theorem dX0_vernierLine_20 : decode cX0_vernierLine 20 = .ok (.aload_n 0, 1) := by decide +kernel
theorem dX0_vernierLine_21 : decode cX0_vernierLine 21 = .ok (.getfield 29, 3) := by decide +kernel
theorem dX0_vernierLine_24 : decode cX0_vernierLine 24 = .ok (.i2l, 1) := by decide +kernel
theorem dX0_vernierLine_25 : decode cX0_vernierLine 25 = .ok (.lmul, 1) := by decide +kernel
theorem dX0_vernierLine_26 : decode cX0_vernierLine 26 = .ok (.lload_n 3, 1) := by decide +kernel
theorem dX0_vernierLine_27 : decode cX0_vernierLine 27 = .ok (.invokestatic 104, 3) := by decide +kernel
theorem dX0_vernierLine_30 : decode cX0_vernierLine 30 = .ok (.lreturn, 1) := by decide +kernel
set_option maxRecDepth 20000 in
theorem ggX0_readParts_X0_mainMark : GoodIn wsX0_readParts wsX0_mainMark := goodIn_r _ [6, 7, 16, 17, 18, 19, 20, 21, 22, 23, 24] (by decide +kernel) (by decide +kernel)
set_option maxRecDepth 20000 in
theorem gX0_readParts_X0_mainMark : GoodIn wsX0_readParts (wsV RX0 111 RX0 yX0_mainMark wsX0_mainMark) := goodIn_app (goodIn_of _ (by decide +kernel)) ggX0_readParts_X0_mainMark
set_option maxRecDepth 20000 in
theorem ggX0_readParts_X0_vernierLine : GoodIn wsX0_readParts wsX0_vernierLine := goodIn_r _ [11, 7, 1, 2, 3, 4, 5, 6, 12, 13, 14, 15, 16, 17, 18, 19, 20, 21, 22, 23, 24] (by decide +kernel) (by decide +kernel)
set_option maxRecDepth 20000 in
theorem gX0_readParts_X0_vernierLine : GoodIn wsX0_readParts (wsV RX0 114 RX0 yX0_vernierLine wsX0_vernierLine) := goodIn_app (goodIn_of _ (by decide +kernel)) ggX0_readParts_X0_vernierLine
theorem dX0_readParts_0 : decode cX0_readParts 0 = .ok (.aload_n 0, 1) := by decide +kernel
theorem dX0_readParts_1 : decode cX0_readParts 1 = .ok (.lload_n 1, 1) := by decide +kernel
theorem dX0_readParts_2 : decode cX0_readParts 2 = .ok (.lload_n 3, 1) := by decide +kernel
theorem dX0_readParts_3 : decode cX0_readParts 3 = .ok (.invokevirtual 111, 3) := by decide +kernel
theorem dX0_readParts_6 : decode cX0_readParts 6 = .ok (.aload_n 0, 1) := by decide +kernel
theorem dX0_readParts_7 : decode cX0_readParts 7 = .ok (.getfield 29, 3) := by decide +kernel
theorem dX0_readParts_10 : decode cX0_readParts 10 = .ok (.i2l, 1) := by decide +kernel
theorem dX0_readParts_11 : decode cX0_readParts 11 = .ok (.lmul, 1) := by decide +kernel
theorem dX0_readParts_12 : decode cX0_readParts 12 = .ok (.aload_n 0, 1) := by decide +kernel
theorem dX0_readParts_13 : decode cX0_readParts 13 = .ok (.lload_n 1, 1) := by decide +kernel
theorem dX0_readParts_14 : decode cX0_readParts 14 = .ok (.lload_n 3, 1) := by decide +kernel
theorem dX0_readParts_15 : decode cX0_readParts 15 = .ok (.invokevirtual 114, 3) := by decide +kernel
theorem dX0_readParts_18 : decode cX0_readParts 18 = .ok (.ladd, 1) := by decide +kernel
theorem dX0_readParts_19 : decode cX0_readParts 19 = .ok (.lreturn, 1) := by decide +kernel
theorem dX0_nearestOrLesser_0 : decode cX0_nearestOrLesser 0 = .ok (.lload_n 2, 1) := by decide +kernel
theorem dX0_nearestOrLesser_1 : decode cX0_nearestOrLesser 1 = .ok (.lconst 1, 1) := by decide +kernel
theorem dX0_nearestOrLesser_2 : decode cX0_nearestOrLesser 2 = .ok (.lcmp, 1) := by decide +kernel
theorem dX0_nearestOrLesser_3 : decode cX0_nearestOrLesser 3 = .ok (.ifCond .ge 7, 3) := by decide +kernel
theorem dX0_nearestOrLesser_6 : decode cX0_nearestOrLesser 6 = .ok (.lconst 0, 1) := by decide +kernel
theorem dX0_nearestOrLesser_7 : decode cX0_nearestOrLesser 7 = .ok (.goto 18, 3) := by decide +kernel
theorem dX0_nearestOrLesser_10 : decode cX0_nearestOrLesser 10 = .ok (.ldc2_w 127, 3) := by decide +kernel
theorem dX0_nearestOrLesser_13 : decode cX0_nearestOrLesser 13 = .ok (.lload_n 0, 1) := by decide +kernel
theorem dX0_nearestOrLesser_14 : decode cX0_nearestOrLesser 14 = .ok (.lmul, 1) := by decide +kernel
theorem dX0_nearestOrLesser_15 : decode cX0_nearestOrLesser 15 = .ok (.lload_n 2, 1) := by decide +kernel
theorem dX0_nearestOrLesser_16 : decode cX0_nearestOrLesser 16 = .ok (.ladd, 1) := by decide +kernel
theorem dX0_nearestOrLesser_17 : decode cX0_nearestOrLesser 17 = .ok (.lconst 1, 1) := by decide +kernel
theorem dX0_nearestOrLesser_18 : decode cX0_nearestOrLesser 18 = .ok (.lsub, 1) := by decide +kernel
theorem dX0_nearestOrLesser_19 : decode cX0_nearestOrLesser 19 = .ok (.ldc2_w 127, 3) := by decide +kernel
theorem dX0_nearestOrLesser_22 : decode cX0_nearestOrLesser 22 = .ok (.lload_n 2, 1) := by decide +kernel
theorem dX0_nearestOrLesser_23 : decode cX0_nearestOrLesser 23 = .ok (.lmul, 1) := by decide +kernel
theorem dX0_nearestOrLesser_24 : decode cX0_nearestOrLesser 24 = .ok (.ldiv, 1) := by decide +kernel
theorem dX0_nearestOrLesser_25 : decode cX0_nearestOrLesser 25 = .ok (.lreturn, 1) := by decide +kernel
theorem dX0_nearestOrGreater_0 : decode cX0_nearestOrGreater 0 = .ok (.lload_n 2, 1) := by decide +kernel
theorem dX0_nearestOrGreater_1 : decode cX0_nearestOrGreater 1 = .ok (.lconst 1, 1) := by decide +kernel
theorem dX0_nearestOrGreater_2 : decode cX0_nearestOrGreater 2 = .ok (.lcmp, 1) := by decide +kernel
theorem dX0_nearestOrGreater_3 : decode cX0_nearestOrGreater 3 = .ok (.ifCond .ge 7, 3) := by decide +kernel
theorem dX0_nearestOrGreater_6 : decode cX0_nearestOrGreater 6 = .ok (.lconst 0, 1) := by decide +kernel
theorem dX0_nearestOrGreater_7 : decode cX0_nearestOrGreater 7 = .ok (.goto 16, 3) := by decide +kernel
theorem dX0_nearestOrGreater_10 : decode cX0_nearestOrGreater 10 = .ok (.ldc2_w 127, 3) := by decide +kernel
theorem dX0_nearestOrGreater_13 : decode cX0_nearestOrGreater 13 = .ok (.lload_n 0, 1) := by decide +kernel
theorem dX0_nearestOrGreater_14 : decode cX0_nearestOrGreater 14 = .ok (.lmul, 1) := by decide +kernel
theorem dX0_nearestOrGreater_15 : decode cX0_nearestOrGreater 15 = .ok (.lload_n 2, 1) := by decide +kernel
theorem dX0_nearestOrGreater_16 : decode cX0_nearestOrGreater 16 = .ok (.ladd, 1) := by decide +kernel
theorem dX0_nearestOrGreater_17 : decode cX0_nearestOrGreater 17 = .ok (.ldc2_w 127, 3) := by decide +kernel
theorem dX0_nearestOrGreater_20 : decode cX0_nearestOrGreater 20 = .ok (.lload_n 2, 1) := by decide +kernel
theorem dX0_nearestOrGreater_21 : decode cX0_nearestOrGreater 21 = .ok (.lmul, 1) := by decide +kernel
theorem dX0_nearestOrGreater_22 : decode cX0_nearestOrGreater 22 = .ok (.ldiv, 1) := by decide +kernel
theorem dX0_nearestOrGreater_23 : decode cX0_nearestOrGreater 23 = .ok (.lreturn, 1) := by decide +kernel
theorem dX0_exactQuotient_0 : decode cX0_exactQuotient 0 = .ok (.lload_n 2, 1) := by decide +kernel
theorem dX0_exactQuotient_1 : decode cX0_exactQuotient 1 = .ok (.lconst 1, 1) := by decide +kernel
theorem dX0_exactQuotient_2 : decode cX0_exactQuotient 2 = .ok (.lcmp, 1) := by decide +kernel
theorem dX0_exactQuotient_3 : decode cX0_exactQuotient 3 = .ok (.ifCond .lt 11, 3) := by decide +kernel
theorem dX0_exactQuotient_6 : decode cX0_exactQuotient 6 = .ok (.lload_n 0, 1) := by decide +kernel
theorem dX0_exactQuotient_7 : decode cX0_exactQuotient 7 = .ok (.lload_n 2, 1) := by decide +kernel
theorem dX0_exactQuotient_8 : decode cX0_exactQuotient 8 = .ok (.lrem, 1) := by decide +kernel
theorem dX0_exactQuotient_9 : decode cX0_exactQuotient 9 = .ok (.lconst 0, 1) := by decide +kernel
theorem dX0_exactQuotient_10 : decode cX0_exactQuotient 10 = .ok (.lcmp, 1) := by decide +kernel
theorem dX0_exactQuotient_11 : decode cX0_exactQuotient 11 = .ok (.ifCond .eq 7, 3) := by decide +kernel
theorem dX0_exactQuotient_14 : decode cX0_exactQuotient 14 = .ok (.lconst 0, 1) := by decide +kernel
theorem dX0_exactQuotient_15 : decode cX0_exactQuotient 15 = .ok (.goto 6, 3) := by decide +kernel
theorem dX0_exactQuotient_18 : decode cX0_exactQuotient 18 = .ok (.lload_n 0, 1) := by decide +kernel
theorem dX0_exactQuotient_19 : decode cX0_exactQuotient 19 = .ok (.lload_n 2, 1) := by decide +kernel
theorem dX0_exactQuotient_20 : decode cX0_exactQuotient 20 = .ok (.ldiv, 1) := by decide +kernel
theorem dX0_exactQuotient_21 : decode cX0_exactQuotient 21 = .ok (.lreturn, 1) := by decide +kernel
set_option maxRecDepth 20000 in
theorem ggX0_lowestTerm_X0_commonMeasure : GoodIn wsX0_lowestTerm wsX0_commonMeasure := goodIn_r _ [8] (by decide +kernel) (by decide +kernel)
set_option maxRecDepth 20000 in
theorem gX0_lowestTerm_X0_commonMeasure : GoodIn wsX0_lowestTerm (va_wsS RX0 177 yX0_commonMeasure wsX0_commonMeasure) := goodIn_app (goodIn_of _ (by decide +kernel)) ggX0_lowestTerm_X0_commonMeasure
theorem dX0_lowestTerm_0 : decode cX0_lowestTerm 0 = .ok (.iload 4, 2) := by decide +kernel
theorem dX0_lowestTerm_2 : decode cX0_lowestTerm 2 = .ok (.ifCond .ne 7, 3) := by decide +kernel
theorem dX0_lowestTerm_5 : decode cX0_lowestTerm 5 = .ok (.lload_n 0, 1) := by decide +kernel
theorem dX0_lowestTerm_6 : decode cX0_lowestTerm 6 = .ok (.goto 4, 3) := by decide +kernel
theorem dX0_lowestTerm_9 : decode cX0_lowestTerm 9 = .ok (.lload_n 2, 1) := by decide +kernel
theorem dX0_lowestTerm_10 : decode cX0_lowestTerm 10 = .ok (.lstore 5, 2) := by decide +kernel
theorem dX0_lowestTerm_12 : decode cX0_lowestTerm 12 = .ok (.lload_n 0, 1) := by decide +kernel
theorem dX0_lowestTerm_13 : decode cX0_lowestTerm 13 = .ok (.invokestatic 174, 3) := by decide +kernel
theorem dX0_lowestTerm_16 : decode cX0_lowestTerm 16 = .ok (.lload_n 2, 1) := by decide +kernel
theorem dX0_lowestTerm_17 : decode cX0_lowestTerm 17 = .ok (.invokestatic 177, 3) := by decide +kernel
theorem dX0_lowestTerm_20 : decode cX0_lowestTerm 20 = .ok (.lstore 7, 2) := by decide +kernel
theorem dX0_lowestTerm_22 : decode cX0_lowestTerm 22 = .ok (.lload 7, 2) := by decide +kernel
theorem dX0_lowestTerm_24 : decode cX0_lowestTerm 24 = .ok (.lconst 1, 1) := by decide +kernel
theorem dX0_lowestTerm_25 : decode cX0_lowestTerm 25 = .ok (.lcmp, 1) := by decide +kernel
theorem dX0_lowestTerm_26 : decode cX0_lowestTerm 26 = .ok (.ifCond .ge 8, 3) := by decide +kernel
theorem dX0_lowestTerm_29 : decode cX0_lowestTerm 29 = .ok (.lload 5, 2) := by decide +kernel
theorem dX0_lowestTerm_31 : decode cX0_lowestTerm 31 = .ok (.goto 8, 3) := by decide +kernel
theorem dX0_lowestTerm_34 : decode cX0_lowestTerm 34 = .ok (.lload 5, 2) := by decide +kernel
theorem dX0_lowestTerm_36 : decode cX0_lowestTerm 36 = .ok (.lload 7, 2) := by decide +kernel
theorem dX0_lowestTerm_38 : decode cX0_lowestTerm 38 = .ok (.ldiv, 1) := by decide +kernel
theorem dX0_lowestTerm_39 : decode cX0_lowestTerm 39 = .ok (.l2i, 1) := by decide +kernel
theorem dX0_lowestTerm_40 : decode cX0_lowestTerm 40 = .ok (.ireturn, 1) := by decide +kernel
theorem dX0_commonMeasure_0 : decode cX0_commonMeasure 0 = .ok (.iconst 0, 1) := by decide +kernel
theorem dX0_commonMeasure_1 : decode cX0_commonMeasure 1 = .ok (.istore 4, 2) := by decide +kernel
theorem dX0_commonMeasure_3 : decode cX0_commonMeasure 3 = .ok (.iload 4, 2) := by decide +kernel
theorem dX0_commonMeasure_5 : decode cX0_commonMeasure 5 = .ok (.bipush 100, 2) := by decide +kernel
theorem dX0_commonMeasure_7 : decode cX0_commonMeasure 7 = .ok (.if_icmp .ge 25, 3) := by decide +kernel
theorem dX0_commonMeasure_10 : decode cX0_commonMeasure 10 = .ok (.lload_n 2, 1) := by decide +kernel
theorem dX0_commonMeasure_11 : decode cX0_commonMeasure 11 = .ok (.lconst 0, 1) := by decide +kernel
theorem dX0_commonMeasure_12 : decode cX0_commonMeasure 12 = .ok (.lcmp, 1) := by decide +kernel
theorem dX0_commonMeasure_13 : decode cX0_commonMeasure 13 = .ok (.ifCond .eq 19, 3) := by decide +kernel
theorem dX0_commonMeasure_16 : decode cX0_commonMeasure 16 = .ok (.lload_n 0, 1) := by decide +kernel
theorem dX0_commonMeasure_17 : decode cX0_commonMeasure 17 = .ok (.lload_n 2, 1) := by decide +kernel
theorem dX0_commonMeasure_18 : decode cX0_commonMeasure 18 = .ok (.lrem, 1) := by decide +kernel
theorem dX0_commonMeasure_19 : decode cX0_commonMeasure 19 = .ok (.lstore 5, 2) := by decide +kernel
theorem dX0_commonMeasure_21 : decode cX0_commonMeasure 21 = .ok (.lload_n 2, 1) := by decide +kernel
theorem dX0_commonMeasure_22 : decode cX0_commonMeasure 22 = .ok (.lstore_n 0, 1) := by decide +kernel
theorem dX0_commonMeasure_23 : decode cX0_commonMeasure 23 = .ok (.lload 5, 2) := by decide +kernel
theorem dX0_commonMeasure_25 : decode cX0_commonMeasure 25 = .ok (.lstore_n 2, 1) := by decide +kernel
theorem dX0_commonMeasure_26 : decode cX0_commonMeasure 26 = .ok (.iinc 4 1, 3) := by decide +kernel
theorem dX0_commonMeasure_29 : decode cX0_commonMeasure 29 = .ok (.goto (-26), 3) := by decide +kernel
theorem dX0_commonMeasure_32 : decode cX0_commonMeasure 32 = .ok (.lload_n 0, 1) := by decide +kernel
theorem dX0_commonMeasure_33 : decode cX0_commonMeasure 33 = .ok (.lreturn, 1) := by decide +kernel
end
section
theorem dX1_init_0 : decode cX1_init 0 = .ok (.aload_n 0, 1) := by decide +kernel
theorem dX1_init_1 : decode cX1_init 1 = .ok (.invokespecial 1, 3) := by decide +kernel
theorem dX1_init_4 : decode cX1_init 4 = .ok (.aload_n 0, 1) := by decide +kernel
theorem dX1_init_5 : decode cX1_init 5 = .ok (.bipush 40, 2) := by decide +kernel
theorem dX1_init_7 : decode cX1_init 7 = .ok (.putfield 7, 3) := by decide +kernel
theorem dX1_init_10 : decode cX1_init 10 = .ok (.aload_n 0, 1) := by decide +kernel
theorem dX1_init_11 : decode cX1_init 11 = .ok (.bipush 8, 2) := by decide +kernel
theorem dX1_init_13 : decode cX1_init 13 = .ok (.newarray .int, 2) := by decide +kernel
theorem dX1_init_15 : decode cX1_init 15 = .ok (.putfield 13, 3) := by decide +kernel
theorem dX1_init_18 : decode cX1_init 18 = .ok (.aload_n 0, 1) := by decide +kernel
theorem dX1_init_19 : decode cX1_init 19 = .ok (.bipush 10, 2) := by decide +kernel
theorem dX1_init_21 : decode cX1_init 21 = .ok (.newarray .int, 2) := by decide +kernel
theorem dX1_init_23 : decode cX1_init 23 = .ok (.putfield 17, 3) := by decide +kernel
theorem dX1_init_26 : decode cX1_init 26 = .ok (.aload_n 0, 1) := by decide +kernel
theorem dX1_init_27 : decode cX1_init 27 = .ok (.bipush 8, 2) := by decide +kernel
theorem dX1_init_29 : decode cX1_init 29 = .ok (.newarray .int, 2) := by decide +kernel
theorem dX1_init_31 : decode cX1_init 31 = .ok (.putfield 20, 3) := by decide +kernel
theorem dX1_init_34 : decode cX1_init 34 = .ok (.aload_n 0, 1) := by decide +kernel
theorem dX1_init_35 : decode cX1_init 35 = .ok (.sipush 360, 3) := by decide +kernel
theorem dX1_init_38 : decode cX1_init 38 = .ok (.putfield 23, 3) := by decide +kernel
theorem dX1_init_41 : decode cX1_init 41 = .ok (.aload_n 0, 1) := by decide +kernel
theorem dX1_init_42 : decode cX1_init 42 = .ok (.bipush 10, 2) := by decide +kernel
theorem dX1_init_44 : decode cX1_init 44 = .ok (.putfield 26, 3) := by decide +kernel
theorem dX1_init_47 : decode cX1_init 47 = .ok (.aload_n 0, 1) := by decide +kernel
theorem dX1_init_48 : decode cX1_init 48 = .ok (.iconst 4, 1) := by decide +kernel
theorem dX1_init_49 : decode cX1_init 49 = .ok (.newarray .int, 2) := by decide +kernel
theorem dX1_init_51 : decode cX1_init 51 = .ok (.putfield 29, 3) := by decide +kernel
theorem dX1_init_54 : decode cX1_init 54 = .ok (.return_, 1) := by decide +kernel
theorem dX1_in_0 : decode cX1_in 0 = .ok (.lload_n 0, 1) := by decide +kernel
theorem dX1_in_1 : decode cX1_in 1 = .ok (.lload_n 2, 1) := by decide +kernel
theorem dX1_in_2 : decode cX1_in 2 = .ok (.lcmp, 1) := by decide +kernel
theorem dX1_in_3 : decode cX1_in 3 = .ok (.ifCond .lt 14, 3) := by decide +kernel
theorem dX1_in_6 : decode cX1_in 6 = .ok (.lload_n 0, 1) := by decide +kernel
theorem dX1_in_7 : decode cX1_in 7 = .ok (.lload 4, 2) := by decide +kernel
theorem dX1_in_9 : decode cX1_in 9 = .ok (.lcmp, 1) := by decide +kernel
theorem dX1_in_10 : decode cX1_in 10 = .ok (.ifCond .gt 7, 3) := by decide +kernel
theorem dX1_in_13 : decode cX1_in 13 = .ok (.iconst 1, 1) := by decide +kernel
theorem dX1_in_14 : decode cX1_in 14 = .ok (.goto 4, 3) := by decide +kernel
theorem dX1_in_17 : decode cX1_in 17 = .ok (.iconst 0, 1) := by decide +kernel
theorem dX1_in_18 : decode cX1_in 18 = .ok (.ireturn, 1) := by decide +kernel
theorem dX1_common_0 : decode cX1_common 0 = .ok (.lload_n 0, 1) := by decide +kernel
theorem dX1_common_1 : decode cX1_common 1 = .ok (.lconst 0, 1) := by decide +kernel
theorem dX1_common_2 : decode cX1_common 2 = .ok (.lcmp, 1) := by decide +kernel
theorem dX1_common_3 : decode cX1_common 3 = .ok (.ifCond .ge 8, 3) := by decide +kernel
theorem dX1_common_6 : decode cX1_common 6 = .ok (.lload_n 0, 1) := by decide +kernel
theorem dX1_common_7 : decode cX1_common 7 = .ok (.lneg, 1) := by decide +kernel
theorem dX1_common_8 : decode cX1_common 8 = .ok (.goto 4, 3) := by decide +kernel
theorem dX1_common_11 : decode cX1_common 11 = .ok (.lload_n 0, 1) := by decide +kernel
theorem dX1_common_12 : decode cX1_common 12 = .ok (.lstore 4, 2) := by decide +kernel
theorem dX1_common_14 : decode cX1_common 14 = .ok (.lload_n 2, 1) := by decide +kernel
theorem dX1_common_15 : decode cX1_common 15 = .ok (.lstore 6, 2) := by decide +kernel
theorem dX1_common_17 : decode cX1_common 17 = .ok (.lload 6, 2) := by decide +kernel
theorem dX1_common_19 : decode cX1_common 19 = .ok (.lconst 0, 1) := by decide +kernel
theorem dX1_common_20 : decode cX1_common 20 = .ok (.lcmp, 1) := by decide +kernel
theorem dX1_common_21 : decode cX1_common 21 = .ok (.ifCond .eq 21, 3) := by decide +kernel
theorem dX1_common_24 : decode cX1_common 24 = .ok (.lload 4, 2) := by decide +kernel
theorem dX1_common_26 : decode cX1_common 26 = .ok (.lload 6, 2) := by decide +kernel
theorem dX1_common_28 : decode cX1_common 28 = .ok (.lrem, 1) := by decide +kernel
theorem dX1_common_29 : decode cX1_common 29 = .ok (.lstore 8, 2) := by decide +kernel
theorem dX1_common_31 : decode cX1_common 31 = .ok (.lload 6, 2) := by decide +kernel
theorem dX1_common_33 : decode cX1_common 33 = .ok (.lstore 4, 2) := by decide +kernel
theorem dX1_common_35 : decode cX1_common 35 = .ok (.lload 8, 2) := by decide +kernel
theorem dX1_common_37 : decode cX1_common 37 = .ok (.lstore 6, 2) := by decide +kernel
theorem dX1_common_39 : decode cX1_common 39 = .ok (.goto (-22), 3) := by decide +kernel
theorem dX1_common_42 : decode cX1_common 42 = .ok (.lload 4, 2) := by decide +kernel
theorem dX1_common_44 : decode cX1_common 44 = .ok (.lreturn, 1) := by decide +kernel
set_option maxRecDepth 20000 in
theorem ggX1_term_X1_common : GoodIn wsX1_term wsX1_common := goodIn_r _ [4] (by decide +kernel) (by decide +kernel)
set_option maxRecDepth 20000 in
theorem gX1_term_X1_common : GoodIn wsX1_term (va_wsS RX1 32 yX1_common wsX1_common) := goodIn_app (goodIn_of _ (by decide +kernel)) ggX1_term_X1_common
theorem dX1_term_0 : decode cX1_term 0 = .ok (.lload_n 0, 1) := by decide +kernel
theorem dX1_term_1 : decode cX1_term 1 = .ok (.lload_n 2, 1) := by decide +kernel
theorem dX1_term_2 : decode cX1_term 2 = .ok (.invokestatic 32, 3) := by decide +kernel
theorem dX1_term_5 : decode cX1_term 5 = .ok (.lstore 5, 2) := by decide +kernel
theorem dX1_term_7 : decode cX1_term 7 = .ok (.iload 4, 2) := by decide +kernel
theorem dX1_term_9 : decode cX1_term 9 = .ok (.ifCond .ne 10, 3) := by decide +kernel
theorem dX1_term_12 : decode cX1_term 12 = .ok (.lload_n 0, 1) := by decide +kernel
theorem dX1_term_13 : decode cX1_term 13 = .ok (.lload 5, 2) := by decide +kernel
theorem dX1_term_15 : decode cX1_term 15 = .ok (.ldiv, 1) := by decide +kernel
theorem dX1_term_16 : decode cX1_term 16 = .ok (.goto 7, 3) := by decide +kernel
theorem dX1_term_19 : decode cX1_term 19 = .ok (.lload_n 2, 1) := by decide +kernel
theorem dX1_term_20 : decode cX1_term 20 = .ok (.lload 5, 2) := by decide +kernel
theorem dX1_term_22 : decode cX1_term 22 = .ok (.ldiv, 1) := by decide +kernel
theorem dX1_term_23 : decode cX1_term 23 = .ok (.l2i, 1) := by decide +kernel
theorem dX1_term_24 : decode cX1_term 24 = .ok (.ireturn, 1) := by decide +kernel
set_option maxRecDepth 20000 in
theorem ggX1_isParts_X1_in : GoodIn wsX1_isParts wsX1_in := goodIn_r _ [6] (by decide +kernel) (by decide +kernel)
set_option maxRecDepth 20000 in
theorem gX1_isParts_X1_in : GoodIn wsX1_isParts (va_wsS RX1 40 yX1_in wsX1_in) := goodIn_app (goodIn_of _ (by decide +kernel)) ggX1_isParts_X1_in
theorem dX1_isParts_0 : decode cX1_isParts 0 = .ok (.iload_n 0, 1) := by decide +kernel
theorem dX1_isParts_1 : decode cX1_isParts 1 = .ok (.i2l, 1) := by decide +kernel
theorem dX1_isParts_2 : decode cX1_isParts 2 = .ok (.ldc2_w 36, 3) := by decide +kernel
theorem dX1_isParts_5 : decode cX1_isParts 5 = .ok (.ldc2_w 38, 3) := by decide +kernel
theorem dX1_isParts_8 : decode cX1_isParts 8 = .ok (.invokestatic 40, 3) := by decide +kernel
theorem dX1_isParts_11 : decode cX1_isParts 11 = .ok (.ireturn, 1) := by decide +kernel
set_option maxRecDepth 20000 in
theorem ggX1_isCircle_X1_in : GoodIn wsX1_isCircle wsX1_in := goodIn_r _ [5] (by decide +kernel) (by decide +kernel)
set_option maxRecDepth 20000 in
theorem gX1_isCircle_X1_in : GoodIn wsX1_isCircle (va_wsS RX1 40 yX1_in wsX1_in) := goodIn_app (goodIn_of _ (by decide +kernel)) ggX1_isCircle_X1_in
theorem dX1_isCircle_0 : decode cX1_isCircle 0 = .ok (.iload_n 1, 1) := by decide +kernel
theorem dX1_isCircle_1 : decode cX1_isCircle 1 = .ok (.i2l, 1) := by decide +kernel
theorem dX1_isCircle_2 : decode cX1_isCircle 2 = .ok (.lconst 0, 1) := by decide +kernel
theorem dX1_isCircle_3 : decode cX1_isCircle 3 = .ok (.aload_n 0, 1) := by decide +kernel
theorem dX1_isCircle_4 : decode cX1_isCircle 4 = .ok (.getfield 44, 3) := by decide +kernel
theorem dX1_isCircle_7 : decode cX1_isCircle 7 = .ok (.iconst 1, 1) := by decide +kernel
theorem dX1_isCircle_8 : decode cX1_isCircle 8 = .ok (.isub, 1) := by decide +kernel
theorem dX1_isCircle_9 : decode cX1_isCircle 9 = .ok (.i2l, 1) := by decide +kernel
theorem dX1_isCircle_10 : decode cX1_isCircle 10 = .ok (.invokestatic 40, 3) := by decide +kernel
theorem dX1_isCircle_13 : decode cX1_isCircle 13 = .ok (.ireturn, 1) := by decide +kernel
set_option maxRecDepth 20000 in
theorem ggX1_isGear_X1_in : GoodIn wsX1_isGear wsX1_in := goodIn_r _ [5] (by decide +kernel) (by decide +kernel)
set_option maxRecDepth 20000 in
theorem gX1_isGear_X1_in : GoodIn wsX1_isGear (va_wsS RX1 40 yX1_in wsX1_in) := goodIn_app (goodIn_of _ (by decide +kernel)) ggX1_isGear_X1_in
theorem dX1_isGear_0 : decode cX1_isGear 0 = .ok (.iload_n 1, 1) := by decide +kernel
theorem dX1_isGear_1 : decode cX1_isGear 1 = .ok (.i2l, 1) := by decide +kernel
theorem dX1_isGear_2 : decode cX1_isGear 2 = .ok (.lconst 0, 1) := by decide +kernel
theorem dX1_isGear_3 : decode cX1_isGear 3 = .ok (.aload_n 0, 1) := by decide +kernel
theorem dX1_isGear_4 : decode cX1_isGear 4 = .ok (.getfield 47, 3) := by decide +kernel
theorem dX1_isGear_7 : decode cX1_isGear 7 = .ok (.iconst 1, 1) := by decide +kernel
theorem dX1_isGear_8 : decode cX1_isGear 8 = .ok (.isub, 1) := by decide +kernel
theorem dX1_isGear_9 : decode cX1_isGear 9 = .ok (.i2l, 1) := by decide +kernel
theorem dX1_isGear_10 : decode cX1_isGear 10 = .ok (.invokestatic 40, 3) := by decide +kernel
theorem dX1_isGear_13 : decode cX1_isGear 13 = .ok (.ireturn, 1) := by decide +kernel
set_option maxRecDepth 20000 in
theorem ggX1_wheel_X1_in : GoodIn wsX1_wheel wsX1_in := goodIn_r _ [7] (by decide +kernel) (by decide +kernel)
set_option maxRecDepth 20000 in
theorem gX1_wheel_X1_in : GoodIn wsX1_wheel (va_wsS RX1 40 yX1_in wsX1_in) := goodIn_app (goodIn_of _ (by decide +kernel)) ggX1_wheel_X1_in
theorem dX1_wheel_0 : decode cX1_wheel 0 = .ok (.iload_n 1, 1) := by decide +kernel
theorem dX1_wheel_1 : decode cX1_wheel 1 = .ok (.i2l, 1) := by decide +kernel
theorem dX1_wheel_2 : decode cX1_wheel 2 = .ok (.ldc2_w 50, 3) := by decide +kernel
theorem dX1_wheel_5 : decode cX1_wheel 5 = .ok (.ldc2_w 52, 3) := by decide +kernel
theorem dX1_wheel_8 : decode cX1_wheel 8 = .ok (.invokestatic 40, 3) := by decide +kernel
theorem dX1_wheel_11 : decode cX1_wheel 11 = .ok (.ifCond .ne 6, 3) := by decide +kernel
theorem dX1_wheel_14 : decode cX1_wheel 14 = .ok (.bipush (-2), 2) := by decide +kernel
theorem dX1_wheel_16 : decode cX1_wheel 16 = .ok (.ireturn, 1) := by decide +kernel
theorem dX1_wheel_17 : decode cX1_wheel 17 = .ok (.aload_n 0, 1) := by decide +kernel
theorem dX1_wheel_18 : decode cX1_wheel 18 = .ok (.getfield 7, 3) := by decide +kernel
theorem dX1_wheel_21 : decode cX1_wheel 21 = .ok (.istore_n 2, 1) := by decide +kernel
theorem dX1_wheel_22 : decode cX1_wheel 22 = .ok (.aload_n 0, 1) := by decide +kernel
theorem dX1_wheel_23 : decode cX1_wheel 23 = .ok (.iload_n 1, 1) := by decide +kernel
theorem dX1_wheel_24 : decode cX1_wheel 24 = .ok (.putfield 7, 3) := by decide +kernel
theorem dX1_wheel_27 : decode cX1_wheel 27 = .ok (.iload_n 2, 1) := by decide +kernel
theorem dX1_wheel_28 : decode cX1_wheel 28 = .ok (.ireturn, 1) := by decide +kernel
set_option maxRecDepth 20000 in
theorem ggX1_circle_X1_in : GoodIn wsX1_circle wsX1_in := goodIn_r _ [8] (by decide +kernel) (by decide +kernel)
set_option maxRecDepth 20000 in
theorem gX1_circle_X1_in : GoodIn wsX1_circle (va_wsS RX1 40 yX1_in wsX1_in) := goodIn_app (goodIn_of _ (by decide +kernel)) ggX1_circle_X1_in
theorem dX1_circle_0 : decode cX1_circle 0 = .ok (.iload_n 1, 1) := by decide +kernel
theorem dX1_circle_1 : decode cX1_circle 1 = .ok (.i2l, 1) := by decide +kernel
theorem dX1_circle_2 : decode cX1_circle 2 = .ok (.ldc2_w 54, 3) := by decide +kernel
theorem dX1_circle_5 : decode cX1_circle 5 = .ok (.ldc2_w 56, 3) := by decide +kernel
theorem dX1_circle_8 : decode cX1_circle 8 = .ok (.invokestatic 40, 3) := by decide +kernel
theorem dX1_circle_11 : decode cX1_circle 11 = .ok (.ifCond .ne 6, 3) := by decide +kernel
theorem dX1_circle_14 : decode cX1_circle 14 = .ok (.bipush (-2), 2) := by decide +kernel
theorem dX1_circle_16 : decode cX1_circle 16 = .ok (.ireturn, 1) := by decide +kernel
theorem dX1_circle_17 : decode cX1_circle 17 = .ok (.aload_n 0, 1) := by decide +kernel
theorem dX1_circle_18 : decode cX1_circle 18 = .ok (.getfield 44, 3) := by decide +kernel
theorem dX1_circle_21 : decode cX1_circle 21 = .ok (.bipush 8, 2) := by decide +kernel
theorem dX1_circle_23 : decode cX1_circle 23 = .ok (.if_icmp .ne 6, 3) := by decide +kernel
theorem dX1_circle_26 : decode cX1_circle 26 = .ok (.bipush (-4), 2) := by decide +kernel
theorem dX1_circle_28 : decode cX1_circle 28 = .ok (.ireturn, 1) := by decide +kernel
theorem dX1_circle_29 : decode cX1_circle 29 = .ok (.iconst 0, 1) := by decide +kernel
theorem dX1_circle_30 : decode cX1_circle 30 = .ok (.istore_n 2, 1) := by decide +kernel
theorem dX1_circle_31 : decode cX1_circle 31 = .ok (.iload_n 2, 1) := by decide +kernel
theorem dX1_circle_32 : decode cX1_circle 32 = .ok (.aload_n 0, 1) := by decide +kernel
theorem dX1_circle_33 : decode cX1_circle 33 = .ok (.getfield 44, 3) := by decide +kernel
theorem dX1_circle_36 : decode cX1_circle 36 = .ok (.if_icmp .ge 22, 3) := by decide +kernel
theorem dX1_circle_39 : decode cX1_circle 39 = .ok (.aload_n 0, 1) := by decide +kernel
theorem dX1_circle_40 : decode cX1_circle 40 = .ok (.getfield 13, 3) := by decide +kernel
theorem dX1_circle_43 : decode cX1_circle 43 = .ok (.iload_n 2, 1) := by decide +kernel
theorem dX1_circle_44 : decode cX1_circle 44 = .ok (.iaload, 1) := by decide +kernel
theorem dX1_circle_45 : decode cX1_circle 45 = .ok (.iload_n 1, 1) := by decide +kernel
theorem dX1_circle_46 : decode cX1_circle 46 = .ok (.if_icmp .ne 6, 3) := by decide +kernel
theorem dX1_circle_49 : decode cX1_circle 49 = .ok (.bipush (-5), 2) := by decide +kernel
theorem dX1_circle_51 : decode cX1_circle 51 = .ok (.ireturn, 1) := by decide +kernel
theorem dX1_circle_52 : decode cX1_circle 52 = .ok (.iinc 2 1, 3) := by decide +kernel
theorem dX1_circle_55 : decode cX1_circle 55 = .ok (.goto (-24), 3) := by decide +kernel
theorem dX1_circle_58 : decode cX1_circle 58 = .ok (.aload_n 0, 1) := by decide +kernel
theorem dX1_circle_59 : decode cX1_circle 59 = .ok (.getfield 13, 3) := by decide +kernel
theorem dX1_circle_62 : decode cX1_circle 62 = .ok (.aload_n 0, 1) := by decide +kernel
theorem dX1_circle_63 : decode cX1_circle 63 = .ok (.getfield 44, 3) := by decide +kernel
theorem dX1_circle_66 : decode cX1_circle 66 = .ok (.iload_n 1, 1) := by decide +kernel
theorem dX1_circle_67 : decode cX1_circle 67 = .ok (.iastore, 1) := by decide +kernel
theorem dX1_circle_68 : decode cX1_circle 68 = .ok (.aload_n 0, 1) := by decide +kernel
theorem dX1_circle_69 : decode cX1_circle 69 = .ok (.dup, 1) := by decide +kernel
theorem dX1_circle_70 : decode cX1_circle 70 = .ok (.getfield 44, 3) := by decide +kernel
theorem dX1_circle_73 : decode cX1_circle 73 = .ok (.iconst 1, 1) := by decide +kernel
theorem dX1_circle_74 : decode cX1_circle 74 = .ok (.iadd, 1) := by decide +kernel
theorem dX1_circle_75 : decode cX1_circle 75 = .ok (.putfield 44, 3) := by decide +kernel
theorem dX1_circle_78 : decode cX1_circle 78 = .ok (.aload_n 0, 1) := by decide +kernel
theorem dX1_circle_79 : decode cX1_circle 79 = .ok (.getfield 44, 3) := by decide +kernel
theorem dX1_circle_82 : decode cX1_circle 82 = .ok (.iconst 1, 1) := by decide +kernel
theorem dX1_circle_83 : decode cX1_circle 83 = .ok (.isub, 1) := by decide +kernel
theorem dX1_circle_84 : decode cX1_circle 84 = .ok (.ireturn, 1) := by decide +kernel
set_option maxRecDepth 20000 in
theorem ggX1_holes_X1_isCircle : GoodIn wsX1_holes wsX1_isCircle := goodIn_r _ [6, 7, 8, 9, 5, 10, 11, 12, 13, 14, 15, 16, 17, 18, 19] (by decide +kernel) (by decide +kernel)
set_option maxRecDepth 20000 in
theorem gX1_holes_X1_isCircle : GoodIn wsX1_holes (wsV RX1 58 RX1 yX1_isCircle wsX1_isCircle) := goodIn_app (goodIn_of _ (by decide +kernel)) ggX1_holes_X1_isCircle
theorem dX1_holes_0 : decode cX1_holes 0 = .ok (.aload_n 0, 1) := by decide +kernel
theorem dX1_holes_1 : decode cX1_holes 1 = .ok (.iload_n 1, 1) := by decide +kernel
theorem dX1_holes_2 : decode cX1_holes 2 = .ok (.invokevirtual 58, 3) := by decide +kernel
theorem dX1_holes_5 : decode cX1_holes 5 = .ok (.ifCond .eq 12, 3) := by decide +kernel
theorem dX1_holes_8 : decode cX1_holes 8 = .ok (.aload_n 0, 1) := by decide +kernel
theorem dX1_holes_9 : decode cX1_holes 9 = .ok (.getfield 13, 3) := by decide +kernel
theorem dX1_holes_12 : decode cX1_holes 12 = .ok (.iload_n 1, 1) := by decide +kernel
theorem dX1_holes_13 : decode cX1_holes 13 = .ok (.iaload, 1) := by decide +kernel
theorem dX1_holes_14 : decode cX1_holes 14 = .ok (.goto 4, 3) := by decide +kernel
theorem dX1_holes_17 : decode cX1_holes 17 = .ok (.iconst (-1), 1) := by decide +kernel
theorem dX1_holes_18 : decode cX1_holes 18 = .ok (.ireturn, 1) := by decide +kernel
set_option maxRecDepth 20000 in
theorem ggX1_gear_X1_in : GoodIn wsX1_gear wsX1_in := goodIn_r _ [8] (by decide +kernel) (by decide +kernel)
set_option maxRecDepth 20000 in
theorem gX1_gear_X1_in : GoodIn wsX1_gear (va_wsS RX1 40 yX1_in wsX1_in) := goodIn_app (goodIn_of _ (by decide +kernel)) ggX1_gear_X1_in
theorem dX1_gear_0 : decode cX1_gear 0 = .ok (.iload_n 1, 1) := by decide +kernel
theorem dX1_gear_1 : decode cX1_gear 1 = .ok (.i2l, 1) := by decide +kernel
theorem dX1_gear_2 : decode cX1_gear 2 = .ok (.ldc2_w 62, 3) := by decide +kernel
theorem dX1_gear_5 : decode cX1_gear 5 = .ok (.ldc2_w 56, 3) := by decide +kernel
theorem dX1_gear_8 : decode cX1_gear 8 = .ok (.invokestatic 40, 3) := by decide +kernel
theorem dX1_gear_11 : decode cX1_gear 11 = .ok (.ifCond .ne 6, 3) := by decide +kernel
theorem dX1_gear_14 : decode cX1_gear 14 = .ok (.bipush (-2), 2) := by decide +kernel
theorem dX1_gear_16 : decode cX1_gear 16 = .ok (.ireturn, 1) := by decide +kernel
theorem dX1_gear_17 : decode cX1_gear 17 = .ok (.aload_n 0, 1) := by decide +kernel
theorem dX1_gear_18 : decode cX1_gear 18 = .ok (.getfield 47, 3) := by decide +kernel
theorem dX1_gear_21 : decode cX1_gear 21 = .ok (.bipush 10, 2) := by decide +kernel
theorem dX1_gear_23 : decode cX1_gear 23 = .ok (.if_icmp .ne 6, 3) := by decide +kernel
theorem dX1_gear_26 : decode cX1_gear 26 = .ok (.bipush (-4), 2) := by decide +kernel
theorem dX1_gear_28 : decode cX1_gear 28 = .ok (.ireturn, 1) := by decide +kernel
theorem dX1_gear_29 : decode cX1_gear 29 = .ok (.aload_n 0, 1) := by decide +kernel
theorem dX1_gear_30 : decode cX1_gear 30 = .ok (.getfield 17, 3) := by decide +kernel
theorem dX1_gear_33 : decode cX1_gear 33 = .ok (.aload_n 0, 1) := by decide +kernel
theorem dX1_gear_34 : decode cX1_gear 34 = .ok (.getfield 47, 3) := by decide +kernel
theorem dX1_gear_37 : decode cX1_gear 37 = .ok (.iload_n 1, 1) := by decide +kernel
theorem dX1_gear_38 : decode cX1_gear 38 = .ok (.iastore, 1) := by decide +kernel
theorem dX1_gear_39 : decode cX1_gear 39 = .ok (.aload_n 0, 1) := by decide +kernel
theorem dX1_gear_40 : decode cX1_gear 40 = .ok (.dup, 1) := by decide +kernel
theorem dX1_gear_41 : decode cX1_gear 41 = .ok (.getfield 47, 3) := by decide +kernel
theorem dX1_gear_44 : decode cX1_gear 44 = .ok (.iconst 1, 1) := by decide +kernel
theorem dX1_gear_45 : decode cX1_gear 45 = .ok (.iadd, 1) := by decide +kernel
theorem dX1_gear_46 : decode cX1_gear 46 = .ok (.putfield 47, 3) := by decide +kernel
theorem dX1_gear_49 : decode cX1_gear 49 = .ok (.aload_n 0, 1) := by decide +kernel
theorem dX1_gear_50 : decode cX1_gear 50 = .ok (.getfield 47, 3) := by decide +kernel
theorem dX1_gear_53 : decode cX1_gear 53 = .ok (.iconst 1, 1) := by decide +kernel
theorem dX1_gear_54 : decode cX1_gear 54 = .ok (.isub, 1) := by decide +kernel
theorem dX1_gear_55 : decode cX1_gear 55 = .ok (.ireturn, 1) := by decide +kernel
set_option maxRecDepth 20000 in
theorem ggX1_teeth_X1_isGear : GoodIn wsX1_teeth wsX1_isGear := goodIn_r _ [6, 7, 8, 9, 5, 10, 11, 12, 13, 14, 15, 16, 17, 18, 19] (by decide +kernel) (by decide +kernel)
set_option maxRecDepth 20000 in
theorem gX1_teeth_X1_isGear : GoodIn wsX1_teeth (wsV RX1 64 RX1 yX1_isGear wsX1_isGear) := goodIn_app (goodIn_of _ (by decide +kernel)) ggX1_teeth_X1_isGear
theorem dX1_teeth_0 : decode cX1_teeth 0 = .ok (.aload_n 0, 1) := by decide +kernel
theorem dX1_teeth_1 : decode cX1_teeth 1 = .ok (.iload_n 1, 1) := by decide +kernel
theorem dX1_teeth_2 : decode cX1_teeth 2 = .ok (.invokevirtual 64, 3) := by decide +kernel
theorem dX1_teeth_5 : decode cX1_teeth 5 = .ok (.ifCond .eq 12, 3) := by decide +kernel
theorem dX1_teeth_8 : decode cX1_teeth 8 = .ok (.aload_n 0, 1) := by decide +kernel
theorem dX1_teeth_9 : decode cX1_teeth 9 = .ok (.getfield 17, 3) := by decide +kernel
theorem dX1_teeth_12 : decode cX1_teeth 12 = .ok (.iload_n 1, 1) := by decide +kernel
theorem dX1_teeth_13 : decode cX1_teeth 13 = .ok (.iaload, 1) := by decide +kernel
theorem dX1_teeth_14 : decode cX1_teeth 14 = .ok (.goto 4, 3) := by decide +kernel
theorem dX1_teeth_17 : decode cX1_teeth 17 = .ok (.iconst (-1), 1) := by decide +kernel
theorem dX1_teeth_18 : decode cX1_teeth 18 = .ok (.ireturn, 1) := by decide +kernel
theorem dX1_plainOf_0 : decode cX1_plainOf 0 = .ok (.bipush (-6), 2) := by decide +kernel
theorem dX1_plainOf_2 : decode cX1_plainOf 2 = .ok (.istore_n 2, 1) := by decide +kernel
theorem dX1_plainOf_3 : decode cX1_plainOf 3 = .ok (.iconst 0, 1) := by decide +kernel
theorem dX1_plainOf_4 : decode cX1_plainOf 4 = .ok (.istore_n 3, 1) := by decide +kernel
theorem dX1_plainOf_5 : decode cX1_plainOf 5 = .ok (.iload_n 3, 1) := by decide +kernel
theorem dX1_plainOf_6 : decode cX1_plainOf 6 = .ok (.aload_n 0, 1) := by decide +kernel
theorem dX1_plainOf_7 : decode cX1_plainOf 7 = .ok (.getfield 44, 3) := by decide +kernel
theorem dX1_plainOf_10 : decode cX1_plainOf 10 = .ok (.if_icmp .ge 62, 3) := by decide +kernel
theorem dX1_plainOf_13 : decode cX1_plainOf 13 = .ok (.aload_n 0, 1) := by decide +kernel
theorem dX1_plainOf_14 : decode cX1_plainOf 14 = .ok (.getfield 7, 3) := by decide +kernel
theorem dX1_plainOf_17 : decode cX1_plainOf 17 = .ok (.aload_n 0, 1) := by decide +kernel
theorem dX1_plainOf_18 : decode cX1_plainOf 18 = .ok (.getfield 13, 3) := by decide +kernel
theorem dX1_plainOf_21 : decode cX1_plainOf 21 = .ok (.iload_n 3, 1) := by decide +kernel
theorem dX1_plainOf_22 : decode cX1_plainOf 22 = .ok (.iaload, 1) := by decide +kernel
theorem dX1_plainOf_23 : decode cX1_plainOf 23 = .ok (.imul, 1) := by decide +kernel
theorem dX1_plainOf_24 : decode cX1_plainOf 24 = .ok (.iload_n 1, 1) := by decide +kernel
theorem dX1_plainOf_25 : decode cX1_plainOf 25 = .ok (.irem, 1) := by decide +kernel
theorem dX1_plainOf_26 : decode cX1_plainOf 26 = .ok (.ifCond .ne 7, 3) := by decide +kernel
theorem dX1_plainOf_29 : decode cX1_plainOf 29 = .ok (.iconst 1, 1) := by decide +kernel
theorem dX1_plainOf_30 : decode cX1_plainOf 30 = .ok (.goto 4, 3) := by decide +kernel
theorem dX1_plainOf_33 : decode cX1_plainOf 33 = .ok (.iconst 0, 1) := by decide +kernel
theorem dX1_plainOf_34 : decode cX1_plainOf 34 = .ok (.istore 4, 2) := by decide +kernel
theorem dX1_plainOf_36 : decode cX1_plainOf 36 = .ok (.iload 4, 2) := by decide +kernel
theorem dX1_plainOf_38 : decode cX1_plainOf 38 = .ok (.ifCond .eq 26, 3) := by decide +kernel
theorem dX1_plainOf_41 : decode cX1_plainOf 41 = .ok (.iload_n 2, 1) := by decide +kernel
theorem dX1_plainOf_42 : decode cX1_plainOf 42 = .ok (.ifCond .lt 18, 3) := by decide +kernel
theorem dX1_plainOf_45 : decode cX1_plainOf 45 = .ok (.aload_n 0, 1) := by decide +kernel
theorem dX1_plainOf_46 : decode cX1_plainOf 46 = .ok (.getfield 13, 3) := by decide +kernel
theorem dX1_plainOf_49 : decode cX1_plainOf 49 = .ok (.iload_n 3, 1) := by decide +kernel
theorem dX1_plainOf_50 : decode cX1_plainOf 50 = .ok (.iaload, 1) := by decide +kernel
theorem dX1_plainOf_51 : decode cX1_plainOf 51 = .ok (.aload_n 0, 1) := by decide +kernel
theorem dX1_plainOf_52 : decode cX1_plainOf 52 = .ok (.getfield 13, 3) := by decide +kernel
theorem dX1_plainOf_55 : decode cX1_plainOf 55 = .ok (.iload_n 2, 1) := by decide +kernel
theorem dX1_plainOf_56 : decode cX1_plainOf 56 = .ok (.iaload, 1) := by decide +kernel
theorem dX1_plainOf_57 : decode cX1_plainOf 57 = .ok (.if_icmp .ge 7, 3) := by decide +kernel
theorem dX1_plainOf_60 : decode cX1_plainOf 60 = .ok (.iload_n 3, 1) := by decide +kernel
theorem dX1_plainOf_61 : decode cX1_plainOf 61 = .ok (.goto 4, 3) := by decide +kernel
theorem dX1_plainOf_64 : decode cX1_plainOf 64 = .ok (.iload_n 2, 1) := by decide +kernel
theorem dX1_plainOf_65 : decode cX1_plainOf 65 = .ok (.istore_n 2, 1) := by decide +kernel
theorem dX1_plainOf_66 : decode cX1_plainOf 66 = .ok (.iinc 3 1, 3) := by decide +kernel
theorem dX1_plainOf_69 : decode cX1_plainOf 69 = .ok (.goto (-64), 3) := by decide +kernel
theorem dX1_plainOf_72 : decode cX1_plainOf 72 = .ok (.iload_n 2, 1) := by decide +kernel
theorem dX1_plainOf_73 : decode cX1_plainOf 73 = .ok (.ireturn, 1) := by decide +kernel
set_option maxRecDepth 20000 in
theorem ggX1_plain_X1_isParts : GoodIn wsX1_plain wsX1_isParts := goodIn_r _ [7, 1, 8, 9, 10, 6, 11] (by decide +kernel) (by decide +kernel)
set_option maxRecDepth 20000 in
theorem gX1_plain_X1_isParts : GoodIn wsX1_plain (va_wsS RX1 67 yX1_isParts wsX1_isParts) := goodIn_app (goodIn_of _ (by decide +kernel)) ggX1_plain_X1_isParts
set_option maxRecDepth 20000 in
theorem ggX1_plain_X1_in : GoodIn wsX1_plain wsX1_in := goodIn_r _ [11] (by decide +kernel) (by decide +kernel)
set_option maxRecDepth 20000 in
theorem gX1_plain_X1_in : GoodIn wsX1_plain (va_wsS RX1 40 yX1_in wsX1_in) := goodIn_app (goodIn_of _ (by decide +kernel)) ggX1_plain_X1_in
set_option maxRecDepth 20000 in
theorem ggX1_plain_X1_plainOf : GoodIn wsX1_plain wsX1_plainOf := goodIn_r _ [15, 16, 2, 3, 17, 18, 19, 20, 21, 22, 23, 24, 25] (by decide +kernel) (by decide +kernel)
set_option maxRecDepth 20000 in
theorem gX1_plain_X1_plainOf : GoodIn wsX1_plain (wsV RX1 70 RX1 yX1_plainOf wsX1_plainOf) := goodIn_app (goodIn_of _ (by decide +kernel)) ggX1_plain_X1_plainOf
theorem dX1_plain_0 : decode cX1_plain 0 = .ok (.iload_n 1, 1) := by decide +kernel
theorem dX1_plain_1 : decode cX1_plain 1 = .ok (.invokestatic 67, 3) := by decide +kernel
theorem dX1_plain_4 : decode cX1_plain 4 = .ok (.ifCond .eq 15, 3) := by decide +kernel
theorem dX1_plain_7 : decode cX1_plain 7 = .ok (.iload_n 2, 1) := by decide +kernel
theorem dX1_plain_8 : decode cX1_plain 8 = .ok (.i2l, 1) := by decide +kernel
theorem dX1_plain_9 : decode cX1_plain 9 = .ok (.lconst 0, 1) := by decide +kernel
theorem dX1_plain_10 : decode cX1_plain 10 = .ok (.ldc2_w 36, 3) := by decide +kernel
theorem dX1_plain_13 : decode cX1_plain 13 = .ok (.invokestatic 40, 3) := by decide +kernel
theorem dX1_plain_16 : decode cX1_plain 16 = .ok (.ifCond .ne 6, 3) := by decide +kernel
theorem dX1_plain_19 : decode cX1_plain 19 = .ok (.bipush (-2), 2) := by decide +kernel
theorem dX1_plain_21 : decode cX1_plain 21 = .ok (.ireturn, 1) := by decide +kernel
theorem dX1_plain_22 : decode cX1_plain 22 = .ok (.aload_n 0, 1) := by decide +kernel
theorem dX1_plain_23 : decode cX1_plain 23 = .ok (.iload_n 1, 1) := by decide +kernel
theorem dX1_plain_24 : decode cX1_plain 24 = .ok (.invokevirtual 70, 3) := by decide +kernel
theorem dX1_plain_27 : decode cX1_plain 27 = .ok (.istore_n 3, 1) := by decide +kernel
theorem dX1_plain_28 : decode cX1_plain 28 = .ok (.iload_n 3, 1) := by decide +kernel
theorem dX1_plain_29 : decode cX1_plain 29 = .ok (.ifCond .ge 8, 3) := by decide +kernel
theorem dX1_plain_32 : decode cX1_plain 32 = .ok (.bipush (-6), 2) := by decide +kernel
theorem dX1_plain_34 : decode cX1_plain 34 = .ok (.goto 45, 3) := by decide +kernel
theorem dX1_plain_37 : decode cX1_plain 37 = .ok (.iload_n 2, 1) := by decide +kernel
theorem dX1_plain_38 : decode cX1_plain 38 = .ok (.ifCond .ne 7, 3) := by decide +kernel
theorem dX1_plain_41 : decode cX1_plain 41 = .ok (.iload_n 3, 1) := by decide +kernel
theorem dX1_plain_42 : decode cX1_plain 42 = .ok (.goto 37, 3) := by decide +kernel
theorem dX1_plain_45 : decode cX1_plain 45 = .ok (.iload_n 2, 1) := by decide +kernel
theorem dX1_plain_46 : decode cX1_plain 46 = .ok (.iconst 1, 1) := by decide +kernel
theorem dX1_plain_47 : decode cX1_plain 47 = .ok (.if_icmp .ne 12, 3) := by decide +kernel
theorem dX1_plain_50 : decode cX1_plain 50 = .ok (.aload_n 0, 1) := by decide +kernel
theorem dX1_plain_51 : decode cX1_plain 51 = .ok (.getfield 7, 3) := by decide +kernel
theorem dX1_plain_54 : decode cX1_plain 54 = .ok (.iload_n 1, 1) := by decide +kernel
theorem dX1_plain_55 : decode cX1_plain 55 = .ok (.idiv, 1) := by decide +kernel
theorem dX1_plain_56 : decode cX1_plain 56 = .ok (.goto 23, 3) := by decide +kernel
theorem dX1_plain_59 : decode cX1_plain 59 = .ok (.aload_n 0, 1) := by decide +kernel
theorem dX1_plain_60 : decode cX1_plain 60 = .ok (.getfield 7, 3) := by decide +kernel
theorem dX1_plain_63 : decode cX1_plain 63 = .ok (.aload_n 0, 1) := by decide +kernel
theorem dX1_plain_64 : decode cX1_plain 64 = .ok (.getfield 13, 3) := by decide +kernel
theorem dX1_plain_67 : decode cX1_plain 67 = .ok (.iload_n 3, 1) := by decide +kernel
theorem dX1_plain_68 : decode cX1_plain 68 = .ok (.iaload, 1) := by decide +kernel
theorem dX1_plain_69 : decode cX1_plain 69 = .ok (.imul, 1) := by decide +kernel
theorem dX1_plain_70 : decode cX1_plain 70 = .ok (.iload_n 1, 1) := by decide +kernel
theorem dX1_plain_71 : decode cX1_plain 71 = .ok (.idiv, 1) := by decide +kernel
theorem dX1_plain_72 : decode cX1_plain 72 = .ok (.aload_n 0, 1) := by decide +kernel
theorem dX1_plain_73 : decode cX1_plain 73 = .ok (.getfield 13, 3) := by decide +kernel
theorem dX1_plain_76 : decode cX1_plain 76 = .ok (.iload_n 3, 1) := by decide +kernel
theorem dX1_plain_77 : decode cX1_plain 77 = .ok (.iaload, 1) := by decide +kernel
theorem dX1_plain_78 : decode cX1_plain 78 = .ok (.irem, 1) := by decide +kernel
theorem dX1_plain_79 : decode cX1_plain 79 = .ok (.ireturn, 1) := by decide +kernel
theorem dX1_stepBeside_0 : decode cX1_stepBeside 0 = .ok (.aload_n 0, 1) := by decide +kernel
theorem dX1_stepBeside_1 : decode cX1_stepBeside 1 = .ok (.getfield 13, 3) := by decide +kernel
theorem dX1_stepBeside_4 : decode cX1_stepBeside 4 = .ok (.iload_n 2, 1) := by decide +kernel
theorem dX1_stepBeside_5 : decode cX1_stepBeside 5 = .ok (.iaload, 1) := by decide +kernel
theorem dX1_stepBeside_6 : decode cX1_stepBeside 6 = .ok (.i2l, 1) := by decide +kernel
theorem dX1_stepBeside_7 : decode cX1_stepBeside 7 = .ok (.aload_n 0, 1) := by decide +kernel
theorem dX1_stepBeside_8 : decode cX1_stepBeside 8 = .ok (.getfield 7, 3) := by decide +kernel
theorem dX1_stepBeside_11 : decode cX1_stepBeside 11 = .ok (.i2l, 1) := by decide +kernel
theorem dX1_stepBeside_12 : decode cX1_stepBeside 12 = .ok (.aload_n 0, 1) := by decide +kernel
theorem dX1_stepBeside_13 : decode cX1_stepBeside 13 = .ok (.getfield 13, 3) := by decide +kernel
theorem dX1_stepBeside_16 : decode cX1_stepBeside 16 = .ok (.iload_n 3, 1) := by decide +kernel
theorem dX1_stepBeside_17 : decode cX1_stepBeside 17 = .ok (.iaload, 1) := by decide +kernel
theorem dX1_stepBeside_18 : decode cX1_stepBeside 18 = .ok (.i2l, 1) := by decide +kernel
theorem dX1_stepBeside_19 : decode cX1_stepBeside 19 = .ok (.lmul, 1) := by decide +kernel
theorem dX1_stepBeside_20 : decode cX1_stepBeside 20 = .ok (.iload 4, 2) := by decide +kernel
theorem dX1_stepBeside_22 : decode cX1_stepBeside 22 = .ok (.i2l, 1) := by decide +kernel
theorem dX1_stepBeside_23 : decode cX1_stepBeside 23 = .ok (.iload_n 1, 1) := by decide +kernel
theorem dX1_stepBeside_24 : decode cX1_stepBeside 24 = .ok (.i2l, 1) := by decide +kernel
theorem dX1_stepBeside_25 : decode cX1_stepBeside 25 = .ok (.lmul, 1) := by decide +kernel
theorem dX1_stepBeside_26 : decode cX1_stepBeside 26 = .ok (.lsub, 1) := by decide +kernel
theorem dX1_stepBeside_27 : decode cX1_stepBeside 27 = .ok (.lmul, 1) := by decide +kernel
theorem dX1_stepBeside_28 : decode cX1_stepBeside 28 = .ok (.lstore 5, 2) := by decide +kernel
theorem dX1_stepBeside_30 : decode cX1_stepBeside 30 = .ok (.iload_n 1, 1) := by decide +kernel
theorem dX1_stepBeside_31 : decode cX1_stepBeside 31 = .ok (.i2l, 1) := by decide +kernel
theorem dX1_stepBeside_32 : decode cX1_stepBeside 32 = .ok (.aload_n 0, 1) := by decide +kernel
theorem dX1_stepBeside_33 : decode cX1_stepBeside 33 = .ok (.getfield 13, 3) := by decide +kernel
theorem dX1_stepBeside_36 : decode cX1_stepBeside 36 = .ok (.iload_n 3, 1) := by decide +kernel
theorem dX1_stepBeside_37 : decode cX1_stepBeside 37 = .ok (.iaload, 1) := by decide +kernel
theorem dX1_stepBeside_38 : decode cX1_stepBeside 38 = .ok (.i2l, 1) := by decide +kernel
theorem dX1_stepBeside_39 : decode cX1_stepBeside 39 = .ok (.lmul, 1) := by decide +kernel
theorem dX1_stepBeside_40 : decode cX1_stepBeside 40 = .ok (.lstore 7, 2) := by decide +kernel
theorem dX1_stepBeside_42 : decode cX1_stepBeside 42 = .ok (.lload 5, 2) := by decide +kernel
theorem dX1_stepBeside_44 : decode cX1_stepBeside 44 = .ok (.lload 7, 2) := by decide +kernel
theorem dX1_stepBeside_46 : decode cX1_stepBeside 46 = .ok (.lrem, 1) := by decide +kernel
theorem dX1_stepBeside_47 : decode cX1_stepBeside 47 = .ok (.lconst 0, 1) := by decide +kernel
theorem dX1_stepBeside_48 : decode cX1_stepBeside 48 = .ok (.lcmp, 1) := by decide +kernel
theorem dX1_stepBeside_49 : decode cX1_stepBeside 49 = .ok (.ifCond .ne 12, 3) := by decide +kernel
theorem dX1_stepBeside_52 : decode cX1_stepBeside 52 = .ok (.lload 5, 2) := by decide +kernel
theorem dX1_stepBeside_54 : decode cX1_stepBeside 54 = .ok (.lload 7, 2) := by decide +kernel
theorem dX1_stepBeside_56 : decode cX1_stepBeside 56 = .ok (.ldiv, 1) := by decide +kernel
theorem dX1_stepBeside_57 : decode cX1_stepBeside 57 = .ok (.l2i, 1) := by decide +kernel
theorem dX1_stepBeside_58 : decode cX1_stepBeside 58 = .ok (.goto 4, 3) := by decide +kernel
theorem dX1_stepBeside_61 : decode cX1_stepBeside 61 = .ok (.iconst 0, 1) := by decide +kernel
theorem dX1_stepBeside_62 : decode cX1_stepBeside 62 = .ok (.ireturn, 1) := by decide +kernel
set_option maxRecDepth 20000 in
theorem ggX1_compound_X1_isParts : GoodIn wsX1_compound wsX1_isParts := goodIn_r _ [9, 10, 11, 12, 13, 8, 14] (by decide +kernel) (by decide +kernel)
set_option maxRecDepth 20000 in
theorem gX1_compound_X1_isParts : GoodIn wsX1_compound (va_wsS RX1 67 yX1_isParts wsX1_isParts) := goodIn_app (goodIn_of _ (by decide +kernel)) ggX1_compound_X1_isParts
set_option maxRecDepth 20000 in
theorem ggX1_compound_X1_in : GoodIn wsX1_compound wsX1_in := goodIn_r _ [14] (by decide +kernel) (by decide +kernel)
set_option maxRecDepth 20000 in
theorem gX1_compound_X1_in : GoodIn wsX1_compound (va_wsS RX1 40 yX1_in wsX1_in) := goodIn_app (goodIn_of _ (by decide +kernel)) ggX1_compound_X1_in
set_option maxRecDepth 20000 in
theorem ggX1_compound_X1_stepBeside : GoodIn wsX1_compound wsX1_stepBeside := goodIn_r _ [18, 4, 19, 20, 21, 22, 23, 24, 25, 26, 27, 28] (by decide +kernel) (by decide +kernel)
set_option maxRecDepth 20000 in
theorem gX1_compound_X1_stepBeside : GoodIn wsX1_compound (wsV RX1 77 RX1 yX1_stepBeside wsX1_stepBeside) := goodIn_app (goodIn_of _ (by decide +kernel)) ggX1_compound_X1_stepBeside
theorem dX1_compound_0 : decode cX1_compound 0 = .ok (.iload_n 1, 1) := by decide +kernel
theorem dX1_compound_1 : decode cX1_compound 1 = .ok (.invokestatic 67, 3) := by decide +kernel
theorem dX1_compound_4 : decode cX1_compound 4 = .ok (.ifCond .eq 15, 3) := by decide +kernel
theorem dX1_compound_7 : decode cX1_compound 7 = .ok (.iload_n 2, 1) := by decide +kernel
theorem dX1_compound_8 : decode cX1_compound 8 = .ok (.i2l, 1) := by decide +kernel
theorem dX1_compound_9 : decode cX1_compound 9 = .ok (.lconst 0, 1) := by decide +kernel
theorem dX1_compound_10 : decode cX1_compound 10 = .ok (.ldc2_w 74, 3) := by decide +kernel
theorem dX1_compound_13 : decode cX1_compound 13 = .ok (.invokestatic 40, 3) := by decide +kernel
theorem dX1_compound_16 : decode cX1_compound 16 = .ok (.ifCond .ne 6, 3) := by decide +kernel
theorem dX1_compound_19 : decode cX1_compound 19 = .ok (.ldc 76, 2) := by decide +kernel
theorem dX1_compound_21 : decode cX1_compound 21 = .ok (.ireturn, 1) := by decide +kernel
theorem dX1_compound_22 : decode cX1_compound 22 = .ok (.iconst 0, 1) := by decide +kernel
theorem dX1_compound_23 : decode cX1_compound 23 = .ok (.istore_n 3, 1) := by decide +kernel
theorem dX1_compound_24 : decode cX1_compound 24 = .ok (.iload_n 3, 1) := by decide +kernel
theorem dX1_compound_25 : decode cX1_compound 25 = .ok (.aload_n 0, 1) := by decide +kernel
theorem dX1_compound_26 : decode cX1_compound 26 = .ok (.getfield 44, 3) := by decide +kernel
theorem dX1_compound_29 : decode cX1_compound 29 = .ok (.if_icmp .ge 122, 3) := by decide +kernel
theorem dX1_compound_32 : decode cX1_compound 32 = .ok (.iload_n 3, 1) := by decide +kernel
theorem dX1_compound_33 : decode cX1_compound 33 = .ok (.iconst 1, 1) := by decide +kernel
theorem dX1_compound_34 : decode cX1_compound 34 = .ok (.iadd, 1) := by decide +kernel
theorem dX1_compound_35 : decode cX1_compound 35 = .ok (.istore 4, 2) := by decide +kernel
theorem dX1_compound_37 : decode cX1_compound 37 = .ok (.iload 4, 2) := by decide +kernel
theorem dX1_compound_39 : decode cX1_compound 39 = .ok (.aload_n 0, 1) := by decide +kernel
theorem dX1_compound_40 : decode cX1_compound 40 = .ok (.getfield 44, 3) := by decide +kernel
theorem dX1_compound_43 : decode cX1_compound 43 = .ok (.if_icmp .ge 102, 3) := by decide +kernel
theorem dX1_compound_46 : decode cX1_compound 46 = .ok (.iconst 1, 1) := by decide +kernel
theorem dX1_compound_47 : decode cX1_compound 47 = .ok (.istore 5, 2) := by decide +kernel
theorem dX1_compound_49 : decode cX1_compound 49 = .ok (.iload 5, 2) := by decide +kernel
theorem dX1_compound_51 : decode cX1_compound 51 = .ok (.aload_n 0, 1) := by decide +kernel
theorem dX1_compound_52 : decode cX1_compound 52 = .ok (.getfield 13, 3) := by decide +kernel
theorem dX1_compound_55 : decode cX1_compound 55 = .ok (.iload 4, 2) := by decide +kernel
theorem dX1_compound_57 : decode cX1_compound 57 = .ok (.iaload, 1) := by decide +kernel
theorem dX1_compound_58 : decode cX1_compound 58 = .ok (.if_icmp .gt 81, 3) := by decide +kernel
theorem dX1_compound_61 : decode cX1_compound 61 = .ok (.iload 5, 2) := by decide +kernel
theorem dX1_compound_63 : decode cX1_compound 63 = .ok (.istore 6, 2) := by decide +kernel
theorem dX1_compound_65 : decode cX1_compound 65 = .ok (.iload 6, 2) := by decide +kernel
theorem dX1_compound_67 : decode cX1_compound 67 = .ok (.iload 5, 2) := by decide +kernel
theorem dX1_compound_69 : decode cX1_compound 69 = .ok (.ineg, 1) := by decide +kernel
theorem dX1_compound_70 : decode cX1_compound 70 = .ok (.if_icmp .lt 63, 3) := by decide +kernel
theorem dX1_compound_73 : decode cX1_compound 73 = .ok (.aload_n 0, 1) := by decide +kernel
theorem dX1_compound_74 : decode cX1_compound 74 = .ok (.iload_n 1, 1) := by decide +kernel
theorem dX1_compound_75 : decode cX1_compound 75 = .ok (.iload_n 3, 1) := by decide +kernel
theorem dX1_compound_76 : decode cX1_compound 76 = .ok (.iload 4, 2) := by decide +kernel
theorem dX1_compound_78 : decode cX1_compound 78 = .ok (.iload 6, 2) := by decide +kernel
theorem dX1_compound_80 : decode cX1_compound 80 = .ok (.invokevirtual 77, 3) := by decide +kernel
theorem dX1_compound_83 : decode cX1_compound 83 = .ok (.istore 7, 2) := by decide +kernel
theorem dX1_compound_85 : decode cX1_compound 85 = .ok (.iload 7, 2) := by decide +kernel
theorem dX1_compound_87 : decode cX1_compound 87 = .ok (.ifCond .eq 34, 3) := by decide +kernel
theorem dX1_compound_90 : decode cX1_compound 90 = .ok (.iload_n 2, 1) := by decide +kernel
theorem dX1_compound_91 : decode cX1_compound 91 = .ok (.ifCond .ne 7, 3) := by decide +kernel
theorem dX1_compound_94 : decode cX1_compound 94 = .ok (.iload_n 3, 1) := by decide +kernel
theorem dX1_compound_95 : decode cX1_compound 95 = .ok (.goto 25, 3) := by decide +kernel
theorem dX1_compound_98 : decode cX1_compound 98 = .ok (.iload_n 2, 1) := by decide +kernel
theorem dX1_compound_99 : decode cX1_compound 99 = .ok (.iconst 1, 1) := by decide +kernel
theorem dX1_compound_100 : decode cX1_compound 100 = .ok (.if_icmp .ne 8, 3) := by decide +kernel
theorem dX1_compound_103 : decode cX1_compound 103 = .ok (.iload 7, 2) := by decide +kernel
theorem dX1_compound_105 : decode cX1_compound 105 = .ok (.goto 15, 3) := by decide +kernel
theorem dX1_compound_108 : decode cX1_compound 108 = .ok (.iload_n 2, 1) := by decide +kernel
theorem dX1_compound_109 : decode cX1_compound 109 = .ok (.iconst 2, 1) := by decide +kernel
theorem dX1_compound_110 : decode cX1_compound 110 = .ok (.if_icmp .ne 8, 3) := by decide +kernel
theorem dX1_compound_113 : decode cX1_compound 113 = .ok (.iload 4, 2) := by decide +kernel
theorem dX1_compound_115 : decode cX1_compound 115 = .ok (.goto 5, 3) := by decide +kernel
theorem dX1_compound_118 : decode cX1_compound 118 = .ok (.iload 6, 2) := by decide +kernel
theorem dX1_compound_120 : decode cX1_compound 120 = .ok (.ireturn, 1) := by decide +kernel
theorem dX1_compound_121 : decode cX1_compound 121 = .ok (.iload 6, 2) := by decide +kernel
theorem dX1_compound_123 : decode cX1_compound 123 = .ok (.iconst 2, 1) := by decide +kernel
theorem dX1_compound_124 : decode cX1_compound 124 = .ok (.iload 5, 2) := by decide +kernel
theorem dX1_compound_126 : decode cX1_compound 126 = .ok (.imul, 1) := by decide +kernel
theorem dX1_compound_127 : decode cX1_compound 127 = .ok (.isub, 1) := by decide +kernel
theorem dX1_compound_128 : decode cX1_compound 128 = .ok (.istore 6, 2) := by decide +kernel
theorem dX1_compound_130 : decode cX1_compound 130 = .ok (.goto (-65), 3) := by decide +kernel
theorem dX1_compound_133 : decode cX1_compound 133 = .ok (.iinc 5 1, 3) := by decide +kernel
theorem dX1_compound_136 : decode cX1_compound 136 = .ok (.goto (-87), 3) := by decide +kernel
theorem dX1_compound_139 : decode cX1_compound 139 = .ok (.iinc 4 1, 3) := by decide +kernel
theorem dX1_compound_142 : decode cX1_compound 142 = .ok (.goto (-105), 3) := by decide +kernel
theorem dX1_compound_145 : decode cX1_compound 145 = .ok (.iinc 3 1, 3) := by decide +kernel
theorem dX1_compound_148 : decode cX1_compound 148 = .ok (.goto (-124), 3) := by decide +kernel
theorem dX1_compound_151 : decode cX1_compound 151 = .ok (.ldc 81, 2) := by decide +kernel
theorem dX1_compound_153 : decode cX1_compound 153 = .ok (.ireturn, 1) := by decide +kernel
set_option maxRecDepth 20000 in
theorem ggX1_isTrain_X1_put : GoodIn wsX1_isTrain wsX1_put := goodIn_r _ [7, 8, 9, 10, 11, 12, 13, 14, 15, 16, 17] (by decide +kernel) (by decide +kernel)
set_option maxRecDepth 20000 in
theorem gX1_isTrain_X1_put : GoodIn wsX1_isTrain (wsV RX1 82 RX1 yX1_put wsX1_put) := goodIn_app (goodIn_of _ (by decide +kernel)) ggX1_isTrain_X1_put
theorem dX1_isTrain_0 : decode cX1_isTrain 0 = .ok (.iconst 0, 1) := by decide +kernel
theorem dX1_isTrain_1 : decode cX1_isTrain 1 = .ok (.istore 5, 2) := by decide +kernel
theorem dX1_isTrain_3 : decode cX1_isTrain 3 = .ok (.iload 5, 2) := by decide +kernel
theorem dX1_isTrain_5 : decode cX1_isTrain 5 = .ok (.aload_n 0, 1) := by decide +kernel
theorem dX1_isTrain_6 : decode cX1_isTrain 6 = .ok (.getfield 47, 3) := by decide +kernel
theorem dX1_isTrain_9 : decode cX1_isTrain 9 = .ok (.if_icmp .ge 72, 3) := by decide +kernel
theorem dX1_isTrain_12 : decode cX1_isTrain 12 = .ok (.iconst 0, 1) := by decide +kernel
theorem dX1_isTrain_13 : decode cX1_isTrain 13 = .ok (.istore 6, 2) := by decide +kernel
theorem dX1_isTrain_15 : decode cX1_isTrain 15 = .ok (.iload 6, 2) := by decide +kernel
theorem dX1_isTrain_17 : decode cX1_isTrain 17 = .ok (.aload_n 0, 1) := by decide +kernel
theorem dX1_isTrain_18 : decode cX1_isTrain 18 = .ok (.getfield 47, 3) := by decide +kernel
theorem dX1_isTrain_21 : decode cX1_isTrain 21 = .ok (.if_icmp .ge 54, 3) := by decide +kernel
theorem dX1_isTrain_24 : decode cX1_isTrain 24 = .ok (.iload 5, 2) := by decide +kernel
theorem dX1_isTrain_26 : decode cX1_isTrain 26 = .ok (.iload 6, 2) := by decide +kernel
theorem dX1_isTrain_28 : decode cX1_isTrain 28 = .ok (.if_icmp .eq 41, 3) := by decide +kernel
theorem dX1_isTrain_31 : decode cX1_isTrain 31 = .ok (.aload_n 0, 1) := by decide +kernel
theorem dX1_isTrain_32 : decode cX1_isTrain 32 = .ok (.getfield 17, 3) := by decide +kernel
theorem dX1_isTrain_35 : decode cX1_isTrain 35 = .ok (.iload 5, 2) := by decide +kernel
theorem dX1_isTrain_37 : decode cX1_isTrain 37 = .ok (.iaload, 1) := by decide +kernel
theorem dX1_isTrain_38 : decode cX1_isTrain 38 = .ok (.i2l, 1) := by decide +kernel
theorem dX1_isTrain_39 : decode cX1_isTrain 39 = .ok (.lload_n 3, 1) := by decide +kernel
theorem dX1_isTrain_40 : decode cX1_isTrain 40 = .ok (.lmul, 1) := by decide +kernel
theorem dX1_isTrain_41 : decode cX1_isTrain 41 = .ok (.aload_n 0, 1) := by decide +kernel
theorem dX1_isTrain_42 : decode cX1_isTrain 42 = .ok (.getfield 17, 3) := by decide +kernel
theorem dX1_isTrain_45 : decode cX1_isTrain 45 = .ok (.iload 6, 2) := by decide +kernel
theorem dX1_isTrain_47 : decode cX1_isTrain 47 = .ok (.iaload, 1) := by decide +kernel
theorem dX1_isTrain_48 : decode cX1_isTrain 48 = .ok (.i2l, 1) := by decide +kernel
theorem dX1_isTrain_49 : decode cX1_isTrain 49 = .ok (.lload_n 1, 1) := by decide +kernel
theorem dX1_isTrain_50 : decode cX1_isTrain 50 = .ok (.lmul, 1) := by decide +kernel
theorem dX1_isTrain_51 : decode cX1_isTrain 51 = .ok (.lcmp, 1) := by decide +kernel
theorem dX1_isTrain_52 : decode cX1_isTrain 52 = .ok (.ifCond .ne 17, 3) := by decide +kernel
theorem dX1_isTrain_55 : decode cX1_isTrain 55 = .ok (.aload_n 0, 1) := by decide +kernel
theorem dX1_isTrain_56 : decode cX1_isTrain 56 = .ok (.iload 5, 2) := by decide +kernel
theorem dX1_isTrain_58 : decode cX1_isTrain 58 = .ok (.iload 6, 2) := by decide +kernel
theorem dX1_isTrain_60 : decode cX1_isTrain 60 = .ok (.bipush (-6), 2) := by decide +kernel
theorem dX1_isTrain_62 : decode cX1_isTrain 62 = .ok (.bipush (-6), 2) := by decide +kernel
theorem dX1_isTrain_64 : decode cX1_isTrain 64 = .ok (.invokevirtual 82, 3) := by decide +kernel
theorem dX1_isTrain_67 : decode cX1_isTrain 67 = .ok (.iconst 1, 1) := by decide +kernel
theorem dX1_isTrain_68 : decode cX1_isTrain 68 = .ok (.ireturn, 1) := by decide +kernel
theorem dX1_isTrain_69 : decode cX1_isTrain 69 = .ok (.iinc 6 1, 3) := by decide +kernel
theorem dX1_isTrain_72 : decode cX1_isTrain 72 = .ok (.goto (-57), 3) := by decide +kernel
theorem dX1_isTrain_75 : decode cX1_isTrain 75 = .ok (.iinc 5 1, 3) := by decide +kernel
theorem dX1_isTrain_78 : decode cX1_isTrain 78 = .ok (.goto (-75), 3) := by decide +kernel
theorem dX1_isTrain_81 : decode cX1_isTrain 81 = .ok (.iconst 0, 1) := by decide +kernel
theorem dX1_isTrain_82 : decode cX1_isTrain 82 = .ok (.istore 5, 2) := by decide +kernel
theorem dX1_isTrain_84 : decode cX1_isTrain 84 = .ok (.iload 5, 2) := by decide +kernel
theorem dX1_isTrain_86 : decode cX1_isTrain 86 = .ok (.sipush 10000, 3) := by decide +kernel
theorem dX1_isTrain_89 : decode cX1_isTrain 89 = .ok (.if_icmp .ge 202, 3) := by decide +kernel
theorem dX1_isTrain_92 : decode cX1_isTrain 92 = .ok (.iload 5, 2) := by decide +kernel
theorem dX1_isTrain_94 : decode cX1_isTrain 94 = .ok (.sipush 1000, 3) := by decide +kernel
theorem dX1_isTrain_97 : decode cX1_isTrain 97 = .ok (.idiv, 1) := by decide +kernel
theorem dX1_isTrain_98 : decode cX1_isTrain 98 = .ok (.istore 6, 2) := by decide +kernel
theorem dX1_isTrain_100 : decode cX1_isTrain 100 = .ok (.iload 5, 2) := by decide +kernel
theorem dX1_isTrain_102 : decode cX1_isTrain 102 = .ok (.bipush 100, 2) := by decide +kernel
theorem dX1_isTrain_104 : decode cX1_isTrain 104 = .ok (.idiv, 1) := by decide +kernel
theorem dX1_isTrain_105 : decode cX1_isTrain 105 = .ok (.bipush 10, 2) := by decide +kernel
theorem dX1_isTrain_107 : decode cX1_isTrain 107 = .ok (.irem, 1) := by decide +kernel
theorem dX1_isTrain_108 : decode cX1_isTrain 108 = .ok (.istore 7, 2) := by decide +kernel
theorem dX1_isTrain_110 : decode cX1_isTrain 110 = .ok (.iload 5, 2) := by decide +kernel
theorem dX1_isTrain_112 : decode cX1_isTrain 112 = .ok (.bipush 10, 2) := by decide +kernel
theorem dX1_isTrain_114 : decode cX1_isTrain 114 = .ok (.idiv, 1) := by decide +kernel
theorem dX1_isTrain_115 : decode cX1_isTrain 115 = .ok (.bipush 10, 2) := by decide +kernel
theorem dX1_isTrain_117 : decode cX1_isTrain 117 = .ok (.irem, 1) := by decide +kernel
theorem dX1_isTrain_118 : decode cX1_isTrain 118 = .ok (.istore 8, 2) := by decide +kernel
theorem dX1_isTrain_120 : decode cX1_isTrain 120 = .ok (.iload 5, 2) := by decide +kernel
theorem dX1_isTrain_122 : decode cX1_isTrain 122 = .ok (.bipush 10, 2) := by decide +kernel
theorem dX1_isTrain_124 : decode cX1_isTrain 124 = .ok (.irem, 1) := by decide +kernel
theorem dX1_isTrain_125 : decode cX1_isTrain 125 = .ok (.istore 9, 2) := by decide +kernel
theorem dX1_isTrain_127 : decode cX1_isTrain 127 = .ok (.iload 6, 2) := by decide +kernel
theorem dX1_isTrain_129 : decode cX1_isTrain 129 = .ok (.iload 7, 2) := by decide +kernel
theorem dX1_isTrain_131 : decode cX1_isTrain 131 = .ok (.if_icmp .eq 42, 3) := by decide +kernel
theorem dX1_isTrain_134 : decode cX1_isTrain 134 = .ok (.iload 6, 2) := by decide +kernel
theorem dX1_isTrain_136 : decode cX1_isTrain 136 = .ok (.iload 8, 2) := by decide +kernel
theorem dX1_isTrain_138 : decode cX1_isTrain 138 = .ok (.if_icmp .eq 35, 3) := by decide +kernel
theorem dX1_isTrain_141 : decode cX1_isTrain 141 = .ok (.iload 6, 2) := by decide +kernel
theorem dX1_isTrain_143 : decode cX1_isTrain 143 = .ok (.iload 9, 2) := by decide +kernel
theorem dX1_isTrain_145 : decode cX1_isTrain 145 = .ok (.if_icmp .eq 28, 3) := by decide +kernel
theorem dX1_isTrain_148 : decode cX1_isTrain 148 = .ok (.iload 7, 2) := by decide +kernel
theorem dX1_isTrain_150 : decode cX1_isTrain 150 = .ok (.iload 8, 2) := by decide +kernel
theorem dX1_isTrain_152 : decode cX1_isTrain 152 = .ok (.if_icmp .eq 21, 3) := by decide +kernel
theorem dX1_isTrain_155 : decode cX1_isTrain 155 = .ok (.iload 7, 2) := by decide +kernel
theorem dX1_isTrain_157 : decode cX1_isTrain 157 = .ok (.iload 9, 2) := by decide +kernel
theorem dX1_isTrain_159 : decode cX1_isTrain 159 = .ok (.if_icmp .eq 14, 3) := by decide +kernel
theorem dX1_isTrain_162 : decode cX1_isTrain 162 = .ok (.iload 8, 2) := by decide +kernel
theorem dX1_isTrain_164 : decode cX1_isTrain 164 = .ok (.iload 9, 2) := by decide +kernel
theorem dX1_isTrain_166 : decode cX1_isTrain 166 = .ok (.if_icmp .eq 7, 3) := by decide +kernel
theorem dX1_isTrain_169 : decode cX1_isTrain 169 = .ok (.iconst 1, 1) := by decide +kernel
theorem dX1_isTrain_170 : decode cX1_isTrain 170 = .ok (.goto 4, 3) := by decide +kernel
theorem dX1_isTrain_173 : decode cX1_isTrain 173 = .ok (.iconst 0, 1) := by decide +kernel
theorem dX1_isTrain_174 : decode cX1_isTrain 174 = .ok (.istore 10, 2) := by decide +kernel
theorem dX1_isTrain_176 : decode cX1_isTrain 176 = .ok (.iload 6, 2) := by decide +kernel
theorem dX1_isTrain_178 : decode cX1_isTrain 178 = .ok (.aload_n 0, 1) := by decide +kernel
theorem dX1_isTrain_179 : decode cX1_isTrain 179 = .ok (.getfield 47, 3) := by decide +kernel
theorem dX1_isTrain_182 : decode cX1_isTrain 182 = .ok (.if_icmp .ge 34, 3) := by decide +kernel
theorem dX1_isTrain_185 : decode cX1_isTrain 185 = .ok (.iload 7, 2) := by decide +kernel
theorem dX1_isTrain_187 : decode cX1_isTrain 187 = .ok (.aload_n 0, 1) := by decide +kernel
theorem dX1_isTrain_188 : decode cX1_isTrain 188 = .ok (.getfield 47, 3) := by decide +kernel
theorem dX1_isTrain_191 : decode cX1_isTrain 191 = .ok (.if_icmp .ge 25, 3) := by decide +kernel
theorem dX1_isTrain_194 : decode cX1_isTrain 194 = .ok (.iload 8, 2) := by decide +kernel
theorem dX1_isTrain_196 : decode cX1_isTrain 196 = .ok (.aload_n 0, 1) := by decide +kernel
theorem dX1_isTrain_197 : decode cX1_isTrain 197 = .ok (.getfield 47, 3) := by decide +kernel
theorem dX1_isTrain_200 : decode cX1_isTrain 200 = .ok (.if_icmp .ge 16, 3) := by decide +kernel
theorem dX1_isTrain_203 : decode cX1_isTrain 203 = .ok (.iload 9, 2) := by decide +kernel
theorem dX1_isTrain_205 : decode cX1_isTrain 205 = .ok (.aload_n 0, 1) := by decide +kernel
theorem dX1_isTrain_206 : decode cX1_isTrain 206 = .ok (.getfield 47, 3) := by decide +kernel
theorem dX1_isTrain_209 : decode cX1_isTrain 209 = .ok (.if_icmp .ge 7, 3) := by decide +kernel
theorem dX1_isTrain_212 : decode cX1_isTrain 212 = .ok (.iconst 1, 1) := by decide +kernel
theorem dX1_isTrain_213 : decode cX1_isTrain 213 = .ok (.goto 4, 3) := by decide +kernel
theorem dX1_isTrain_216 : decode cX1_isTrain 216 = .ok (.iconst 0, 1) := by decide +kernel
theorem dX1_isTrain_217 : decode cX1_isTrain 217 = .ok (.istore 11, 2) := by decide +kernel
theorem dX1_isTrain_219 : decode cX1_isTrain 219 = .ok (.iload 10, 2) := by decide +kernel
theorem dX1_isTrain_221 : decode cX1_isTrain 221 = .ok (.ifCond .eq 64, 3) := by decide +kernel
theorem dX1_isTrain_224 : decode cX1_isTrain 224 = .ok (.iload 11, 2) := by decide +kernel
theorem dX1_isTrain_226 : decode cX1_isTrain 226 = .ok (.ifCond .eq 59, 3) := by decide +kernel
theorem dX1_isTrain_229 : decode cX1_isTrain 229 = .ok (.aload_n 0, 1) := by decide +kernel
theorem dX1_isTrain_230 : decode cX1_isTrain 230 = .ok (.getfield 17, 3) := by decide +kernel
theorem dX1_isTrain_233 : decode cX1_isTrain 233 = .ok (.iload 6, 2) := by decide +kernel
theorem dX1_isTrain_235 : decode cX1_isTrain 235 = .ok (.iaload, 1) := by decide +kernel
theorem dX1_isTrain_236 : decode cX1_isTrain 236 = .ok (.i2l, 1) := by decide +kernel
theorem dX1_isTrain_237 : decode cX1_isTrain 237 = .ok (.aload_n 0, 1) := by decide +kernel
theorem dX1_isTrain_238 : decode cX1_isTrain 238 = .ok (.getfield 17, 3) := by decide +kernel
theorem dX1_isTrain_241 : decode cX1_isTrain 241 = .ok (.iload 8, 2) := by decide +kernel
theorem dX1_isTrain_243 : decode cX1_isTrain 243 = .ok (.iaload, 1) := by decide +kernel
theorem dX1_isTrain_244 : decode cX1_isTrain 244 = .ok (.i2l, 1) := by decide +kernel
theorem dX1_isTrain_245 : decode cX1_isTrain 245 = .ok (.lmul, 1) := by decide +kernel
theorem dX1_isTrain_246 : decode cX1_isTrain 246 = .ok (.lload_n 3, 1) := by decide +kernel
theorem dX1_isTrain_247 : decode cX1_isTrain 247 = .ok (.lmul, 1) := by decide +kernel
theorem dX1_isTrain_248 : decode cX1_isTrain 248 = .ok (.aload_n 0, 1) := by decide +kernel
theorem dX1_isTrain_249 : decode cX1_isTrain 249 = .ok (.getfield 17, 3) := by decide +kernel
theorem dX1_isTrain_252 : decode cX1_isTrain 252 = .ok (.iload 7, 2) := by decide +kernel
theorem dX1_isTrain_254 : decode cX1_isTrain 254 = .ok (.iaload, 1) := by decide +kernel
theorem dX1_isTrain_255 : decode cX1_isTrain 255 = .ok (.i2l, 1) := by decide +kernel
theorem dX1_isTrain_256 : decode cX1_isTrain 256 = .ok (.aload_n 0, 1) := by decide +kernel
theorem dX1_isTrain_257 : decode cX1_isTrain 257 = .ok (.getfield 17, 3) := by decide +kernel
theorem dX1_isTrain_260 : decode cX1_isTrain 260 = .ok (.iload 9, 2) := by decide +kernel
theorem dX1_isTrain_262 : decode cX1_isTrain 262 = .ok (.iaload, 1) := by decide +kernel
theorem dX1_isTrain_263 : decode cX1_isTrain 263 = .ok (.i2l, 1) := by decide +kernel
theorem dX1_isTrain_264 : decode cX1_isTrain 264 = .ok (.lmul, 1) := by decide +kernel
theorem dX1_isTrain_265 : decode cX1_isTrain 265 = .ok (.lload_n 1, 1) := by decide +kernel
theorem dX1_isTrain_266 : decode cX1_isTrain 266 = .ok (.lmul, 1) := by decide +kernel
theorem dX1_isTrain_267 : decode cX1_isTrain 267 = .ok (.lcmp, 1) := by decide +kernel
theorem dX1_isTrain_268 : decode cX1_isTrain 268 = .ok (.ifCond .ne 17, 3) := by decide +kernel
theorem dX1_isTrain_271 : decode cX1_isTrain 271 = .ok (.aload_n 0, 1) := by decide +kernel
theorem dX1_isTrain_272 : decode cX1_isTrain 272 = .ok (.iload 6, 2) := by decide +kernel
theorem dX1_isTrain_274 : decode cX1_isTrain 274 = .ok (.iload 7, 2) := by decide +kernel
theorem dX1_isTrain_276 : decode cX1_isTrain 276 = .ok (.iload 8, 2) := by decide +kernel
theorem dX1_isTrain_278 : decode cX1_isTrain 278 = .ok (.iload 9, 2) := by decide +kernel
theorem dX1_isTrain_280 : decode cX1_isTrain 280 = .ok (.invokevirtual 82, 3) := by decide +kernel
theorem dX1_isTrain_283 : decode cX1_isTrain 283 = .ok (.iconst 1, 1) := by decide +kernel
theorem dX1_isTrain_284 : decode cX1_isTrain 284 = .ok (.ireturn, 1) := by decide +kernel
theorem dX1_isTrain_285 : decode cX1_isTrain 285 = .ok (.iinc 5 1, 3) := by decide +kernel
theorem dX1_isTrain_288 : decode cX1_isTrain 288 = .ok (.goto (-204), 3) := by decide +kernel
theorem dX1_isTrain_291 : decode cX1_isTrain 291 = .ok (.iconst 0, 1) := by decide +kernel
theorem dX1_isTrain_292 : decode cX1_isTrain 292 = .ok (.ireturn, 1) := by decide +kernel
theorem dX1_put_0 : decode cX1_put 0 = .ok (.aload_n 0, 1) := by decide +kernel
theorem dX1_put_1 : decode cX1_put 1 = .ok (.getfield 29, 3) := by decide +kernel
theorem dX1_put_4 : decode cX1_put 4 = .ok (.iconst 0, 1) := by decide +kernel
theorem dX1_put_5 : decode cX1_put 5 = .ok (.iload_n 1, 1) := by decide +kernel
theorem dX1_put_6 : decode cX1_put 6 = .ok (.iastore, 1) := by decide +kernel
theorem dX1_put_7 : decode cX1_put 7 = .ok (.aload_n 0, 1) := by decide +kernel
theorem dX1_put_8 : decode cX1_put 8 = .ok (.getfield 29, 3) := by decide +kernel
theorem dX1_put_11 : decode cX1_put 11 = .ok (.iconst 1, 1) := by decide +kernel
theorem dX1_put_12 : decode cX1_put 12 = .ok (.iload_n 2, 1) := by decide +kernel
theorem dX1_put_13 : decode cX1_put 13 = .ok (.iastore, 1) := by decide +kernel
theorem dX1_put_14 : decode cX1_put 14 = .ok (.aload_n 0, 1) := by decide +kernel
theorem dX1_put_15 : decode cX1_put 15 = .ok (.getfield 29, 3) := by decide +kernel
theorem dX1_put_18 : decode cX1_put 18 = .ok (.iconst 2, 1) := by decide +kernel
theorem dX1_put_19 : decode cX1_put 19 = .ok (.iload_n 3, 1) := by decide +kernel
theorem dX1_put_20 : decode cX1_put 20 = .ok (.iastore, 1) := by decide +kernel
theorem dX1_put_21 : decode cX1_put 21 = .ok (.aload_n 0, 1) := by decide +kernel
theorem dX1_put_22 : decode cX1_put 22 = .ok (.getfield 29, 3) := by decide +kernel
theorem dX1_put_25 : decode cX1_put 25 = .ok (.iconst 3, 1) := by decide +kernel
theorem dX1_put_26 : decode cX1_put 26 = .ok (.iload 4, 2) := by decide +kernel
theorem dX1_put_28 : decode cX1_put 28 = .ok (.iastore, 1) := by decide +kernel
theorem dX1_put_29 : decode cX1_put 29 = .ok (.return_, 1) := by decide +kernel
set_option maxRecDepth 20000 in
theorem ggX1_train_X1_in : GoodIn wsX1_train wsX1_in := goodIn_r _ [7] (by decide +kernel) (by decide +kernel)
set_option maxRecDepth 20000 in
theorem gX1_train_X1_in : GoodIn wsX1_train (va_wsS RX1 40 yX1_in wsX1_in) := goodIn_app (goodIn_of _ (by decide +kernel)) ggX1_train_X1_in
set_option maxRecDepth 20000 in
theorem ggX1_train_X1_isTrain : GoodIn wsX1_train wsX1_isTrain := goodIn_r _ [11, 12, 13, 14, 15, 16, 6, 17, 3, 18, 19, 20, 21, 22, 23, 24, 25, 26] (by decide +kernel) (by decide +kernel)
set_option maxRecDepth 20000 in
theorem gX1_train_X1_isTrain : GoodIn wsX1_train (wsV RX1 88 RX1 yX1_isTrain wsX1_isTrain) := goodIn_app (goodIn_of _ (by decide +kernel)) ggX1_train_X1_isTrain
theorem dX1_train_0 : decode cX1_train 0 = .ok (.iload_n 1, 1) := by decide +kernel
theorem dX1_train_1 : decode cX1_train 1 = .ok (.i2l, 1) := by decide +kernel
theorem dX1_train_2 : decode cX1_train 2 = .ok (.lconst 1, 1) := by decide +kernel
theorem dX1_train_3 : decode cX1_train 3 = .ok (.ldc2_w 86, 3) := by decide +kernel
theorem dX1_train_6 : decode cX1_train 6 = .ok (.invokestatic 40, 3) := by decide +kernel
theorem dX1_train_9 : decode cX1_train 9 = .ok (.ifCond .eq 27, 3) := by decide +kernel
theorem dX1_train_12 : decode cX1_train 12 = .ok (.iload_n 2, 1) := by decide +kernel
theorem dX1_train_13 : decode cX1_train 13 = .ok (.i2l, 1) := by decide +kernel
theorem dX1_train_14 : decode cX1_train 14 = .ok (.lconst 1, 1) := by decide +kernel
theorem dX1_train_15 : decode cX1_train 15 = .ok (.ldc2_w 86, 3) := by decide +kernel
theorem dX1_train_18 : decode cX1_train 18 = .ok (.invokestatic 40, 3) := by decide +kernel
theorem dX1_train_21 : decode cX1_train 21 = .ok (.ifCond .eq 15, 3) := by decide +kernel
theorem dX1_train_24 : decode cX1_train 24 = .ok (.iload_n 3, 1) := by decide +kernel
theorem dX1_train_25 : decode cX1_train 25 = .ok (.i2l, 1) := by decide +kernel
theorem dX1_train_26 : decode cX1_train 26 = .ok (.lconst 0, 1) := by decide +kernel
theorem dX1_train_27 : decode cX1_train 27 = .ok (.ldc2_w 74, 3) := by decide +kernel
theorem dX1_train_30 : decode cX1_train 30 = .ok (.invokestatic 40, 3) := by decide +kernel
theorem dX1_train_33 : decode cX1_train 33 = .ok (.ifCond .ne 6, 3) := by decide +kernel
theorem dX1_train_36 : decode cX1_train 36 = .ok (.bipush (-2), 2) := by decide +kernel
theorem dX1_train_38 : decode cX1_train 38 = .ok (.ireturn, 1) := by decide +kernel
theorem dX1_train_39 : decode cX1_train 39 = .ok (.aload_n 0, 1) := by decide +kernel
theorem dX1_train_40 : decode cX1_train 40 = .ok (.iload_n 1, 1) := by decide +kernel
theorem dX1_train_41 : decode cX1_train 41 = .ok (.i2l, 1) := by decide +kernel
theorem dX1_train_42 : decode cX1_train 42 = .ok (.iload_n 2, 1) := by decide +kernel
theorem dX1_train_43 : decode cX1_train 43 = .ok (.i2l, 1) := by decide +kernel
theorem dX1_train_44 : decode cX1_train 44 = .ok (.invokevirtual 88, 3) := by decide +kernel
theorem dX1_train_47 : decode cX1_train 47 = .ok (.ifCond .eq 12, 3) := by decide +kernel
theorem dX1_train_50 : decode cX1_train 50 = .ok (.aload_n 0, 1) := by decide +kernel
theorem dX1_train_51 : decode cX1_train 51 = .ok (.getfield 29, 3) := by decide +kernel
theorem dX1_train_54 : decode cX1_train 54 = .ok (.iload_n 3, 1) := by decide +kernel
theorem dX1_train_55 : decode cX1_train 55 = .ok (.iaload, 1) := by decide +kernel
theorem dX1_train_56 : decode cX1_train 56 = .ok (.goto 5, 3) := by decide +kernel
theorem dX1_train_59 : decode cX1_train 59 = .ok (.bipush (-6), 2) := by decide +kernel
theorem dX1_train_61 : decode cX1_train 61 = .ok (.ireturn, 1) := by decide +kernel
set_option maxRecDepth 20000 in
theorem ggX1_differential_X1_isParts : GoodIn wsX1_differential wsX1_isParts := goodIn_r _ [7, 8, 9, 10, 11, 6, 12] (by decide +kernel) (by decide +kernel)
set_option maxRecDepth 20000 in
theorem gX1_differential_X1_isParts : GoodIn wsX1_differential (va_wsS RX1 67 yX1_isParts wsX1_isParts) := goodIn_app (goodIn_of _ (by decide +kernel)) ggX1_differential_X1_isParts
set_option maxRecDepth 20000 in
theorem ggX1_differential_X1_in : GoodIn wsX1_differential wsX1_in := goodIn_r _ [12] (by decide +kernel) (by decide +kernel)
set_option maxRecDepth 20000 in
theorem gX1_differential_X1_in : GoodIn wsX1_differential (va_wsS RX1 40 yX1_in wsX1_in) := goodIn_app (goodIn_of _ (by decide +kernel)) ggX1_differential_X1_in
set_option maxRecDepth 20000 in
theorem ggX1_differential_X1_plainOf : GoodIn wsX1_differential wsX1_plainOf := goodIn_r _ [16, 17, 2, 18, 29, 30, 31, 32, 33, 34, 35, 36, 37] (by decide +kernel) (by decide +kernel)
set_option maxRecDepth 20000 in
theorem gX1_differential_X1_plainOf : GoodIn wsX1_differential (wsV RX1 70 RX1 yX1_plainOf wsX1_plainOf) := goodIn_app (goodIn_of _ (by decide +kernel)) ggX1_differential_X1_plainOf
set_option maxRecDepth 20000 in
theorem ggX1_differential_X1_isTrain : GoodIn wsX1_differential wsX1_isTrain := goodIn_r _ [22, 23, 24, 25, 26, 27, 6, 28, 3, 29, 30, 31, 32, 33, 34, 35, 36, 37] (by decide +kernel) (by decide +kernel)
set_option maxRecDepth 20000 in
theorem gX1_differential_X1_isTrain : GoodIn wsX1_differential (wsV RX1 88 RX1 yX1_isTrain wsX1_isTrain) := goodIn_app (goodIn_of _ (by decide +kernel)) ggX1_differential_X1_isTrain
theorem dX1_differential_0 : decode cX1_differential 0 = .ok (.iload_n 1, 1) := by decide +kernel
theorem dX1_differential_1 : decode cX1_differential 1 = .ok (.invokestatic 67, 3) := by decide +kernel
theorem dX1_differential_4 : decode cX1_differential 4 = .ok (.ifCond .eq 15, 3) := by decide +kernel
theorem dX1_differential_7 : decode cX1_differential 7 = .ok (.iload_n 2, 1) := by decide +kernel
theorem dX1_differential_8 : decode cX1_differential 8 = .ok (.i2l, 1) := by decide +kernel
theorem dX1_differential_9 : decode cX1_differential 9 = .ok (.lconst 0, 1) := by decide +kernel
theorem dX1_differential_10 : decode cX1_differential 10 = .ok (.ldc2_w 92, 3) := by decide +kernel
theorem dX1_differential_13 : decode cX1_differential 13 = .ok (.invokestatic 40, 3) := by decide +kernel
theorem dX1_differential_16 : decode cX1_differential 16 = .ok (.ifCond .ne 6, 3) := by decide +kernel
theorem dX1_differential_19 : decode cX1_differential 19 = .ok (.bipush (-2), 2) := by decide +kernel
theorem dX1_differential_21 : decode cX1_differential 21 = .ok (.ireturn, 1) := by decide +kernel
theorem dX1_differential_22 : decode cX1_differential 22 = .ok (.iconst 2, 1) := by decide +kernel
theorem dX1_differential_23 : decode cX1_differential 23 = .ok (.istore_n 3, 1) := by decide +kernel
theorem dX1_differential_24 : decode cX1_differential 24 = .ok (.iload_n 3, 1) := by decide +kernel
theorem dX1_differential_25 : decode cX1_differential 25 = .ok (.bipush 22, 2) := by decide +kernel
theorem dX1_differential_27 : decode cX1_differential 27 = .ok (.if_icmp .ge 121, 3) := by decide +kernel
theorem dX1_differential_30 : decode cX1_differential 30 = .ok (.iload_n 3, 1) := by decide +kernel
theorem dX1_differential_31 : decode cX1_differential 31 = .ok (.iconst 2, 1) := by decide +kernel
theorem dX1_differential_32 : decode cX1_differential 32 = .ok (.idiv, 1) := by decide +kernel
theorem dX1_differential_33 : decode cX1_differential 33 = .ok (.istore 4, 2) := by decide +kernel
theorem dX1_differential_35 : decode cX1_differential 35 = .ok (.iload_n 3, 1) := by decide +kernel
theorem dX1_differential_36 : decode cX1_differential 36 = .ok (.iconst 2, 1) := by decide +kernel
theorem dX1_differential_37 : decode cX1_differential 37 = .ok (.irem, 1) := by decide +kernel
theorem dX1_differential_38 : decode cX1_differential 38 = .ok (.ifCond .ne 10, 3) := by decide +kernel
theorem dX1_differential_41 : decode cX1_differential 41 = .ok (.iload_n 1, 1) := by decide +kernel
theorem dX1_differential_42 : decode cX1_differential 42 = .ok (.iload 4, 2) := by decide +kernel
theorem dX1_differential_44 : decode cX1_differential 44 = .ok (.isub, 1) := by decide +kernel
theorem dX1_differential_45 : decode cX1_differential 45 = .ok (.goto 7, 3) := by decide +kernel
theorem dX1_differential_48 : decode cX1_differential 48 = .ok (.iload_n 1, 1) := by decide +kernel
theorem dX1_differential_49 : decode cX1_differential 49 = .ok (.iload 4, 2) := by decide +kernel
theorem dX1_differential_51 : decode cX1_differential 51 = .ok (.iadd, 1) := by decide +kernel
theorem dX1_differential_52 : decode cX1_differential 52 = .ok (.istore 5, 2) := by decide +kernel
theorem dX1_differential_54 : decode cX1_differential 54 = .ok (.iload 5, 2) := by decide +kernel
theorem dX1_differential_56 : decode cX1_differential 56 = .ok (.invokestatic 67, 3) := by decide +kernel
theorem dX1_differential_59 : decode cX1_differential 59 = .ok (.ifCond .eq 83, 3) := by decide +kernel
theorem dX1_differential_62 : decode cX1_differential 62 = .ok (.aload_n 0, 1) := by decide +kernel
theorem dX1_differential_63 : decode cX1_differential 63 = .ok (.iload 5, 2) := by decide +kernel
theorem dX1_differential_65 : decode cX1_differential 65 = .ok (.invokevirtual 70, 3) := by decide +kernel
theorem dX1_differential_68 : decode cX1_differential 68 = .ok (.ifCond .lt 74, 3) := by decide +kernel
theorem dX1_differential_71 : decode cX1_differential 71 = .ok (.aload_n 0, 1) := by decide +kernel
theorem dX1_differential_72 : decode cX1_differential 72 = .ok (.iload 4, 2) := by decide +kernel
theorem dX1_differential_74 : decode cX1_differential 74 = .ok (.i2l, 1) := by decide +kernel
theorem dX1_differential_75 : decode cX1_differential 75 = .ok (.aload_n 0, 1) := by decide +kernel
theorem dX1_differential_76 : decode cX1_differential 76 = .ok (.getfield 7, 3) := by decide +kernel
theorem dX1_differential_79 : decode cX1_differential 79 = .ok (.i2l, 1) := by decide +kernel
theorem dX1_differential_80 : decode cX1_differential 80 = .ok (.lmul, 1) := by decide +kernel
theorem dX1_differential_81 : decode cX1_differential 81 = .ok (.iload 5, 2) := by decide +kernel
theorem dX1_differential_83 : decode cX1_differential 83 = .ok (.i2l, 1) := by decide +kernel
theorem dX1_differential_84 : decode cX1_differential 84 = .ok (.invokevirtual 88, 3) := by decide +kernel
theorem dX1_differential_87 : decode cX1_differential 87 = .ok (.ifCond .eq 55, 3) := by decide +kernel
theorem dX1_differential_90 : decode cX1_differential 90 = .ok (.iload_n 2, 1) := by decide +kernel
theorem dX1_differential_91 : decode cX1_differential 91 = .ok (.ifCond .ne 8, 3) := by decide +kernel
theorem dX1_differential_94 : decode cX1_differential 94 = .ok (.iload 5, 2) := by decide +kernel
theorem dX1_differential_96 : decode cX1_differential 96 = .ok (.goto 45, 3) := by decide +kernel
theorem dX1_differential_99 : decode cX1_differential 99 = .ok (.iload_n 2, 1) := by decide +kernel
theorem dX1_differential_100 : decode cX1_differential 100 = .ok (.iconst 1, 1) := by decide +kernel
theorem dX1_differential_101 : decode cX1_differential 101 = .ok (.if_icmp .ne 12, 3) := by decide +kernel
theorem dX1_differential_104 : decode cX1_differential 104 = .ok (.aload_n 0, 1) := by decide +kernel
theorem dX1_differential_105 : decode cX1_differential 105 = .ok (.iload 5, 2) := by decide +kernel
theorem dX1_differential_107 : decode cX1_differential 107 = .ok (.invokevirtual 70, 3) := by decide +kernel
theorem dX1_differential_110 : decode cX1_differential 110 = .ok (.goto 31, 3) := by decide +kernel
theorem dX1_differential_113 : decode cX1_differential 113 = .ok (.iload_n 2, 1) := by decide +kernel
theorem dX1_differential_114 : decode cX1_differential 114 = .ok (.bipush 6, 2) := by decide +kernel
theorem dX1_differential_116 : decode cX1_differential 116 = .ok (.if_icmp .ne 17, 3) := by decide +kernel
theorem dX1_differential_119 : decode cX1_differential 119 = .ok (.iload 5, 2) := by decide +kernel
theorem dX1_differential_121 : decode cX1_differential 121 = .ok (.iload_n 1, 1) := by decide +kernel
theorem dX1_differential_122 : decode cX1_differential 122 = .ok (.if_icmp .le 7, 3) := by decide +kernel
theorem dX1_differential_125 : decode cX1_differential 125 = .ok (.iconst 1, 1) := by decide +kernel
theorem dX1_differential_126 : decode cX1_differential 126 = .ok (.goto 15, 3) := by decide +kernel
theorem dX1_differential_129 : decode cX1_differential 129 = .ok (.iconst 0, 1) := by decide +kernel
theorem dX1_differential_130 : decode cX1_differential 130 = .ok (.goto 11, 3) := by decide +kernel
theorem dX1_differential_133 : decode cX1_differential 133 = .ok (.aload_n 0, 1) := by decide +kernel
theorem dX1_differential_134 : decode cX1_differential 134 = .ok (.getfield 29, 3) := by decide +kernel
theorem dX1_differential_137 : decode cX1_differential 137 = .ok (.iload_n 2, 1) := by decide +kernel
theorem dX1_differential_138 : decode cX1_differential 138 = .ok (.iconst 2, 1) := by decide +kernel
theorem dX1_differential_139 : decode cX1_differential 139 = .ok (.isub, 1) := by decide +kernel
theorem dX1_differential_140 : decode cX1_differential 140 = .ok (.iaload, 1) := by decide +kernel
theorem dX1_differential_141 : decode cX1_differential 141 = .ok (.ireturn, 1) := by decide +kernel
theorem dX1_differential_142 : decode cX1_differential 142 = .ok (.iinc 3 1, 3) := by decide +kernel
theorem dX1_differential_145 : decode cX1_differential 145 = .ok (.goto (-121), 3) := by decide +kernel
theorem dX1_differential_148 : decode cX1_differential 148 = .ok (.bipush (-6), 2) := by decide +kernel
theorem dX1_differential_150 : decode cX1_differential 150 = .ok (.ireturn, 1) := by decide +kernel
theorem dX1_holeOf_0 : decode cX1_holeOf 0 = .ok (.ldc2_w 36, 3) := by decide +kernel
theorem dX1_holeOf_3 : decode cX1_holeOf 3 = .ok (.iload_n 3, 1) := by decide +kernel
theorem dX1_holeOf_4 : decode cX1_holeOf 4 = .ok (.i2l, 1) := by decide +kernel
theorem dX1_holeOf_5 : decode cX1_holeOf 5 = .ok (.lmul, 1) := by decide +kernel
theorem dX1_holeOf_6 : decode cX1_holeOf 6 = .ok (.aload_n 0, 1) := by decide +kernel
theorem dX1_holeOf_7 : decode cX1_holeOf 7 = .ok (.getfield 7, 3) := by decide +kernel
theorem dX1_holeOf_10 : decode cX1_holeOf 10 = .ok (.i2l, 1) := by decide +kernel
theorem dX1_holeOf_11 : decode cX1_holeOf 11 = .ok (.lmul, 1) := by decide +kernel
theorem dX1_holeOf_12 : decode cX1_holeOf 12 = .ok (.aload_n 0, 1) := by decide +kernel
theorem dX1_holeOf_13 : decode cX1_holeOf 13 = .ok (.getfield 13, 3) := by decide +kernel
theorem dX1_holeOf_16 : decode cX1_holeOf 16 = .ok (.iload_n 1, 1) := by decide +kernel
theorem dX1_holeOf_17 : decode cX1_holeOf 17 = .ok (.iaload, 1) := by decide +kernel
theorem dX1_holeOf_18 : decode cX1_holeOf 18 = .ok (.i2l, 1) := by decide +kernel
theorem dX1_holeOf_19 : decode cX1_holeOf 19 = .ok (.lmul, 1) := by decide +kernel
theorem dX1_holeOf_20 : decode cX1_holeOf 20 = .ok (.iload_n 2, 1) := by decide +kernel
theorem dX1_holeOf_21 : decode cX1_holeOf 21 = .ok (.i2l, 1) := by decide +kernel
theorem dX1_holeOf_22 : decode cX1_holeOf 22 = .ok (.ladd, 1) := by decide +kernel
theorem dX1_holeOf_23 : decode cX1_holeOf 23 = .ok (.ldc2_w 36, 3) := by decide +kernel
theorem dX1_holeOf_26 : decode cX1_holeOf 26 = .ok (.iload_n 2, 1) := by decide +kernel
theorem dX1_holeOf_27 : decode cX1_holeOf 27 = .ok (.i2l, 1) := by decide +kernel
theorem dX1_holeOf_28 : decode cX1_holeOf 28 = .ok (.lmul, 1) := by decide +kernel
theorem dX1_holeOf_29 : decode cX1_holeOf 29 = .ok (.ldiv, 1) := by decide +kernel
theorem dX1_holeOf_30 : decode cX1_holeOf 30 = .ok (.lreturn, 1) := by decide +kernel
set_option maxRecDepth 20000 in
theorem ggX1_isCut_X1_isParts : GoodIn wsX1_isCut wsX1_isParts := goodIn_r _ [4, 5, 6, 7, 8, 3, 9] (by decide +kernel) (by decide +kernel)
set_option maxRecDepth 20000 in
theorem gX1_isCut_X1_isParts : GoodIn wsX1_isCut (va_wsS RX1 67 yX1_isParts wsX1_isParts) := goodIn_app (goodIn_of _ (by decide +kernel)) ggX1_isCut_X1_isParts
set_option maxRecDepth 20000 in
theorem ggX1_isCut_X1_in : GoodIn wsX1_isCut wsX1_in := goodIn_r _ [9] (by decide +kernel) (by decide +kernel)
set_option maxRecDepth 20000 in
theorem gX1_isCut_X1_in : GoodIn wsX1_isCut (va_wsS RX1 40 yX1_in wsX1_in) := goodIn_app (goodIn_of _ (by decide +kernel)) ggX1_isCut_X1_in
theorem dX1_isCut_0 : decode cX1_isCut 0 = .ok (.iload_n 0, 1) := by decide +kernel
theorem dX1_isCut_1 : decode cX1_isCut 1 = .ok (.invokestatic 67, 3) := by decide +kernel
theorem dX1_isCut_4 : decode cX1_isCut 4 = .ok (.ifCond .eq 18, 3) := by decide +kernel
theorem dX1_isCut_7 : decode cX1_isCut 7 = .ok (.iload_n 1, 1) := by decide +kernel
theorem dX1_isCut_8 : decode cX1_isCut 8 = .ok (.i2l, 1) := by decide +kernel
theorem dX1_isCut_9 : decode cX1_isCut 9 = .ok (.lconst 0, 1) := by decide +kernel
theorem dX1_isCut_10 : decode cX1_isCut 10 = .ok (.iload_n 0, 1) := by decide +kernel
theorem dX1_isCut_11 : decode cX1_isCut 11 = .ok (.i2l, 1) := by decide +kernel
theorem dX1_isCut_12 : decode cX1_isCut 12 = .ok (.invokestatic 40, 3) := by decide +kernel
theorem dX1_isCut_15 : decode cX1_isCut 15 = .ok (.ifCond .eq 7, 3) := by decide +kernel
theorem dX1_isCut_18 : decode cX1_isCut 18 = .ok (.iconst 1, 1) := by decide +kernel
theorem dX1_isCut_19 : decode cX1_isCut 19 = .ok (.goto 4, 3) := by decide +kernel
theorem dX1_isCut_22 : decode cX1_isCut 22 = .ok (.iconst 0, 1) := by decide +kernel
theorem dX1_isCut_23 : decode cX1_isCut 23 = .ok (.ireturn, 1) := by decide +kernel
set_option maxRecDepth 20000 in
theorem ggX1_hole_X1_isCircle : GoodIn wsX1_hole wsX1_isCircle := goodIn_r _ [5, 6, 7, 8, 4, 9, 24, 25, 26, 27, 28, 29, 30, 31, 32] (by decide +kernel) (by decide +kernel)
set_option maxRecDepth 20000 in
theorem gX1_hole_X1_isCircle : GoodIn wsX1_hole (wsV RX1 58 RX1 yX1_isCircle wsX1_isCircle) := goodIn_app (goodIn_of _ (by decide +kernel)) ggX1_hole_X1_isCircle
set_option maxRecDepth 20000 in
theorem ggX1_hole_X1_isCut : GoodIn wsX1_hole wsX1_isCut := goodIn_r _ [12, 13, 14, 4, 15, 16, 17, 7, 8, 9] (by decide +kernel) (by decide +kernel)
set_option maxRecDepth 20000 in
theorem gX1_hole_X1_isCut : GoodIn wsX1_hole (va_wsS RX1 94 yX1_isCut wsX1_isCut) := goodIn_app (goodIn_of _ (by decide +kernel)) ggX1_hole_X1_isCut
set_option maxRecDepth 20000 in
theorem ggX1_hole_X1_holeOf : GoodIn wsX1_hole wsX1_holeOf := goodIn_r _ [21, 16, 22, 23, 24, 25, 26, 27, 28, 29, 30, 31, 32] (by decide +kernel) (by decide +kernel)
set_option maxRecDepth 20000 in
theorem gX1_hole_X1_holeOf : GoodIn wsX1_hole (wsV RX1 98 RX1 yX1_holeOf wsX1_holeOf) := goodIn_app (goodIn_of _ (by decide +kernel)) ggX1_hole_X1_holeOf
theorem dX1_hole_0 : decode cX1_hole 0 = .ok (.aload_n 0, 1) := by decide +kernel
theorem dX1_hole_1 : decode cX1_hole 1 = .ok (.iload_n 1, 1) := by decide +kernel
theorem dX1_hole_2 : decode cX1_hole 2 = .ok (.invokevirtual 58, 3) := by decide +kernel
theorem dX1_hole_5 : decode cX1_hole 5 = .ok (.ifCond .ne 5, 3) := by decide +kernel
theorem dX1_hole_8 : decode cX1_hole 8 = .ok (.iconst (-1), 1) := by decide +kernel
theorem dX1_hole_9 : decode cX1_hole 9 = .ok (.ireturn, 1) := by decide +kernel
theorem dX1_hole_10 : decode cX1_hole 10 = .ok (.iload_n 2, 1) := by decide +kernel
theorem dX1_hole_11 : decode cX1_hole 11 = .ok (.iload_n 3, 1) := by decide +kernel
theorem dX1_hole_12 : decode cX1_hole 12 = .ok (.invokestatic 94, 3) := by decide +kernel
theorem dX1_hole_15 : decode cX1_hole 15 = .ok (.ifCond .eq 14, 3) := by decide +kernel
theorem dX1_hole_18 : decode cX1_hole 18 = .ok (.aload_n 0, 1) := by decide +kernel
theorem dX1_hole_19 : decode cX1_hole 19 = .ok (.iload_n 1, 1) := by decide +kernel
theorem dX1_hole_20 : decode cX1_hole 20 = .ok (.iload_n 2, 1) := by decide +kernel
theorem dX1_hole_21 : decode cX1_hole 21 = .ok (.iload_n 3, 1) := by decide +kernel
theorem dX1_hole_22 : decode cX1_hole 22 = .ok (.invokevirtual 98, 3) := by decide +kernel
theorem dX1_hole_25 : decode cX1_hole 25 = .ok (.l2i, 1) := by decide +kernel
theorem dX1_hole_26 : decode cX1_hole 26 = .ok (.goto 5, 3) := by decide +kernel
theorem dX1_hole_29 : decode cX1_hole 29 = .ok (.bipush (-2), 2) := by decide +kernel
theorem dX1_hole_31 : decode cX1_hole 31 = .ok (.ireturn, 1) := by decide +kernel
set_option maxRecDepth 20000 in
theorem ggX1_missOf_X1_holeOf : GoodIn wsX1_missOf wsX1_holeOf := goodIn_r _ [7, 8, 1, 2, 9, 10, 11, 12, 13, 14, 15, 16, 17] (by decide +kernel) (by decide +kernel)
set_option maxRecDepth 20000 in
theorem gX1_missOf_X1_holeOf : GoodIn wsX1_missOf (wsV RX1 98 RX1 yX1_holeOf wsX1_holeOf) := goodIn_app (goodIn_of _ (by decide +kernel)) ggX1_missOf_X1_holeOf
theorem dX1_missOf_0 : decode cX1_missOf 0 = .ok (.aload_n 0, 1) := by decide +kernel
theorem dX1_missOf_1 : decode cX1_missOf 1 = .ok (.iload_n 1, 1) := by decide +kernel
theorem dX1_missOf_2 : decode cX1_missOf 2 = .ok (.iload_n 2, 1) := by decide +kernel
theorem dX1_missOf_3 : decode cX1_missOf 3 = .ok (.iload_n 3, 1) := by decide +kernel
theorem dX1_missOf_4 : decode cX1_missOf 4 = .ok (.invokevirtual 98, 3) := by decide +kernel
theorem dX1_missOf_7 : decode cX1_missOf 7 = .ok (.iload_n 2, 1) := by decide +kernel
theorem dX1_missOf_8 : decode cX1_missOf 8 = .ok (.i2l, 1) := by decide +kernel
theorem dX1_missOf_9 : decode cX1_missOf 9 = .ok (.lmul, 1) := by decide +kernel
theorem dX1_missOf_10 : decode cX1_missOf 10 = .ok (.iload_n 3, 1) := by decide +kernel
theorem dX1_missOf_11 : decode cX1_missOf 11 = .ok (.i2l, 1) := by decide +kernel
theorem dX1_missOf_12 : decode cX1_missOf 12 = .ok (.aload_n 0, 1) := by decide +kernel
theorem dX1_missOf_13 : decode cX1_missOf 13 = .ok (.getfield 7, 3) := by decide +kernel
theorem dX1_missOf_16 : decode cX1_missOf 16 = .ok (.i2l, 1) := by decide +kernel
theorem dX1_missOf_17 : decode cX1_missOf 17 = .ok (.lmul, 1) := by decide +kernel
theorem dX1_missOf_18 : decode cX1_missOf 18 = .ok (.aload_n 0, 1) := by decide +kernel
theorem dX1_missOf_19 : decode cX1_missOf 19 = .ok (.getfield 13, 3) := by decide +kernel
theorem dX1_missOf_22 : decode cX1_missOf 22 = .ok (.iload_n 1, 1) := by decide +kernel
theorem dX1_missOf_23 : decode cX1_missOf 23 = .ok (.iaload, 1) := by decide +kernel
theorem dX1_missOf_24 : decode cX1_missOf 24 = .ok (.i2l, 1) := by decide +kernel
theorem dX1_missOf_25 : decode cX1_missOf 25 = .ok (.lmul, 1) := by decide +kernel
theorem dX1_missOf_26 : decode cX1_missOf 26 = .ok (.lsub, 1) := by decide +kernel
theorem dX1_missOf_27 : decode cX1_missOf 27 = .ok (.lreturn, 1) := by decide +kernel
set_option maxRecDepth 20000 in
theorem ggX1_miss_X1_isCircle : GoodIn wsX1_miss wsX1_isCircle := goodIn_r _ [7, 8, 9, 10, 6, 11, 36, 37, 38, 39, 40, 41, 42, 43, 44] (by decide +kernel) (by decide +kernel)
set_option maxRecDepth 20000 in
theorem gX1_miss_X1_isCircle : GoodIn wsX1_miss (wsV RX1 58 RX1 yX1_isCircle wsX1_isCircle) := goodIn_app (goodIn_of _ (by decide +kernel)) ggX1_miss_X1_isCircle
set_option maxRecDepth 20000 in
theorem ggX1_miss_X1_isCut : GoodIn wsX1_miss wsX1_isCut := goodIn_r _ [14, 15, 16, 6, 17, 18, 19, 9, 10, 11] (by decide +kernel) (by decide +kernel)
set_option maxRecDepth 20000 in
theorem gX1_miss_X1_isCut : GoodIn wsX1_miss (va_wsS RX1 94 yX1_isCut wsX1_isCut) := goodIn_app (goodIn_of _ (by decide +kernel)) ggX1_miss_X1_isCut
set_option maxRecDepth 20000 in
theorem ggX1_miss_X1_in : GoodIn wsX1_miss wsX1_in := goodIn_r _ [11] (by decide +kernel) (by decide +kernel)
set_option maxRecDepth 20000 in
theorem gX1_miss_X1_in : GoodIn wsX1_miss (va_wsS RX1 40 yX1_in wsX1_in) := goodIn_app (goodIn_of _ (by decide +kernel)) ggX1_miss_X1_in
set_option maxRecDepth 20000 in
theorem ggX1_miss_X1_missOf : GoodIn wsX1_miss wsX1_missOf := goodIn_r _ [23, 24, 25, 26, 27, 28, 6, 29, 18, 36, 37, 38, 39, 40, 41, 42, 43, 44] (by decide +kernel) (by decide +kernel)
set_option maxRecDepth 20000 in
theorem gX1_miss_X1_missOf : GoodIn wsX1_miss (wsV RX1 103 RX1 yX1_missOf wsX1_missOf) := goodIn_app (goodIn_of _ (by decide +kernel)) ggX1_miss_X1_missOf
set_option maxRecDepth 20000 in
theorem ggX1_miss_X1_term : GoodIn wsX1_miss wsX1_term := goodIn_r _ [32, 33, 34, 6, 35] (by decide +kernel) (by decide +kernel)
set_option maxRecDepth 20000 in
theorem gX1_miss_X1_term : GoodIn wsX1_miss (va_wsS RX1 106 yX1_term wsX1_term) := goodIn_app (goodIn_of _ (by decide +kernel)) ggX1_miss_X1_term
theorem dX1_miss_0 : decode cX1_miss 0 = .ok (.aload_n 0, 1) := by decide +kernel
theorem dX1_miss_1 : decode cX1_miss 1 = .ok (.iload_n 1, 1) := by decide +kernel
theorem dX1_miss_2 : decode cX1_miss 2 = .ok (.invokevirtual 58, 3) := by decide +kernel
theorem dX1_miss_5 : decode cX1_miss 5 = .ok (.ifCond .ne 6, 3) := by decide +kernel
theorem dX1_miss_8 : decode cX1_miss 8 = .ok (.ldc 102, 2) := by decide +kernel
theorem dX1_miss_10 : decode cX1_miss 10 = .ok (.ireturn, 1) := by decide +kernel
theorem dX1_miss_11 : decode cX1_miss 11 = .ok (.iload_n 2, 1) := by decide +kernel
theorem dX1_miss_12 : decode cX1_miss 12 = .ok (.iload_n 3, 1) := by decide +kernel
theorem dX1_miss_13 : decode cX1_miss 13 = .ok (.invokestatic 94, 3) := by decide +kernel
theorem dX1_miss_16 : decode cX1_miss 16 = .ok (.ifCond .eq 31, 3) := by decide +kernel
theorem dX1_miss_19 : decode cX1_miss 19 = .ok (.iload 4, 2) := by decide +kernel
theorem dX1_miss_21 : decode cX1_miss 21 = .ok (.i2l, 1) := by decide +kernel
theorem dX1_miss_22 : decode cX1_miss 22 = .ok (.lconst 0, 1) := by decide +kernel
theorem dX1_miss_23 : decode cX1_miss 23 = .ok (.lconst 1, 1) := by decide +kernel
theorem dX1_miss_24 : decode cX1_miss 24 = .ok (.invokestatic 40, 3) := by decide +kernel
theorem dX1_miss_27 : decode cX1_miss 27 = .ok (.ifCond .eq 20, 3) := by decide +kernel
theorem dX1_miss_30 : decode cX1_miss 30 = .ok (.aload_n 0, 1) := by decide +kernel
theorem dX1_miss_31 : decode cX1_miss 31 = .ok (.iload_n 1, 1) := by decide +kernel
theorem dX1_miss_32 : decode cX1_miss 32 = .ok (.iload_n 2, 1) := by decide +kernel
theorem dX1_miss_33 : decode cX1_miss 33 = .ok (.iload_n 3, 1) := by decide +kernel
theorem dX1_miss_34 : decode cX1_miss 34 = .ok (.invokevirtual 103, 3) := by decide +kernel
theorem dX1_miss_37 : decode cX1_miss 37 = .ok (.iload_n 2, 1) := by decide +kernel
theorem dX1_miss_38 : decode cX1_miss 38 = .ok (.i2l, 1) := by decide +kernel
theorem dX1_miss_39 : decode cX1_miss 39 = .ok (.iload 4, 2) := by decide +kernel
theorem dX1_miss_41 : decode cX1_miss 41 = .ok (.invokestatic 106, 3) := by decide +kernel
theorem dX1_miss_44 : decode cX1_miss 44 = .ok (.goto 5, 3) := by decide +kernel
theorem dX1_miss_47 : decode cX1_miss 47 = .ok (.ldc 76, 2) := by decide +kernel
theorem dX1_miss_49 : decode cX1_miss 49 = .ok (.ireturn, 1) := by decide +kernel
set_option maxRecDepth 20000 in
theorem ggX1_worstOf_X1_missOf : GoodIn wsX1_worstOf wsX1_missOf := goodIn_r _ [5, 6, 7, 8, 9, 10, 4, 11, 12, 13, 14, 15, 16, 17, 18, 19, 20, 21] (by decide +kernel) (by decide +kernel)
set_option maxRecDepth 20000 in
theorem gX1_worstOf_X1_missOf : GoodIn wsX1_worstOf (wsV RX1 103 RX1 yX1_missOf wsX1_missOf) := goodIn_app (goodIn_of _ (by decide +kernel)) ggX1_worstOf_X1_missOf
theorem dX1_worstOf_0 : decode cX1_worstOf 0 = .ok (.lconst 0, 1) := by decide +kernel
theorem dX1_worstOf_1 : decode cX1_worstOf 1 = .ok (.lstore_n 3, 1) := by decide +kernel
theorem dX1_worstOf_2 : decode cX1_worstOf 2 = .ok (.iconst 0, 1) := by decide +kernel
theorem dX1_worstOf_3 : decode cX1_worstOf 3 = .ok (.istore 5, 2) := by decide +kernel
theorem dX1_worstOf_5 : decode cX1_worstOf 5 = .ok (.iload 5, 2) := by decide +kernel
theorem dX1_worstOf_7 : decode cX1_worstOf 7 = .ok (.iload_n 2, 1) := by decide +kernel
theorem dX1_worstOf_8 : decode cX1_worstOf 8 = .ok (.if_icmp .gt 50, 3) := by decide +kernel
theorem dX1_worstOf_11 : decode cX1_worstOf 11 = .ok (.aload_n 0, 1) := by decide +kernel
theorem dX1_worstOf_12 : decode cX1_worstOf 12 = .ok (.iload_n 1, 1) := by decide +kernel
theorem dX1_worstOf_13 : decode cX1_worstOf 13 = .ok (.iload_n 2, 1) := by decide +kernel
theorem dX1_worstOf_14 : decode cX1_worstOf 14 = .ok (.iload 5, 2) := by decide +kernel
theorem dX1_worstOf_16 : decode cX1_worstOf 16 = .ok (.invokevirtual 103, 3) := by decide +kernel
theorem dX1_worstOf_19 : decode cX1_worstOf 19 = .ok (.lstore 6, 2) := by decide +kernel
theorem dX1_worstOf_21 : decode cX1_worstOf 21 = .ok (.lload 6, 2) := by decide +kernel
theorem dX1_worstOf_23 : decode cX1_worstOf 23 = .ok (.lconst 0, 1) := by decide +kernel
theorem dX1_worstOf_24 : decode cX1_worstOf 24 = .ok (.lcmp, 1) := by decide +kernel
theorem dX1_worstOf_25 : decode cX1_worstOf 25 = .ok (.ifCond .ge 9, 3) := by decide +kernel
theorem dX1_worstOf_28 : decode cX1_worstOf 28 = .ok (.lload 6, 2) := by decide +kernel
theorem dX1_worstOf_30 : decode cX1_worstOf 30 = .ok (.lneg, 1) := by decide +kernel
theorem dX1_worstOf_31 : decode cX1_worstOf 31 = .ok (.goto 5, 3) := by decide +kernel
theorem dX1_worstOf_34 : decode cX1_worstOf 34 = .ok (.lload 6, 2) := by decide +kernel
theorem dX1_worstOf_36 : decode cX1_worstOf 36 = .ok (.lstore 6, 2) := by decide +kernel
theorem dX1_worstOf_38 : decode cX1_worstOf 38 = .ok (.lload 6, 2) := by decide +kernel
theorem dX1_worstOf_40 : decode cX1_worstOf 40 = .ok (.lload_n 3, 1) := by decide +kernel
theorem dX1_worstOf_41 : decode cX1_worstOf 41 = .ok (.lcmp, 1) := by decide +kernel
theorem dX1_worstOf_42 : decode cX1_worstOf 42 = .ok (.ifCond .le 8, 3) := by decide +kernel
theorem dX1_worstOf_45 : decode cX1_worstOf 45 = .ok (.lload 6, 2) := by decide +kernel
theorem dX1_worstOf_47 : decode cX1_worstOf 47 = .ok (.goto 4, 3) := by decide +kernel
theorem dX1_worstOf_50 : decode cX1_worstOf 50 = .ok (.lload_n 3, 1) := by decide +kernel
theorem dX1_worstOf_51 : decode cX1_worstOf 51 = .ok (.lstore_n 3, 1) := by decide +kernel
theorem dX1_worstOf_52 : decode cX1_worstOf 52 = .ok (.iinc 5 1, 3) := by decide +kernel
theorem dX1_worstOf_55 : decode cX1_worstOf 55 = .ok (.goto (-50), 3) := by decide +kernel
theorem dX1_worstOf_58 : decode cX1_worstOf 58 = .ok (.lload_n 3, 1) := by decide +kernel
theorem dX1_worstOf_59 : decode cX1_worstOf 59 = .ok (.lreturn, 1) := by decide +kernel
set_option maxRecDepth 20000 in
theorem ggX1_exact_X1_missOf : GoodIn wsX1_exact wsX1_missOf := goodIn_r _ [5, 6, 7, 8, 9, 10, 4, 11, 12, 13, 14, 15, 16, 17, 18, 19, 20, 21] (by decide +kernel) (by decide +kernel)
set_option maxRecDepth 20000 in
theorem gX1_exact_X1_missOf : GoodIn wsX1_exact (wsV RX1 103 RX1 yX1_missOf wsX1_missOf) := goodIn_app (goodIn_of _ (by decide +kernel)) ggX1_exact_X1_missOf
theorem dX1_exact_0 : decode cX1_exact 0 = .ok (.iconst 0, 1) := by decide +kernel
theorem dX1_exact_1 : decode cX1_exact 1 = .ok (.istore_n 3, 1) := by decide +kernel
theorem dX1_exact_2 : decode cX1_exact 2 = .ok (.iconst 0, 1) := by decide +kernel
theorem dX1_exact_3 : decode cX1_exact 3 = .ok (.istore 4, 2) := by decide +kernel
theorem dX1_exact_5 : decode cX1_exact 5 = .ok (.iload 4, 2) := by decide +kernel
theorem dX1_exact_7 : decode cX1_exact 7 = .ok (.iload_n 2, 1) := by decide +kernel
theorem dX1_exact_8 : decode cX1_exact 8 = .ok (.if_icmp .ge 30, 3) := by decide +kernel
theorem dX1_exact_11 : decode cX1_exact 11 = .ok (.iload_n 3, 1) := by decide +kernel
theorem dX1_exact_12 : decode cX1_exact 12 = .ok (.aload_n 0, 1) := by decide +kernel
theorem dX1_exact_13 : decode cX1_exact 13 = .ok (.iload_n 1, 1) := by decide +kernel
theorem dX1_exact_14 : decode cX1_exact 14 = .ok (.iload_n 2, 1) := by decide +kernel
theorem dX1_exact_15 : decode cX1_exact 15 = .ok (.iload 4, 2) := by decide +kernel
theorem dX1_exact_17 : decode cX1_exact 17 = .ok (.invokevirtual 103, 3) := by decide +kernel
theorem dX1_exact_20 : decode cX1_exact 20 = .ok (.lconst 0, 1) := by decide +kernel
theorem dX1_exact_21 : decode cX1_exact 21 = .ok (.lcmp, 1) := by decide +kernel
theorem dX1_exact_22 : decode cX1_exact 22 = .ok (.ifCond .ne 7, 3) := by decide +kernel
theorem dX1_exact_25 : decode cX1_exact 25 = .ok (.iconst 1, 1) := by decide +kernel
theorem dX1_exact_26 : decode cX1_exact 26 = .ok (.goto 4, 3) := by decide +kernel
theorem dX1_exact_29 : decode cX1_exact 29 = .ok (.iconst 0, 1) := by decide +kernel
theorem dX1_exact_30 : decode cX1_exact 30 = .ok (.iadd, 1) := by decide +kernel
theorem dX1_exact_31 : decode cX1_exact 31 = .ok (.istore_n 3, 1) := by decide +kernel
theorem dX1_exact_32 : decode cX1_exact 32 = .ok (.iinc 4 1, 3) := by decide +kernel
theorem dX1_exact_35 : decode cX1_exact 35 = .ok (.goto (-30), 3) := by decide +kernel
theorem dX1_exact_38 : decode cX1_exact 38 = .ok (.iload_n 3, 1) := by decide +kernel
theorem dX1_exact_39 : decode cX1_exact 39 = .ok (.ireturn, 1) := by decide +kernel
set_option maxRecDepth 20000 in
theorem ggX1_worst_X1_isCircle : GoodIn wsX1_worst wsX1_isCircle := goodIn_r _ [6, 7, 8, 9, 5, 10, 39, 40, 41, 42, 43, 44, 45, 46, 47] (by decide +kernel) (by decide +kernel)
set_option maxRecDepth 20000 in
theorem gX1_worst_X1_isCircle : GoodIn wsX1_worst (wsV RX1 58 RX1 yX1_isCircle wsX1_isCircle) := goodIn_app (goodIn_of _ (by decide +kernel)) ggX1_worst_X1_isCircle
set_option maxRecDepth 20000 in
theorem ggX1_worst_X1_isParts : GoodIn wsX1_worst wsX1_isParts := goodIn_r _ [13, 1, 14, 8, 9, 5, 10] (by decide +kernel) (by decide +kernel)
set_option maxRecDepth 20000 in
theorem gX1_worst_X1_isParts : GoodIn wsX1_worst (va_wsS RX1 67 yX1_isParts wsX1_isParts) := goodIn_app (goodIn_of _ (by decide +kernel)) ggX1_worst_X1_isParts
set_option maxRecDepth 20000 in
theorem ggX1_worst_X1_in : GoodIn wsX1_worst wsX1_in := goodIn_r _ [10] (by decide +kernel) (by decide +kernel)
set_option maxRecDepth 20000 in
theorem gX1_worst_X1_in : GoodIn wsX1_worst (va_wsS RX1 40 yX1_in wsX1_in) := goodIn_app (goodIn_of _ (by decide +kernel)) ggX1_worst_X1_in
set_option maxRecDepth 20000 in
theorem ggX1_worst_X1_exact : GoodIn wsX1_worst wsX1_exact := goodIn_r _ [18, 19, 20, 21, 5, 22, 23, 24, 25, 26, 27, 28, 1, 39, 40, 41, 42, 43, 44, 45, 46, 47] (by decide +kernel) (by decide +kernel)
set_option maxRecDepth 20000 in
theorem gX1_worst_X1_exact : GoodIn wsX1_worst (wsV RX1 110 RX1 yX1_exact wsX1_exact) := goodIn_app (goodIn_of _ (by decide +kernel)) ggX1_worst_X1_exact
set_option maxRecDepth 20000 in
theorem ggX1_worst_X1_worstOf : GoodIn wsX1_worst wsX1_worstOf := goodIn_r _ [32, 19, 20, 21, 5, 22, 23, 24, 25, 26, 27, 28, 1, 39, 40, 41, 42, 43, 44, 45, 46, 47] (by decide +kernel) (by decide +kernel)
set_option maxRecDepth 20000 in
theorem gX1_worst_X1_worstOf : GoodIn wsX1_worst (wsV RX1 114 RX1 yX1_worstOf wsX1_worstOf) := goodIn_app (goodIn_of _ (by decide +kernel)) ggX1_worst_X1_worstOf
set_option maxRecDepth 20000 in
theorem ggX1_worst_X1_term : GoodIn wsX1_worst wsX1_term := goodIn_r _ [35, 36, 37, 5, 38] (by decide +kernel) (by decide +kernel)
set_option maxRecDepth 20000 in
theorem gX1_worst_X1_term : GoodIn wsX1_worst (va_wsS RX1 106 yX1_term wsX1_term) := goodIn_app (goodIn_of _ (by decide +kernel)) ggX1_worst_X1_term
theorem dX1_worst_0 : decode cX1_worst 0 = .ok (.aload_n 0, 1) := by decide +kernel
theorem dX1_worst_1 : decode cX1_worst 1 = .ok (.iload_n 1, 1) := by decide +kernel
theorem dX1_worst_2 : decode cX1_worst 2 = .ok (.invokevirtual 58, 3) := by decide +kernel
theorem dX1_worst_5 : decode cX1_worst 5 = .ok (.ifCond .ne 5, 3) := by decide +kernel
theorem dX1_worst_8 : decode cX1_worst 8 = .ok (.iconst (-1), 1) := by decide +kernel
theorem dX1_worst_9 : decode cX1_worst 9 = .ok (.ireturn, 1) := by decide +kernel
theorem dX1_worst_10 : decode cX1_worst 10 = .ok (.iload_n 2, 1) := by decide +kernel
theorem dX1_worst_11 : decode cX1_worst 11 = .ok (.invokestatic 67, 3) := by decide +kernel
theorem dX1_worst_14 : decode cX1_worst 14 = .ok (.ifCond .eq 15, 3) := by decide +kernel
theorem dX1_worst_17 : decode cX1_worst 17 = .ok (.iload_n 3, 1) := by decide +kernel
theorem dX1_worst_18 : decode cX1_worst 18 = .ok (.i2l, 1) := by decide +kernel
theorem dX1_worst_19 : decode cX1_worst 19 = .ok (.lconst 0, 1) := by decide +kernel
theorem dX1_worst_20 : decode cX1_worst 20 = .ok (.ldc2_w 36, 3) := by decide +kernel
theorem dX1_worst_23 : decode cX1_worst 23 = .ok (.invokestatic 40, 3) := by decide +kernel
theorem dX1_worst_26 : decode cX1_worst 26 = .ok (.ifCond .ne 6, 3) := by decide +kernel
theorem dX1_worst_29 : decode cX1_worst 29 = .ok (.bipush (-2), 2) := by decide +kernel
theorem dX1_worst_31 : decode cX1_worst 31 = .ok (.ireturn, 1) := by decide +kernel
theorem dX1_worst_32 : decode cX1_worst 32 = .ok (.iload_n 3, 1) := by decide +kernel
theorem dX1_worst_33 : decode cX1_worst 33 = .ok (.iconst 2, 1) := by decide +kernel
theorem dX1_worst_34 : decode cX1_worst 34 = .ok (.if_icmp .ne 12, 3) := by decide +kernel
theorem dX1_worst_37 : decode cX1_worst 37 = .ok (.aload_n 0, 1) := by decide +kernel
theorem dX1_worst_38 : decode cX1_worst 38 = .ok (.iload_n 1, 1) := by decide +kernel
theorem dX1_worst_39 : decode cX1_worst 39 = .ok (.iload_n 2, 1) := by decide +kernel
theorem dX1_worst_40 : decode cX1_worst 40 = .ok (.invokevirtual 110, 3) := by decide +kernel
theorem dX1_worst_43 : decode cX1_worst 43 = .ok (.goto 15, 3) := by decide +kernel
theorem dX1_worst_46 : decode cX1_worst 46 = .ok (.aload_n 0, 1) := by decide +kernel
theorem dX1_worst_47 : decode cX1_worst 47 = .ok (.iload_n 1, 1) := by decide +kernel
theorem dX1_worst_48 : decode cX1_worst 48 = .ok (.iload_n 2, 1) := by decide +kernel
theorem dX1_worst_49 : decode cX1_worst 49 = .ok (.invokevirtual 114, 3) := by decide +kernel
theorem dX1_worst_52 : decode cX1_worst 52 = .ok (.iload_n 2, 1) := by decide +kernel
theorem dX1_worst_53 : decode cX1_worst 53 = .ok (.i2l, 1) := by decide +kernel
theorem dX1_worst_54 : decode cX1_worst 54 = .ok (.iload_n 3, 1) := by decide +kernel
theorem dX1_worst_55 : decode cX1_worst 55 = .ok (.invokestatic 106, 3) := by decide +kernel
theorem dX1_worst_58 : decode cX1_worst 58 = .ok (.ireturn, 1) := by decide +kernel
set_option maxRecDepth 20000 in
theorem ggX1_best_X1_isParts : GoodIn wsX1_best wsX1_isParts := goodIn_r _ [6, 7, 8, 9, 10, 5, 11] (by decide +kernel) (by decide +kernel)
set_option maxRecDepth 20000 in
theorem gX1_best_X1_isParts : GoodIn wsX1_best (va_wsS RX1 67 yX1_isParts wsX1_isParts) := goodIn_app (goodIn_of _ (by decide +kernel)) ggX1_best_X1_isParts
set_option maxRecDepth 20000 in
theorem ggX1_best_X1_worstOf : GoodIn wsX1_best wsX1_worstOf := goodIn_r _ [15, 16, 17, 18, 5, 19, 20, 2, 21, 22, 23, 24, 7, 25, 26, 27, 28, 29, 30, 31, 32, 33] (by decide +kernel) (by decide +kernel)
set_option maxRecDepth 20000 in
theorem gX1_best_X1_worstOf : GoodIn wsX1_best (wsV RX1 114 RX1 yX1_worstOf wsX1_worstOf) := goodIn_app (goodIn_of _ (by decide +kernel)) ggX1_best_X1_worstOf
theorem dX1_best_0 : decode cX1_best 0 = .ok (.iload_n 1, 1) := by decide +kernel
theorem dX1_best_1 : decode cX1_best 1 = .ok (.invokestatic 67, 3) := by decide +kernel
theorem dX1_best_4 : decode cX1_best 4 = .ok (.ifCond .ne 6, 3) := by decide +kernel
theorem dX1_best_7 : decode cX1_best 7 = .ok (.bipush (-2), 2) := by decide +kernel
theorem dX1_best_9 : decode cX1_best 9 = .ok (.ireturn, 1) := by decide +kernel
theorem dX1_best_10 : decode cX1_best 10 = .ok (.aload_n 0, 1) := by decide +kernel
theorem dX1_best_11 : decode cX1_best 11 = .ok (.getfield 44, 3) := by decide +kernel
theorem dX1_best_14 : decode cX1_best 14 = .ok (.ifCond .ne 6, 3) := by decide +kernel
theorem dX1_best_17 : decode cX1_best 17 = .ok (.bipush (-3), 2) := by decide +kernel
theorem dX1_best_19 : decode cX1_best 19 = .ok (.ireturn, 1) := by decide +kernel
theorem dX1_best_20 : decode cX1_best 20 = .ok (.iconst 0, 1) := by decide +kernel
theorem dX1_best_21 : decode cX1_best 21 = .ok (.istore_n 2, 1) := by decide +kernel
theorem dX1_best_22 : decode cX1_best 22 = .ok (.iconst 1, 1) := by decide +kernel
theorem dX1_best_23 : decode cX1_best 23 = .ok (.istore_n 3, 1) := by decide +kernel
theorem dX1_best_24 : decode cX1_best 24 = .ok (.iload_n 3, 1) := by decide +kernel
theorem dX1_best_25 : decode cX1_best 25 = .ok (.aload_n 0, 1) := by decide +kernel
theorem dX1_best_26 : decode cX1_best 26 = .ok (.getfield 44, 3) := by decide +kernel
theorem dX1_best_29 : decode cX1_best 29 = .ok (.if_icmp .ge 47, 3) := by decide +kernel
theorem dX1_best_32 : decode cX1_best 32 = .ok (.aload_n 0, 1) := by decide +kernel
theorem dX1_best_33 : decode cX1_best 33 = .ok (.iload_n 3, 1) := by decide +kernel
theorem dX1_best_34 : decode cX1_best 34 = .ok (.iload_n 1, 1) := by decide +kernel
theorem dX1_best_35 : decode cX1_best 35 = .ok (.invokevirtual 114, 3) := by decide +kernel
theorem dX1_best_38 : decode cX1_best 38 = .ok (.aload_n 0, 1) := by decide +kernel
theorem dX1_best_39 : decode cX1_best 39 = .ok (.getfield 13, 3) := by decide +kernel
theorem dX1_best_42 : decode cX1_best 42 = .ok (.iload_n 2, 1) := by decide +kernel
theorem dX1_best_43 : decode cX1_best 43 = .ok (.iaload, 1) := by decide +kernel
theorem dX1_best_44 : decode cX1_best 44 = .ok (.i2l, 1) := by decide +kernel
theorem dX1_best_45 : decode cX1_best 45 = .ok (.lmul, 1) := by decide +kernel
theorem dX1_best_46 : decode cX1_best 46 = .ok (.aload_n 0, 1) := by decide +kernel
theorem dX1_best_47 : decode cX1_best 47 = .ok (.iload_n 2, 1) := by decide +kernel
theorem dX1_best_48 : decode cX1_best 48 = .ok (.iload_n 1, 1) := by decide +kernel
theorem dX1_best_49 : decode cX1_best 49 = .ok (.invokevirtual 114, 3) := by decide +kernel
theorem dX1_best_52 : decode cX1_best 52 = .ok (.aload_n 0, 1) := by decide +kernel
theorem dX1_best_53 : decode cX1_best 53 = .ok (.getfield 13, 3) := by decide +kernel
theorem dX1_best_56 : decode cX1_best 56 = .ok (.iload_n 3, 1) := by decide +kernel
theorem dX1_best_57 : decode cX1_best 57 = .ok (.iaload, 1) := by decide +kernel
theorem dX1_best_58 : decode cX1_best 58 = .ok (.i2l, 1) := by decide +kernel
theorem dX1_best_59 : decode cX1_best 59 = .ok (.lmul, 1) := by decide +kernel
theorem dX1_best_60 : decode cX1_best 60 = .ok (.lcmp, 1) := by decide +kernel
theorem dX1_best_61 : decode cX1_best 61 = .ok (.ifCond .ge 7, 3) := by decide +kernel
theorem dX1_best_64 : decode cX1_best 64 = .ok (.iload_n 3, 1) := by decide +kernel
theorem dX1_best_65 : decode cX1_best 65 = .ok (.goto 4, 3) := by decide +kernel
theorem dX1_best_68 : decode cX1_best 68 = .ok (.iload_n 2, 1) := by decide +kernel
theorem dX1_best_69 : decode cX1_best 69 = .ok (.istore_n 2, 1) := by decide +kernel
theorem dX1_best_70 : decode cX1_best 70 = .ok (.iinc 3 1, 3) := by decide +kernel
theorem dX1_best_73 : decode cX1_best 73 = .ok (.goto (-49), 3) := by decide +kernel
theorem dX1_best_76 : decode cX1_best 76 = .ok (.iload_n 2, 1) := by decide +kernel
theorem dX1_best_77 : decode cX1_best 77 = .ok (.ireturn, 1) := by decide +kernel
set_option maxRecDepth 20000 in
theorem ggX1_error_X1_in : GoodIn wsX1_error wsX1_in := goodIn_r _ [8] (by decide +kernel) (by decide +kernel)
set_option maxRecDepth 20000 in
theorem gX1_error_X1_in : GoodIn wsX1_error (va_wsS RX1 40 yX1_in wsX1_in) := goodIn_app (goodIn_of _ (by decide +kernel)) ggX1_error_X1_in
theorem dX1_error_0 : decode cX1_error 0 = .ok (.iload_n 1, 1) := by decide +kernel
theorem dX1_error_1 : decode cX1_error 1 = .ok (.i2l, 1) := by decide +kernel
theorem dX1_error_2 : decode cX1_error 2 = .ok (.lconst 0, 1) := by decide +kernel
theorem dX1_error_3 : decode cX1_error 3 = .ok (.ldc2_w 118, 3) := by decide +kernel
theorem dX1_error_6 : decode cX1_error 6 = .ok (.invokestatic 40, 3) := by decide +kernel
theorem dX1_error_9 : decode cX1_error 9 = .ok (.ifCond .ne 7, 3) := by decide +kernel
theorem dX1_error_12 : decode cX1_error 12 = .ok (.sipush (-1001), 3) := by decide +kernel
theorem dX1_error_15 : decode cX1_error 15 = .ok (.ireturn, 1) := by decide +kernel
theorem dX1_error_16 : decode cX1_error 16 = .ok (.iload_n 2, 1) := by decide +kernel
theorem dX1_error_17 : decode cX1_error 17 = .ok (.i2l, 1) := by decide +kernel
theorem dX1_error_18 : decode cX1_error 18 = .ok (.ldc2_w 120, 3) := by decide +kernel
theorem dX1_error_21 : decode cX1_error 21 = .ok (.ldc2_w 122, 3) := by decide +kernel
theorem dX1_error_24 : decode cX1_error 24 = .ok (.invokestatic 40, 3) := by decide +kernel
theorem dX1_error_27 : decode cX1_error 27 = .ok (.ifCond .ne 7, 3) := by decide +kernel
theorem dX1_error_30 : decode cX1_error 30 = .ok (.sipush (-1002), 3) := by decide +kernel
theorem dX1_error_33 : decode cX1_error 33 = .ok (.ireturn, 1) := by decide +kernel
theorem dX1_error_34 : decode cX1_error 34 = .ok (.aload_n 0, 1) := by decide +kernel
theorem dX1_error_35 : decode cX1_error 35 = .ok (.getfield 20, 3) := by decide +kernel
theorem dX1_error_38 : decode cX1_error 38 = .ok (.iload_n 1, 1) := by decide +kernel
theorem dX1_error_39 : decode cX1_error 39 = .ok (.iaload, 1) := by decide +kernel
theorem dX1_error_40 : decode cX1_error 40 = .ok (.istore_n 3, 1) := by decide +kernel
theorem dX1_error_41 : decode cX1_error 41 = .ok (.aload_n 0, 1) := by decide +kernel
theorem dX1_error_42 : decode cX1_error 42 = .ok (.getfield 20, 3) := by decide +kernel
theorem dX1_error_45 : decode cX1_error 45 = .ok (.iload_n 1, 1) := by decide +kernel
theorem dX1_error_46 : decode cX1_error 46 = .ok (.iload_n 2, 1) := by decide +kernel
theorem dX1_error_47 : decode cX1_error 47 = .ok (.iastore, 1) := by decide +kernel
theorem dX1_error_48 : decode cX1_error 48 = .ok (.iload_n 3, 1) := by decide +kernel
theorem dX1_error_49 : decode cX1_error 49 = .ok (.ireturn, 1) := by decide +kernel
theorem dX1_errorAt_0 : decode cX1_errorAt 0 = .ok (.ldc2_w 124, 3) := by decide +kernel
theorem dX1_errorAt_3 : decode cX1_errorAt 3 = .ok (.iload_n 3, 1) := by decide +kernel
theorem dX1_errorAt_4 : decode cX1_errorAt 4 = .ok (.i2l, 1) := by decide +kernel
theorem dX1_errorAt_5 : decode cX1_errorAt 5 = .ok (.iload_n 2, 1) := by decide +kernel
theorem dX1_errorAt_6 : decode cX1_errorAt 6 = .ok (.i2l, 1) := by decide +kernel
theorem dX1_errorAt_7 : decode cX1_errorAt 7 = .ok (.lmul, 1) := by decide +kernel
theorem dX1_errorAt_8 : decode cX1_errorAt 8 = .ok (.aload_n 0, 1) := by decide +kernel
theorem dX1_errorAt_9 : decode cX1_errorAt 9 = .ok (.getfield 13, 3) := by decide +kernel
theorem dX1_errorAt_12 : decode cX1_errorAt 12 = .ok (.iload_n 1, 1) := by decide +kernel
theorem dX1_errorAt_13 : decode cX1_errorAt 13 = .ok (.iaload, 1) := by decide +kernel
theorem dX1_errorAt_14 : decode cX1_errorAt 14 = .ok (.i2l, 1) := by decide +kernel
theorem dX1_errorAt_15 : decode cX1_errorAt 15 = .ok (.lrem, 1) := by decide +kernel
theorem dX1_errorAt_16 : decode cX1_errorAt 16 = .ok (.lmul, 1) := by decide +kernel
theorem dX1_errorAt_17 : decode cX1_errorAt 17 = .ok (.lstore 4, 2) := by decide +kernel
theorem dX1_errorAt_19 : decode cX1_errorAt 19 = .ok (.lload 4, 2) := by decide +kernel
theorem dX1_errorAt_21 : decode cX1_errorAt 21 = .ok (.aload_n 0, 1) := by decide +kernel
theorem dX1_errorAt_22 : decode cX1_errorAt 22 = .ok (.getfield 13, 3) := by decide +kernel
theorem dX1_errorAt_25 : decode cX1_errorAt 25 = .ok (.iload_n 1, 1) := by decide +kernel
theorem dX1_errorAt_26 : decode cX1_errorAt 26 = .ok (.iaload, 1) := by decide +kernel
theorem dX1_errorAt_27 : decode cX1_errorAt 27 = .ok (.i2l, 1) := by decide +kernel
theorem dX1_errorAt_28 : decode cX1_errorAt 28 = .ok (.ldiv, 1) := by decide +kernel
theorem dX1_errorAt_29 : decode cX1_errorAt 29 = .ok (.l2i, 1) := by decide +kernel
theorem dX1_errorAt_30 : decode cX1_errorAt 30 = .ok (.istore 6, 2) := by decide +kernel
theorem dX1_errorAt_32 : decode cX1_errorAt 32 = .ok (.lload 4, 2) := by decide +kernel
theorem dX1_errorAt_34 : decode cX1_errorAt 34 = .ok (.aload_n 0, 1) := by decide +kernel
theorem dX1_errorAt_35 : decode cX1_errorAt 35 = .ok (.getfield 13, 3) := by decide +kernel
theorem dX1_errorAt_38 : decode cX1_errorAt 38 = .ok (.iload_n 1, 1) := by decide +kernel
theorem dX1_errorAt_39 : decode cX1_errorAt 39 = .ok (.iaload, 1) := by decide +kernel
theorem dX1_errorAt_40 : decode cX1_errorAt 40 = .ok (.i2l, 1) := by decide +kernel
theorem dX1_errorAt_41 : decode cX1_errorAt 41 = .ok (.lrem, 1) := by decide +kernel
theorem dX1_errorAt_42 : decode cX1_errorAt 42 = .ok (.lstore 7, 2) := by decide +kernel
theorem dX1_errorAt_44 : decode cX1_errorAt 44 = .ok (.aload_n 0, 1) := by decide +kernel
theorem dX1_errorAt_45 : decode cX1_errorAt 45 = .ok (.getfield 20, 3) := by decide +kernel
theorem dX1_errorAt_48 : decode cX1_errorAt 48 = .ok (.iload 6, 2) := by decide +kernel
theorem dX1_errorAt_50 : decode cX1_errorAt 50 = .ok (.iaload, 1) := by decide +kernel
theorem dX1_errorAt_51 : decode cX1_errorAt 51 = .ok (.i2l, 1) := by decide +kernel
theorem dX1_errorAt_52 : decode cX1_errorAt 52 = .ok (.aload_n 0, 1) := by decide +kernel
theorem dX1_errorAt_53 : decode cX1_errorAt 53 = .ok (.getfield 13, 3) := by decide +kernel
theorem dX1_errorAt_56 : decode cX1_errorAt 56 = .ok (.iload_n 1, 1) := by decide +kernel
theorem dX1_errorAt_57 : decode cX1_errorAt 57 = .ok (.iaload, 1) := by decide +kernel
theorem dX1_errorAt_58 : decode cX1_errorAt 58 = .ok (.i2l, 1) := by decide +kernel
theorem dX1_errorAt_59 : decode cX1_errorAt 59 = .ok (.lmul, 1) := by decide +kernel
theorem dX1_errorAt_60 : decode cX1_errorAt 60 = .ok (.aload_n 0, 1) := by decide +kernel
theorem dX1_errorAt_61 : decode cX1_errorAt 61 = .ok (.getfield 20, 3) := by decide +kernel
theorem dX1_errorAt_64 : decode cX1_errorAt 64 = .ok (.iload 6, 2) := by decide +kernel
theorem dX1_errorAt_66 : decode cX1_errorAt 66 = .ok (.iconst 1, 1) := by decide +kernel
theorem dX1_errorAt_67 : decode cX1_errorAt 67 = .ok (.iadd, 1) := by decide +kernel
theorem dX1_errorAt_68 : decode cX1_errorAt 68 = .ok (.bipush 8, 2) := by decide +kernel
theorem dX1_errorAt_70 : decode cX1_errorAt 70 = .ok (.irem, 1) := by decide +kernel
theorem dX1_errorAt_71 : decode cX1_errorAt 71 = .ok (.iaload, 1) := by decide +kernel
theorem dX1_errorAt_72 : decode cX1_errorAt 72 = .ok (.aload_n 0, 1) := by decide +kernel
theorem dX1_errorAt_73 : decode cX1_errorAt 73 = .ok (.getfield 20, 3) := by decide +kernel
theorem dX1_errorAt_76 : decode cX1_errorAt 76 = .ok (.iload 6, 2) := by decide +kernel
theorem dX1_errorAt_78 : decode cX1_errorAt 78 = .ok (.iaload, 1) := by decide +kernel
theorem dX1_errorAt_79 : decode cX1_errorAt 79 = .ok (.isub, 1) := by decide +kernel
theorem dX1_errorAt_80 : decode cX1_errorAt 80 = .ok (.i2l, 1) := by decide +kernel
theorem dX1_errorAt_81 : decode cX1_errorAt 81 = .ok (.lload 7, 2) := by decide +kernel
theorem dX1_errorAt_83 : decode cX1_errorAt 83 = .ok (.lmul, 1) := by decide +kernel
theorem dX1_errorAt_84 : decode cX1_errorAt 84 = .ok (.ladd, 1) := by decide +kernel
theorem dX1_errorAt_85 : decode cX1_errorAt 85 = .ok (.lreturn, 1) := by decide +kernel
set_option maxRecDepth 20000 in
theorem ggX1_isSteps_X1_in : GoodIn wsX1_isSteps wsX1_in := goodIn_r _ [5] (by decide +kernel) (by decide +kernel)
set_option maxRecDepth 20000 in
theorem gX1_isSteps_X1_in : GoodIn wsX1_isSteps (va_wsS RX1 40 yX1_in wsX1_in) := goodIn_app (goodIn_of _ (by decide +kernel)) ggX1_isSteps_X1_in
theorem dX1_isSteps_0 : decode cX1_isSteps 0 = .ok (.iload_n 0, 1) := by decide +kernel
theorem dX1_isSteps_1 : decode cX1_isSteps 1 = .ok (.i2l, 1) := by decide +kernel
theorem dX1_isSteps_2 : decode cX1_isSteps 2 = .ok (.lconst 1, 1) := by decide +kernel
theorem dX1_isSteps_3 : decode cX1_isSteps 3 = .ok (.ldc2_w 126, 3) := by decide +kernel
theorem dX1_isSteps_6 : decode cX1_isSteps 6 = .ok (.invokestatic 40, 3) := by decide +kernel
theorem dX1_isSteps_9 : decode cX1_isSteps 9 = .ok (.ireturn, 1) := by decide +kernel
set_option maxRecDepth 20000 in
theorem ggX1_spoilt_X1_isCircle : GoodIn wsX1_spoilt wsX1_isCircle := goodIn_r _ [9, 10, 11, 12, 8, 13, 30, 31, 32, 33, 34, 35, 36, 37, 38] (by decide +kernel) (by decide +kernel)
set_option maxRecDepth 20000 in
theorem gX1_spoilt_X1_isCircle : GoodIn wsX1_spoilt (wsV RX1 58 RX1 yX1_isCircle wsX1_isCircle) := goodIn_app (goodIn_of _ (by decide +kernel)) ggX1_spoilt_X1_isCircle
set_option maxRecDepth 20000 in
theorem ggX1_spoilt_X1_isSteps : GoodIn wsX1_spoilt wsX1_isSteps := goodIn_r _ [16, 17, 11, 12, 8, 13] (by decide +kernel) (by decide +kernel)
set_option maxRecDepth 20000 in
theorem gX1_spoilt_X1_isSteps : GoodIn wsX1_spoilt (va_wsS RX1 128 yX1_isSteps wsX1_isSteps) := goodIn_app (goodIn_of _ (by decide +kernel)) ggX1_spoilt_X1_isSteps
set_option maxRecDepth 20000 in
theorem ggX1_spoilt_X1_in : GoodIn wsX1_spoilt wsX1_in := goodIn_r _ [13] (by decide +kernel) (by decide +kernel)
set_option maxRecDepth 20000 in
theorem gX1_spoilt_X1_in : GoodIn wsX1_spoilt (va_wsS RX1 40 yX1_in wsX1_in) := goodIn_app (goodIn_of _ (by decide +kernel)) ggX1_spoilt_X1_in
set_option maxRecDepth 20000 in
theorem ggX1_spoilt_X1_errorAt : GoodIn wsX1_spoilt wsX1_errorAt := goodIn_r _ [21, 22, 4, 23, 30, 31, 32, 33, 34, 35, 36, 37, 38] (by decide +kernel) (by decide +kernel)
set_option maxRecDepth 20000 in
theorem gX1_spoilt_X1_errorAt : GoodIn wsX1_spoilt (wsV RX1 133 RX1 yX1_errorAt wsX1_errorAt) := goodIn_app (goodIn_of _ (by decide +kernel)) ggX1_spoilt_X1_errorAt
set_option maxRecDepth 20000 in
theorem ggX1_spoilt_X1_term : GoodIn wsX1_spoilt wsX1_term := goodIn_r _ [26, 27, 28, 8, 29] (by decide +kernel) (by decide +kernel)
set_option maxRecDepth 20000 in
theorem gX1_spoilt_X1_term : GoodIn wsX1_spoilt (va_wsS RX1 106 yX1_term wsX1_term) := goodIn_app (goodIn_of _ (by decide +kernel)) ggX1_spoilt_X1_term
theorem dX1_spoilt_0 : decode cX1_spoilt 0 = .ok (.aload_n 0, 1) := by decide +kernel
theorem dX1_spoilt_1 : decode cX1_spoilt 1 = .ok (.iload_n 1, 1) := by decide +kernel
theorem dX1_spoilt_2 : decode cX1_spoilt 2 = .ok (.invokevirtual 58, 3) := by decide +kernel
theorem dX1_spoilt_5 : decode cX1_spoilt 5 = .ok (.ifCond .ne 6, 3) := by decide +kernel
theorem dX1_spoilt_8 : decode cX1_spoilt 8 = .ok (.ldc 102, 2) := by decide +kernel
theorem dX1_spoilt_10 : decode cX1_spoilt 10 = .ok (.ireturn, 1) := by decide +kernel
theorem dX1_spoilt_11 : decode cX1_spoilt 11 = .ok (.iload_n 2, 1) := by decide +kernel
theorem dX1_spoilt_12 : decode cX1_spoilt 12 = .ok (.invokestatic 128, 3) := by decide +kernel
theorem dX1_spoilt_15 : decode cX1_spoilt 15 = .ok (.ifCond .eq 26, 3) := by decide +kernel
theorem dX1_spoilt_18 : decode cX1_spoilt 18 = .ok (.iload_n 3, 1) := by decide +kernel
theorem dX1_spoilt_19 : decode cX1_spoilt 19 = .ok (.i2l, 1) := by decide +kernel
theorem dX1_spoilt_20 : decode cX1_spoilt 20 = .ok (.lconst 0, 1) := by decide +kernel
theorem dX1_spoilt_21 : decode cX1_spoilt 21 = .ok (.ldc2_w 131, 3) := by decide +kernel
theorem dX1_spoilt_24 : decode cX1_spoilt 24 = .ok (.invokestatic 40, 3) := by decide +kernel
theorem dX1_spoilt_27 : decode cX1_spoilt 27 = .ok (.ifCond .eq 14, 3) := by decide +kernel
theorem dX1_spoilt_30 : decode cX1_spoilt 30 = .ok (.iload 4, 2) := by decide +kernel
theorem dX1_spoilt_32 : decode cX1_spoilt 32 = .ok (.i2l, 1) := by decide +kernel
theorem dX1_spoilt_33 : decode cX1_spoilt 33 = .ok (.lconst 0, 1) := by decide +kernel
theorem dX1_spoilt_34 : decode cX1_spoilt 34 = .ok (.lconst 1, 1) := by decide +kernel
theorem dX1_spoilt_35 : decode cX1_spoilt 35 = .ok (.invokestatic 40, 3) := by decide +kernel
theorem dX1_spoilt_38 : decode cX1_spoilt 38 = .ok (.ifCond .ne 6, 3) := by decide +kernel
theorem dX1_spoilt_41 : decode cX1_spoilt 41 = .ok (.ldc 76, 2) := by decide +kernel
theorem dX1_spoilt_43 : decode cX1_spoilt 43 = .ok (.ireturn, 1) := by decide +kernel
theorem dX1_spoilt_44 : decode cX1_spoilt 44 = .ok (.aload_n 0, 1) := by decide +kernel
theorem dX1_spoilt_45 : decode cX1_spoilt 45 = .ok (.iload_n 1, 1) := by decide +kernel
theorem dX1_spoilt_46 : decode cX1_spoilt 46 = .ok (.iload_n 2, 1) := by decide +kernel
theorem dX1_spoilt_47 : decode cX1_spoilt 47 = .ok (.iload_n 3, 1) := by decide +kernel
theorem dX1_spoilt_48 : decode cX1_spoilt 48 = .ok (.invokevirtual 133, 3) := by decide +kernel
theorem dX1_spoilt_51 : decode cX1_spoilt 51 = .ok (.aload_n 0, 1) := by decide +kernel
theorem dX1_spoilt_52 : decode cX1_spoilt 52 = .ok (.getfield 13, 3) := by decide +kernel
theorem dX1_spoilt_55 : decode cX1_spoilt 55 = .ok (.iload_n 1, 1) := by decide +kernel
theorem dX1_spoilt_56 : decode cX1_spoilt 56 = .ok (.iaload, 1) := by decide +kernel
theorem dX1_spoilt_57 : decode cX1_spoilt 57 = .ok (.i2l, 1) := by decide +kernel
theorem dX1_spoilt_58 : decode cX1_spoilt 58 = .ok (.iload 4, 2) := by decide +kernel
theorem dX1_spoilt_60 : decode cX1_spoilt 60 = .ok (.invokestatic 106, 3) := by decide +kernel
theorem dX1_spoilt_63 : decode cX1_spoilt 63 = .ok (.ireturn, 1) := by decide +kernel
set_option maxRecDepth 20000 in
theorem ggX1_extreme_X1_isCircle : GoodIn wsX1_extreme wsX1_isCircle := goodIn_r _ [6, 7, 8, 9, 5, 10, 22, 23, 24, 25, 26, 27, 28, 29, 30] (by decide +kernel) (by decide +kernel)
set_option maxRecDepth 20000 in
theorem gX1_extreme_X1_isCircle : GoodIn wsX1_extreme (wsV RX1 58 RX1 yX1_isCircle wsX1_isCircle) := goodIn_app (goodIn_of _ (by decide +kernel)) ggX1_extreme_X1_isCircle
set_option maxRecDepth 20000 in
theorem ggX1_extreme_X1_isSteps : GoodIn wsX1_extreme wsX1_isSteps := goodIn_r _ [13, 14, 8, 9, 5, 10] (by decide +kernel) (by decide +kernel)
set_option maxRecDepth 20000 in
theorem gX1_extreme_X1_isSteps : GoodIn wsX1_extreme (va_wsS RX1 128 yX1_isSteps wsX1_isSteps) := goodIn_app (goodIn_of _ (by decide +kernel)) ggX1_extreme_X1_isSteps
set_option maxRecDepth 20000 in
theorem ggX1_extreme_X1_in : GoodIn wsX1_extreme wsX1_in := goodIn_r _ [10] (by decide +kernel) (by decide +kernel)
set_option maxRecDepth 20000 in
theorem gX1_extreme_X1_in : GoodIn wsX1_extreme (va_wsS RX1 40 yX1_in wsX1_in) := goodIn_app (goodIn_of _ (by decide +kernel)) ggX1_extreme_X1_in
set_option maxRecDepth 20000 in
theorem ggX1_extreme_X1_errorAt : GoodIn wsX1_extreme wsX1_errorAt := goodIn_r _ [18, 19, 20, 21, 22, 23, 24, 25, 26, 27, 28, 29, 30] (by decide +kernel) (by decide +kernel)
set_option maxRecDepth 20000 in
theorem gX1_extreme_X1_errorAt : GoodIn wsX1_extreme (wsV RX1 133 RX1 yX1_errorAt wsX1_errorAt) := goodIn_app (goodIn_of _ (by decide +kernel)) ggX1_extreme_X1_errorAt
theorem dX1_extreme_0 : decode cX1_extreme 0 = .ok (.aload_n 0, 1) := by decide +kernel
theorem dX1_extreme_1 : decode cX1_extreme 1 = .ok (.iload_n 1, 1) := by decide +kernel
theorem dX1_extreme_2 : decode cX1_extreme 2 = .ok (.invokevirtual 58, 3) := by decide +kernel
theorem dX1_extreme_5 : decode cX1_extreme 5 = .ok (.ifCond .ne 5, 3) := by decide +kernel
theorem dX1_extreme_8 : decode cX1_extreme 8 = .ok (.iconst (-1), 1) := by decide +kernel
theorem dX1_extreme_9 : decode cX1_extreme 9 = .ok (.ireturn, 1) := by decide +kernel
theorem dX1_extreme_10 : decode cX1_extreme 10 = .ok (.iload_n 2, 1) := by decide +kernel
theorem dX1_extreme_11 : decode cX1_extreme 11 = .ok (.invokestatic 128, 3) := by decide +kernel
theorem dX1_extreme_14 : decode cX1_extreme 14 = .ok (.ifCond .eq 26, 3) := by decide +kernel
theorem dX1_extreme_17 : decode cX1_extreme 17 = .ok (.iload_n 3, 1) := by decide +kernel
theorem dX1_extreme_18 : decode cX1_extreme 18 = .ok (.i2l, 1) := by decide +kernel
theorem dX1_extreme_19 : decode cX1_extreme 19 = .ok (.lconst 0, 1) := by decide +kernel
theorem dX1_extreme_20 : decode cX1_extreme 20 = .ok (.ldc2_w 38, 3) := by decide +kernel
theorem dX1_extreme_23 : decode cX1_extreme 23 = .ok (.invokestatic 40, 3) := by decide +kernel
theorem dX1_extreme_26 : decode cX1_extreme 26 = .ok (.ifCond .eq 14, 3) := by decide +kernel
theorem dX1_extreme_29 : decode cX1_extreme 29 = .ok (.iload 4, 2) := by decide +kernel
theorem dX1_extreme_31 : decode cX1_extreme 31 = .ok (.i2l, 1) := by decide +kernel
theorem dX1_extreme_32 : decode cX1_extreme 32 = .ok (.lconst 0, 1) := by decide +kernel
theorem dX1_extreme_33 : decode cX1_extreme 33 = .ok (.lconst 1, 1) := by decide +kernel
theorem dX1_extreme_34 : decode cX1_extreme 34 = .ok (.invokestatic 40, 3) := by decide +kernel
theorem dX1_extreme_37 : decode cX1_extreme 37 = .ok (.ifCond .ne 6, 3) := by decide +kernel
theorem dX1_extreme_40 : decode cX1_extreme 40 = .ok (.bipush (-2), 2) := by decide +kernel
theorem dX1_extreme_42 : decode cX1_extreme 42 = .ok (.ireturn, 1) := by decide +kernel
theorem dX1_extreme_43 : decode cX1_extreme 43 = .ok (.iconst 0, 1) := by decide +kernel
theorem dX1_extreme_44 : decode cX1_extreme 44 = .ok (.istore 5, 2) := by decide +kernel
theorem dX1_extreme_46 : decode cX1_extreme 46 = .ok (.iconst 1, 1) := by decide +kernel
theorem dX1_extreme_47 : decode cX1_extreme 47 = .ok (.istore 6, 2) := by decide +kernel
theorem dX1_extreme_49 : decode cX1_extreme 49 = .ok (.iload 6, 2) := by decide +kernel
theorem dX1_extreme_51 : decode cX1_extreme 51 = .ok (.iload_n 3, 1) := by decide +kernel
theorem dX1_extreme_52 : decode cX1_extreme 52 = .ok (.if_icmp .gt 65, 3) := by decide +kernel
theorem dX1_extreme_55 : decode cX1_extreme 55 = .ok (.aload_n 0, 1) := by decide +kernel
theorem dX1_extreme_56 : decode cX1_extreme 56 = .ok (.iload_n 1, 1) := by decide +kernel
theorem dX1_extreme_57 : decode cX1_extreme 57 = .ok (.iload_n 2, 1) := by decide +kernel
theorem dX1_extreme_58 : decode cX1_extreme 58 = .ok (.iload 6, 2) := by decide +kernel
theorem dX1_extreme_60 : decode cX1_extreme 60 = .ok (.invokevirtual 133, 3) := by decide +kernel
theorem dX1_extreme_63 : decode cX1_extreme 63 = .ok (.lstore 7, 2) := by decide +kernel
theorem dX1_extreme_65 : decode cX1_extreme 65 = .ok (.aload_n 0, 1) := by decide +kernel
theorem dX1_extreme_66 : decode cX1_extreme 66 = .ok (.iload_n 1, 1) := by decide +kernel
theorem dX1_extreme_67 : decode cX1_extreme 67 = .ok (.iload_n 2, 1) := by decide +kernel
theorem dX1_extreme_68 : decode cX1_extreme 68 = .ok (.iload 5, 2) := by decide +kernel
theorem dX1_extreme_70 : decode cX1_extreme 70 = .ok (.invokevirtual 133, 3) := by decide +kernel
theorem dX1_extreme_73 : decode cX1_extreme 73 = .ok (.lstore 9, 2) := by decide +kernel
theorem dX1_extreme_75 : decode cX1_extreme 75 = .ok (.iload 4, 2) := by decide +kernel
theorem dX1_extreme_77 : decode cX1_extreme 77 = .ok (.ifCond .ne 11, 3) := by decide +kernel
theorem dX1_extreme_80 : decode cX1_extreme 80 = .ok (.lload 7, 2) := by decide +kernel
theorem dX1_extreme_82 : decode cX1_extreme 82 = .ok (.lload 9, 2) := by decide +kernel
theorem dX1_extreme_84 : decode cX1_extreme 84 = .ok (.lcmp, 1) := by decide +kernel
theorem dX1_extreme_85 : decode cX1_extreme 85 = .ok (.ifCond .gt 17, 3) := by decide +kernel
theorem dX1_extreme_88 : decode cX1_extreme 88 = .ok (.iload 4, 2) := by decide +kernel
theorem dX1_extreme_90 : decode cX1_extreme 90 = .ok (.iconst 1, 1) := by decide +kernel
theorem dX1_extreme_91 : decode cX1_extreme 91 = .ok (.if_icmp .ne 16, 3) := by decide +kernel
theorem dX1_extreme_94 : decode cX1_extreme 94 = .ok (.lload 7, 2) := by decide +kernel
theorem dX1_extreme_96 : decode cX1_extreme 96 = .ok (.lload 9, 2) := by decide +kernel
theorem dX1_extreme_98 : decode cX1_extreme 98 = .ok (.lcmp, 1) := by decide +kernel
theorem dX1_extreme_99 : decode cX1_extreme 99 = .ok (.ifCond .ge 8, 3) := by decide +kernel
theorem dX1_extreme_102 : decode cX1_extreme 102 = .ok (.iload 6, 2) := by decide +kernel
theorem dX1_extreme_104 : decode cX1_extreme 104 = .ok (.goto 5, 3) := by decide +kernel
theorem dX1_extreme_107 : decode cX1_extreme 107 = .ok (.iload 5, 2) := by decide +kernel
theorem dX1_extreme_109 : decode cX1_extreme 109 = .ok (.istore 5, 2) := by decide +kernel
theorem dX1_extreme_111 : decode cX1_extreme 111 = .ok (.iinc 6 1, 3) := by decide +kernel
theorem dX1_extreme_114 : decode cX1_extreme 114 = .ok (.goto (-65), 3) := by decide +kernel
theorem dX1_extreme_117 : decode cX1_extreme 117 = .ok (.iload 5, 2) := by decide +kernel
theorem dX1_extreme_119 : decode cX1_extreme 119 = .ok (.ireturn, 1) := by decide +kernel
set_option maxRecDepth 20000 in
theorem ggX1_near_X1_in : GoodIn wsX1_near wsX1_in := goodIn_r _ [6] (by decide +kernel) (by decide +kernel)
set_option maxRecDepth 20000 in
theorem gX1_near_X1_in : GoodIn wsX1_near (va_wsS RX1 40 yX1_in wsX1_in) := goodIn_app (goodIn_of _ (by decide +kernel)) ggX1_near_X1_in
theorem dX1_near_0 : decode cX1_near 0 = .ok (.iload_n 1, 1) := by decide +kernel
theorem dX1_near_1 : decode cX1_near 1 = .ok (.i2l, 1) := by decide +kernel
theorem dX1_near_2 : decode cX1_near 2 = .ok (.lconst 1, 1) := by decide +kernel
theorem dX1_near_3 : decode cX1_near 3 = .ok (.ldc2_w 86, 3) := by decide +kernel
theorem dX1_near_6 : decode cX1_near 6 = .ok (.invokestatic 40, 3) := by decide +kernel
theorem dX1_near_9 : decode cX1_near 9 = .ok (.ifCond .eq 38, 3) := by decide +kernel
theorem dX1_near_12 : decode cX1_near 12 = .ok (.iload_n 2, 1) := by decide +kernel
theorem dX1_near_13 : decode cX1_near 13 = .ok (.i2l, 1) := by decide +kernel
theorem dX1_near_14 : decode cX1_near 14 = .ok (.lconst 1, 1) := by decide +kernel
theorem dX1_near_15 : decode cX1_near 15 = .ok (.ldc2_w 86, 3) := by decide +kernel
theorem dX1_near_18 : decode cX1_near 18 = .ok (.invokestatic 40, 3) := by decide +kernel
theorem dX1_near_21 : decode cX1_near 21 = .ok (.ifCond .eq 26, 3) := by decide +kernel
theorem dX1_near_24 : decode cX1_near 24 = .ok (.iload_n 3, 1) := by decide +kernel
theorem dX1_near_25 : decode cX1_near 25 = .ok (.i2l, 1) := by decide +kernel
theorem dX1_near_26 : decode cX1_near 26 = .ok (.lconst 1, 1) := by decide +kernel
theorem dX1_near_27 : decode cX1_near 27 = .ok (.ldc2_w 131, 3) := by decide +kernel
theorem dX1_near_30 : decode cX1_near 30 = .ok (.invokestatic 40, 3) := by decide +kernel
theorem dX1_near_33 : decode cX1_near 33 = .ok (.ifCond .eq 14, 3) := by decide +kernel
theorem dX1_near_36 : decode cX1_near 36 = .ok (.iload 4, 2) := by decide +kernel
theorem dX1_near_38 : decode cX1_near 38 = .ok (.i2l, 1) := by decide +kernel
theorem dX1_near_39 : decode cX1_near 39 = .ok (.lconst 0, 1) := by decide +kernel
theorem dX1_near_40 : decode cX1_near 40 = .ok (.lconst 1, 1) := by decide +kernel
theorem dX1_near_41 : decode cX1_near 41 = .ok (.invokestatic 40, 3) := by decide +kernel
theorem dX1_near_44 : decode cX1_near 44 = .ok (.ifCond .ne 6, 3) := by decide +kernel
theorem dX1_near_47 : decode cX1_near 47 = .ok (.bipush (-2), 2) := by decide +kernel
theorem dX1_near_49 : decode cX1_near 49 = .ok (.ireturn, 1) := by decide +kernel
theorem dX1_near_50 : decode cX1_near 50 = .ok (.lconst 0, 1) := by decide +kernel
theorem dX1_near_51 : decode cX1_near 51 = .ok (.lstore 5, 2) := by decide +kernel
theorem dX1_near_53 : decode cX1_near 53 = .ok (.lconst 1, 1) := by decide +kernel
theorem dX1_near_54 : decode cX1_near 54 = .ok (.lstore 7, 2) := by decide +kernel
theorem dX1_near_56 : decode cX1_near 56 = .ok (.iload_n 1, 1) := by decide +kernel
theorem dX1_near_57 : decode cX1_near 57 = .ok (.i2l, 1) := by decide +kernel
theorem dX1_near_58 : decode cX1_near 58 = .ok (.lstore 9, 2) := by decide +kernel
theorem dX1_near_60 : decode cX1_near 60 = .ok (.lconst 1, 1) := by decide +kernel
theorem dX1_near_61 : decode cX1_near 61 = .ok (.lstore 11, 2) := by decide +kernel
theorem dX1_near_63 : decode cX1_near 63 = .ok (.lload 11, 2) := by decide +kernel
theorem dX1_near_65 : decode cX1_near 65 = .ok (.iload_n 3, 1) := by decide +kernel
theorem dX1_near_66 : decode cX1_near 66 = .ok (.i2l, 1) := by decide +kernel
theorem dX1_near_67 : decode cX1_near 67 = .ok (.lcmp, 1) := by decide +kernel
theorem dX1_near_68 : decode cX1_near 68 = .ok (.ifCond .gt 103, 3) := by decide +kernel
theorem dX1_near_71 : decode cX1_near 71 = .ok (.iload_n 1, 1) := by decide +kernel
theorem dX1_near_72 : decode cX1_near 72 = .ok (.i2l, 1) := by decide +kernel
theorem dX1_near_73 : decode cX1_near 73 = .ok (.lload 11, 2) := by decide +kernel
theorem dX1_near_75 : decode cX1_near 75 = .ok (.lmul, 1) := by decide +kernel
theorem dX1_near_76 : decode cX1_near 76 = .ok (.iload_n 2, 1) := by decide +kernel
theorem dX1_near_77 : decode cX1_near 77 = .ok (.i2l, 1) := by decide +kernel
theorem dX1_near_78 : decode cX1_near 78 = .ok (.ldiv, 1) := by decide +kernel
theorem dX1_near_79 : decode cX1_near 79 = .ok (.lstore 13, 2) := by decide +kernel
theorem dX1_near_81 : decode cX1_near 81 = .ok (.lload 13, 2) := by decide +kernel
theorem dX1_near_83 : decode cX1_near 83 = .ok (.iload_n 1, 1) := by decide +kernel
theorem dX1_near_84 : decode cX1_near 84 = .ok (.i2l, 1) := by decide +kernel
theorem dX1_near_85 : decode cX1_near 85 = .ok (.lload 11, 2) := by decide +kernel
theorem dX1_near_87 : decode cX1_near 87 = .ok (.lmul, 1) := by decide +kernel
theorem dX1_near_88 : decode cX1_near 88 = .ok (.iload_n 2, 1) := by decide +kernel
theorem dX1_near_89 : decode cX1_near 89 = .ok (.i2l, 1) := by decide +kernel
theorem dX1_near_90 : decode cX1_near 90 = .ok (.ldiv, 1) := by decide +kernel
theorem dX1_near_91 : decode cX1_near 91 = .ok (.lconst 1, 1) := by decide +kernel
theorem dX1_near_92 : decode cX1_near 92 = .ok (.ladd, 1) := by decide +kernel
theorem dX1_near_93 : decode cX1_near 93 = .ok (.lcmp, 1) := by decide +kernel
theorem dX1_near_94 : decode cX1_near 94 = .ok (.ifCond .gt 68, 3) := by decide +kernel
theorem dX1_near_97 : decode cX1_near 97 = .ok (.iload_n 1, 1) := by decide +kernel
theorem dX1_near_98 : decode cX1_near 98 = .ok (.i2l, 1) := by decide +kernel
theorem dX1_near_99 : decode cX1_near 99 = .ok (.lload 11, 2) := by decide +kernel
theorem dX1_near_101 : decode cX1_near 101 = .ok (.lmul, 1) := by decide +kernel
theorem dX1_near_102 : decode cX1_near 102 = .ok (.lload 13, 2) := by decide +kernel
theorem dX1_near_104 : decode cX1_near 104 = .ok (.iload_n 2, 1) := by decide +kernel
theorem dX1_near_105 : decode cX1_near 105 = .ok (.i2l, 1) := by decide +kernel
theorem dX1_near_106 : decode cX1_near 106 = .ok (.lmul, 1) := by decide +kernel
theorem dX1_near_107 : decode cX1_near 107 = .ok (.lsub, 1) := by decide +kernel
theorem dX1_near_108 : decode cX1_near 108 = .ok (.lstore 15, 2) := by decide +kernel
theorem dX1_near_110 : decode cX1_near 110 = .ok (.lload 15, 2) := by decide +kernel
theorem dX1_near_112 : decode cX1_near 112 = .ok (.lconst 0, 1) := by decide +kernel
theorem dX1_near_113 : decode cX1_near 113 = .ok (.lcmp, 1) := by decide +kernel
theorem dX1_near_114 : decode cX1_near 114 = .ok (.ifCond .ge 9, 3) := by decide +kernel
theorem dX1_near_117 : decode cX1_near 117 = .ok (.lload 15, 2) := by decide +kernel
theorem dX1_near_119 : decode cX1_near 119 = .ok (.lneg, 1) := by decide +kernel
theorem dX1_near_120 : decode cX1_near 120 = .ok (.goto 5, 3) := by decide +kernel
theorem dX1_near_123 : decode cX1_near 123 = .ok (.lload 15, 2) := by decide +kernel
theorem dX1_near_125 : decode cX1_near 125 = .ok (.lstore 15, 2) := by decide +kernel
theorem dX1_near_127 : decode cX1_near 127 = .ok (.lload 15, 2) := by decide +kernel
theorem dX1_near_129 : decode cX1_near 129 = .ok (.lload 7, 2) := by decide +kernel
theorem dX1_near_131 : decode cX1_near 131 = .ok (.lmul, 1) := by decide +kernel
theorem dX1_near_132 : decode cX1_near 132 = .ok (.lload 9, 2) := by decide +kernel
theorem dX1_near_134 : decode cX1_near 134 = .ok (.lload 11, 2) := by decide +kernel
theorem dX1_near_136 : decode cX1_near 136 = .ok (.lmul, 1) := by decide +kernel
theorem dX1_near_137 : decode cX1_near 137 = .ok (.lcmp, 1) := by decide +kernel
theorem dX1_near_138 : decode cX1_near 138 = .ok (.ifCond .ge 15, 3) := by decide +kernel
theorem dX1_near_141 : decode cX1_near 141 = .ok (.lload 15, 2) := by decide +kernel
theorem dX1_near_143 : decode cX1_near 143 = .ok (.lstore 9, 2) := by decide +kernel
theorem dX1_near_145 : decode cX1_near 145 = .ok (.lload 13, 2) := by decide +kernel
theorem dX1_near_147 : decode cX1_near 147 = .ok (.lstore 5, 2) := by decide +kernel
theorem dX1_near_149 : decode cX1_near 149 = .ok (.lload 11, 2) := by decide +kernel
theorem dX1_near_151 : decode cX1_near 151 = .ok (.lstore 7, 2) := by decide +kernel
theorem dX1_near_153 : decode cX1_near 153 = .ok (.lload 13, 2) := by decide +kernel
theorem dX1_near_155 : decode cX1_near 155 = .ok (.lconst 1, 1) := by decide +kernel
theorem dX1_near_156 : decode cX1_near 156 = .ok (.ladd, 1) := by decide +kernel
theorem dX1_near_157 : decode cX1_near 157 = .ok (.lstore 13, 2) := by decide +kernel
theorem dX1_near_159 : decode cX1_near 159 = .ok (.goto (-78), 3) := by decide +kernel
theorem dX1_near_162 : decode cX1_near 162 = .ok (.lload 11, 2) := by decide +kernel
theorem dX1_near_164 : decode cX1_near 164 = .ok (.lconst 1, 1) := by decide +kernel
theorem dX1_near_165 : decode cX1_near 165 = .ok (.ladd, 1) := by decide +kernel
theorem dX1_near_166 : decode cX1_near 166 = .ok (.lstore 11, 2) := by decide +kernel
theorem dX1_near_168 : decode cX1_near 168 = .ok (.goto (-105), 3) := by decide +kernel
theorem dX1_near_171 : decode cX1_near 171 = .ok (.iload 4, 2) := by decide +kernel
theorem dX1_near_173 : decode cX1_near 173 = .ok (.ifCond .ne 8, 3) := by decide +kernel
theorem dX1_near_176 : decode cX1_near 176 = .ok (.lload 5, 2) := by decide +kernel
theorem dX1_near_178 : decode cX1_near 178 = .ok (.goto 5, 3) := by decide +kernel
theorem dX1_near_181 : decode cX1_near 181 = .ok (.lload 7, 2) := by decide +kernel
theorem dX1_near_183 : decode cX1_near 183 = .ok (.l2i, 1) := by decide +kernel
theorem dX1_near_184 : decode cX1_near 184 = .ok (.ireturn, 1) := by decide +kernel
set_option maxRecDepth 20000 in
theorem ggX1_vernier_X1_in : GoodIn wsX1_vernier wsX1_in := goodIn_r _ [9] (by decide +kernel) (by decide +kernel)
set_option maxRecDepth 20000 in
theorem gX1_vernier_X1_in : GoodIn wsX1_vernier (va_wsS RX1 40 yX1_in wsX1_in) := goodIn_app (goodIn_of _ (by decide +kernel)) ggX1_vernier_X1_in
theorem dX1_vernier_0 : decode cX1_vernier 0 = .ok (.iload_n 1, 1) := by decide +kernel
theorem dX1_vernier_1 : decode cX1_vernier 1 = .ok (.i2l, 1) := by decide +kernel
theorem dX1_vernier_2 : decode cX1_vernier 2 = .ok (.ldc2_w 36, 3) := by decide +kernel
theorem dX1_vernier_5 : decode cX1_vernier 5 = .ok (.ldc2_w 136, 3) := by decide +kernel
theorem dX1_vernier_8 : decode cX1_vernier 8 = .ok (.invokestatic 40, 3) := by decide +kernel
theorem dX1_vernier_11 : decode cX1_vernier 11 = .ok (.ifCond .eq 17, 3) := by decide +kernel
theorem dX1_vernier_14 : decode cX1_vernier 14 = .ok (.iload_n 2, 1) := by decide +kernel
theorem dX1_vernier_15 : decode cX1_vernier 15 = .ok (.i2l, 1) := by decide +kernel
theorem dX1_vernier_16 : decode cX1_vernier 16 = .ok (.ldc2_w 36, 3) := by decide +kernel
theorem dX1_vernier_19 : decode cX1_vernier 19 = .ok (.ldc2_w 138, 3) := by decide +kernel
theorem dX1_vernier_22 : decode cX1_vernier 22 = .ok (.invokestatic 40, 3) := by decide +kernel
theorem dX1_vernier_25 : decode cX1_vernier 25 = .ok (.ifCond .ne 6, 3) := by decide +kernel
theorem dX1_vernier_28 : decode cX1_vernier 28 = .ok (.bipush (-2), 2) := by decide +kernel
theorem dX1_vernier_30 : decode cX1_vernier 30 = .ok (.ireturn, 1) := by decide +kernel
theorem dX1_vernier_31 : decode cX1_vernier 31 = .ok (.aload_n 0, 1) := by decide +kernel
theorem dX1_vernier_32 : decode cX1_vernier 32 = .ok (.iload_n 1, 1) := by decide +kernel
theorem dX1_vernier_33 : decode cX1_vernier 33 = .ok (.putfield 23, 3) := by decide +kernel
theorem dX1_vernier_36 : decode cX1_vernier 36 = .ok (.aload_n 0, 1) := by decide +kernel
theorem dX1_vernier_37 : decode cX1_vernier 37 = .ok (.iload_n 2, 1) := by decide +kernel
theorem dX1_vernier_38 : decode cX1_vernier 38 = .ok (.putfield 26, 3) := by decide +kernel
theorem dX1_vernier_41 : decode cX1_vernier 41 = .ok (.iconst 1, 1) := by decide +kernel
theorem dX1_vernier_42 : decode cX1_vernier 42 = .ok (.ireturn, 1) := by decide +kernel
theorem dX1_mainOf_0 : decode cX1_mainOf 0 = .ok (.lload_n 1, 1) := by decide +kernel
theorem dX1_mainOf_1 : decode cX1_mainOf 1 = .ok (.aload_n 0, 1) := by decide +kernel
theorem dX1_mainOf_2 : decode cX1_mainOf 2 = .ok (.getfield 23, 3) := by decide +kernel
theorem dX1_mainOf_5 : decode cX1_mainOf 5 = .ok (.i2l, 1) := by decide +kernel
theorem dX1_mainOf_6 : decode cX1_mainOf 6 = .ok (.lmul, 1) := by decide +kernel
theorem dX1_mainOf_7 : decode cX1_mainOf 7 = .ok (.lload_n 3, 1) := by decide +kernel
theorem dX1_mainOf_8 : decode cX1_mainOf 8 = .ok (.ldiv, 1) := by decide +kernel
theorem dX1_mainOf_9 : decode cX1_mainOf 9 = .ok (.lreturn, 1) := by decide +kernel
theorem dX1_lineOf_0 : decode cX1_lineOf 0 = .ok (.lload_n 1, 1) := by decide +kernel
theorem dX1_lineOf_1 : decode cX1_lineOf 1 = .ok (.aload_n 0, 1) := by decide +kernel
theorem dX1_lineOf_2 : decode cX1_lineOf 2 = .ok (.getfield 23, 3) := by decide +kernel
theorem dX1_lineOf_5 : decode cX1_lineOf 5 = .ok (.i2l, 1) := by decide +kernel
theorem dX1_lineOf_6 : decode cX1_lineOf 6 = .ok (.lmul, 1) := by decide +kernel
theorem dX1_lineOf_7 : decode cX1_lineOf 7 = .ok (.lload_n 3, 1) := by decide +kernel
theorem dX1_lineOf_8 : decode cX1_lineOf 8 = .ok (.lrem, 1) := by decide +kernel
theorem dX1_lineOf_9 : decode cX1_lineOf 9 = .ok (.lstore 5, 2) := by decide +kernel
theorem dX1_lineOf_11 : decode cX1_lineOf 11 = .ok (.ldc2_w 36, 3) := by decide +kernel
theorem dX1_lineOf_14 : decode cX1_lineOf 14 = .ok (.lload 5, 2) := by decide +kernel
theorem dX1_lineOf_16 : decode cX1_lineOf 16 = .ok (.lmul, 1) := by decide +kernel
theorem dX1_lineOf_17 : decode cX1_lineOf 17 = .ok (.aload_n 0, 1) := by decide +kernel
theorem dX1_lineOf_18 : decode cX1_lineOf 18 = .ok (.getfield 26, 3) := by decide +kernel
theorem dX1_lineOf_21 : decode cX1_lineOf 21 = .ok (.i2l, 1) := by decide +kernel
theorem dX1_lineOf_22 : decode cX1_lineOf 22 = .ok (.lmul, 1) := by decide +kernel
theorem dX1_lineOf_23 : decode cX1_lineOf 23 = .ok (.lload_n 3, 1) := by decide +kernel
theorem dX1_lineOf_24 : decode cX1_lineOf 24 = .ok (.ladd, 1) := by decide +kernel
theorem dX1_lineOf_25 : decode cX1_lineOf 25 = .ok (.lconst 1, 1) := by decide +kernel
theorem dX1_lineOf_26 : decode cX1_lineOf 26 = .ok (.lsub, 1) := by decide +kernel
theorem dX1_lineOf_27 : decode cX1_lineOf 27 = .ok (.ldc2_w 36, 3) := by decide +kernel
theorem dX1_lineOf_30 : decode cX1_lineOf 30 = .ok (.lload_n 3, 1) := by decide +kernel
theorem dX1_lineOf_31 : decode cX1_lineOf 31 = .ok (.lmul, 1) := by decide +kernel
theorem dX1_lineOf_32 : decode cX1_lineOf 32 = .ok (.ldiv, 1) := by decide +kernel
theorem dX1_lineOf_33 : decode cX1_lineOf 33 = .ok (.lreturn, 1) := by decide +kernel
set_option maxRecDepth 20000 in
theorem ggX1_readOf_X1_mainOf : GoodIn wsX1_readOf wsX1_mainOf := goodIn_r _ [6, 7, 13, 14, 15, 16, 17, 18, 19, 20, 21] (by decide +kernel) (by decide +kernel)
set_option maxRecDepth 20000 in
theorem gX1_readOf_X1_mainOf : GoodIn wsX1_readOf (wsV RX1 140 RX1 yX1_mainOf wsX1_mainOf) := goodIn_app (goodIn_of _ (by decide +kernel)) ggX1_readOf_X1_mainOf
set_option maxRecDepth 20000 in
theorem ggX1_readOf_X1_lineOf : GoodIn wsX1_readOf wsX1_lineOf := goodIn_r _ [11, 7, 12, 1, 13, 14, 15, 16, 17, 18, 19, 20, 21] (by decide +kernel) (by decide +kernel)
set_option maxRecDepth 20000 in
theorem gX1_readOf_X1_lineOf : GoodIn wsX1_readOf (wsV RX1 143 RX1 yX1_lineOf wsX1_lineOf) := goodIn_app (goodIn_of _ (by decide +kernel)) ggX1_readOf_X1_lineOf
theorem dX1_readOf_0 : decode cX1_readOf 0 = .ok (.aload_n 0, 1) := by decide +kernel
theorem dX1_readOf_1 : decode cX1_readOf 1 = .ok (.lload_n 1, 1) := by decide +kernel
theorem dX1_readOf_2 : decode cX1_readOf 2 = .ok (.lload_n 3, 1) := by decide +kernel
theorem dX1_readOf_3 : decode cX1_readOf 3 = .ok (.invokevirtual 140, 3) := by decide +kernel
theorem dX1_readOf_6 : decode cX1_readOf 6 = .ok (.aload_n 0, 1) := by decide +kernel
theorem dX1_readOf_7 : decode cX1_readOf 7 = .ok (.getfield 26, 3) := by decide +kernel
theorem dX1_readOf_10 : decode cX1_readOf 10 = .ok (.i2l, 1) := by decide +kernel
theorem dX1_readOf_11 : decode cX1_readOf 11 = .ok (.lmul, 1) := by decide +kernel
theorem dX1_readOf_12 : decode cX1_readOf 12 = .ok (.aload_n 0, 1) := by decide +kernel
theorem dX1_readOf_13 : decode cX1_readOf 13 = .ok (.lload_n 1, 1) := by decide +kernel
theorem dX1_readOf_14 : decode cX1_readOf 14 = .ok (.lload_n 3, 1) := by decide +kernel
theorem dX1_readOf_15 : decode cX1_readOf 15 = .ok (.invokevirtual 143, 3) := by decide +kernel
theorem dX1_readOf_18 : decode cX1_readOf 18 = .ok (.ladd, 1) := by decide +kernel
theorem dX1_readOf_19 : decode cX1_readOf 19 = .ok (.lreturn, 1) := by decide +kernel
set_option maxRecDepth 20000 in
theorem ggX1_isPlace_X1_in : GoodIn wsX1_isPlace wsX1_in := goodIn_r _ [5] (by decide +kernel) (by decide +kernel)
set_option maxRecDepth 20000 in
theorem gX1_isPlace_X1_in : GoodIn wsX1_isPlace (va_wsS RX1 40 yX1_in wsX1_in) := goodIn_app (goodIn_of _ (by decide +kernel)) ggX1_isPlace_X1_in
theorem dX1_isPlace_0 : decode cX1_isPlace 0 = .ok (.iload_n 1, 1) := by decide +kernel
theorem dX1_isPlace_1 : decode cX1_isPlace 1 = .ok (.i2l, 1) := by decide +kernel
theorem dX1_isPlace_2 : decode cX1_isPlace 2 = .ok (.lconst 1, 1) := by decide +kernel
theorem dX1_isPlace_3 : decode cX1_isPlace 3 = .ok (.ldc2_w 86, 3) := by decide +kernel
theorem dX1_isPlace_6 : decode cX1_isPlace 6 = .ok (.invokestatic 40, 3) := by decide +kernel
theorem dX1_isPlace_9 : decode cX1_isPlace 9 = .ok (.ifCond .eq 20, 3) := by decide +kernel
theorem dX1_isPlace_12 : decode cX1_isPlace 12 = .ok (.iload_n 0, 1) := by decide +kernel
theorem dX1_isPlace_13 : decode cX1_isPlace 13 = .ok (.i2l, 1) := by decide +kernel
theorem dX1_isPlace_14 : decode cX1_isPlace 14 = .ok (.lconst 0, 1) := by decide +kernel
theorem dX1_isPlace_15 : decode cX1_isPlace 15 = .ok (.iload_n 1, 1) := by decide +kernel
theorem dX1_isPlace_16 : decode cX1_isPlace 16 = .ok (.i2l, 1) := by decide +kernel
theorem dX1_isPlace_17 : decode cX1_isPlace 17 = .ok (.lconst 1, 1) := by decide +kernel
theorem dX1_isPlace_18 : decode cX1_isPlace 18 = .ok (.lsub, 1) := by decide +kernel
theorem dX1_isPlace_19 : decode cX1_isPlace 19 = .ok (.invokestatic 40, 3) := by decide +kernel
theorem dX1_isPlace_22 : decode cX1_isPlace 22 = .ok (.ifCond .eq 7, 3) := by decide +kernel
theorem dX1_isPlace_25 : decode cX1_isPlace 25 = .ok (.iconst 1, 1) := by decide +kernel
theorem dX1_isPlace_26 : decode cX1_isPlace 26 = .ok (.goto 4, 3) := by decide +kernel
theorem dX1_isPlace_29 : decode cX1_isPlace 29 = .ok (.iconst 0, 1) := by decide +kernel
theorem dX1_isPlace_30 : decode cX1_isPlace 30 = .ok (.ireturn, 1) := by decide +kernel
set_option maxRecDepth 20000 in
theorem ggX1_read_X1_isPlace : GoodIn wsX1_read wsX1_isPlace := goodIn_r _ [5, 6, 7, 8, 4, 9] (by decide +kernel) (by decide +kernel)
set_option maxRecDepth 20000 in
theorem gX1_read_X1_isPlace : GoodIn wsX1_read (va_wsS RX1 146 yX1_isPlace wsX1_isPlace) := goodIn_app (goodIn_of _ (by decide +kernel)) ggX1_read_X1_isPlace
set_option maxRecDepth 20000 in
theorem ggX1_read_X1_in : GoodIn wsX1_read wsX1_in := goodIn_r _ [9] (by decide +kernel) (by decide +kernel)
set_option maxRecDepth 20000 in
theorem gX1_read_X1_in : GoodIn wsX1_read (va_wsS RX1 40 yX1_in wsX1_in) := goodIn_app (goodIn_of _ (by decide +kernel)) ggX1_read_X1_in
set_option maxRecDepth 20000 in
theorem ggX1_read_X1_mainOf : GoodIn wsX1_read wsX1_mainOf := goodIn_r _ [13, 14, 24, 25, 26, 27, 28, 29, 30, 31, 32] (by decide +kernel) (by decide +kernel)
set_option maxRecDepth 20000 in
theorem gX1_read_X1_mainOf : GoodIn wsX1_read (wsV RX1 140 RX1 yX1_mainOf wsX1_mainOf) := goodIn_app (goodIn_of _ (by decide +kernel)) ggX1_read_X1_mainOf
set_option maxRecDepth 20000 in
theorem ggX1_read_X1_lineOf : GoodIn wsX1_read wsX1_lineOf := goodIn_r _ [18, 14, 1, 19, 24, 25, 26, 27, 28, 29, 30, 31, 32] (by decide +kernel) (by decide +kernel)
set_option maxRecDepth 20000 in
theorem gX1_read_X1_lineOf : GoodIn wsX1_read (wsV RX1 143 RX1 yX1_lineOf wsX1_lineOf) := goodIn_app (goodIn_of _ (by decide +kernel)) ggX1_read_X1_lineOf
set_option maxRecDepth 20000 in
theorem ggX1_read_X1_readOf : GoodIn wsX1_read wsX1_readOf := goodIn_r _ [23, 19, 10, 11, 12, 4, 13, 14, 15, 16, 17, 18, 1, 24, 25, 26, 27, 28, 29, 30, 31, 32] (by decide +kernel) (by decide +kernel)
set_option maxRecDepth 20000 in
theorem gX1_read_X1_readOf : GoodIn wsX1_read (wsV RX1 149 RX1 yX1_readOf wsX1_readOf) := goodIn_app (goodIn_of _ (by decide +kernel)) ggX1_read_X1_readOf
theorem dX1_read_0 : decode cX1_read 0 = .ok (.iload_n 1, 1) := by decide +kernel
theorem dX1_read_1 : decode cX1_read 1 = .ok (.iload_n 2, 1) := by decide +kernel
theorem dX1_read_2 : decode cX1_read 2 = .ok (.invokestatic 146, 3) := by decide +kernel
theorem dX1_read_5 : decode cX1_read 5 = .ok (.ifCond .eq 15, 3) := by decide +kernel
theorem dX1_read_8 : decode cX1_read 8 = .ok (.iload_n 3, 1) := by decide +kernel
theorem dX1_read_9 : decode cX1_read 9 = .ok (.i2l, 1) := by decide +kernel
theorem dX1_read_10 : decode cX1_read 10 = .ok (.lconst 0, 1) := by decide +kernel
theorem dX1_read_11 : decode cX1_read 11 = .ok (.ldc2_w 36, 3) := by decide +kernel
theorem dX1_read_14 : decode cX1_read 14 = .ok (.invokestatic 40, 3) := by decide +kernel
theorem dX1_read_17 : decode cX1_read 17 = .ok (.ifCond .ne 6, 3) := by decide +kernel
theorem dX1_read_20 : decode cX1_read 20 = .ok (.bipush (-2), 2) := by decide +kernel
theorem dX1_read_22 : decode cX1_read 22 = .ok (.ireturn, 1) := by decide +kernel
theorem dX1_read_23 : decode cX1_read 23 = .ok (.iload_n 3, 1) := by decide +kernel
theorem dX1_read_24 : decode cX1_read 24 = .ok (.ifCond .ne 14, 3) := by decide +kernel
theorem dX1_read_27 : decode cX1_read 27 = .ok (.aload_n 0, 1) := by decide +kernel
theorem dX1_read_28 : decode cX1_read 28 = .ok (.iload_n 1, 1) := by decide +kernel
theorem dX1_read_29 : decode cX1_read 29 = .ok (.i2l, 1) := by decide +kernel
theorem dX1_read_30 : decode cX1_read 30 = .ok (.iload_n 2, 1) := by decide +kernel
theorem dX1_read_31 : decode cX1_read 31 = .ok (.i2l, 1) := by decide +kernel
theorem dX1_read_32 : decode cX1_read 32 = .ok (.invokevirtual 140, 3) := by decide +kernel
theorem dX1_read_35 : decode cX1_read 35 = .ok (.goto 27, 3) := by decide +kernel
theorem dX1_read_38 : decode cX1_read 38 = .ok (.iload_n 3, 1) := by decide +kernel
theorem dX1_read_39 : decode cX1_read 39 = .ok (.iconst 1, 1) := by decide +kernel
theorem dX1_read_40 : decode cX1_read 40 = .ok (.if_icmp .ne 14, 3) := by decide +kernel
theorem dX1_read_43 : decode cX1_read 43 = .ok (.aload_n 0, 1) := by decide +kernel
theorem dX1_read_44 : decode cX1_read 44 = .ok (.iload_n 1, 1) := by decide +kernel
theorem dX1_read_45 : decode cX1_read 45 = .ok (.i2l, 1) := by decide +kernel
theorem dX1_read_46 : decode cX1_read 46 = .ok (.iload_n 2, 1) := by decide +kernel
theorem dX1_read_47 : decode cX1_read 47 = .ok (.i2l, 1) := by decide +kernel
theorem dX1_read_48 : decode cX1_read 48 = .ok (.invokevirtual 143, 3) := by decide +kernel
theorem dX1_read_51 : decode cX1_read 51 = .ok (.goto 11, 3) := by decide +kernel
theorem dX1_read_54 : decode cX1_read 54 = .ok (.aload_n 0, 1) := by decide +kernel
theorem dX1_read_55 : decode cX1_read 55 = .ok (.iload_n 1, 1) := by decide +kernel
theorem dX1_read_56 : decode cX1_read 56 = .ok (.i2l, 1) := by decide +kernel
theorem dX1_read_57 : decode cX1_read 57 = .ok (.iload_n 2, 1) := by decide +kernel
theorem dX1_read_58 : decode cX1_read 58 = .ok (.i2l, 1) := by decide +kernel
theorem dX1_read_59 : decode cX1_read 59 = .ok (.invokevirtual 149, 3) := by decide +kernel
theorem dX1_read_62 : decode cX1_read 62 = .ok (.l2i, 1) := by decide +kernel
theorem dX1_read_63 : decode cX1_read 63 = .ok (.ireturn, 1) := by decide +kernel
set_option maxRecDepth 20000 in
theorem ggX1_two_X1_isPlace : GoodIn wsX1_two wsX1_isPlace := goodIn_r _ [13, 6, 14, 15, 12, 16] (by decide +kernel) (by decide +kernel)
set_option maxRecDepth 20000 in
theorem gX1_two_X1_isPlace : GoodIn wsX1_two (va_wsS RX1 146 yX1_isPlace wsX1_isPlace) := goodIn_app (goodIn_of _ (by decide +kernel)) ggX1_two_X1_isPlace
set_option maxRecDepth 20000 in
theorem ggX1_two_X1_in : GoodIn wsX1_two wsX1_in := goodIn_r _ [16] (by decide +kernel) (by decide +kernel)
set_option maxRecDepth 20000 in
theorem gX1_two_X1_in : GoodIn wsX1_two (va_wsS RX1 40 yX1_in wsX1_in) := goodIn_app (goodIn_of _ (by decide +kernel)) ggX1_two_X1_in
set_option maxRecDepth 20000 in
theorem ggX1_two_X1_readOf : GoodIn wsX1_two wsX1_readOf := goodIn_r _ [20, 8, 21, 22, 23, 12, 24, 7, 25, 26, 27, 28, 5, 35, 36, 37, 38, 39, 40, 41, 42, 43] (by decide +kernel) (by decide +kernel)
set_option maxRecDepth 20000 in
theorem gX1_two_X1_readOf : GoodIn wsX1_two (wsV RX1 149 RX1 yX1_readOf wsX1_readOf) := goodIn_app (goodIn_of _ (by decide +kernel)) ggX1_two_X1_readOf
set_option maxRecDepth 20000 in
theorem ggX1_two_X1_term : GoodIn wsX1_two wsX1_term := goodIn_r _ [31, 32, 33, 12, 34] (by decide +kernel) (by decide +kernel)
set_option maxRecDepth 20000 in
theorem gX1_two_X1_term : GoodIn wsX1_two (va_wsS RX1 106 yX1_term wsX1_term) := goodIn_app (goodIn_of _ (by decide +kernel)) ggX1_two_X1_term
theorem dX1_two_0 : decode cX1_two 0 = .ok (.iload_n 1, 1) := by decide +kernel
theorem dX1_two_1 : decode cX1_two 1 = .ok (.iload_n 2, 1) := by decide +kernel
theorem dX1_two_2 : decode cX1_two 2 = .ok (.invokestatic 146, 3) := by decide +kernel
theorem dX1_two_5 : decode cX1_two 5 = .ok (.ifCond .eq 28, 3) := by decide +kernel
theorem dX1_two_8 : decode cX1_two 8 = .ok (.iload_n 3, 1) := by decide +kernel
theorem dX1_two_9 : decode cX1_two 9 = .ok (.i2l, 1) := by decide +kernel
theorem dX1_two_10 : decode cX1_two 10 = .ok (.ldc2_w 152, 3) := by decide +kernel
theorem dX1_two_13 : decode cX1_two 13 = .ok (.ldc2_w 38, 3) := by decide +kernel
theorem dX1_two_16 : decode cX1_two 16 = .ok (.invokestatic 40, 3) := by decide +kernel
theorem dX1_two_19 : decode cX1_two 19 = .ok (.ifCond .eq 14, 3) := by decide +kernel
theorem dX1_two_22 : decode cX1_two 22 = .ok (.iload 4, 2) := by decide +kernel
theorem dX1_two_24 : decode cX1_two 24 = .ok (.i2l, 1) := by decide +kernel
theorem dX1_two_25 : decode cX1_two 25 = .ok (.lconst 0, 1) := by decide +kernel
theorem dX1_two_26 : decode cX1_two 26 = .ok (.lconst 1, 1) := by decide +kernel
theorem dX1_two_27 : decode cX1_two 27 = .ok (.invokestatic 40, 3) := by decide +kernel
theorem dX1_two_30 : decode cX1_two 30 = .ok (.ifCond .ne 6, 3) := by decide +kernel
theorem dX1_two_33 : decode cX1_two 33 = .ok (.ldc 76, 2) := by decide +kernel
theorem dX1_two_35 : decode cX1_two 35 = .ok (.ireturn, 1) := by decide +kernel
theorem dX1_two_36 : decode cX1_two 36 = .ok (.ldc2_w 154, 3) := by decide +kernel
theorem dX1_two_39 : decode cX1_two 39 = .ok (.iload_n 2, 1) := by decide +kernel
theorem dX1_two_40 : decode cX1_two 40 = .ok (.i2l, 1) := by decide +kernel
theorem dX1_two_41 : decode cX1_two 41 = .ok (.lmul, 1) := by decide +kernel
theorem dX1_two_42 : decode cX1_two 42 = .ok (.lstore 5, 2) := by decide +kernel
theorem dX1_two_44 : decode cX1_two 44 = .ok (.ldc2_w 154, 3) := by decide +kernel
theorem dX1_two_47 : decode cX1_two 47 = .ok (.iload_n 1, 1) := by decide +kernel
theorem dX1_two_48 : decode cX1_two 48 = .ok (.i2l, 1) := by decide +kernel
theorem dX1_two_49 : decode cX1_two 49 = .ok (.lmul, 1) := by decide +kernel
theorem dX1_two_50 : decode cX1_two 50 = .ok (.ldc2_w 36, 3) := by decide +kernel
theorem dX1_two_53 : decode cX1_two 53 = .ok (.iload_n 3, 1) := by decide +kernel
theorem dX1_two_54 : decode cX1_two 54 = .ok (.i2l, 1) := by decide +kernel
theorem dX1_two_55 : decode cX1_two 55 = .ok (.lmul, 1) := by decide +kernel
theorem dX1_two_56 : decode cX1_two 56 = .ok (.iload_n 2, 1) := by decide +kernel
theorem dX1_two_57 : decode cX1_two 57 = .ok (.i2l, 1) := by decide +kernel
theorem dX1_two_58 : decode cX1_two 58 = .ok (.lmul, 1) := by decide +kernel
theorem dX1_two_59 : decode cX1_two 59 = .ok (.ladd, 1) := by decide +kernel
theorem dX1_two_60 : decode cX1_two 60 = .ok (.lload 5, 2) := by decide +kernel
theorem dX1_two_62 : decode cX1_two 62 = .ok (.ladd, 1) := by decide +kernel
theorem dX1_two_63 : decode cX1_two 63 = .ok (.lload 5, 2) := by decide +kernel
theorem dX1_two_65 : decode cX1_two 65 = .ok (.lrem, 1) := by decide +kernel
theorem dX1_two_66 : decode cX1_two 66 = .ok (.lstore 7, 2) := by decide +kernel
theorem dX1_two_68 : decode cX1_two 68 = .ok (.ldc2_w 154, 3) := by decide +kernel
theorem dX1_two_71 : decode cX1_two 71 = .ok (.iload_n 1, 1) := by decide +kernel
theorem dX1_two_72 : decode cX1_two 72 = .ok (.i2l, 1) := by decide +kernel
theorem dX1_two_73 : decode cX1_two 73 = .ok (.lmul, 1) := by decide +kernel
theorem dX1_two_74 : decode cX1_two 74 = .ok (.ldc2_w 86, 3) := by decide +kernel
theorem dX1_two_77 : decode cX1_two 77 = .ok (.iload_n 2, 1) := by decide +kernel
theorem dX1_two_78 : decode cX1_two 78 = .ok (.i2l, 1) := by decide +kernel
theorem dX1_two_79 : decode cX1_two 79 = .ok (.lmul, 1) := by decide +kernel
theorem dX1_two_80 : decode cX1_two 80 = .ok (.ladd, 1) := by decide +kernel
theorem dX1_two_81 : decode cX1_two 81 = .ok (.ldc2_w 36, 3) := by decide +kernel
theorem dX1_two_84 : decode cX1_two 84 = .ok (.iload_n 3, 1) := by decide +kernel
theorem dX1_two_85 : decode cX1_two 85 = .ok (.i2l, 1) := by decide +kernel
theorem dX1_two_86 : decode cX1_two 86 = .ok (.lmul, 1) := by decide +kernel
theorem dX1_two_87 : decode cX1_two 87 = .ok (.iload_n 2, 1) := by decide +kernel
theorem dX1_two_88 : decode cX1_two 88 = .ok (.i2l, 1) := by decide +kernel
theorem dX1_two_89 : decode cX1_two 89 = .ok (.lmul, 1) := by decide +kernel
theorem dX1_two_90 : decode cX1_two 90 = .ok (.lsub, 1) := by decide +kernel
theorem dX1_two_91 : decode cX1_two 91 = .ok (.lload 5, 2) := by decide +kernel
theorem dX1_two_93 : decode cX1_two 93 = .ok (.ladd, 1) := by decide +kernel
theorem dX1_two_94 : decode cX1_two 94 = .ok (.lload 5, 2) := by decide +kernel
theorem dX1_two_96 : decode cX1_two 96 = .ok (.lrem, 1) := by decide +kernel
theorem dX1_two_97 : decode cX1_two 97 = .ok (.lstore 9, 2) := by decide +kernel
theorem dX1_two_99 : decode cX1_two 99 = .ok (.aload_n 0, 1) := by decide +kernel
theorem dX1_two_100 : decode cX1_two 100 = .ok (.lload 7, 2) := by decide +kernel
theorem dX1_two_102 : decode cX1_two 102 = .ok (.lload 5, 2) := by decide +kernel
theorem dX1_two_104 : decode cX1_two 104 = .ok (.invokevirtual 149, 3) := by decide +kernel
theorem dX1_two_107 : decode cX1_two 107 = .ok (.lstore 11, 2) := by decide +kernel
theorem dX1_two_109 : decode cX1_two 109 = .ok (.aload_n 0, 1) := by decide +kernel
theorem dX1_two_110 : decode cX1_two 110 = .ok (.lload 9, 2) := by decide +kernel
theorem dX1_two_112 : decode cX1_two 112 = .ok (.lload 5, 2) := by decide +kernel
theorem dX1_two_114 : decode cX1_two 114 = .ok (.invokevirtual 149, 3) := by decide +kernel
theorem dX1_two_117 : decode cX1_two 117 = .ok (.lstore 13, 2) := by decide +kernel
theorem dX1_two_119 : decode cX1_two 119 = .ok (.aload_n 0, 1) := by decide +kernel
theorem dX1_two_120 : decode cX1_two 120 = .ok (.getfield 23, 3) := by decide +kernel
theorem dX1_two_123 : decode cX1_two 123 = .ok (.i2l, 1) := by decide +kernel
theorem dX1_two_124 : decode cX1_two 124 = .ok (.aload_n 0, 1) := by decide +kernel
theorem dX1_two_125 : decode cX1_two 125 = .ok (.getfield 26, 3) := by decide +kernel
theorem dX1_two_128 : decode cX1_two 128 = .ok (.i2l, 1) := by decide +kernel
theorem dX1_two_129 : decode cX1_two 129 = .ok (.lmul, 1) := by decide +kernel
theorem dX1_two_130 : decode cX1_two 130 = .ok (.lstore 15, 2) := by decide +kernel
theorem dX1_two_132 : decode cX1_two 132 = .ok (.ldc2_w 36, 3) := by decide +kernel
theorem dX1_two_135 : decode cX1_two 135 = .ok (.lload 11, 2) := by decide +kernel
theorem dX1_two_137 : decode cX1_two 137 = .ok (.lload 13, 2) := by decide +kernel
theorem dX1_two_139 : decode cX1_two 139 = .ok (.ladd, 1) := by decide +kernel
theorem dX1_two_140 : decode cX1_two 140 = .ok (.lmul, 1) := by decide +kernel
theorem dX1_two_141 : decode cX1_two 141 = .ok (.lload 11, 2) := by decide +kernel
theorem dX1_two_143 : decode cX1_two 143 = .ok (.lload 13, 2) := by decide +kernel
theorem dX1_two_145 : decode cX1_two 145 = .ok (.lcmp, 1) := by decide +kernel
theorem dX1_two_146 : decode cX1_two 146 = .ok (.ifCond .le 8, 3) := by decide +kernel
theorem dX1_two_149 : decode cX1_two 149 = .ok (.lload 15, 2) := by decide +kernel
theorem dX1_two_151 : decode cX1_two 151 = .ok (.goto 6, 3) := by decide +kernel
theorem dX1_two_154 : decode cX1_two 154 = .ok (.lload 15, 2) := by decide +kernel
theorem dX1_two_156 : decode cX1_two 156 = .ok (.lneg, 1) := by decide +kernel
theorem dX1_two_157 : decode cX1_two 157 = .ok (.ladd, 1) := by decide +kernel
theorem dX1_two_158 : decode cX1_two 158 = .ok (.ldc2_w 156, 3) := by decide +kernel
theorem dX1_two_161 : decode cX1_two 161 = .ok (.iload 4, 2) := by decide +kernel
theorem dX1_two_163 : decode cX1_two 163 = .ok (.invokestatic 106, 3) := by decide +kernel
theorem dX1_two_166 : decode cX1_two 166 = .ok (.ireturn, 1) := by decide +kernel
theorem dX1_told_0 : decode cX1_told 0 = .ok (.iload_n 1, 1) := by decide +kernel
theorem dX1_told_1 : decode cX1_told 1 = .ok (.tableswitch 60 0 4 #[35, 40, 45, 50, 55], 35) := by decide +kernel
theorem dX1_told_36 : decode cX1_told 36 = .ok (.aload_n 0, 1) := by decide +kernel
theorem dX1_told_37 : decode cX1_told 37 = .ok (.getfield 7, 3) := by decide +kernel
theorem dX1_told_40 : decode cX1_told 40 = .ok (.ireturn, 1) := by decide +kernel
theorem dX1_told_41 : decode cX1_told 41 = .ok (.aload_n 0, 1) := by decide +kernel
theorem dX1_told_42 : decode cX1_told 42 = .ok (.getfield 44, 3) := by decide +kernel
theorem dX1_told_45 : decode cX1_told 45 = .ok (.ireturn, 1) := by decide +kernel
theorem dX1_told_46 : decode cX1_told 46 = .ok (.aload_n 0, 1) := by decide +kernel
theorem dX1_told_47 : decode cX1_told 47 = .ok (.getfield 47, 3) := by decide +kernel
theorem dX1_told_50 : decode cX1_told 50 = .ok (.ireturn, 1) := by decide +kernel
theorem dX1_told_51 : decode cX1_told 51 = .ok (.aload_n 0, 1) := by decide +kernel
theorem dX1_told_52 : decode cX1_told 52 = .ok (.getfield 23, 3) := by decide +kernel
theorem dX1_told_55 : decode cX1_told 55 = .ok (.ireturn, 1) := by decide +kernel
theorem dX1_told_56 : decode cX1_told 56 = .ok (.aload_n 0, 1) := by decide +kernel
theorem dX1_told_57 : decode cX1_told 57 = .ok (.getfield 26, 3) := by decide +kernel
theorem dX1_told_60 : decode cX1_told 60 = .ok (.ireturn, 1) := by decide +kernel
theorem dX1_told_61 : decode cX1_told 61 = .ok (.bipush (-2), 2) := by decide +kernel
theorem dX1_told_63 : decode cX1_told 63 = .ok (.ireturn, 1) := by decide +kernel
theorem dJ9_floorMod_f86c9_0 : decode cJ9_floorMod_f86c9 0 = .ok (.lload_n 0, 1) := by decide +kernel
theorem dJ9_floorMod_f86c9_1 : decode cJ9_floorMod_f86c9 1 = .ok (.lload_n 2, 1) := by decide +kernel
theorem dJ9_floorMod_f86c9_2 : decode cJ9_floorMod_f86c9 2 = .ok (.lrem, 1) := by decide +kernel
theorem dJ9_floorMod_f86c9_3 : decode cJ9_floorMod_f86c9 3 = .ok (.lstore 4, 2) := by decide +kernel
theorem dJ9_floorMod_f86c9_5 : decode cJ9_floorMod_f86c9 5 = .ok (.lload_n 0, 1) := by decide +kernel
theorem dJ9_floorMod_f86c9_6 : decode cJ9_floorMod_f86c9 6 = .ok (.lload_n 2, 1) := by decide +kernel
theorem dJ9_floorMod_f86c9_7 : decode cJ9_floorMod_f86c9 7 = .ok (.lxor, 1) := by decide +kernel
theorem dJ9_floorMod_f86c9_8 : decode cJ9_floorMod_f86c9 8 = .ok (.lconst 0, 1) := by decide +kernel
theorem dJ9_floorMod_f86c9_9 : decode cJ9_floorMod_f86c9 9 = .ok (.lcmp, 1) := by decide +kernel
theorem dJ9_floorMod_f86c9_10 : decode cJ9_floorMod_f86c9 10 = .ok (.ifCond .ge 15, 3) := by decide +kernel
theorem dJ9_floorMod_f86c9_13 : decode cJ9_floorMod_f86c9 13 = .ok (.lload 4, 2) := by decide +kernel
theorem dJ9_floorMod_f86c9_15 : decode cJ9_floorMod_f86c9 15 = .ok (.lconst 0, 1) := by decide +kernel
theorem dJ9_floorMod_f86c9_16 : decode cJ9_floorMod_f86c9 16 = .ok (.lcmp, 1) := by decide +kernel
theorem dJ9_floorMod_f86c9_17 : decode cJ9_floorMod_f86c9 17 = .ok (.ifCond .eq 8, 3) := by decide +kernel
theorem dJ9_floorMod_f86c9_20 : decode cJ9_floorMod_f86c9 20 = .ok (.lload 4, 2) := by decide +kernel
theorem dJ9_floorMod_f86c9_22 : decode cJ9_floorMod_f86c9 22 = .ok (.lload_n 2, 1) := by decide +kernel
theorem dJ9_floorMod_f86c9_23 : decode cJ9_floorMod_f86c9 23 = .ok (.ladd, 1) := by decide +kernel
theorem dJ9_floorMod_f86c9_24 : decode cJ9_floorMod_f86c9 24 = .ok (.lreturn, 1) := by decide +kernel
theorem dJ9_floorMod_f86c9_25 : decode cJ9_floorMod_f86c9 25 = .ok (.lload 4, 2) := by decide +kernel
theorem dJ9_floorMod_f86c9_27 : decode cJ9_floorMod_f86c9 27 = .ok (.lreturn, 1) := by decide +kernel
theorem dJ9_abs_0f7a4_0 : decode cJ9_abs_0f7a4 0 = .ok (.iload_n 0, 1) := by decide +kernel
theorem dJ9_abs_0f7a4_1 : decode cJ9_abs_0f7a4 1 = .ok (.ifCond .ge 8, 3) := by decide +kernel
theorem dJ9_abs_0f7a4_4 : decode cJ9_abs_0f7a4 4 = .ok (.iload_n 0, 1) := by decide +kernel
theorem dJ9_abs_0f7a4_5 : decode cJ9_abs_0f7a4 5 = .ok (.ineg, 1) := by decide +kernel
theorem dJ9_abs_0f7a4_6 : decode cJ9_abs_0f7a4 6 = .ok (.goto 4, 3) := by decide +kernel
theorem dJ9_abs_0f7a4_9 : decode cJ9_abs_0f7a4 9 = .ok (.iload_n 0, 1) := by decide +kernel
theorem dJ9_abs_0f7a4_10 : decode cJ9_abs_0f7a4 10 = .ok (.ireturn, 1) := by decide +kernel
theorem dJ9_abs_067f4_0 : decode cJ9_abs_067f4 0 = .ok (.lload_n 0, 1) := by decide +kernel
theorem dJ9_abs_067f4_1 : decode cJ9_abs_067f4 1 = .ok (.lconst 0, 1) := by decide +kernel
theorem dJ9_abs_067f4_2 : decode cJ9_abs_067f4 2 = .ok (.lcmp, 1) := by decide +kernel
theorem dJ9_abs_067f4_3 : decode cJ9_abs_067f4 3 = .ok (.ifCond .ge 8, 3) := by decide +kernel
theorem dJ9_abs_067f4_6 : decode cJ9_abs_067f4 6 = .ok (.lload_n 0, 1) := by decide +kernel
theorem dJ9_abs_067f4_7 : decode cJ9_abs_067f4 7 = .ok (.lneg, 1) := by decide +kernel
theorem dJ9_abs_067f4_8 : decode cJ9_abs_067f4 8 = .ok (.goto 4, 3) := by decide +kernel
theorem dJ9_abs_067f4_11 : decode cJ9_abs_067f4 11 = .ok (.lload_n 0, 1) := by decide +kernel
theorem dJ9_abs_067f4_12 : decode cJ9_abs_067f4 12 = .ok (.lreturn, 1) := by decide +kernel
theorem dJ9_max_7cf53_0 : decode cJ9_max_7cf53 0 = .ok (.iload_n 0, 1) := by decide +kernel
theorem dJ9_max_7cf53_1 : decode cJ9_max_7cf53 1 = .ok (.iload_n 1, 1) := by decide +kernel
theorem dJ9_max_7cf53_2 : decode cJ9_max_7cf53 2 = .ok (.if_icmp .lt 7, 3) := by decide +kernel
theorem dJ9_max_7cf53_5 : decode cJ9_max_7cf53 5 = .ok (.iload_n 0, 1) := by decide +kernel
theorem dJ9_max_7cf53_6 : decode cJ9_max_7cf53 6 = .ok (.goto 4, 3) := by decide +kernel
theorem dJ9_max_7cf53_9 : decode cJ9_max_7cf53 9 = .ok (.iload_n 1, 1) := by decide +kernel
theorem dJ9_max_7cf53_10 : decode cJ9_max_7cf53 10 = .ok (.ireturn, 1) := by decide +kernel
end
section
/-! numbers: an int on the machine is shown as the Int that it stands for -/
abbrev inI (a : Int) : Prop := -2147483648 ≤ a ∧ a ≤ 2147483647
abbrev inL (a : Int) : Prop := -9223372036854775808 ≤ a ∧ a ≤ 9223372036854775807
def jI (a : Int) : Value := .int (Int32.ofInt a)
def jL (a : Int) : Value := .long (Int64.ofInt a)
def jF (H : Int → Int) : Nat → Int32 := fun k => Int32.ofInt (H (k : Int))
noncomputable def bI (P : Prop) : Int := @ite _ P (Classical.propDecidable P) 1 0
theorem bI_t {P : Prop} (h : P) : (1 : Int) = bI P := by
  unfold bI
  exact (@if_pos P (Classical.propDecidable P) h _ _ _).symm
theorem bI_f {P : Prop} (h : ¬ P) : (0 : Int) = bI P := by
  unfold bI
  exact (@if_neg P (Classical.propDecidable P) h _ _ _).symm
theorem bI_c {P : Prop} : (bI P = 1 ∧ P) ∨ (bI P = 0 ∧ ¬ P) := by
  by_cases h : P
  · exact Or.inl ⟨(bI_t h).symm, h⟩
  · exact Or.inr ⟨(bI_f h).symm, h⟩
theorem bI_x {P Q : Prop} (h : P ↔ Q) : bI P = bI Q := by rw [propext h]
theorem tI {a : Int} (h : inI a) : (Int32.ofInt a).toInt = a := Int32.toInt_ofInt_of_le (by omega) (by omega)
theorem tL {a : Int} (h : inL a) : (Int64.ofInt a).toInt = a := Int64.toInt_ofInt_of_le (by omega) (by omega)
theorem inI_toInt (x : Int32) : inI x.toInt := by
  have h1 := x.le_toInt
  have h2 := x.toInt_lt
  omega
theorem jI_toInt (x : Int32) : Value.int x = jI x.toInt := by
  unfold jI
  rw [Int32.ofInt_toInt]
theorem oI_inj {a b : Int} (ha : inI a) (hb : inI b) : Int32.ofInt a = Int32.ofInt b ↔ a = b := by
  rw [← Int32.toInt_inj, tI ha, tI hb]
theorem oI_lt {a b : Int} (ha : inI a) (hb : inI b) : Int32.ofInt a < Int32.ofInt b ↔ a < b := by
  rw [Int32.lt_iff_toInt_lt, tI ha, tI hb]
theorem oI_le {a b : Int} (ha : inI a) (hb : inI b) : Int32.ofInt a ≤ Int32.ofInt b ↔ a ≤ b := by
  rw [Int32.le_iff_toInt_le, tI ha, tI hb]
theorem oI_zero : (0 : Int32) = Int32.ofInt 0 := by decide
theorem in0 : inI 0 := by decide
theorem oL_inj {a b : Int} (ha : inL a) (hb : inL b) : Int64.ofInt a = Int64.ofInt b ↔ a = b := by
  rw [← Int64.toInt_inj, tL ha, tL hb]
theorem oL_lt {a b : Int} (ha : inL a) (hb : inL b) : Int64.ofInt a < Int64.ofInt b ↔ a < b := by
  rw [Int64.lt_iff_toInt_lt, tL ha, tL hb]
theorem oI_div {a b : Int} (ha : inI a) (hb : 0 < b ∧ b ≤ 2147483647) : Int32.ofInt a / Int32.ofInt b = Int32.ofInt (a.tdiv b) := by
  have hb2 : inI b := by omega
  rw [← Int32.toInt_inj, Int32.toInt_div_of_ne_right, tI ha, tI hb2, tI]
  · have h1 := Int.natAbs_tdiv_le_natAbs a b
    by_cases h : a = -2147483648
    · subst h
      by_cases h9 : b = 1
      · subst h9
        decide
      · have h3 : Int.tdiv (-2147483648) b = -(Int.tdiv 2147483648 b) := Int.neg_tdiv ..
        have h4 := Int.tdiv_eq_ediv_of_nonneg (a := 2147483648) (b := b) (by decide)
        have h5 : (2147483648 : Int) / b ≤ 2147483648 / 2 := by
          refine Int.ediv_le_of_le_mul (by omega) ?_
          have : (2147483648 : Int) / 2 = 1073741824 := by decide
          omega
        have h6 : 0 ≤ (2147483648 : Int) / b := Int.ediv_nonneg (by decide) (by omega)
        have : (2147483648 : Int) / 2 = 1073741824 := by decide
        omega
    · omega
  · intro h
    have h2 := congrArg Int32.toInt h
    rw [tI hb2] at h2
    have h3 : (-1 : Int32).toInt = -1 := by decide
    omega
theorem oL_div {a b : Int} (ha : inL a) (hb : 0 < b ∧ b ≤ 9223372036854775807) (ha2 : -9223372036854775808 < a) : Int64.ofInt a / Int64.ofInt b = Int64.ofInt (a.tdiv b) := by
  have hb2 : inL b := by omega
  rw [← Int64.toInt_inj, Int64.toInt_div_of_ne_right, tL ha, tL hb2, tL]
  · have h1 := Int.natAbs_tdiv_le_natAbs a b
    omega
  · intro h
    have h2 := congrArg Int64.toInt h
    rw [tL hb2] at h2
    have h3 : (-1 : Int64).toInt = -1 := by decide
    omega
theorem oI_ne {b : Int} (hb : 0 < b ∧ b ≤ 2147483647) : ¬ Int32.ofInt b = 0 := by
  rw [oI_zero, oI_inj (by omega) in0]
  omega
theorem oL_ne {b : Int} (hb : 0 < b ∧ b ≤ 9223372036854775807) : ¬ Int64.ofInt b = 0 := by
  have h : (0 : Int64) = Int64.ofInt 0 := by decide
  rw [h, oL_inj (by omega) (by decide)]
  omega
theorem oI_rem {a b : Int} (ha : inI a) (hb : 0 < b ∧ b ≤ 2147483647) : Int32.ofInt a - Int32.ofInt a / Int32.ofInt b * Int32.ofInt b = Int32.ofInt (a.tmod b) := by
  rw [oI_div ha hb, ← Int32.ofInt_mul, ← Int32.ofInt_sub, Int.tmod_def, Int.mul_comm b]
theorem oL_rem {a b : Int} (ha : inL a) (hb : 0 < b ∧ b ≤ 9223372036854775807) (ha2 : -9223372036854775808 < a) : Int64.ofInt a - Int64.ofInt a / Int64.ofInt b * Int64.ofInt b = Int64.ofInt (a.tmod b) := by
  rw [oL_div ha hb ha2, ← Int64.ofInt_mul, ← Int64.ofInt_sub, Int.tmod_def, Int.mul_comm b]
theorem o_i2l {a : Int} (ha : inI a) : (Int32.ofInt a).toInt64 = Int64.ofInt a := by
  rw [← Int64.toInt_inj, Int32.toInt_toInt64, tI ha, tL (by omega)]
theorem o_nat {a : Int} (ha : inI a) : (Int32.ofInt a).toNatClampNeg = a.toNat := Int32.toNatClampNeg_ofInt_of_le (by omega) (by omega)
theorem o_in {a : Int} {n : Nat} (h : 0 ≤ a ∧ a < (n : Int)) (ha : inI a) : vp_in (Int32.ofInt a) n := by
  unfold vp_in
  rw [o_nat ha, oI_zero, oI_lt ha in0]
  omega
theorem jF_at {H : Int → Int} {a : Int} (h : 0 ≤ a) (ha : inI a) : jF H (Int32.ofInt a).toNatClampNeg = Int32.ofInt (H a) := by
  rw [o_nat ha]
  unfold jF
  rw [Int.toNat_of_nonneg h]
def jU (H : Int → Int) (k x : Int) : Int → Int := fun j => if j = k then x else H j
theorem jU_self (H : Int → Int) (k x : Int) : jU H k x k = x := by simp [jU]
theorem jU_ne (H : Int → Int) {k j : Int} (x : Int) (h : j ≠ k) : jU H k x j = H j := by simp [jU, h]
theorem jF_up {H : Int → Int} {a x : Int} (h : 0 ≤ a) (ha : inI a) : upd (jF H) (Int32.ofInt a).toNatClampNeg (Int32.ofInt x) = jF (jU H a x) := by
  rw [o_nat ha]
  funext q
  unfold upd jF jU
  by_cases hq : q = a.toNat
  · rw [if_pos hq, if_pos (by omega)]
  · rw [if_neg hq, if_neg (by omega)]
/-! intervals -/
theorem iv_add {a b la ua lb ub lo hi : Int} (ha : la ≤ a ∧ a ≤ ua) (hb : lb ≤ b ∧ b ≤ ub) (h : (decide (lo ≤ la + lb) && decide (ua + ub ≤ hi)) = true) : lo ≤ a + b ∧ a + b ≤ hi := by
  simp only [Bool.and_eq_true, decide_eq_true_eq] at h
  omega
theorem iv_sub {a b la ua lb ub lo hi : Int} (ha : la ≤ a ∧ a ≤ ua) (hb : lb ≤ b ∧ b ≤ ub) (h : (decide (lo ≤ la - ub) && decide (ua - lb ≤ hi)) = true) : lo ≤ a - b ∧ a - b ≤ hi := by
  simp only [Bool.and_eq_true, decide_eq_true_eq] at h
  omega
theorem iv_neg {a la ua lo hi : Int} (ha : la ≤ a ∧ a ≤ ua) (h : (decide (lo ≤ -ua) && decide (-la ≤ hi)) = true) : lo ≤ -a ∧ -a ≤ hi := by
  simp only [Bool.and_eq_true, decide_eq_true_eq] at h
  omega
theorem iv_mulp {a b la ua lb ub lo hi : Int} (ha : la ≤ a ∧ a ≤ ua) (hb : lb ≤ b ∧ b ≤ ub) (h : (decide (0 ≤ la) && (decide (0 ≤ lb) && (decide (lo ≤ la * lb) && decide (ua * ub ≤ hi)))) = true) : lo ≤ a * b ∧ a * b ≤ hi := by
  simp only [Bool.and_eq_true, decide_eq_true_eq] at h
  have h1 : la * lb ≤ a * b := Int.mul_le_mul ha.1 hb.1 h.2.1 (by omega)
  have h2 : a * b ≤ ua * ub := Int.mul_le_mul ha.2 hb.2 (by omega) (by omega)
  omega
theorem mul_lo {a b A B : Int} (ha : -A ≤ a ∧ a ≤ A) (hb : -B ≤ b ∧ b ≤ B) : -(A * B) ≤ a * b ∧ a * b ≤ A * B := by
  have hA : 0 ≤ A := by omega
  have hB : 0 ≤ B := by omega
  have h1 : a.natAbs ≤ A.natAbs := by omega
  have h2 : b.natAbs ≤ B.natAbs := by omega
  have h3 : (a * b).natAbs ≤ (A * B).natAbs := by
    rw [Int.natAbs_mul, Int.natAbs_mul]
    exact Nat.mul_le_mul h1 h2
  have h4 : 0 ≤ A * B := Int.mul_nonneg hA hB
  omega
theorem iv_mul {a b la ua lb ub lo hi : Int} (A B : Int) (ha : la ≤ a ∧ a ≤ ua) (hb : lb ≤ b ∧ b ≤ ub) (h : (decide (-A ≤ la) && (decide (ua ≤ A) && (decide (-B ≤ lb) && (decide (ub ≤ B) && (decide (lo ≤ -(A * B)) && decide (A * B ≤ hi)))))) = true) : lo ≤ a * b ∧ a * b ≤ hi := by
  simp only [Bool.and_eq_true, decide_eq_true_eq] at h
  have h1 := mul_lo (a := a) (b := b) (A := A) (B := B) (by omega) (by omega)
  omega
theorem iv_div {a b la ua lo hi : Int} (ha : la ≤ a ∧ a ≤ ua) (hb : 0 < b) (h : (decide (0 ≤ la) && (decide (lo ≤ 0) && decide (ua ≤ hi))) = true) : lo ≤ a / b ∧ a / b ≤ hi := by
  simp only [Bool.and_eq_true, decide_eq_true_eq] at h
  have h1 : 0 ≤ a / b := Int.ediv_nonneg (by omega) (by omega)
  have h2 : a / b ≤ a := Int.ediv_le_self b (by omega)
  omega
theorem iv_mod {a b lb ub lo hi : Int} (hb : lb ≤ b ∧ b ≤ ub) (h : (decide (0 < lb) && (decide (lo ≤ 0) && decide (ub - 1 ≤ hi))) = true) : lo ≤ a % b ∧ a % b ≤ hi := by
  simp only [Bool.and_eq_true, decide_eq_true_eq] at h
  have h1 := Int.emod_nonneg a (b := b) (by omega)
  have h2 := Int.emod_lt_of_pos a (b := b) (by omega)
  omega
theorem iv_tdiv {a b la ua lo hi : Int} (ha : la ≤ a ∧ a ≤ ua) (h : (decide (lo ≤ la) && (decide (lo ≤ -ua) && (decide (ua ≤ hi) && decide (-la ≤ hi)))) = true) : lo ≤ a.tdiv b ∧ a.tdiv b ≤ hi := by
  simp only [Bool.and_eq_true, decide_eq_true_eq] at h
  have h1 := Int.natAbs_tdiv_le_natAbs a b
  omega
theorem iv_tmod {a b lb ub lo hi : Int} (hb : lb ≤ b ∧ b ≤ ub) (h : (decide (0 < lb) && (decide (lo ≤ -(ub - 1)) && decide (ub - 1 ≤ hi))) = true) : lo ≤ a.tmod b ∧ a.tmod b ≤ hi := by
  simp only [Bool.and_eq_true, decide_eq_true_eq] at h
  have h1 := Int.tmod_lt_of_pos a (b := b) (by omega)
  have h2 := Int.tmod_lt_of_pos (-a) (b := b) (by omega)
  rw [Int.neg_tmod] at h2
  omega
theorem iv_i {a lo hi : Int} (ha : lo ≤ a ∧ a ≤ hi) (h : (decide (-2147483648 ≤ lo) && decide (hi ≤ 2147483647)) = true) : inI a := by
  simp only [Bool.and_eq_true, decide_eq_true_eq] at h
  omega
theorem iv_l {a lo hi : Int} (ha : lo ≤ a ∧ a ≤ hi) (h : (decide (-9223372036854775808 ≤ lo) && decide (hi ≤ 9223372036854775807)) = true) : inL a := by
  simp only [Bool.and_eq_true, decide_eq_true_eq] at h
  omega
theorem iv_pi {a lo hi : Int} (ha : lo ≤ a ∧ a ≤ hi) (h : (decide (0 < lo) && decide (hi ≤ 2147483647)) = true) : 0 < a ∧ a ≤ 2147483647 := by
  simp only [Bool.and_eq_true, decide_eq_true_eq] at h
  omega
theorem iv_pl {a lo hi : Int} (ha : lo ≤ a ∧ a ≤ hi) (h : (decide (0 < lo) && decide (hi ≤ 9223372036854775807)) = true) : 0 < a ∧ a ≤ 9223372036854775807 := by
  simp only [Bool.and_eq_true, decide_eq_true_eq] at h
  omega
theorem iv_ix {a lo hi : Int} {n : Nat} (ha : lo ≤ a ∧ a ≤ hi) (h : (decide (0 ≤ lo) && (decide (hi < (n : Int)) && decide (hi ≤ 2147483647))) = true) : 0 ≤ a ∧ a < (n : Int) ∧ inI a := by
  simp only [Bool.and_eq_true, decide_eq_true_eq] at h
  omega
theorem iv_nn {a lo hi : Int} (ha : lo ≤ a ∧ a ≤ hi) (h : decide (0 ≤ lo) = true) : 0 ≤ a := by
  simp only [decide_eq_true_eq] at h
  omega
theorem iv_gt {a lo hi : Int} (ha : lo ≤ a ∧ a ≤ hi) (h : decide (-9223372036854775808 < lo) = true) : -9223372036854775808 < a := by
  simp only [decide_eq_true_eq] at h
  omega
theorem iv_w {a la ua lo hi : Int} (ha : la ≤ a ∧ a ≤ ua) (h : (decide (lo ≤ la) && decide (ua ≤ hi)) = true) : lo ≤ a ∧ a ≤ hi := by
  simp only [Bool.and_eq_true, decide_eq_true_eq] at h
  omega
/-! rows -/
section JR
variable {p : Program} {l : Launch} {e : Env} {R : Room} {s : State} {m : MethodId} {args : Array Value} {below : List Frame} {meth : Method} {c : Code} {H : Heap} {locs : List Loc} {cells slots : Nat} {Q : State → Prop}
variable {cc : ByteArray} {nL : Nat} {Ts : List Cond} {own : String} {pc : Nat} {ls : Array Slot} {rest : List Value}
theorem j_iconst (S : CallFix p m c cc nL s args Ts own) {n : Int} (hdg : decode cc pc = .ok (.iconst n, 1)) (k : W p l e R s m args below meth c H locs cells slots Q (F0 m (pc + 1) ls (jI n :: rest))) : W p l e R s m args below meth c H locs cells slots Q (F0 m pc ls rest) := lv_iconst S.1 S.2.1 hdg rfl k
theorem j_bipush (S : CallFix p m c cc nL s args Ts own) {n : Int} (hdg : decode cc pc = .ok (.bipush n, 2)) (hv : (Int8.ofInt n).toInt32 = Int32.ofInt n) (k : W p l e R s m args below meth c H locs cells slots Q (F0 m (pc + 2) ls (jI n :: rest))) : W p l e R s m args below meth c H locs cells slots Q (F0 m pc ls rest) := lv_bipush S.1 S.2.1 hdg hv k
theorem j_sipush (S : CallFix p m c cc nL s args Ts own) {n : Int} (hdg : decode cc pc = .ok (.sipush n, 3)) (hv : (Int16.ofInt n).toInt32 = Int32.ofInt n) (k : W p l e R s m args below meth c H locs cells slots Q (F0 m (pc + 3) ls (jI n :: rest))) : W p l e R s m args below meth c H locs cells slots Q (F0 m pc ls rest) := lv_sipush S.1 S.2.1 hdg hv k
theorem j_lconst (S : CallFix p m c cc nL s args Ts own) {n : Fin 2} {a : Int} (hdg : decode cc pc = .ok (.lconst n, 1)) (hv : Int64.ofNat (n : Nat) = Int64.ofInt a) (k : W p l e R s m args below meth c H locs cells slots Q (F0 m (pc + 1) ls (jL a :: rest))) : W p l e R s m args below meth c H locs cells slots Q (F0 m pc ls rest) := lv_lconst S.1 S.2.1 hdg hv k
theorem j_ldc (S : CallFix p m c cc nL s args Ts own) {index : Nat} {v : Int32} {n : Int} (hc : (Jvm.Cond.constant own index v).before args s = true) (hv : v = Int32.ofInt n) (hdg : decode cc pc = .ok (.ldc index, 2)) (k : W p l e R s m args below meth c H locs cells slots Q (F0 m (pc + 2) ls (jI n :: rest))) : W p l e R s m args below meth c H locs cells slots Q (F0 m pc ls rest) := by
  subst hv
  exact lv_ldc S.1 S.2.1 S.2.2.2.1 hc hdg k
theorem j_ldc2 (S : CallFix p m c cc nL s args Ts own) {index : Nat} {v : Int64} {n : Int} (hc : (Jvm.Cond.constantLong own index v).before args s = true) (hv : v = Int64.ofInt n) (hdg : decode cc pc = .ok (.ldc2_w index, 3)) (k : W p l e R s m args below meth c H locs cells slots Q (F0 m (pc + 3) ls (jL n :: rest))) : W p l e R s m args below meth c H locs cells slots Q (F0 m pc ls rest) := by
  subst hv
  exact lv_ldc2 S.1 S.2.1 S.2.2.2.1 hc hdg k
theorem j_iload_n (S : CallFix p m c cc nL s args Ts own) {k : Fin 4} {i : Nat} {x : Int} (hdg : decode cc pc = .ok (.iload_n k, 1)) (hi : (k : Nat) = i) (hl : ls[i]? = some (.val (jI x))) (kk : W p l e R s m args below meth c H locs cells slots Q (F0 m (pc + 1) ls (jI x :: rest))) : W p l e R s m args below meth c H locs cells slots Q (F0 m pc ls rest) := lv_iload_n S.1 S.2.1 hdg hi hl kk
theorem j_iload (S : CallFix p m c cc nL s args Ts own) {i : Nat} {x : Int} (hdg : decode cc pc = .ok (.iload i, 2)) (hl : ls[i]? = some (.val (jI x))) (kk : W p l e R s m args below meth c H locs cells slots Q (F0 m (pc + 2) ls (jI x :: rest))) : W p l e R s m args below meth c H locs cells slots Q (F0 m pc ls rest) := lv_iload S.1 S.2.1 hdg hl kk
theorem j_lload_n (S : CallFix p m c cc nL s args Ts own) {k : Fin 4} {i : Nat} {x : Int} (hdg : decode cc pc = .ok (.lload_n k, 1)) (hi : (k : Nat) = i) (hl : ls[i]? = some (.val (jL x))) (kk : W p l e R s m args below meth c H locs cells slots Q (F0 m (pc + 1) ls (jL x :: rest))) : W p l e R s m args below meth c H locs cells slots Q (F0 m pc ls rest) := lv_lload_n S.1 S.2.1 hdg hi hl kk
theorem j_lload (S : CallFix p m c cc nL s args Ts own) {i : Nat} {x : Int} (hdg : decode cc pc = .ok (.lload i, 2)) (hl : ls[i]? = some (.val (jL x))) (kk : W p l e R s m args below meth c H locs cells slots Q (F0 m (pc + 2) ls (jL x :: rest))) : W p l e R s m args below meth c H locs cells slots Q (F0 m pc ls rest) := lv_lload S.1 S.2.1 hdg hl kk
theorem j_istore_n (S : CallFix p m c cc nL s args Ts own) {k : Fin 4} {i : Nat} {x : Int} {lv lv' : List (Nat × Value)} (hdg : decode cc pc = .ok (.istore_n k, 1)) (hi : (k : Nat) = i) (h : lv_has ls nL lv) (hn : i < nL) (hl : (i, jI x) :: lv.filter (fun q => !(q.1 == i) && !(q.1 + 1 == i && q.2.category == 2)) = lv') (kk : ∀ ls' : Array Slot, lv_has ls' nL lv' → W p l e R s m args below meth c H locs cells slots Q (F0 m (pc + 1) ls' rest)) : W p l e R s m args below meth c H locs cells slots Q (F0 m pc ls (jI x :: rest)) := lv_istore_n S.1 S.2.1 hdg hi h hn hl kk
theorem j_istore (S : CallFix p m c cc nL s args Ts own) {i : Nat} {x : Int} {lv lv' : List (Nat × Value)} (hdg : decode cc pc = .ok (.istore i, 2)) (h : lv_has ls nL lv) (hn : i < nL) (hl : (i, jI x) :: lv.filter (fun q => !(q.1 == i) && !(q.1 + 1 == i && q.2.category == 2)) = lv') (kk : ∀ ls' : Array Slot, lv_has ls' nL lv' → W p l e R s m args below meth c H locs cells slots Q (F0 m (pc + 2) ls' rest)) : W p l e R s m args below meth c H locs cells slots Q (F0 m pc ls (jI x :: rest)) := lv_istore S.1 S.2.1 hdg h hn hl kk
theorem j_lstore_n (S : CallFix p m c cc nL s args Ts own) {k : Fin 4} {i : Nat} {x : Int} {lv lv' : List (Nat × Value)} (hdg : decode cc pc = .ok (.lstore_n k, 1)) (hi : (k : Nat) = i) (h : lv_has ls nL lv) (hn : i + 1 < nL) (hl : (i, jL x) :: lv.filter (fun q => !(q.1 == i) && (!(q.1 == i + 1) && !(q.1 + 1 == i && q.2.category == 2))) = lv') (kk : ∀ ls' : Array Slot, lv_has ls' nL lv' → W p l e R s m args below meth c H locs cells slots Q (F0 m (pc + 1) ls' rest)) : W p l e R s m args below meth c H locs cells slots Q (F0 m pc ls (jL x :: rest)) := lv_lstore_n S.1 S.2.1 hdg hi h hn hl kk
theorem j_lstore (S : CallFix p m c cc nL s args Ts own) {i : Nat} {x : Int} {lv lv' : List (Nat × Value)} (hdg : decode cc pc = .ok (.lstore i, 2)) (h : lv_has ls nL lv) (hn : i + 1 < nL) (hl : (i, jL x) :: lv.filter (fun q => !(q.1 == i) && (!(q.1 == i + 1) && !(q.1 + 1 == i && q.2.category == 2))) = lv') (kk : ∀ ls' : Array Slot, lv_has ls' nL lv' → W p l e R s m args below meth c H locs cells slots Q (F0 m (pc + 2) ls' rest)) : W p l e R s m args below meth c H locs cells slots Q (F0 m pc ls (jL x :: rest)) := lv_lstore S.1 S.2.1 hdg h hn hl kk
theorem j_iinc (S : CallFix p m c cc nL s args Ts own) {i k : Nat} {n x y : Int} {lv lv' : List (Nat × Value)} (hdg : decode cc pc = .ok (.iinc i n, 3)) (h : lv_has ls nL lv) (hk : lv[k]? = some (i, jI x)) (hy : x + n = y) (hn : i < nL) (hl : (i, jI y) :: lv.filter (fun q => !(q.1 == i) && !(q.1 + 1 == i && q.2.category == 2)) = lv') (kk : ∀ ls' : Array Slot, lv_has ls' nL lv' → W p l e R s m args below meth c H locs cells slots Q (F0 m (pc + 3) ls' rest)) : W p l e R s m args below meth c H locs cells slots Q (F0 m pc ls rest) := lv_iinc S.1 S.2.1 hdg h hk (by rw [← hy, Int32.ofInt_add]) hn hl kk
theorem j_iadd (S : CallFix p m c cc nL s args Ts own) {a b : Int} (hdg : decode cc pc = .ok (.iadd, 1)) (k : W p l e R s m args below meth c H locs cells slots Q (F0 m (pc + 1) ls (jI (a + b) :: rest))) : W p l e R s m args below meth c H locs cells slots Q (F0 m pc ls (jI b :: jI a :: rest)) := lv_iadd S.1 S.2.1 hdg (by rw [← Int32.ofInt_add]; exact k)
theorem j_ladd (S : CallFix p m c cc nL s args Ts own) {a b : Int} (hdg : decode cc pc = .ok (.ladd, 1)) (k : W p l e R s m args below meth c H locs cells slots Q (F0 m (pc + 1) ls (jL (a + b) :: rest))) : W p l e R s m args below meth c H locs cells slots Q (F0 m pc ls (jL b :: jL a :: rest)) := lv_ladd S.1 S.2.1 hdg (by rw [← Int64.ofInt_add]; exact k)
theorem j_isub (S : CallFix p m c cc nL s args Ts own) {a b : Int} (hdg : decode cc pc = .ok (.isub, 1)) (k : W p l e R s m args below meth c H locs cells slots Q (F0 m (pc + 1) ls (jI (a - b) :: rest))) : W p l e R s m args below meth c H locs cells slots Q (F0 m pc ls (jI b :: jI a :: rest)) := lv_isub S.1 S.2.1 hdg (by rw [← Int32.ofInt_sub]; exact k)
theorem j_lsub (S : CallFix p m c cc nL s args Ts own) {a b : Int} (hdg : decode cc pc = .ok (.lsub, 1)) (k : W p l e R s m args below meth c H locs cells slots Q (F0 m (pc + 1) ls (jL (a - b) :: rest))) : W p l e R s m args below meth c H locs cells slots Q (F0 m pc ls (jL b :: jL a :: rest)) := lv_lsub S.1 S.2.1 hdg (by rw [← Int64.ofInt_sub]; exact k)
theorem j_imul (S : CallFix p m c cc nL s args Ts own) {a b : Int} (hdg : decode cc pc = .ok (.imul, 1)) (k : W p l e R s m args below meth c H locs cells slots Q (F0 m (pc + 1) ls (jI (a * b) :: rest))) : W p l e R s m args below meth c H locs cells slots Q (F0 m pc ls (jI b :: jI a :: rest)) := lv_imul S.1 S.2.1 hdg (by rw [← Int32.ofInt_mul]; exact k)
theorem j_lmul (S : CallFix p m c cc nL s args Ts own) {a b : Int} (hdg : decode cc pc = .ok (.lmul, 1)) (k : W p l e R s m args below meth c H locs cells slots Q (F0 m (pc + 1) ls (jL (a * b) :: rest))) : W p l e R s m args below meth c H locs cells slots Q (F0 m pc ls (jL b :: jL a :: rest)) := lv_lmul S.1 S.2.1 hdg (by rw [← Int64.ofInt_mul]; exact k)
theorem j_ineg (S : CallFix p m c cc nL s args Ts own) {a : Int} (hdg : decode cc pc = .ok (.ineg, 1)) (k : W p l e R s m args below meth c H locs cells slots Q (F0 m (pc + 1) ls (jI (-a) :: rest))) : W p l e R s m args below meth c H locs cells slots Q (F0 m pc ls (jI a :: rest)) := lv_ineg S.1 S.2.1 hdg (by rw [← Int32.ofInt_neg]; exact k)
theorem j_lneg (S : CallFix p m c cc nL s args Ts own) {a : Int} (hdg : decode cc pc = .ok (.lneg, 1)) (k : W p l e R s m args below meth c H locs cells slots Q (F0 m (pc + 1) ls (jL (-a) :: rest))) : W p l e R s m args below meth c H locs cells slots Q (F0 m pc ls (jL a :: rest)) := lv_lneg S.1 S.2.1 hdg (by rw [← Int64.ofInt_neg]; exact k)
theorem j_idiv (S : CallFix p m c cc nL s args Ts own) {a b : Int} (hdg : decode cc pc = .ok (.idiv, 1)) (ha : inI a) (hb : 0 < b ∧ b ≤ 2147483647) (k : W p l e R s m args below meth c H locs cells slots Q (F0 m (pc + 1) ls (jI (a.tdiv b) :: rest))) : W p l e R s m args below meth c H locs cells slots Q (F0 m pc ls (jI b :: jI a :: rest)) := lv_idiv S.1 S.2.1 hdg (oI_ne hb) (by rw [oI_div ha hb]; exact k)
theorem j_idivp (S : CallFix p m c cc nL s args Ts own) {a b : Int} (hdg : decode cc pc = .ok (.idiv, 1)) (ha : inI a) (hb : 0 < b ∧ b ≤ 2147483647) (h0 : 0 ≤ a) (k : W p l e R s m args below meth c H locs cells slots Q (F0 m (pc + 1) ls (jI (a / b) :: rest))) : W p l e R s m args below meth c H locs cells slots Q (F0 m pc ls (jI b :: jI a :: rest)) := j_idiv S hdg ha hb (by rw [Int.tdiv_eq_ediv_of_nonneg h0]; exact k)
theorem j_irem (S : CallFix p m c cc nL s args Ts own) {a b : Int} (hdg : decode cc pc = .ok (.irem, 1)) (ha : inI a) (hb : 0 < b ∧ b ≤ 2147483647) (k : W p l e R s m args below meth c H locs cells slots Q (F0 m (pc + 1) ls (jI (a.tmod b) :: rest))) : W p l e R s m args below meth c H locs cells slots Q (F0 m pc ls (jI b :: jI a :: rest)) := lv_irem S.1 S.2.1 hdg (oI_ne hb) (by rw [oI_rem ha hb]; exact k)
theorem j_iremp (S : CallFix p m c cc nL s args Ts own) {a b : Int} (hdg : decode cc pc = .ok (.irem, 1)) (ha : inI a) (hb : 0 < b ∧ b ≤ 2147483647) (h0 : 0 ≤ a) (k : W p l e R s m args below meth c H locs cells slots Q (F0 m (pc + 1) ls (jI (a % b) :: rest))) : W p l e R s m args below meth c H locs cells slots Q (F0 m pc ls (jI b :: jI a :: rest)) := j_irem S hdg ha hb (by rw [Int.tmod_eq_emod_of_nonneg h0]; exact k)
theorem j_ldiv (S : CallFix p m c cc nL s args Ts own) {a b : Int} (hdg : decode cc pc = .ok (.ldiv, 1)) (ha : inL a) (hb : 0 < b ∧ b ≤ 9223372036854775807) (h2 : -9223372036854775808 < a) (k : W p l e R s m args below meth c H locs cells slots Q (F0 m (pc + 1) ls (jL (a.tdiv b) :: rest))) : W p l e R s m args below meth c H locs cells slots Q (F0 m pc ls (jL b :: jL a :: rest)) := lv_ldiv S.1 S.2.1 hdg (oL_ne hb) (by rw [oL_div ha hb h2]; exact k)
theorem j_ldivp (S : CallFix p m c cc nL s args Ts own) {a b : Int} (hdg : decode cc pc = .ok (.ldiv, 1)) (ha : inL a) (hb : 0 < b ∧ b ≤ 9223372036854775807) (h0 : 0 ≤ a) (k : W p l e R s m args below meth c H locs cells slots Q (F0 m (pc + 1) ls (jL (a / b) :: rest))) : W p l e R s m args below meth c H locs cells slots Q (F0 m pc ls (jL b :: jL a :: rest)) := j_ldiv S hdg ha hb (by omega) (by rw [Int.tdiv_eq_ediv_of_nonneg h0]; exact k)
theorem j_lrem (S : CallFix p m c cc nL s args Ts own) {a b : Int} (hdg : decode cc pc = .ok (.lrem, 1)) (ha : inL a) (hb : 0 < b ∧ b ≤ 9223372036854775807) (h2 : -9223372036854775808 < a) (k : W p l e R s m args below meth c H locs cells slots Q (F0 m (pc + 1) ls (jL (a.tmod b) :: rest))) : W p l e R s m args below meth c H locs cells slots Q (F0 m pc ls (jL b :: jL a :: rest)) := lv_lrem S.1 S.2.1 hdg (oL_ne hb) (by rw [oL_rem ha hb h2]; exact k)
theorem j_lremp (S : CallFix p m c cc nL s args Ts own) {a b : Int} (hdg : decode cc pc = .ok (.lrem, 1)) (ha : inL a) (hb : 0 < b ∧ b ≤ 9223372036854775807) (h0 : 0 ≤ a) (k : W p l e R s m args below meth c H locs cells slots Q (F0 m (pc + 1) ls (jL (a % b) :: rest))) : W p l e R s m args below meth c H locs cells slots Q (F0 m pc ls (jL b :: jL a :: rest)) := j_lrem S hdg ha hb (by omega) (by rw [Int.tmod_eq_emod_of_nonneg h0]; exact k)
theorem j_i2l (S : CallFix p m c cc nL s args Ts own) {a : Int} (hdg : decode cc pc = .ok (.i2l, 1)) (ha : inI a) (k : W p l e R s m args below meth c H locs cells slots Q (F0 m (pc + 1) ls (jL a :: rest))) : W p l e R s m args below meth c H locs cells slots Q (F0 m pc ls (jI a :: rest)) := lv_i2l S.1 S.2.1 hdg (o_i2l ha) k
theorem j_l2i (S : CallFix p m c cc nL s args Ts own) {a : Int} (hdg : decode cc pc = .ok (.l2i, 1)) (k : W p l e R s m args below meth c H locs cells slots Q (F0 m (pc + 1) ls (jI a :: rest))) : W p l e R s m args below meth c H locs cells slots Q (F0 m pc ls (jL a :: rest)) := lv_l2i S.1 S.2.1 hdg Int64.toInt32_ofInt k
theorem j_goto (S : CallFix p m c cc nL s args Ts own) {off : Int} {tgt : Nat} (hdg : decode cc pc = .ok (.goto off, 3)) (ht : (pc : Int) + off = (tgt : Int)) (k : W p l e R s m args below meth c H locs cells slots Q (F0 m tgt ls rest)) : W p l e R s m args below meth c H locs cells slots Q (F0 m pc ls rest) := lv_goto S.1 S.2.1 hdg ht k
theorem j_as {a b : Int} (h : a = b) (k : W p l e R s m args below meth c H locs cells slots Q (F0 m pc ls (jI b :: rest))) : W p l e R s m args below meth c H locs cells slots Q (F0 m pc ls (jI a :: rest)) := h ▸ k
theorem j_asl {a b : Int} (h : a = b) (k : W p l e R s m args below meth c H locs cells slots Q (F0 m pc ls (jL b :: rest))) : W p l e R s m args below meth c H locs cells slots Q (F0 m pc ls (jL a :: rest)) := h ▸ k
theorem j_icmp_eq (S : CallFix p m c cc nL s args Ts own) {a b off : Int} {tgt : Nat} (hdg : decode cc pc = .ok (.if_icmp .eq off, 3)) (ht : (pc : Int) + off = (tgt : Int)) (ha : inI a) (hb : inI b) (kt : a = b → W p l e R s m args below meth c H locs cells slots Q (F0 m tgt ls rest)) (kf : ¬ a = b → W p l e R s m args below meth c H locs cells slots Q (F0 m (pc + 3) ls rest)) : W p l e R s m args below meth c H locs cells slots Q (F0 m pc ls (jI b :: jI a :: rest)) := lv_icmp_eq S.1 S.2.1 hdg ht (fun h => kt ((oI_inj ha hb).mp h)) (fun h => kf (fun q => h ((oI_inj ha hb).mpr q)))
theorem j_if_eq (S : CallFix p m c cc nL s args Ts own) {a off : Int} {tgt : Nat} (hdg : decode cc pc = .ok (.ifCond .eq off, 3)) (ht : (pc : Int) + off = (tgt : Int)) (ha : inI a) (kt : a = 0 → W p l e R s m args below meth c H locs cells slots Q (F0 m tgt ls rest)) (kf : ¬ a = 0 → W p l e R s m args below meth c H locs cells slots Q (F0 m (pc + 3) ls rest)) : W p l e R s m args below meth c H locs cells slots Q (F0 m pc ls (jI a :: rest)) := by
  have hb : inI 0 := in0
  refine lv_if_eq S.1 S.2.1 hdg ht ?_ ?_ <;> rw [oI_zero]
  · exact (fun h => kt ((oI_inj ha hb).mp h))
  · exact (fun h => kf (fun q => h ((oI_inj ha hb).mpr q)))
theorem j_icmp_ne (S : CallFix p m c cc nL s args Ts own) {a b off : Int} {tgt : Nat} (hdg : decode cc pc = .ok (.if_icmp .ne off, 3)) (ht : (pc : Int) + off = (tgt : Int)) (ha : inI a) (hb : inI b) (kt : ¬ a = b → W p l e R s m args below meth c H locs cells slots Q (F0 m tgt ls rest)) (kf : a = b → W p l e R s m args below meth c H locs cells slots Q (F0 m (pc + 3) ls rest)) : W p l e R s m args below meth c H locs cells slots Q (F0 m pc ls (jI b :: jI a :: rest)) := lv_icmp_ne S.1 S.2.1 hdg ht (fun h => kt (fun q => h ((oI_inj ha hb).mpr q))) (fun h => kf ((oI_inj ha hb).mp h))
theorem j_if_ne (S : CallFix p m c cc nL s args Ts own) {a off : Int} {tgt : Nat} (hdg : decode cc pc = .ok (.ifCond .ne off, 3)) (ht : (pc : Int) + off = (tgt : Int)) (ha : inI a) (kt : ¬ a = 0 → W p l e R s m args below meth c H locs cells slots Q (F0 m tgt ls rest)) (kf : a = 0 → W p l e R s m args below meth c H locs cells slots Q (F0 m (pc + 3) ls rest)) : W p l e R s m args below meth c H locs cells slots Q (F0 m pc ls (jI a :: rest)) := by
  have hb : inI 0 := in0
  refine lv_if_ne S.1 S.2.1 hdg ht ?_ ?_ <;> rw [oI_zero]
  · exact (fun h => kt (fun q => h ((oI_inj ha hb).mpr q)))
  · exact (fun h => kf ((oI_inj ha hb).mp h))
theorem j_icmp_lt (S : CallFix p m c cc nL s args Ts own) {a b off : Int} {tgt : Nat} (hdg : decode cc pc = .ok (.if_icmp .lt off, 3)) (ht : (pc : Int) + off = (tgt : Int)) (ha : inI a) (hb : inI b) (kt : a < b → W p l e R s m args below meth c H locs cells slots Q (F0 m tgt ls rest)) (kf : b ≤ a → W p l e R s m args below meth c H locs cells slots Q (F0 m (pc + 3) ls rest)) : W p l e R s m args below meth c H locs cells slots Q (F0 m pc ls (jI b :: jI a :: rest)) := lv_icmp_lt S.1 S.2.1 hdg ht (fun h => kt ((oI_lt ha hb).mp h)) (fun h => kf (Int.not_lt.mp (fun q => h ((oI_lt ha hb).mpr q))))
theorem j_if_lt (S : CallFix p m c cc nL s args Ts own) {a off : Int} {tgt : Nat} (hdg : decode cc pc = .ok (.ifCond .lt off, 3)) (ht : (pc : Int) + off = (tgt : Int)) (ha : inI a) (kt : a < 0 → W p l e R s m args below meth c H locs cells slots Q (F0 m tgt ls rest)) (kf : 0 ≤ a → W p l e R s m args below meth c H locs cells slots Q (F0 m (pc + 3) ls rest)) : W p l e R s m args below meth c H locs cells slots Q (F0 m pc ls (jI a :: rest)) := by
  have hb : inI 0 := in0
  refine lv_if_lt S.1 S.2.1 hdg ht ?_ ?_ <;> rw [oI_zero]
  · exact (fun h => kt ((oI_lt ha hb).mp h))
  · exact (fun h => kf (Int.not_lt.mp (fun q => h ((oI_lt ha hb).mpr q))))
theorem j_icmp_ge (S : CallFix p m c cc nL s args Ts own) {a b off : Int} {tgt : Nat} (hdg : decode cc pc = .ok (.if_icmp .ge off, 3)) (ht : (pc : Int) + off = (tgt : Int)) (ha : inI a) (hb : inI b) (kt : b ≤ a → W p l e R s m args below meth c H locs cells slots Q (F0 m tgt ls rest)) (kf : a < b → W p l e R s m args below meth c H locs cells slots Q (F0 m (pc + 3) ls rest)) : W p l e R s m args below meth c H locs cells slots Q (F0 m pc ls (jI b :: jI a :: rest)) := lv_icmp_ge S.1 S.2.1 hdg ht (fun h => kt ((oI_le hb ha).mp h)) (fun h => kf (Int.not_le.mp (fun q => h ((oI_le hb ha).mpr q))))
theorem j_if_ge (S : CallFix p m c cc nL s args Ts own) {a off : Int} {tgt : Nat} (hdg : decode cc pc = .ok (.ifCond .ge off, 3)) (ht : (pc : Int) + off = (tgt : Int)) (ha : inI a) (kt : 0 ≤ a → W p l e R s m args below meth c H locs cells slots Q (F0 m tgt ls rest)) (kf : a < 0 → W p l e R s m args below meth c H locs cells slots Q (F0 m (pc + 3) ls rest)) : W p l e R s m args below meth c H locs cells slots Q (F0 m pc ls (jI a :: rest)) := by
  have hb : inI 0 := in0
  refine lv_if_ge S.1 S.2.1 hdg ht ?_ ?_ <;> rw [oI_zero]
  · exact (fun h => kt ((oI_le hb ha).mp h))
  · exact (fun h => kf (Int.not_le.mp (fun q => h ((oI_le hb ha).mpr q))))
theorem j_icmp_gt (S : CallFix p m c cc nL s args Ts own) {a b off : Int} {tgt : Nat} (hdg : decode cc pc = .ok (.if_icmp .gt off, 3)) (ht : (pc : Int) + off = (tgt : Int)) (ha : inI a) (hb : inI b) (kt : b < a → W p l e R s m args below meth c H locs cells slots Q (F0 m tgt ls rest)) (kf : a ≤ b → W p l e R s m args below meth c H locs cells slots Q (F0 m (pc + 3) ls rest)) : W p l e R s m args below meth c H locs cells slots Q (F0 m pc ls (jI b :: jI a :: rest)) := lv_icmp_gt S.1 S.2.1 hdg ht (fun h => kt ((oI_lt hb ha).mp h)) (fun h => kf (Int.not_lt.mp (fun q => h ((oI_lt hb ha).mpr q))))
theorem j_if_gt (S : CallFix p m c cc nL s args Ts own) {a off : Int} {tgt : Nat} (hdg : decode cc pc = .ok (.ifCond .gt off, 3)) (ht : (pc : Int) + off = (tgt : Int)) (ha : inI a) (kt : 0 < a → W p l e R s m args below meth c H locs cells slots Q (F0 m tgt ls rest)) (kf : a ≤ 0 → W p l e R s m args below meth c H locs cells slots Q (F0 m (pc + 3) ls rest)) : W p l e R s m args below meth c H locs cells slots Q (F0 m pc ls (jI a :: rest)) := by
  have hb : inI 0 := in0
  refine lv_if_gt S.1 S.2.1 hdg ht ?_ ?_ <;> rw [oI_zero]
  · exact (fun h => kt ((oI_lt hb ha).mp h))
  · exact (fun h => kf (Int.not_lt.mp (fun q => h ((oI_lt hb ha).mpr q))))
theorem j_icmp_le (S : CallFix p m c cc nL s args Ts own) {a b off : Int} {tgt : Nat} (hdg : decode cc pc = .ok (.if_icmp .le off, 3)) (ht : (pc : Int) + off = (tgt : Int)) (ha : inI a) (hb : inI b) (kt : a ≤ b → W p l e R s m args below meth c H locs cells slots Q (F0 m tgt ls rest)) (kf : b < a → W p l e R s m args below meth c H locs cells slots Q (F0 m (pc + 3) ls rest)) : W p l e R s m args below meth c H locs cells slots Q (F0 m pc ls (jI b :: jI a :: rest)) := lv_icmp_le S.1 S.2.1 hdg ht (fun h => kt ((oI_le ha hb).mp h)) (fun h => kf (Int.not_le.mp (fun q => h ((oI_le ha hb).mpr q))))
theorem j_if_le (S : CallFix p m c cc nL s args Ts own) {a off : Int} {tgt : Nat} (hdg : decode cc pc = .ok (.ifCond .le off, 3)) (ht : (pc : Int) + off = (tgt : Int)) (ha : inI a) (kt : a ≤ 0 → W p l e R s m args below meth c H locs cells slots Q (F0 m tgt ls rest)) (kf : 0 < a → W p l e R s m args below meth c H locs cells slots Q (F0 m (pc + 3) ls rest)) : W p l e R s m args below meth c H locs cells slots Q (F0 m pc ls (jI a :: rest)) := by
  have hb : inI 0 := in0
  refine lv_if_le S.1 S.2.1 hdg ht ?_ ?_ <;> rw [oI_zero]
  · exact (fun h => kt ((oI_le ha hb).mp h))
  · exact (fun h => kf (Int.not_le.mp (fun q => h ((oI_le ha hb).mpr q))))
theorem j_ifb_eq (S : CallFix p m c cc nL s args Ts own) {P : Prop} {off : Int} {tgt : Nat} (hdg : decode cc pc = .ok (.ifCond .eq off, 3)) (ht : (pc : Int) + off = (tgt : Int)) (kt : ¬ P → W p l e R s m args below meth c H locs cells slots Q (F0 m tgt ls rest)) (kf : P → W p l e R s m args below meth c H locs cells slots Q (F0 m (pc + 3) ls rest)) : W p l e R s m args below meth c H locs cells slots Q (F0 m pc ls (jI (bI P) :: rest)) := by
  rcases @bI_c P with ⟨e, h⟩ | ⟨e, h⟩ <;> rw [e]
  · exact j_if_eq S hdg ht (by decide) (fun q => absurd q (by decide)) (fun _ => kf h)
  · exact j_if_eq S hdg ht (by decide) (fun _ => kt h) (fun q => absurd rfl q)
theorem j_ifb_ne (S : CallFix p m c cc nL s args Ts own) {P : Prop} {off : Int} {tgt : Nat} (hdg : decode cc pc = .ok (.ifCond .ne off, 3)) (ht : (pc : Int) + off = (tgt : Int)) (kt : P → W p l e R s m args below meth c H locs cells slots Q (F0 m tgt ls rest)) (kf : ¬ P → W p l e R s m args below meth c H locs cells slots Q (F0 m (pc + 3) ls rest)) : W p l e R s m args below meth c H locs cells slots Q (F0 m pc ls (jI (bI P) :: rest)) := by
  rcases @bI_c P with ⟨e, h⟩ | ⟨e, h⟩ <;> rw [e]
  · exact j_if_ne S hdg ht (by decide) (fun _ => kt h) (fun q => absurd q (by decide))
  · exact j_if_ne S hdg ht (by decide) (fun q => absurd rfl q) (fun _ => kf h)
theorem lc_gt {a b : Int} (ha : inL a) (hb : inL b) (h : b < a) : lg_cmp (Int64.ofInt a) (Int64.ofInt b) = Int32.ofInt 1 := by
  unfold lg_cmp
  rw [if_pos ((oL_lt hb ha).mpr h)]
  rfl
theorem lc_eq {a b : Int} (h : a = b) : lg_cmp (Int64.ofInt a) (Int64.ofInt b) = Int32.ofInt 0 := by
  subst h
  unfold lg_cmp
  rw [if_neg (by rw [gt_iff_lt, Int64.lt_iff_toInt_lt]; omega), if_pos rfl]
  rfl
theorem lc_lt {a b : Int} (ha : inL a) (hb : inL b) (h : a < b) : lg_cmp (Int64.ofInt a) (Int64.ofInt b) = Int32.ofInt (-1) := by
  unfold lg_cmp
  rw [if_neg (by rw [gt_iff_lt, oL_lt hb ha]; omega), if_neg (by rw [oL_inj ha hb]; omega)]
  rfl
theorem j_lcmp_eq (S : CallFix p m c cc nL s args Ts own) {a b off : Int} {tgt pc1 : Nat} (hpc : pc + 1 = pc1) (hdg : decode cc pc = .ok (.lcmp, 1)) (hdg2 : decode cc pc1 = .ok (.ifCond .eq off, 3)) (ht : (pc1 : Int) + off = (tgt : Int)) (ha : inL a) (hb : inL b) (kt : a = b → W p l e R s m args below meth c H locs cells slots Q (F0 m tgt ls rest)) (kf : ¬ a = b → W p l e R s m args below meth c H locs cells slots Q (F0 m (pc1 + 3) ls rest)) : W p l e R s m args below meth c H locs cells slots Q (F0 m pc ls (jL b :: jL a :: rest)) := by
  subst hpc
  refine W.lcmp S.1 S.2.1 hdg ?_
  rcases Int.lt_trichotomy a b with h | h | h
  · rw [lc_lt ha hb h]
    exact j_if_eq (a := -1) S hdg2 ht (by decide) (fun q => kt (by omega)) (fun q => kf (by omega))
  · rw [lc_eq h]
    exact j_if_eq (a := 0) S hdg2 ht (by decide) (fun q => kt (by omega)) (fun q => kf (by omega))
  · rw [lc_gt ha hb h]
    exact j_if_eq (a := 1) S hdg2 ht (by decide) (fun q => kt (by omega)) (fun q => kf (by omega))
theorem j_lcmp_ne (S : CallFix p m c cc nL s args Ts own) {a b off : Int} {tgt pc1 : Nat} (hpc : pc + 1 = pc1) (hdg : decode cc pc = .ok (.lcmp, 1)) (hdg2 : decode cc pc1 = .ok (.ifCond .ne off, 3)) (ht : (pc1 : Int) + off = (tgt : Int)) (ha : inL a) (hb : inL b) (kt : ¬ a = b → W p l e R s m args below meth c H locs cells slots Q (F0 m tgt ls rest)) (kf : a = b → W p l e R s m args below meth c H locs cells slots Q (F0 m (pc1 + 3) ls rest)) : W p l e R s m args below meth c H locs cells slots Q (F0 m pc ls (jL b :: jL a :: rest)) := by
  subst hpc
  refine W.lcmp S.1 S.2.1 hdg ?_
  rcases Int.lt_trichotomy a b with h | h | h
  · rw [lc_lt ha hb h]
    exact j_if_ne (a := -1) S hdg2 ht (by decide) (fun q => kt (by omega)) (fun q => kf (by omega))
  · rw [lc_eq h]
    exact j_if_ne (a := 0) S hdg2 ht (by decide) (fun q => kt (by omega)) (fun q => kf (by omega))
  · rw [lc_gt ha hb h]
    exact j_if_ne (a := 1) S hdg2 ht (by decide) (fun q => kt (by omega)) (fun q => kf (by omega))
theorem j_lcmp_lt (S : CallFix p m c cc nL s args Ts own) {a b off : Int} {tgt pc1 : Nat} (hpc : pc + 1 = pc1) (hdg : decode cc pc = .ok (.lcmp, 1)) (hdg2 : decode cc pc1 = .ok (.ifCond .lt off, 3)) (ht : (pc1 : Int) + off = (tgt : Int)) (ha : inL a) (hb : inL b) (kt : a < b → W p l e R s m args below meth c H locs cells slots Q (F0 m tgt ls rest)) (kf : b ≤ a → W p l e R s m args below meth c H locs cells slots Q (F0 m (pc1 + 3) ls rest)) : W p l e R s m args below meth c H locs cells slots Q (F0 m pc ls (jL b :: jL a :: rest)) := by
  subst hpc
  refine W.lcmp S.1 S.2.1 hdg ?_
  rcases Int.lt_trichotomy a b with h | h | h
  · rw [lc_lt ha hb h]
    exact j_if_lt (a := -1) S hdg2 ht (by decide) (fun q => kt (by omega)) (fun q => kf (by omega))
  · rw [lc_eq h]
    exact j_if_lt (a := 0) S hdg2 ht (by decide) (fun q => kt (by omega)) (fun q => kf (by omega))
  · rw [lc_gt ha hb h]
    exact j_if_lt (a := 1) S hdg2 ht (by decide) (fun q => kt (by omega)) (fun q => kf (by omega))
theorem j_lcmp_ge (S : CallFix p m c cc nL s args Ts own) {a b off : Int} {tgt pc1 : Nat} (hpc : pc + 1 = pc1) (hdg : decode cc pc = .ok (.lcmp, 1)) (hdg2 : decode cc pc1 = .ok (.ifCond .ge off, 3)) (ht : (pc1 : Int) + off = (tgt : Int)) (ha : inL a) (hb : inL b) (kt : b ≤ a → W p l e R s m args below meth c H locs cells slots Q (F0 m tgt ls rest)) (kf : a < b → W p l e R s m args below meth c H locs cells slots Q (F0 m (pc1 + 3) ls rest)) : W p l e R s m args below meth c H locs cells slots Q (F0 m pc ls (jL b :: jL a :: rest)) := by
  subst hpc
  refine W.lcmp S.1 S.2.1 hdg ?_
  rcases Int.lt_trichotomy a b with h | h | h
  · rw [lc_lt ha hb h]
    exact j_if_ge (a := -1) S hdg2 ht (by decide) (fun q => kt (by omega)) (fun q => kf (by omega))
  · rw [lc_eq h]
    exact j_if_ge (a := 0) S hdg2 ht (by decide) (fun q => kt (by omega)) (fun q => kf (by omega))
  · rw [lc_gt ha hb h]
    exact j_if_ge (a := 1) S hdg2 ht (by decide) (fun q => kt (by omega)) (fun q => kf (by omega))
theorem j_lcmp_gt (S : CallFix p m c cc nL s args Ts own) {a b off : Int} {tgt pc1 : Nat} (hpc : pc + 1 = pc1) (hdg : decode cc pc = .ok (.lcmp, 1)) (hdg2 : decode cc pc1 = .ok (.ifCond .gt off, 3)) (ht : (pc1 : Int) + off = (tgt : Int)) (ha : inL a) (hb : inL b) (kt : b < a → W p l e R s m args below meth c H locs cells slots Q (F0 m tgt ls rest)) (kf : a ≤ b → W p l e R s m args below meth c H locs cells slots Q (F0 m (pc1 + 3) ls rest)) : W p l e R s m args below meth c H locs cells slots Q (F0 m pc ls (jL b :: jL a :: rest)) := by
  subst hpc
  refine W.lcmp S.1 S.2.1 hdg ?_
  rcases Int.lt_trichotomy a b with h | h | h
  · rw [lc_lt ha hb h]
    exact j_if_gt (a := -1) S hdg2 ht (by decide) (fun q => kt (by omega)) (fun q => kf (by omega))
  · rw [lc_eq h]
    exact j_if_gt (a := 0) S hdg2 ht (by decide) (fun q => kt (by omega)) (fun q => kf (by omega))
  · rw [lc_gt ha hb h]
    exact j_if_gt (a := 1) S hdg2 ht (by decide) (fun q => kt (by omega)) (fun q => kf (by omega))
theorem j_lcmp_le (S : CallFix p m c cc nL s args Ts own) {a b off : Int} {tgt pc1 : Nat} (hpc : pc + 1 = pc1) (hdg : decode cc pc = .ok (.lcmp, 1)) (hdg2 : decode cc pc1 = .ok (.ifCond .le off, 3)) (ht : (pc1 : Int) + off = (tgt : Int)) (ha : inL a) (hb : inL b) (kt : a ≤ b → W p l e R s m args below meth c H locs cells slots Q (F0 m tgt ls rest)) (kf : b < a → W p l e R s m args below meth c H locs cells slots Q (F0 m (pc1 + 3) ls rest)) : W p l e R s m args below meth c H locs cells slots Q (F0 m pc ls (jL b :: jL a :: rest)) := by
  subst hpc
  refine W.lcmp S.1 S.2.1 hdg ?_
  rcases Int.lt_trichotomy a b with h | h | h
  · rw [lc_lt ha hb h]
    exact j_if_le (a := -1) S hdg2 ht (by decide) (fun q => kt (by omega)) (fun q => kf (by omega))
  · rw [lc_eq h]
    exact j_if_le (a := 0) S hdg2 ht (by decide) (fun q => kt (by omega)) (fun q => kf (by omega))
  · rw [lc_gt ha hb h]
    exact j_if_le (a := 1) S hdg2 ht (by decide) (fun q => kt (by omega)) (fun q => kf (by omega))
theorem j_iald (S : CallFix p m c cc nL s args Ts own) {D : va_G} {cl : List vw_C} {tys : List (ClassId × FieldType)} {ws : va_W} {a : Nat} (hK : va_K D cl tys s) (hP : va_P D cl ws H) (q0 t0 : Nat) {cA : ClassId} {n : Nat} {f : Int → Int} (ha : ws[q0]? = some (a, .inl (cA, n, .inl (jF f)))) (ht : tys[t0]? = some (cA, .int)) {i : Int} (hin : 0 ≤ i ∧ i < (n : Int) ∧ inI i) (hdg : decode cc pc = .ok (.iaload, 1)) (kk : W p l e R s m args below meth c H locs cells slots Q (F0 m (pc + 1) ls (jI (f i) :: rest))) : W p l e R s m args below meth c H locs cells slots Q (F0 m pc ls (jI i :: .ref a :: rest)) := by
  refine va_iald S.1 S.2.1 hK hP q0 t0 ha ht (o_in ⟨hin.1, hin.2.1⟩ hin.2.2) hdg ?_
  rw [jF_at hin.1 hin.2.2]
  exact kk
theorem j_iast (S : CallFix p m c cc nL s args Ts own) {D : va_G} {cl : List vw_C} {A : Nat → Prop} {tys : List (ClassId × FieldType)} {ws ws1 : va_W} {H0 : Heap} {a : Nat} (hK : va_K D cl tys s) (hP : va_P D cl ws H) (hD : va_D A ws) (hS : va_S A H0 H locs) (q0 t0 : Nat) {cA : ClassId} {n : Nat} {f : Int → Int} (ha : ws[q0]? = some (a, .inl (cA, n, .inl (jF f)))) (ht : tys[t0]? = some (cA, .int)) {i x : Int} (hin : 0 ≤ i ∧ i < (n : Int) ∧ inI i) (h1 : ws.set q0 (a, .inl (cA, n, .inl (jF (jU f i x)))) = ws1) (hdg : decode cc pc = .ok (.iastore, 1)) (kk : ∀ (H1 : Heap) (locs1 : List Loc), va_P D cl ws1 H1 → va_D A ws1 → va_S A H0 H1 locs1 → W p l e R s m args below meth c H1 locs1 cells slots Q (F0 m (pc + 1) ls rest)) : W p l e R s m args below meth c H locs cells slots Q (F0 m pc ls (jI x :: jI i :: .ref a :: rest)) := by
  subst h1
  refine va_iast S.1 S.2.1 hK hP hD hS q0 t0 ha ht (o_in ⟨hin.1, hin.2.1⟩ hin.2.2) hdg ?_
  rw [jF_up hin.1 hin.2.2]
  exact kk
end JR
end
section
/-! worlds and contracts -/
abbrev SOK (H T E : Int → Int) (cc gc w d v : Int) : Prop := (0 ≤ cc ∧ cc ≤ 8) ∧ (0 ≤ gc ∧ gc ≤ 10) ∧ (10 ≤ w ∧ w ≤ 200) ∧ (2 ≤ d ∧ d ≤ 720) ∧ (2 ≤ v ∧ v ≤ 60) ∧ (∀ j, 0 ≤ j → j < cc → 5 ≤ H j ∧ H j ≤ 120) ∧ (∀ j, 0 ≤ j → j < gc → 12 ≤ T j ∧ T j ≤ 120) ∧ (∀ j, 0 ≤ j → j < 8 → -100 ≤ E j ∧ E j ≤ 100)
abbrev XW (h a0 a1 a2 a3 : Nat) (cA : ClassId) (H T E F : Int → Int) (cc gc w d v : Int) : va_W := [(h, .inr (0, [.ref a0, .ref a1, .ref a2, .ref a3, jI cc, jI gc, jI w, jI d, jI v])), (a0, .inl (cA, 8, .inl (jF H))), (a1, .inl (cA, 10, .inl (jF T))), (a2, .inl (cA, 8, .inl (jF E))), (a3, .inl (cA, 4, .inl (jF F)))]
abbrev MW (h a0 a1 a2 a3 : Nat) (cA : ClassId) (H T E F : Int → Int) (cc gc w d v : Int) : va_W := [(h, .inr (1, [jI w, jI cc, .ref a0, jI gc, .ref a1, .ref a2, jI d, jI v, .ref a3])), (a0, .inl (cA, 8, .inl (jF H))), (a1, .inl (cA, 10, .inl (jF T))), (a2, .inl (cA, 8, .inl (jF E))), (a3, .inl (cA, 4, .inl (jF F)))]
def WB (D : va_G) (ws : va_W) (cA : ClassId) : State → Prop := fun U => va_P D vwCl ws U.heap ∧ va_K D vwCl [(cA, .int)] U
def W0 : State → Prop := fun _ => True
def QI (post : Int → Prop) : Array Value → State → Outcome → State → Prop := fun _ st oc t => ∃ i : Int, oc = .returned (some (jI i)) ∧ post i ∧ t.heap = st.heap
def QL (post : Int → Prop) : Array Value → State → Outcome → State → Prop := fun _ st oc t => ∃ i : Int, oc = .returned (some (jL i)) ∧ post i ∧ t.heap = st.heap
abbrev MI (l : Launch) (y : MethodName) (ws : List Cond) (rm : Room) (as : List Value) (B : State → Prop) (post : Int → Prop) : Prop := Met l y ws rm (va_Pc as B) (QI post) 0 0 (fun _ => False)
abbrev ML (l : Launch) (y : MethodName) (ws : List Cond) (rm : Room) (as : List Value) (B : State → Prop) (post : Int → Prop) : Prop := Met l y ws rm (va_Pc as B) (QL post) 0 0 (fun _ => False)
def WM (D : va_G) (ws : va_W) (cA : ClassId) (sz : Nat) : State → Prop := fun U => U.heap.size = sz ∧ va_P D vwCl ws U.heap ∧ va_K D vwCl [(cA, .int)] U ∧ va_D (fun _ => True) ws
def WA (D : va_G) (cA : ClassId) (A : Nat → Prop) (ws : va_W) (t : State) : Prop := va_P D vwCl ws t.heap ∧ va_K D vwCl [(cA, .int)] t ∧ va_D A ws
abbrev MMI {S : Type} (l : Launch) (y : MethodName) (ws : List Cond) (rm : Room) (as : List Value) (D : va_G) (cA : ClassId) (w0 : va_W) (Wd : S → va_W) (sz : Nat) (post : Int → S → Prop) : Prop := Met l y ws rm (va_Pc as (WM D w0 cA sz)) (va_Qi (fun r u => ∃ i : Int, r = Int32.ofInt i ∧ post i u) (fun u t => WA D cA (va_A w0 sz) (Wd u) t) (va_A w0 sz)) 0 0 (va_A w0 sz)
abbrev MMV {S : Type} (l : Launch) (y : MethodName) (ws : List Cond) (rm : Room) (as : List Value) (D : va_G) (cA : ClassId) (w0 : va_W) (Wd : S → va_W) (sz : Nat) (post : S → Prop) : Prop := Met l y ws rm (va_Pc as (WM D w0 cA sz)) (va_Qv post (fun u t => WA D cA (va_A w0 sz) (Wd u) t) (va_A w0 sz)) 0 0 (va_A w0 sz)
theorem MI_of {l : Launch} {y : MethodName} {ws ws' : List Cond} {rm : Room} {as : List Value} {B : State → Prop} {post : Int → Prop} {cc : ByteArray} {maxL : Nat} (hy : plainName y.cls = true) (hw : ws = Cond.code y cc maxL (some .int) :: ws') (hn : (lg_sl as).length ≤ maxL)
    (body : ∀ (p : Program) (e : Env) (s : State) (m : MethodId) (args : Array Value) (below : List Frame) (meth : Method) (c : Code) (Q : State → Prop) (ls : Array Slot), CallFix p m c cc maxL s args ws y.cls → (∀ (i : Int) (pc : Nat) (ls' : Array Slot), post i → decode cc pc = .ok (.ireturn, 1) → W p l e rm s m args below meth c s.heap [] 0 0 Q (F0 m pc ls' [jI i])) → B s → lv_has ls maxL (lv_args 0 as) → W p l e rm s m args below meth c s.heap [] 0 0 Q (F0 m 0 ls [])) : MI l y ws rm as B post := by
  refine Met.ofW (cc := cc) (maxL := maxL) (ret := some .int) hy hw ?_
  intro p e s m args below meth c s₁ B' hml hv
  obtain ⟨rfl, hB⟩ := hv
  have hlocks := B'.notSynchronized
  rw [lg_entry_eq]
  exact body p e s m _ below meth c _ _ ⟨B'.exec, B'.bytes, hml, findClass_of_methodNamed B'.named, atoms_spec (ws := ws) B'.pre⟩ (fun i pc ls' hp hd => W.iret B'.exec B'.bytes B'.returns (fun t ht hW => ⟨i, rfl, hp, ht⟩) (fun _ h => by cases h) hd) hB (lv_entry as hn)
theorem nar_b {i : Int} (h : i = 0 ∨ i = 1) : narrow .boolean (jI i) = jI i := by
  rcases h with rfl | rfl <;> rfl
theorem MZ_of {l : Launch} {y : MethodName} {ws ws' : List Cond} {rm : Room} {as : List Value} {B : State → Prop} {post : Int → Prop} {cc : ByteArray} {maxL : Nat} (hy : plainName y.cls = true) (hw : ws = Cond.code y cc maxL (some .boolean) :: ws') (hn : (lg_sl as).length ≤ maxL)
    (body : ∀ (p : Program) (e : Env) (s : State) (m : MethodId) (args : Array Value) (below : List Frame) (meth : Method) (c : Code) (Q : State → Prop) (ls : Array Slot), CallFix p m c cc maxL s args ws y.cls → (∀ (i : Int) (pc : Nat) (ls' : Array Slot), (i = 0 ∨ i = 1) → post i → decode cc pc = .ok (.ireturn, 1) → W p l e rm s m args below meth c s.heap [] 0 0 Q (F0 m pc ls' [jI i])) → B s → lv_has ls maxL (lv_args 0 as) → W p l e rm s m args below meth c s.heap [] 0 0 Q (F0 m 0 ls [])) : MI l y ws rm as B post := by
  refine Met.ofW (cc := cc) (maxL := maxL) (ret := some .boolean) hy hw ?_
  intro p e s m args below meth c s₁ B' hml hv
  obtain ⟨rfl, hB⟩ := hv
  have hlocks := B'.notSynchronized
  rw [lg_entry_eq]
  exact body p e s m _ below meth c _ _ ⟨B'.exec, B'.bytes, hml, findClass_of_methodNamed B'.named, atoms_spec (ws := ws) B'.pre⟩ (fun i pc ls' hb hp hd => W.zret B'.exec B'.bytes B'.returns (nar_b hb) (fun t ht hW => ⟨i, rfl, hp, ht⟩) (fun _ h => by cases h) hd) hB (lv_entry as hn)
theorem ML_of {l : Launch} {y : MethodName} {ws ws' : List Cond} {rm : Room} {as : List Value} {B : State → Prop} {post : Int → Prop} {cc : ByteArray} {maxL : Nat} (hy : plainName y.cls = true) (hw : ws = Cond.code y cc maxL (some .long) :: ws') (hn : (lg_sl as).length ≤ maxL)
    (body : ∀ (p : Program) (e : Env) (s : State) (m : MethodId) (args : Array Value) (below : List Frame) (meth : Method) (c : Code) (Q : State → Prop) (ls : Array Slot), CallFix p m c cc maxL s args ws y.cls → (∀ (i : Int) (pc : Nat) (ls' : Array Slot), post i → decode cc pc = .ok (.lreturn, 1) → W p l e rm s m args below meth c s.heap [] 0 0 Q (F0 m pc ls' [jL i])) → B s → lv_has ls maxL (lv_args 0 as) → W p l e rm s m args below meth c s.heap [] 0 0 Q (F0 m 0 ls [])) : ML l y ws rm as B post := by
  refine Met.ofW (cc := cc) (maxL := maxL) (ret := some .long) hy hw ?_
  intro p e s m args below meth c s₁ B' hml hv
  obtain ⟨rfl, hB⟩ := hv
  have hlocks := B'.notSynchronized
  rw [lg_entry_eq]
  exact body p e s m _ below meth c _ _ ⟨B'.exec, B'.bytes, hml, findClass_of_methodNamed B'.named, atoms_spec (ws := ws) B'.pre⟩ (fun i pc ls' hp hd => W.lret B'.exec B'.bytes B'.returns (fun t ht hW => ⟨i, rfl, hp, ht⟩) (fun _ h => by cases h) hd) hB (lv_entry as hn)
theorem MMI_of {S : Type} {l : Launch} {y : MethodName} {ws ws' : List Cond} {rm : Room} {as : List Value} {D : va_G} {cA : ClassId} {w0 : va_W} {Wd : S → va_W} {sz : Nat} {post : Int → S → Prop} {cc : ByteArray} {maxL : Nat} {ty : FieldType} (hty : ty = .int ∨ ty = .boolean) (hy : plainName y.cls = true) (hw : ws = Cond.code y cc maxL (some ty) :: ws') (hn : (lg_sl as).length ≤ maxL)
    (body : ∀ (p : Program) (e : Env) (s : State) (m : MethodId) (args : Array Value) (below : List Frame) (meth : Method) (c : Code) (Q : State → Prop) (ls : Array Slot) (A : Nat → Prop), CallFix p m c cc maxL s args ws y.cls → (∀ (i : Int) (u : S) (H1 : Heap) (locs1 : List Loc) (pc : Nat) (ls' : Array Slot), (ty = .boolean → (i = 0 ∨ i = 1)) → post i u → va_P D vwCl (Wd u) H1 → va_D A (Wd u) → va_S A s.heap H1 locs1 → decode cc pc = .ok (.ireturn, 1) → W p l e rm s m args below meth c H1 locs1 0 0 Q (F0 m pc ls' [jI i])) → va_P D vwCl w0 s.heap → va_K D vwCl [(cA, .int)] s → va_D A w0 → va_S A s.heap s.heap [] → (∀ q, s.heap.size ≤ q → A q) → lv_has ls maxL (lv_args 0 as) → W p l e rm s m args below meth c s.heap [] 0 0 Q (F0 m 0 ls [])) : MMI l y ws rm as D cA w0 Wd sz post := by
  refine Met.ofW (cc := cc) (maxL := maxL) (ret := some ty) hy hw ?_
  intro p e s m args below meth c s₁ B' hml hv
  obtain ⟨rfl, hsz, hP, hK, hD0⟩ := hv
  subst hsz
  have hlocks := B'.notSynchronized
  rw [lg_entry_eq]
  refine body p e s m _ below meth c _ _ (va_A w0 s.heap.size) ⟨B'.exec, B'.bytes, hml, findClass_of_methodNamed B'.named, atoms_spec (ws := ws) B'.pre⟩ (fun i u H1 locs1 pc ls' hb hp hP1 hD1 hS1 hd => ?_) hP hK hD0.self va_S.rf (fun q h => Or.inr h) (lv_entry as hn)
  have hq : ∀ t : State, t.heap = H1 → s.WarmedH t.vm → va_Qi (fun r u => ∃ i : Int, r = Int32.ofInt i ∧ post i u) (fun u t => WA D cA (va_A w0 s.heap.size) (Wd u) t) (va_A w0 s.heap.size) as.toArray s (.returned (some (.int (Int32.ofInt i)))) t := fun t ht hW => ⟨⟨_, u, rfl, ⟨i, rfl, hp⟩, by rw [ht]; exact hP1, va_K.moved hW.alike hK, hD1⟩, hS1.F ht⟩
  rcases hty with rfl | rfl
  · exact W.iret B'.exec B'.bytes B'.returns hq hS1.2.2 hd
  · exact W.zret B'.exec B'.bytes B'.returns (nar_b (hb rfl)) hq hS1.2.2 hd
theorem MMV_of {S : Type} {l : Launch} {y : MethodName} {ws ws' : List Cond} {rm : Room} {as : List Value} {D : va_G} {cA : ClassId} {w0 : va_W} {Wd : S → va_W} {sz : Nat} {post : S → Prop} {cc : ByteArray} {maxL : Nat} (hy : plainName y.cls = true) (hw : ws = Cond.code y cc maxL none :: ws') (hn : (lg_sl as).length ≤ maxL)
    (body : ∀ (p : Program) (e : Env) (s : State) (m : MethodId) (args : Array Value) (below : List Frame) (meth : Method) (c : Code) (Q : State → Prop) (ls : Array Slot) (A : Nat → Prop), CallFix p m c cc maxL s args ws y.cls → (∀ (u : S) (H1 : Heap) (locs1 : List Loc) (pc : Nat) (ls' : Array Slot), post u → va_P D vwCl (Wd u) H1 → va_D A (Wd u) → va_S A s.heap H1 locs1 → decode cc pc = .ok (.return_, 1) → W p l e rm s m args below meth c H1 locs1 0 0 Q (F0 m pc ls' [])) → va_P D vwCl w0 s.heap → va_K D vwCl [(cA, .int)] s → va_D A w0 → va_S A s.heap s.heap [] → (∀ q, s.heap.size ≤ q → A q) → lv_has ls maxL (lv_args 0 as) → W p l e rm s m args below meth c s.heap [] 0 0 Q (F0 m 0 ls [])) : MMV l y ws rm as D cA w0 Wd sz post := by
  refine Met.ofW (cc := cc) (maxL := maxL) (ret := none) hy hw ?_
  intro p e s m args below meth c s₁ B' hml hv
  obtain ⟨rfl, hsz, hP, hK, hD0⟩ := hv
  subst hsz
  have hlocks := B'.notSynchronized
  rw [lg_entry_eq]
  refine body p e s m _ below meth c _ _ (va_A w0 s.heap.size) ⟨B'.exec, B'.bytes, hml, findClass_of_methodNamed B'.named, atoms_spec (ws := ws) B'.pre⟩ (fun u H1 locs1 pc ls' hp hP1 hD1 hS1 hd => ?_) hP hK hD0.self va_S.rf (fun q h => Or.inr h) (lv_entry as hn)
  exact W.vret B'.exec B'.bytes B'.returns (fun t ht hW => ⟨⟨u, rfl, hp, by rw [ht]; exact hP1, va_K.moved hW.alike hK, hD1⟩, hS1.F ht⟩) hS1.2.2 hd
theorem WB_blind {D : va_G} {ws : va_W} {cA : ClassId} {as : List Value} : FrameBlind (va_Pc as (WB D ws cA)) := fun a U g mk q => ⟨q.1, q.2.1, va_K.moved (u := U) (U := U.calling g mk a) (Vm.Alike.refl U.vm) q.2.2⟩
theorem WM_blind {D : va_G} {ws : va_W} {cA : ClassId} {sz : Nat} {as : List Value} : FrameBlind (va_Pc as (WM D ws cA sz)) := fun a U g mk q => ⟨q.1, q.2.1, q.2.2.1, va_K.moved (u := U) (U := U.calling g mk a) (Vm.Alike.refl U.vm) q.2.2.2.1, q.2.2.2.2⟩
section JC
variable {p : Program} {l : Launch} {e : Env} {R : Room} {s : State} {m : MethodId} {args : Array Value} {below : List Frame} {meth : Method} {c : Code} {H : Heap} {locs : List Loc} {cells slots : Nat} {Q : State → Prop}
variable {cc bytes : ByteArray} {nL maxL n index : Nat} {Ts ws : List Cond} {own C : String} {pc : Nat} {ls : Array Slot} {st0 As : List Value} {y : MethodName} {rm : Room} {ret : Option FieldType} {post : Int → Prop} {b : Addr} {D : va_G} {wx : va_W} {cA : ClassId}
theorem j_get (S : CallFix p m c cc nL s args Ts own) {CT : String} {T : u_T} {N ci : Nat} {a : Nat} {rest : List Value} (hin : ∀ w ∈ u_ws CT T N, w ∈ Ts) (hK : va_K D vwCl [(cA, .int)] s) (hP : va_P D vwCl wx H) {fs : List Value} (he : wx[0]? = some (a, .inr (ci, fs))) (hc : vwCl[ci]? = some (CT, T, N)) (k : Nat) (hk : k < N) (hlink : (Cond.fieldLink own index (T k).1 (T k).2.1 (T k).2.2.1) ∈ Ts) {v : Value} (hv : fs[k]? = some v) (hdg : decode cc pc = .ok (.getfield index, 3)) (kk : W p l e R s m args below meth c H locs cells slots Q (F0 m (pc + 3) ls (v :: rest))) : W p l e R s m args below meth c H locs cells slots Q (F0 m pc ls (.ref a :: rest)) :=
  va_get S.1 S.2.1 S.2.2.2.2 hin S.2.2.2.1 hK hP 0 he hc k hk (S.2.2.2.2 _ hlink) (fun _ h => h) hv hdg kk
theorem j_put (S : CallFix p m c cc nL s args Ts own) {CT : String} {T : u_T} {N ci : Nat} {a : Nat} {A : Nat → Prop} {H0 : Heap} {rest : List Value} (hin : ∀ w ∈ u_ws CT T N, w ∈ Ts) (ty0 : Nat → FieldType) (hty : ∀ k, k < N → parseFieldDescriptor (T k).2.2.1 = some (ty0 k)) (hnm : ∀ a, a < N → ∀ b, b < N → a ≠ b → (T a).2.1 ≠ (T b).2.1) (hK : va_K D vwCl [(cA, .int)] s) (hP : va_P D vwCl wx H) (hD : va_D A wx) (hS : va_S A H0 H locs) {fs : List Value} {wx1 : va_W} {x : Int} (he : wx[0]? = some (a, .inr (ci, fs))) (hc : vwCl[ci]? = some (CT, T, N)) (k : Nat) (hk : k < N) (hlink : (Cond.fieldLink own index (T k).1 (T k).2.1 (T k).2.2.1) ∈ Ts) (hfin : (T k).2.2.2 = false) (hd : parseFieldDescriptor (T k).2.2.1 = some .int) (hl : k < fs.length) (h1 : wx.set 0 (a, .inr (ci, fs.set k (jI x))) = wx1) (hdg : decode cc pc = .ok (.putfield index, 3)) (kk : ∀ (H1 : Heap) (locs1 : List Loc), va_P D vwCl wx1 H1 → va_D A wx1 → va_S A H0 H1 locs1 → W p l e R s m args below meth c H1 locs1 cells slots Q (F0 m (pc + 3) ls rest)) : W p l e R s m args below meth c H locs cells slots Q (F0 m pc ls (jI x :: .ref a :: rest)) := by
  subst h1
  exact va_put S.1 S.2.1 S.2.2.2.2 hin ty0 hty hnm S.2.2.2.1 hK hP hD hS 0 he hc k hk (S.2.2.2.2 _ hlink) (fun _ h => h) hfin hd rfl rfl hl hdg kk
theorem j_csi (S : CallFix p m c cc nL s args Ts own) (hM : MI l y ws rm As W0 post) (cw : CallB R s args own index y bytes maxL ret ws rm 0 0 n ∧ (Cond.static y).before args s = true) (rest : List Value) (hst : st0 = As.reverse ++ rest) (hn : As.length = n) (hsz : ls.size = nL) (hW : (rest.map fun v => v.category).sum ≤ 8) (hf : cells ≤ R.cells ∧ slots ≤ R.slots) (hdg : decode cc pc = .ok (.invokestatic index, 3)) (kk : ∀ i : Int, post i → W p l e R s m args below meth c H locs cells slots Q (F0 m (pc + 3) ls (jI i :: rest))) : W p l e R s m args below meth c H locs cells slots Q (F0 m pc ls st0) := by
  have hr := W.runS (e := e) (H := H) (locs := locs) (below := below) (meth := meth) (g := F0 m pc ls st0) S hM cw ⟨fun _ _ _ _ q => ⟨q.1, trivial⟩, fun _ _ _ => ⟨rfl, trivial⟩⟩ rfl hn hsz hst (lv_room hW) hdg hf
  intro T hT X
  obtain ⟨v, st₀, t, T', L, h0, X', hL, e1, ⟨i, hv, hp, hh⟩, st⟩ := hr T hT X
  cases hv
  obtain ⟨t2, a1, b1⟩ := kk i hp T' (by rw [e1, hh, h0]) (Stand.forget X' (fun q h => (hL q h).elim))
  exact ⟨t2, st t2 a1, b1⟩
theorem j_csl (S : CallFix p m c cc nL s args Ts own) (hM : ML l y ws rm As W0 post) (cw : CallB R s args own index y bytes maxL ret ws rm 0 0 n ∧ (Cond.static y).before args s = true) (rest : List Value) (hst : st0 = As.reverse ++ rest) (hn : As.length = n) (hsz : ls.size = nL) (hW : (rest.map fun v => v.category).sum ≤ 8) (hf : cells ≤ R.cells ∧ slots ≤ R.slots) (hdg : decode cc pc = .ok (.invokestatic index, 3)) (kk : ∀ i : Int, post i → W p l e R s m args below meth c H locs cells slots Q (F0 m (pc + 3) ls (jL i :: rest))) : W p l e R s m args below meth c H locs cells slots Q (F0 m pc ls st0) := by
  have hr := W.runS (e := e) (H := H) (locs := locs) (below := below) (meth := meth) (g := F0 m pc ls st0) S hM cw ⟨fun _ _ _ _ q => ⟨q.1, trivial⟩, fun _ _ _ => ⟨rfl, trivial⟩⟩ rfl hn hsz hst (lv_room hW) hdg hf
  intro T hT X
  obtain ⟨v, st₀, t, T', L, h0, X', hL, e1, ⟨i, hv, hp, hh⟩, st⟩ := hr T hT X
  cases hv
  obtain ⟨t2, a1, b1⟩ := kk i hp T' (by rw [e1, hh, h0]) (Stand.forget X' (fun q h => (hL q h).elim))
  exact ⟨t2, st t2 a1, b1⟩
theorem j_cvi (S : CallFix p m c cc nL s args Ts own) (hM : MI l y ws rm (.ref b :: As) (WB D wx cA) post) (cw : CallW R s args own C index y bytes maxL ret ws rm 0 0 n) (hK : va_K D vwCl [(cA, .int)] s) (hP : va_P D vwCl wx H) {ci : Nat} {q : vw_C} {fs : List Value} (hc : vwCl[ci]? = some q) (hq : q.1 = C) (he : wx[0]? = some (b, .inr (ci, fs))) (rest : List Value) (hst : st0 = As.reverse ++ .ref b :: rest) (hn : As.length = n) (hsz : ls.size = nL) (hW : (rest.map fun v => v.category).sum ≤ 8) (hf : cells ≤ R.cells ∧ slots ≤ R.slots) (hdg : decode cc pc = .ok (.invokevirtual index, 3)) (kk : ∀ i : Int, post i → W p l e R s m args below meth c H locs cells slots Q (F0 m (pc + 3) ls (jI i :: rest))) : W p l e R s m args below meth c H locs cells slots Q (F0 m pc ls st0) := by
  subst hq
  have hr := W.runV (e := e) (H := H) (locs := locs) (below := below) (meth := meth) (g := F0 m pc ls st0) S hM cw ⟨WB_blind, va_recv hK hP hc he, fun U hU hW => ⟨rfl, by rw [hU]; exact hP, va_K.moved hW.alike hK⟩⟩ rfl hn hsz hst (lv_room hW) hdg hf
  intro T hT X
  obtain ⟨v, st₀, t, T', L, h0, X', hL, e1, ⟨i, hv, hp, hh⟩, st⟩ := hr T hT X
  cases hv
  obtain ⟨t2, a1, b1⟩ := kk i hp T' (by rw [e1, hh, h0]) (Stand.forget X' (fun q h => (hL q h).elim))
  exact ⟨t2, st t2 a1, b1⟩
theorem j_cvl (S : CallFix p m c cc nL s args Ts own) (hM : ML l y ws rm (.ref b :: As) (WB D wx cA) post) (cw : CallW R s args own C index y bytes maxL ret ws rm 0 0 n) (hK : va_K D vwCl [(cA, .int)] s) (hP : va_P D vwCl wx H) {ci : Nat} {q : vw_C} {fs : List Value} (hc : vwCl[ci]? = some q) (hq : q.1 = C) (he : wx[0]? = some (b, .inr (ci, fs))) (rest : List Value) (hst : st0 = As.reverse ++ .ref b :: rest) (hn : As.length = n) (hsz : ls.size = nL) (hW : (rest.map fun v => v.category).sum ≤ 8) (hf : cells ≤ R.cells ∧ slots ≤ R.slots) (hdg : decode cc pc = .ok (.invokevirtual index, 3)) (kk : ∀ i : Int, post i → W p l e R s m args below meth c H locs cells slots Q (F0 m (pc + 3) ls (jL i :: rest))) : W p l e R s m args below meth c H locs cells slots Q (F0 m pc ls st0) := by
  subst hq
  have hr := W.runV (e := e) (H := H) (locs := locs) (below := below) (meth := meth) (g := F0 m pc ls st0) S hM cw ⟨WB_blind, va_recv hK hP hc he, fun U hU hW => ⟨rfl, by rw [hU]; exact hP, va_K.moved hW.alike hK⟩⟩ rfl hn hsz hst (lv_room hW) hdg hf
  intro T hT X
  obtain ⟨v, st₀, t, T', L, h0, X', hL, e1, ⟨i, hv, hp, hh⟩, st⟩ := hr T hT X
  cases hv
  obtain ⟨t2, a1, b1⟩ := kk i hp T' (by rw [e1, hh, h0]) (Stand.forget X' (fun q h => (hL q h).elim))
  exact ⟨t2, st t2 a1, b1⟩
/-- a call that writes in its own world wc, which is a part of the caller's -/
theorem j_cvm {U : Type} {Wd : U → va_W} {post : Int → U → Prop} {wc wr : va_W} {A : Nat → Prop} {H0 : Heap} (isC isR : List Nat) (S : CallFix p m c cc nL s args Ts own) (hM : MMI l y ws rm (.ref b :: As) D cA wc Wd H.size post) (cw : CallW R s args own C index y bytes maxL ret ws rm 0 0 n) (hK : va_K D vwCl [(cA, .int)] s) (hP : va_P D vwCl wx H) (hD : va_D A wx) (hS : va_S A H0 H locs) (hA : ∀ q, H0.size ≤ q → A q) (hC : isC.map (fun i => wx[i]?) = wc.map some) (hR : isR.map (fun i => wx[i]?) = wr.map some) (hcn : va_nd isC = true) (hrn : va_nd isR = true) (hdis : ∀ i ∈ isR, i ∉ isC) {ci : Nat} {q : vw_C} {fs : List Value} (hc : vwCl[ci]? = some q) (hq : q.1 = C) (he : wc[0]? = some (b, .inr (ci, fs))) (rest : List Value) (hst : st0 = As.reverse ++ .ref b :: rest) (hn : As.length = n) (hsz : ls.size = nL) (hW : (rest.map fun v => v.category).sum ≤ 8) (hf : cells ≤ R.cells ∧ slots ≤ R.slots) (hdg : decode cc pc = .ok (.invokevirtual index, 3)) (kk : ∀ (i : Int) (u : U) (H1 : Heap) (locs1 : List Loc), post i u → va_P D vwCl (wr ++ Wd u) H1 → va_D A (wr ++ Wd u) → va_S A H0 H1 locs1 → W p l e R s m args below meth c H1 locs1 cells slots Q (F0 m (pc + 3) ls (jI i :: rest))) : W p l e R s m args below meth c H locs cells slots Q (F0 m pc ls st0) := by
  subst hq
  have hPc : va_P D vwCl wc H := hP.by (fun k => (isC[k]?).getD 0) (fun k q hk => by
    obtain ⟨i, h1, h2⟩ := va_in_of isC hC hk
    rw [h1]
    exact h2)
  have hDc : va_D A wc := hD.sub isC hcn hC
  have hFc := va_free (wc := wc) hD hS hA isC hC
  refine va_calli (va_runV (H := H) (locs := locs) (below := below) (meth := meth) (g := F0 m pc ls st0) (rest := rest) S hM cw ⟨WM_blind, va_recv hK hPc hc he, fun U hU hW => ⟨rfl, by rw [hU], by rw [hU]; exact hPc, va_K.moved hW.alike hK, hDc.weaken (fun _ _ _ _ => trivial)⟩⟩ rfl hn hsz hst (lv_room hW) hdg hf) hS (fun q _ h => hFc q h) hFc (fun r u t H1 locs1 ht hvm hw hB hz1 hk1 hS1 => ?_)
  obtain ⟨i, rfl, hp⟩ := hw
  obtain ⟨hP1, hK1, hD1⟩ := hB
  rw [ht] at hP1
  obtain ⟨hP2, hD2⟩ := va_join (wr := wr) (w1 := Wd u) hP hD isC isR hC hR hrn hdis hk1 hFc hP1 hD1
  exact kk i u H1 locs1 hp hP2 hD2 hS1
theorem j_cvv {U : Type} {Wd : U → va_W} {post : U → Prop} {wc wr : va_W} {A : Nat → Prop} {H0 : Heap} (isC isR : List Nat) (S : CallFix p m c cc nL s args Ts own) (hM : MMV l y ws rm (.ref b :: As) D cA wc Wd H.size post) (cw : CallW R s args own C index y bytes maxL ret ws rm 0 0 n) (hK : va_K D vwCl [(cA, .int)] s) (hP : va_P D vwCl wx H) (hD : va_D A wx) (hS : va_S A H0 H locs) (hA : ∀ q, H0.size ≤ q → A q) (hC : isC.map (fun i => wx[i]?) = wc.map some) (hR : isR.map (fun i => wx[i]?) = wr.map some) (hcn : va_nd isC = true) (hrn : va_nd isR = true) (hdis : ∀ i ∈ isR, i ∉ isC) {ci : Nat} {q : vw_C} {fs : List Value} (hc : vwCl[ci]? = some q) (hq : q.1 = C) (he : wc[0]? = some (b, .inr (ci, fs))) (rest : List Value) (hst : st0 = As.reverse ++ .ref b :: rest) (hn : As.length = n) (hsz : ls.size = nL) (hW : (rest.map fun v => v.category).sum ≤ 8) (hf : cells ≤ R.cells ∧ slots ≤ R.slots) (hdg : decode cc pc = .ok (.invokevirtual index, 3)) (kk : ∀ (u : U) (H1 : Heap) (locs1 : List Loc), post u → va_P D vwCl (wr ++ Wd u) H1 → va_D A (wr ++ Wd u) → va_S A H0 H1 locs1 → W p l e R s m args below meth c H1 locs1 cells slots Q (F0 m (pc + 3) ls rest)) : W p l e R s m args below meth c H locs cells slots Q (F0 m pc ls st0) := by
  subst hq
  have hPc : va_P D vwCl wc H := hP.by (fun k => (isC[k]?).getD 0) (fun k q hk => by
    obtain ⟨i, h1, h2⟩ := va_in_of isC hC hk
    rw [h1]
    exact h2)
  have hDc : va_D A wc := hD.sub isC hcn hC
  have hFc := va_free (wc := wc) hD hS hA isC hC
  refine va_callv (va_runV (H := H) (locs := locs) (below := below) (meth := meth) (g := F0 m pc ls st0) (rest := rest) S hM cw ⟨WM_blind, va_recv hK hPc hc he, fun U hU hW => ⟨rfl, by rw [hU], by rw [hU]; exact hPc, va_K.moved hW.alike hK, hDc.weaken (fun _ _ _ _ => trivial)⟩⟩ rfl hn hsz hst (lv_room hW) hdg hf) hS (fun q _ h => hFc q h) hFc (fun u t H1 locs1 ht hvm hw hB hz1 hk1 hS1 => ?_)
  obtain ⟨hP1, hK1, hD1⟩ := hB
  rw [ht] at hP1
  obtain ⟨hP2, hD2⟩ := va_join (wr := wr) (w1 := Wd u) hP hD isC isR hC hR hrn hdis hk1 hFc hP1 hD1
  exact kk u H1 locs1 hw hP2 hD2 hS1
/-- Math's own -/
theorem j_mabs (S : CallFix p m c cc nL s args Ts own) (hsz : ls.size = nL) (hlink : Cond.methodLink own index Lib.Math.abs.name ∈ Ts) (hstat : Cond.static Lib.Math.abs.name ∈ Ts) (hini : Cond.initialized "java/lang/Math" ∈ Ts) (hcode : Cond.code Lib.Math.abs.name Lib.Math.abs.code 1 (some .int) ∈ Ts) (hf : 1 ≤ R.frames) {rest : List Value} (hl : (rest.map fun v => v.category).sum + 13 ≤ R.locals) (hcs : cells ≤ R.cells ∧ slots ≤ R.slots) {a lo hi : Int} (ha : lo ≤ a ∧ a ≤ hi) (hb : (decide (-2147483647 ≤ lo) && decide (hi ≤ 2147483647)) = true) (hdg : decode cc pc = .ok (.invokestatic index, 3)) (kk : W p l e R s m args below meth c H locs cells slots Q (F0 m (pc + 3) ls (jI ((a.natAbs : Nat) : Int) :: rest))) : W p l e R s m args below meth c H locs cells slots Q (F0 m pc ls (jI a :: rest)) := by
  simp only [Bool.and_eq_true, decide_eq_true_eq] at hb
  refine va_mabs S.1 S.2.1 (by rw [S.2.2.1, hsz]) S.2.2.2.1 (S.2.2.2.2 _ hlink) (S.2.2.2.2 _ hstat) (S.2.2.2.2 _ hini) (S.2.2.2.2 _ hcode) hf hl hcs.1 hcs.2 hdg ?_
  have e : (if (0 : Int32) ≤ Int32.ofInt a then Int32.ofInt a else 0 - Int32.ofInt a) = Int32.ofInt ((a.natAbs : Nat) : Int) := by
    rw [oI_zero]
    by_cases h : 0 ≤ a
    · rw [if_pos ((oI_le in0 (by omega)).mpr h)]
      congr 1
      omega
    · rw [if_neg (fun q => h ((oI_le in0 (by omega)).mp q)), ← Int32.ofInt_sub]
      congr 1
      omega
  rw [e]
  exact kk
theorem j_mabsl (S : CallFix p m c cc nL s args Ts own) (hsz : ls.size = nL) (hlink : Cond.methodLink own index Lib.MathLoose.abs_long.x ∈ Ts) (hstat : Cond.static Lib.MathLoose.abs_long.x ∈ Ts) (hini : Cond.initialized "java/lang/Math" ∈ Ts) (hcode : Cond.code Lib.MathLoose.abs_long.x Lib.MathLoose.abs_long.code 2 (some .long) ∈ Ts) (hf : 1 ≤ R.frames) {rest : List Value} (hl : (rest.map fun v => v.category).sum + 13 ≤ R.locals) (hcs : cells ≤ R.cells ∧ slots ≤ R.slots) {a lo hi : Int} (ha : lo ≤ a ∧ a ≤ hi) (hb : (decide (-9223372036854775807 ≤ lo) && decide (hi ≤ 9223372036854775807)) = true) (hdg : decode cc pc = .ok (.invokestatic index, 3)) (kk : W p l e R s m args below meth c H locs cells slots Q (F0 m (pc + 3) ls (jL ((a.natAbs : Nat) : Int) :: rest))) : W p l e R s m args below meth c H locs cells slots Q (F0 m pc ls (jL a :: rest)) := by
  simp only [Bool.and_eq_true, decide_eq_true_eq] at hb
  refine va_mabs_long S.1 S.2.1 (by rw [S.2.2.1, hsz]) S.2.2.2.1 (S.2.2.2.2 _ hlink) (S.2.2.2.2 _ hstat) (S.2.2.2.2 _ hini) (S.2.2.2.2 _ hcode) hf hl hcs.1 hcs.2 hdg ?_
  have e : (if (0 : Int64) < Int64.ofInt a then Int64.ofInt a else -Int64.ofInt a) = Int64.ofInt ((a.natAbs : Nat) : Int) := by
    have hz : (0 : Int64) = Int64.ofInt 0 := by decide
    rw [hz]
    by_cases h : 0 < a
    · rw [if_pos ((oL_lt (by decide) (by omega)).mpr h)]
      congr 1
      omega
    · rw [if_neg (fun q => h ((oL_lt (by decide) (by omega)).mp q)), ← Int64.ofInt_neg]
      congr 1
      omega
  rw [e]
  exact kk
theorem j_mmax (S : CallFix p m c cc nL s args Ts own) (hsz : ls.size = nL) (hlink : Cond.methodLink own index Lib.Math.max.name ∈ Ts) (hstat : Cond.static Lib.Math.max.name ∈ Ts) (hini : Cond.initialized "java/lang/Math" ∈ Ts) (hcode : Cond.code Lib.Math.max.name Lib.Math.max.code 2 (some .int) ∈ Ts) (hf : 1 ≤ R.frames) {rest : List Value} (hl : (rest.map fun v => v.category).sum + 13 ≤ R.locals) (hcs : cells ≤ R.cells ∧ slots ≤ R.slots) {a b : Int} (ha : inI a) (hb : inI b) (hdg : decode cc pc = .ok (.invokestatic index, 3)) (kk : W p l e R s m args below meth c H locs cells slots Q (F0 m (pc + 3) ls (jI (max a b) :: rest))) : W p l e R s m args below meth c H locs cells slots Q (F0 m pc ls (jI b :: jI a :: rest)) := by
  refine va_mmax S.1 S.2.1 (by rw [S.2.2.1, hsz]) S.2.2.2.1 (S.2.2.2.2 _ hlink) (S.2.2.2.2 _ hstat) (S.2.2.2.2 _ hini) (S.2.2.2.2 _ hcode) hf hl hcs.1 hcs.2 hdg ?_
  have e : (if Int32.ofInt a < Int32.ofInt b then Int32.ofInt b else Int32.ofInt a) = Int32.ofInt (max a b) := by
    by_cases h : a < b
    · rw [if_pos ((oI_lt ha hb).mpr h)]
      congr 1
      omega
    · rw [if_neg (fun q => h ((oI_lt ha hb).mp q))]
      congr 1
      omega
  rw [e]
  exact kk
end JC
end
section
/-! the mathematical values that both sides answer -/
theorem iv_n (n : Int) : n ≤ n ∧ n ≤ n := ⟨Int.le_refl n, Int.le_refl n⟩
theorem bI_01 {P : Prop} : bI P = 0 ∨ bI P = 1 := by
  rcases @bI_c P with h | h
  · exact Or.inr h.1
  · exact Or.inl h.1
def sp_holesAt (cc : Int) (H : Int → Int) (x : Int) : Int := if 0 ≤ x ∧ x < cc then H x else 0
def sp_holes (cc : Int) (H : Int → Int) (x : Int) : Int := if 0 ≤ x ∧ x < cc then H x else -1
theorem sp_holesAt_in {cc x : Int} {H : Int → Int} (h : 0 ≤ x ∧ x < cc) : sp_holesAt cc H x = H x := if_pos h
theorem sp_holesAt_out {cc x : Int} {H : Int → Int} (h : ¬ (0 ≤ x ∧ x < cc)) : sp_holesAt cc H x = 0 := if_neg h
/-- upper by lower, if whole; else 0 -/
def sp_eq (up low : Int) : Int := if low < 1 ∨ up.tmod low ≠ 0 then 0 else up.tdiv low
theorem sp_eq_0 {up low : Int} (h : low < 1 ∨ up.tmod low ≠ 0) : sp_eq up low = 0 := if_pos h
theorem sp_eq_1 {up low : Int} (h1 : 1 ≤ low) (h2 : up.tmod low = 0) : sp_eq up low = up.tdiv low := if_neg (by omega)
/-- nearest, of two the lesser; the greater -/
def sp_nol (up low : Int) : Int := (2 * up + low - 1) / (2 * low)
def sp_nog (up low : Int) : Int := (2 * up + low) / (2 * low)
/-- PLAIN -/
def plr (w : Int) (H : Int → Int) (n : Int) : Nat → Int
  | 0 => -6
  | k + 1 => if (w * H k).tmod n = 0 ∧ (plr w H n k = -6 ∨ H k < H (plr w H n k)) then (k : Int) else plr w H n k
def sp_pl (w : Int) (H : Int → Int) (n c : Int) : Int := plr w H n c.toNat
theorem sp_pl_0 {w n : Int} {H : Int → Int} : sp_pl w H n 0 = -6 := rfl
theorem sp_pl_s {w n c : Int} {H : Int → Int} (hc : 0 ≤ c) : sp_pl w H n (c + 1) = if (w * H c).tmod n = 0 ∧ (sp_pl w H n c = -6 ∨ H c < H (sp_pl w H n c)) then c else sp_pl w H n c := by
  have h1 : (c + 1).toNat = c.toNat + 1 := by omega
  have h2 : ((c.toNat : Nat) : Int) = c := by omega
  unfold sp_pl
  rw [h1, plr, h2]
theorem plr_rng (w : Int) (H : Int → Int) (n : Int) : ∀ k : Nat, plr w H n k = -6 ∨ (0 ≤ plr w H n k ∧ plr w H n k < (k : Int)) := by
  intro k
  induction k with
  | zero => exact Or.inl rfl
  | succ k ih =>
    rw [plr]
    split
    · right
      omega
    · omega
theorem sp_pl_rng {w n c : Int} {H : Int → Int} (hc : 0 ≤ c) : sp_pl w H n c = -6 ∨ (0 ≤ sp_pl w H n c ∧ sp_pl w H n c < c) := by
  have h := plr_rng w H n c.toNat
  unfold sp_pl
  omega
theorem sp_pl_iv {w n c : Int} {H : Int → Int} (hc : 0 ≤ c ∧ c ≤ 8) : -6 ≤ sp_pl w H n c ∧ sp_pl w H n c ≤ 7 := by
  have h := @sp_pl_rng w n c H hc.1
  omega
def sp_plain (w cc : Int) (H : Int → Int) (n what : Int) : Int := if (n < 2 ∨ 1000 < n) ∨ (what < 0 ∨ 2 < what) then -2 else if sp_pl w H n cc = -6 then -6 else if what = 0 then sp_pl w H n cc else if what = 1 then w / n else w % n * H (sp_pl w H n cc) / n
/-- COMPOUND -/
def sp_fs (w hh hk n b : Int) : Int := sp_eq (hh * (w * hk - b * n)) (n * hk)
def ssr (f : Int → Int) : Nat → Int → Int
  | 0, _ => 0
  | k + 1, s => if f s ≠ 0 then s else if f (-s) ≠ 0 then -s else ssr f k (s + 1)
def sp_ss (w hh hk n s : Int) : Int := ssr (sp_fs w hh hk n) (hk + 1 - s).toNat s
theorem sp_ss_end {w hh hk n s : Int} (h : hk < s) : sp_ss w hh hk n s = 0 := by
  unfold sp_ss
  rw [show (hk + 1 - s).toNat = 0 by omega]
  rfl
theorem sp_ss_s {w hh hk n s : Int} (h : s ≤ hk) : sp_ss w hh hk n s = if sp_fs w hh hk n s ≠ 0 then s else if sp_fs w hh hk n (-s) ≠ 0 then -s else sp_ss w hh hk n (s + 1) := by
  unfold sp_ss
  rw [show (hk + 1 - s).toNat = (hk + 1 - (s + 1)).toNat + 1 by omega, ssr]
theorem ssr_rng (f : Int → Int) : ∀ (k : Nat) (s B : Int), 1 ≤ s → s + k ≤ B + 1 → -B ≤ ssr f k s ∧ ssr f k s ≤ B := by
  intro k
  induction k with
  | zero =>
    intro s B h1 h2
    show -B ≤ (0 : Int) ∧ (0 : Int) ≤ B
    omega
  | succ k ih =>
    intro s B h1 h2
    have h3 := ih (s + 1) B (by omega) (by omega)
    rw [ssr]
    split
    · omega
    · split <;> omega
theorem sp_ss_iv {w hh hk n : Int} (h : 5 ≤ hk ∧ hk ≤ 120) : -120 ≤ sp_ss w hh hk n 1 ∧ sp_ss w hh hk n 1 ≤ 120 := by
  have := ssr_rng (sp_fs w hh hk n) (hk + 1 - 1).toNat 1 120 (by omega) (by omega)
  exact this
def sp_sec (w : Int) (H : Int → Int) (n h k : Int) : Int := sp_ss w (H h) (H k) n 1
def sp_ct (w : Int) (H : Int → Int) (n h k b what : Int) : Int := if what = 0 then h else if what = 1 then sp_fs w (H h) (H k) n b else if what = 2 then k else b
/-- the answer of compound -/
def P_compound (w cc : Int) (H : Int → Int) (n what i : Int) : Prop :=
  (((n < 2 ∨ 1000 < n) ∨ (what < 0 ∨ 3 < what)) ∧ i = -1000000002) ∨
  (¬ ((n < 2 ∨ 1000 < n) ∨ (what < 0 ∨ 3 < what)) ∧ (∀ h k, 0 ≤ h → h < k → k < cc → sp_sec w H n h k = 0) ∧ i = -1000000005) ∨
  (¬ ((n < 2 ∨ 1000 < n) ∨ (what < 0 ∨ 3 < what)) ∧ ∃ h k, (0 ≤ h ∧ h < k ∧ k < cc) ∧ sp_sec w H n h k ≠ 0 ∧ (∀ h' k', 0 ≤ h' → h' < k' → k' < cc → (h' < h ∨ (h' = h ∧ k' < k)) → sp_sec w H n h' k' = 0) ∧ i = sp_ct w H n h k (sp_sec w H n h k) what)
theorem P_compound_det {w cc n what i j : Int} {H : Int → Int} (hi : P_compound w cc H n what i) (hj : P_compound w cc H n what j) : i = j := by
  rcases hi with ⟨a1, a2⟩ | ⟨a0, a1, a2⟩ | ⟨a0, h, k, a1, a2, a3, a4⟩ <;> rcases hj with ⟨b1, b2⟩ | ⟨b0, b1, b2⟩ | ⟨b0, h', k', b1, b2, b3, b4⟩
  · omega
  · exact absurd a1 b0
  · exact absurd a1 b0
  · exact absurd b1 a0
  · omega
  · exact absurd (a1 h' k' b1.1 b1.2.1 b1.2.2) b2
  · exact absurd b1 a0
  · exact absurd (b1 h k a1.1 a1.2.1 a1.2.2) a2
  · have e1 : ¬ (h' < h ∨ (h' = h ∧ k' < k)) := fun q => b2 (a3 h' k' b1.1 b1.2.1 b1.2.2 q)
    have e2 : ¬ (h < h' ∨ (h = h' ∧ k < k')) := fun q => a2 (b3 h k a1.1 a1.2.1 a1.2.2 q)
    have e3 : h = h' := by omega
    have e4 : k = k' := by omega
    subst e3
    subst e4
    rw [a4, b4]
/-- cuts -/
def sp_hn (w hc n i : Int) : Int := sp_nog (i * w * hc) n
def sp_ms (w hc n i : Int) : Int := sp_hn w hc n i * n - i * w * hc
def wfr (w hc n : Int) : Nat → Int
  | 0 => 0
  | k + 1 => max (wfr w hc n k) ((Int.natAbs (sp_ms w hc n k) : Nat) : Int)
def sp_wf (w hc n i : Int) : Int := wfr w hc n i.toNat
theorem sp_wf_0 {w hc n : Int} : sp_wf w hc n 0 = 0 := rfl
theorem sp_wf_s {w hc n i : Int} (hi : 0 ≤ i) : sp_wf w hc n (i + 1) = max (sp_wf w hc n i) ((Int.natAbs (sp_ms w hc n i) : Nat) : Int) := by
  unfold sp_wf
  rw [show (i + 1).toNat = i.toNat + 1 by omega, wfr, show ((i.toNat : Nat) : Int) = i by omega]
def sp_wu (w hc n : Int) : Int := sp_wf w hc n (n + 1)
def xfr (w hc n : Int) : Nat → Int
  | 0 => 0
  | k + 1 => if sp_ms w hc n k = 0 then xfr w hc n k + 1 else xfr w hc n k
def sp_xf (w hc n i : Int) : Int := xfr w hc n i.toNat
theorem sp_xf_0 {w hc n : Int} : sp_xf w hc n 0 = 0 := rfl
theorem sp_xf_s {w hc n i : Int} (hi : 0 ≤ i) : sp_xf w hc n (i + 1) = if sp_ms w hc n i = 0 then sp_xf w hc n i + 1 else sp_xf w hc n i := by
  unfold sp_xf
  rw [show (i + 1).toNat = i.toNat + 1 by omega, xfr, show ((i.toNat : Nat) : Int) = i by omega]
theorem nog_bd {x n : Int} (hn : 0 < n) : -n ≤ 2 * (sp_nog x n * n - x) ∧ 2 * (sp_nog x n * n - x) ≤ n := by
  unfold sp_nog
  have h1 := Int.emod_add_mul_ediv (2 * x + n) (2 * n)
  have h2 := Int.emod_nonneg (2 * x + n) (b := 2 * n) (by omega)
  have h3 := Int.emod_lt_of_pos (2 * x + n) (b := 2 * n) (by omega)
  rw [Int.mul_assoc, Int.mul_comm n] at h1
  omega
theorem sp_ms_iv {w hc n i : Int} (hn : 2 ≤ n ∧ n ≤ 1000) : -500 ≤ sp_ms w hc n i ∧ sp_ms w hc n i ≤ 500 := by
  have := @nog_bd (i * w * hc) n (by omega)
  unfold sp_ms sp_hn
  omega
theorem wfr_iv {w hc n : Int} (hn : 2 ≤ n ∧ n ≤ 1000) : ∀ k : Nat, 0 ≤ wfr w hc n k ∧ wfr w hc n k ≤ 500 := by
  intro k
  induction k with
  | zero => exact (show (0 : Int) ≤ 0 ∧ (0 : Int) ≤ 500 from by decide)
  | succ k ih =>
    have := @sp_ms_iv w hc n k hn
    rw [wfr]
    omega
theorem sp_wf_iv {w hc n i : Int} (hn : 2 ≤ n ∧ n ≤ 1000) : 0 ≤ sp_wf w hc n i ∧ sp_wf w hc n i ≤ 500 := wfr_iv hn _
theorem sp_wu_iv {w hc n : Int} (hn : 2 ≤ n ∧ n ≤ 1000) : 0 ≤ sp_wu w hc n ∧ sp_wu w hc n ≤ 500 := wfr_iv hn _
theorem sp_hn_iv {w hc n i : Int} (hw : 10 ≤ w ∧ w ≤ 200) (hc' : 5 ≤ hc ∧ hc ≤ 120) (hi : 0 ≤ i ∧ i ≤ 1000) (hn : 2 ≤ n ∧ n ≤ 1000) : 0 ≤ sp_hn w hc n i ∧ sp_hn w hc n i ≤ 48001000 := by
  have h1 : 0 ≤ i * w * hc ∧ i * w * hc ≤ 24000000 := iv_mulp (iv_mulp (lo := 0) (hi := 200000) hi hw (by decide)) hc' (by decide)
  unfold sp_hn sp_nog
  have h2 : 0 ≤ (2 * (i * w * hc) + n) / (2 * n) := Int.ediv_nonneg (by omega) (by omega)
  have h3 : (2 * (i * w * hc) + n) / (2 * n) ≤ (2 * (i * w * hc) + n) := Int.ediv_le_self _ (by omega)
  omega
/-- fractions -/
def sp_lt (up low what : Int) : Int := if what = 0 then up.tdiv (Int.gcd up low : Nat) else low.tdiv (Int.gcd up low : Nat)
def sp_hole (w cc : Int) (H : Int → Int) (c n i : Int) : Int := if ¬ (0 ≤ c ∧ c < cc) then -1 else if (n < 2 ∨ 1000 < n) ∨ (i < 0 ∨ n < i) then -2 else sp_hn w (H c) n i
def sp_miss (w cc : Int) (H : Int → Int) (c n i what : Int) : Int := if ¬ (0 ≤ c ∧ c < cc) then -1000000001 else if (n < 2 ∨ 1000 < n) ∨ (i < 0 ∨ n < i) ∨ (what < 0 ∨ 1 < what) then -1000000002 else sp_lt (sp_ms w (H c) n i) n what
def sp_worst (w cc : Int) (H : Int → Int) (c n what : Int) : Int := if ¬ (0 ≤ c ∧ c < cc) then -1 else if (n < 2 ∨ 1000 < n) ∨ (what < 0 ∨ 2 < what) then -2 else if what = 2 then sp_xf w (H c) n n else sp_lt (sp_wu w (H c) n) n what
def bsr (w : Int) (H : Int → Int) (n : Int) : Nat → Int
  | 0 => 0
  | k + 1 => if sp_wu w (H ((k : Int) + 1)) n * H (bsr w H n k) < sp_wu w (H (bsr w H n k)) n * H ((k : Int) + 1) then (k : Int) + 1 else bsr w H n k
/-- the best of circles 0 to c - 1 -/
def sp_bs (w : Int) (H : Int → Int) (n c : Int) : Int := bsr w H n (c - 1).toNat
theorem sp_bs_1 {w n : Int} {H : Int → Int} : sp_bs w H n 1 = 0 := rfl
theorem sp_bs_s {w n c : Int} {H : Int → Int} (hc : 1 ≤ c) : sp_bs w H n (c + 1) = if sp_wu w (H c) n * H (sp_bs w H n c) < sp_wu w (H (sp_bs w H n c)) n * H c then c else sp_bs w H n c := by
  unfold sp_bs
  rw [show (c + 1 - 1).toNat = (c - 1).toNat + 1 by omega, bsr, show (((c - 1).toNat : Nat) : Int) + 1 = c by omega]
theorem bsr_rng {w n : Int} {H : Int → Int} : ∀ k : Nat, 0 ≤ bsr w H n k ∧ bsr w H n k ≤ (k : Int) := by
  intro k
  induction k with
  | zero => exact (show (0 : Int) ≤ 0 ∧ (0 : Int) ≤ ((0 : Nat) : Int) from by decide)
  | succ k ih =>
    rw [bsr]
    split <;> omega
theorem sp_bs_rng {w n c : Int} {H : Int → Int} (hc : 1 ≤ c) : 0 ≤ sp_bs w H n c ∧ sp_bs w H n c < c := by
  have h := @bsr_rng w n H (c - 1).toNat
  unfold sp_bs
  omega
def sp_best (w cc : Int) (H : Int → Int) (n : Int) : Int := if n < 2 ∨ 1000 < n then -2 else if cc = 0 then -3 else sp_bs w H n cc
/-- the worm -/
def sp_er (E : Int → Int) (hc s i : Int) : Int := E ((i * s) % hc * 8 / hc % 8) * (hc - (i * s) % hc * 8 % hc) + E (((i * s) % hc * 8 / hc + 1) % 8) * ((i * s) % hc * 8 % hc)
theorem sp_er_iv {E : Int → Int} {hc s i : Int} (hE : ∀ j, 0 ≤ j → j < 8 → -100 ≤ E j ∧ E j ≤ 100) (h : 5 ≤ hc ∧ hc ≤ 120) : -24000 ≤ sp_er E hc s i ∧ sp_er E hc s i ≤ 24000 := by
  have hm := fun x : Int => And.intro (Int.emod_nonneg x (b := 8) (by omega)) (Int.emod_lt_of_pos x (b := 8) (by omega))
  have hb := And.intro (Int.emod_nonneg ((i * s) % hc * 8) (b := hc) (by omega)) (Int.emod_lt_of_pos ((i * s) % hc * 8) (b := hc) (by omega))
  have e1 := hE _ (hm ((i * s) % hc * 8 / hc)).1 (hm ((i * s) % hc * 8 / hc)).2
  have e2 := hE _ (hm ((i * s) % hc * 8 / hc + 1)).1 (hm ((i * s) % hc * 8 / hc + 1)).2
  unfold sp_er
  generalize E ((i * s) % hc * 8 / hc % 8) = x at e1 ⊢
  generalize E (((i * s) % hc * 8 / hc + 1) % 8) = y at e2 ⊢
  generalize (i * s) % hc * 8 % hc = z at hb ⊢
  have h1 : -12000 ≤ x * (hc - z) ∧ x * (hc - z) ≤ 12000 := iv_mul (la := -100) (ua := 100) (lb := 0) (ub := 120) 100 120 e1 (by omega) (by decide)
  have h2 : -12000 ≤ y * z ∧ y * z ≤ 12000 := iv_mul (la := -100) (ua := 100) (lb := 0) (ub := 120) 100 120 e2 (by omega) (by decide)
  omega
def sp_spoilt (cc : Int) (H E : Int → Int) (c s i what : Int) : Int := if ¬ (0 ≤ c ∧ c < cc) then -1000000001 else if (s < 1 ∨ 100000 < s) ∨ (i < 0 ∨ 10000 < i) ∨ (what < 0 ∨ 1 < what) then -1000000002 else sp_lt (sp_er E (H c) s i) (H c) what
def exr (E : Int → Int) (hc s what : Int) : Nat → Int
  | 0 => 0
  | k + 1 => if (what = 0 ∧ sp_er E hc s (exr E hc s what k) < sp_er E hc s ((k : Int) + 1)) ∨ (what ≠ 0 ∧ sp_er E hc s ((k : Int) + 1) < sp_er E hc s (exr E hc s what k)) then (k : Int) + 1 else exr E hc s what k
/-- the first of cuts 0 to i - 1 -/
def sp_ex (E : Int → Int) (hc s what i : Int) : Int := exr E hc s what (i - 1).toNat
theorem sp_ex_1 {E : Int → Int} {hc s what : Int} : sp_ex E hc s what 1 = 0 := rfl
theorem sp_ex_s {E : Int → Int} {hc s what i : Int} (hi : 1 ≤ i) : sp_ex E hc s what (i + 1) = if (what = 0 ∧ sp_er E hc s (sp_ex E hc s what i) < sp_er E hc s i) ∨ (what ≠ 0 ∧ sp_er E hc s i < sp_er E hc s (sp_ex E hc s what i)) then i else sp_ex E hc s what i := by
  unfold sp_ex
  rw [show (i + 1 - 1).toNat = (i - 1).toNat + 1 by omega, exr, show (((i - 1).toNat : Nat) : Int) + 1 = i by omega]
theorem exr_rng {E : Int → Int} {hc s what : Int} : ∀ k : Nat, 0 ≤ exr E hc s what k ∧ exr E hc s what k ≤ (k : Int) := by
  intro k
  induction k with
  | zero => exact (show (0 : Int) ≤ 0 ∧ (0 : Int) ≤ ((0 : Nat) : Int) from by decide)
  | succ k ih =>
    rw [exr]
    split <;> omega
theorem sp_ex_rng {E : Int → Int} {hc s what i : Int} (hi : 1 ≤ i) : 0 ≤ sp_ex E hc s what i ∧ sp_ex E hc s what i < i := by
  have h := @exr_rng E hc s what (i - 1).toNat
  unfold sp_ex
  omega
def sp_extreme (cc : Int) (H E : Int → Int) (c s n what : Int) : Int := if ¬ (0 ≤ c ∧ c < cc) then -1 else if (s < 1 ∨ 100000 < s) ∨ (n < 0 ∨ 1000 < n) ∨ (what < 0 ∨ 1 < what) then -2 else sp_ex E (H c) s what (n + 1)
/-- shares -/
def sp_gap (p q low : Int) : Int := ((Int.natAbs (sp_nol (p * low) q * q - p * low) : Nat) : Int)
def nrr (p q : Int) : Nat → Int
  | 0 => 1
  | k + 1 => if sp_gap p q ((k : Int) + 2) * nrr p q k < sp_gap p q (nrr p q k) * ((k : Int) + 2) then (k : Int) + 2 else nrr p q k
/-- the best of the lower numbers 1 to low -/
def sp_nr (p q low : Int) : Int := nrr p q (low - 1).toNat
theorem sp_nr_1 {p q : Int} : sp_nr p q 1 = 1 := rfl
theorem sp_nr_s {p q k : Int} (hk : 2 ≤ k) : sp_nr p q k = if sp_gap p q k * sp_nr p q (k - 1) < sp_gap p q (sp_nr p q (k - 1)) * k then k else sp_nr p q (k - 1) := by
  unfold sp_nr
  rw [show (k - 1).toNat = (k - 1 - 1).toNat + 1 by omega, nrr, show (((k - 1 - 1).toNat : Nat) : Int) + 2 = k by omega]
theorem nrr_rng {p q : Int} : ∀ k : Nat, 1 ≤ nrr p q k ∧ nrr p q k ≤ (k : Int) + 1 := by
  intro k
  induction k with
  | zero => exact (show (1 : Int) ≤ 1 ∧ (1 : Int) ≤ ((0 : Nat) : Int) + 1 from by decide)
  | succ k ih =>
    rw [nrr]
    split <;> omega
theorem sp_nr_rng {p q low : Int} (h : 1 ≤ low) : 1 ≤ sp_nr p q low ∧ sp_nr p q low ≤ low := by
  have h := @nrr_rng p q (low - 1).toNat
  unfold sp_nr
  omega
theorem nrr_stop {p q : Int} {k : Nat} (h : sp_gap p q (nrr p q k) = 0) : ∀ j : Nat, nrr p q (k + j) = nrr p q k := by
  intro j
  induction j with
  | zero => rfl
  | succ j ih =>
    rw [show k + (j + 1) = (k + j) + 1 from rfl, nrr, ih, h, Int.zero_mul, if_neg]
    have h1 := (@nrr_rng p q k).1
    have h2 : 0 ≤ sp_gap p q (((k + j : Nat) : Int) + 2) := by
      unfold sp_gap
      omega
    have := Int.mul_nonneg h2 (show 0 ≤ nrr p q k by omega)
    omega
theorem sp_nr_stop {p q a b : Int} (ha : 1 ≤ a) (hab : a ≤ b) (h : sp_gap p q (sp_nr p q a) ≤ 0) : sp_nr p q b = sp_nr p q a := by
  have h0 : sp_gap p q (sp_nr p q a) = 0 := by
    unfold sp_gap at h ⊢
    omega
  have := nrr_stop h0 ((b - a).toNat)
  unfold sp_nr
  rw [← this]
  congr 1
  omega
theorem nol_bd {x n : Int} (hn : 0 < n) : -n ≤ 2 * (sp_nol x n * n - x) ∧ 2 * (sp_nol x n * n - x) ≤ n := by
  unfold sp_nol
  have h1 := Int.emod_add_mul_ediv (2 * x + n - 1) (2 * n)
  have h2 := Int.emod_nonneg (2 * x + n - 1) (b := 2 * n) (by omega)
  have h3 := Int.emod_lt_of_pos (2 * x + n - 1) (b := 2 * n) (by omega)
  rw [Int.mul_assoc, Int.mul_comm n] at h1
  omega
theorem sp_gap_iv {p q low : Int} (hq : 1 ≤ q ∧ q ≤ 1000000) : 0 ≤ sp_gap p q low ∧ sp_gap p q low ≤ 500000 := by
  have := @nol_bd (p * low) q (by omega)
  unfold sp_gap
  omega
def sp_near (p q limit what : Int) : Int := if ((p < 1 ∨ 1000000 < p) ∨ (q < 1 ∨ 1000000 < q)) ∨ (limit < 1 ∨ 10000 < limit) ∨ (what < 0 ∨ 1 < what) then -2 else if what = 1 then sp_nr p q limit else sp_nol (p * sp_nr p q limit) q
/-- verniers -/
def sp_mm (d p q : Int) : Int := p * d / q
def sp_ln (d v p q : Int) : Int := sp_nol ((p * d - sp_mm d p q * q) * v) q
def sp_rd (d v p q : Int) : Int := sp_mm d p q * v + sp_ln d v p q
def sp_read (d v p q what : Int) : Int := if ((q < 1 ∨ 1000000 < q) ∨ (p < 0 ∨ q - 1 < p)) ∨ (what < 0 ∨ 2 < what) then -2 else if what = 0 then sp_mm d p q else if what = 1 then sp_ln d v p q else sp_rd d v p q
def sp_r1 (d v p q e : Int) : Int := sp_rd d v ((p * 1000000 + e * q) % (q * 1000000)) (q * 1000000)
def sp_r2 (d v p q e : Int) : Int := sp_rd d v ((p * 1000000 + q * 500000 - e * q) % (q * 1000000)) (q * 1000000)
def sp_two (d v p q e what : Int) : Int := if ((q < 1 ∨ 1000000 < q) ∨ (p < 0 ∨ q - 1 < p)) ∨ (e < -1000 ∨ 1000 < e) ∨ (what < 0 ∨ 1 < what) then -1000000002 else sp_lt (if sp_r2 d v p q e < sp_r1 d v p q e then 2 * (sp_r1 d v p q e + sp_r2 d v p q e) + d * v else 2 * (sp_r1 d v p q e + sp_r2 d v p q e) - d * v) 4 what
def sp_told (w cc gc d v what : Int) : Int := if what = 0 then w else if what = 1 then cc else if what = 2 then gc else if what = 3 then d else if what = 4 then v else -2
end
section
theorem sp_eq_iv {x y M : Int} (hx : -M ≤ x ∧ x ≤ M) : -M ≤ sp_eq x y ∧ sp_eq x y ≤ M := by
  unfold sp_eq
  split
  · omega
  · have := Int.natAbs_tdiv_le_natAbs x y
    omega
theorem sp_nol_iv {x y u ub : Int} (hx : 0 ≤ x ∧ x ≤ u) (hy : 0 < y) (hu : u + 1 ≤ ub) : 0 ≤ sp_nol x y ∧ sp_nol x y ≤ ub := by
  unfold sp_nol
  have h1 : 0 ≤ (2 * x + y - 1) / (2 * y) := Int.ediv_nonneg (by omega) (by omega)
  have h2 : (2 * x + y - 1) / (2 * y) < x + 1 := Int.ediv_lt_of_lt_mul (by omega) (by
    have : x * 2 ≤ x * (2 * y) := Int.mul_le_mul_of_nonneg_left (by omega) hx.1
    rw [Int.add_mul]
    omega)
  omega
theorem sp_nog_iv {x y u ub : Int} (hx : 0 ≤ x ∧ x ≤ u) (hy : 0 < y) (hu : u + 1 ≤ ub) : 0 ≤ sp_nog x y ∧ sp_nog x y ≤ ub := by
  unfold sp_nog
  have h1 : 0 ≤ (2 * x + y) / (2 * y) := Int.ediv_nonneg (by omega) (by omega)
  have h2 : (2 * x + y) / (2 * y) < x + 1 := Int.ediv_lt_of_lt_mul (by omega) (by
    have : x * 2 ≤ x * (2 * y) := Int.mul_le_mul_of_nonneg_left (by omega) hx.1
    rw [Int.add_mul]
    omega)
  omega
theorem sp_eq_iff {up low : Int} (h : 0 < up) (h2 : 1 ≤ low) : sp_eq up low = 0 ↔ ¬ up.tmod low = 0 := by
  constructor
  · intro e q
    rw [sp_eq_1 h2 q] at e
    have h3 := Int.tmod_def up low
    rw [q, e, Int.mul_zero] at h3
    omega
  · intro q
    exact sp_eq_0 (Or.inr q)
theorem sp_nr_iv {p q low : Int} (h : 1 ≤ low ∧ low ≤ 10000) : 1 ≤ sp_nr p q low ∧ sp_nr p q low ≤ 10000 := by
  have := @sp_nr_rng p q low h.1
  omega
theorem emod_iv {x y : Int} (hy : 1 ≤ y ∧ y ≤ 1000000000000) : 0 ≤ x % y ∧ x % y ≤ 1000000000000 := by
  have := Int.emod_nonneg x (b := y) (by omega)
  have := Int.emod_lt_of_pos x (b := y) (by omega)
  omega
theorem sp_left_iv {d p q : Int} (hq : 1 ≤ q ∧ q ≤ 1000000000000) : 0 ≤ p * d - sp_mm d p q * q ∧ p * d - sp_mm d p q * q ≤ 1000000000000 := by
  unfold sp_mm
  have h := Int.emod_def (p * d) q
  rw [Int.mul_comm q] at h
  rw [← h]
  exact emod_iv hq
theorem sp_mm_iv {d p q : Int} (hd : 2 ≤ d ∧ d ≤ 720) (hp : 0 ≤ p ∧ p ≤ 1000000000000) (hq : 1 ≤ q ∧ q ≤ 1000000000000) (h : p < q) : 0 ≤ sp_mm d p q ∧ sp_mm d p q ≤ 720 := by
  unfold sp_mm
  have h1 : 0 ≤ p * d := Int.mul_nonneg hp.1 (by omega)
  have h2 : 0 ≤ p * d / q := Int.ediv_nonneg h1 (by omega)
  have h3 : p * d ≤ q * d := Int.mul_le_mul_of_nonneg_right (by omega) (by omega)
  have h4 : p * d / q ≤ d := Int.ediv_le_of_le_mul (by omega) (by rw [Int.mul_comm d]; exact h3)
  omega
theorem sp_ln_iv {d v p q : Int} (hv : 2 ≤ v ∧ v ≤ 60) (hq : 1 ≤ q ∧ q ≤ 1000000000000) (_ : p < q) : 0 ≤ sp_ln d v p q ∧ sp_ln d v p q ≤ 60 := by
  unfold sp_ln sp_nol
  have h1 : 0 ≤ p * d - sp_mm d p q * q ∧ p * d - sp_mm d p q * q < q := by
    unfold sp_mm
    have h := Int.emod_def (p * d) q
    rw [Int.mul_comm q] at h
    rw [← h]
    exact ⟨Int.emod_nonneg _ (by omega), Int.emod_lt_of_pos _ (by omega)⟩
  generalize p * d - sp_mm d p q * q = x at h1 ⊢
  have h2 : 0 ≤ x * v := Int.mul_nonneg h1.1 (by omega)
  have h3 : x * v ≤ q * v := Int.mul_le_mul_of_nonneg_right (by omega) (by omega)
  have h4 : 0 ≤ (2 * (x * v) + q - 1) / (2 * q) := Int.ediv_nonneg (by omega) (by omega)
  have h5 : (2 * (x * v) + q - 1) / (2 * q) < v + 1 := Int.ediv_lt_of_lt_mul (by omega) (by
    have h6 : v * (2 * q) = 2 * (q * v) := by rw [Int.mul_left_comm, Int.mul_comm v]
    rw [Int.add_mul, h6]
    omega)
  omega
theorem sp_rd_iv {d v p q : Int} (hd : 2 ≤ d ∧ d ≤ 720) (hv : 2 ≤ v ∧ v ≤ 60) (hp : 0 ≤ p ∧ p ≤ 1000000000000) (hq : 1 ≤ q ∧ q ≤ 1000000000000) (h : p < q) : 0 ≤ sp_rd d v p q ∧ sp_rd d v p q ≤ 43260 := by
  have h1 := sp_mm_iv hd hp hq h
  have h2 := sp_ln_iv (d := d) (p := p) hv hq h
  have h3 : 0 ≤ sp_mm d p q * v ∧ sp_mm d p q * v ≤ 43200 := iv_mulp h1 hv (by decide)
  unfold sp_rd
  omega
theorem sp_fs_iv {w u1 u2 n b : Int} (hw : 10 ≤ w ∧ w ≤ 200) (h1 : 5 ≤ u1 ∧ u1 ≤ 120) (h2 : 5 ≤ u2 ∧ u2 ≤ 120) (hn : 2 ≤ n ∧ n ≤ 1000) (hb : -120 ≤ b ∧ b ≤ 120) : -17280000 ≤ sp_fs w u1 u2 n b ∧ sp_fs w u1 u2 n b ≤ 17280000 := by
  have a1 : 50 ≤ w * u2 ∧ w * u2 ≤ 24000 := iv_mulp hw h2 (by decide)
  have a2 : -120000 ≤ b * n ∧ b * n ≤ 120000 := iv_mul 120 1000 hb hn (by decide)
  have a3 : -144000 ≤ w * u2 - b * n ∧ w * u2 - b * n ≤ 144000 := by omega
  exact sp_eq_iv (iv_mul 120 144000 h1 a3 (by decide))
theorem gcd_iv {a b : Int} (hb : 1 ≤ b ∧ b ≤ 1000) : 1 ≤ ((Int.gcd a b : Nat) : Int) ∧ ((Int.gcd a b : Nat) : Int) ≤ 1000 := by
  have h1 : 0 < Int.gcd a b := Int.gcd_pos_of_ne_zero_right _ (by omega)
  have h2 : Int.gcd a b ∣ b.natAbs := Nat.gcd_dvd_right _ _
  have h3 := Nat.le_of_dvd (by omega) h2
  omega
theorem gcd_0 {x : Int} (hx : 0 ≤ x) : ((Int.gcd x 0 : Nat) : Int) = x := by
  rw [Int.gcd_zero_right]
  omega
theorem gcd_step {x y : Int} (hx : 0 ≤ x) (hy : 0 ≤ y) : Int.gcd y (x % y) = Int.gcd x y := by
  obtain ⟨m, rfl⟩ := Int.eq_ofNat_of_zero_le hx
  obtain ⟨n, rfl⟩ := Int.eq_ofNat_of_zero_le hy
  rw [← Int.natCast_emod]
  show Nat.gcd n (m % n) = Nat.gcd m n
  rw [Nat.gcd_comm n, ← Nat.gcd_rec, Nat.gcd_comm]
theorem sp_lt_0 {up low what : Int} (h : what = 0) : sp_lt up low what = up.tdiv ((Int.gcd ((Int.natAbs up : Nat) : Int) low : Nat) : Int) := by
  unfold sp_lt
  rw [if_pos h]
  rfl
theorem sp_lt_1 {up low what : Int} (h : ¬ what = 0) (hl : 0 ≤ low) : sp_lt up low what = low / ((Int.gcd ((Int.natAbs up : Nat) : Int) low : Nat) : Int) := by
  unfold sp_lt
  rw [if_neg h, Int.tdiv_eq_ediv_of_nonneg hl]
  rfl
def p2 (k : Int) : Int := 2 ^ (21 - k).toNat
theorem p2_s {k : Int} (h : 0 ≤ k ∧ k ≤ 20) : p2 k = 2 * p2 (k + 1) := by
  unfold p2
  rw [show (21 - k).toNat = (21 - (k + 1)).toNat + 1 by omega, Int.pow_succ, Int.mul_comm]
theorem cm_lt {x y k : Int} (hm : (k = 0 ∧ 0 < y) ∨ (y < x ∧ x * y < p2 k)) (hk : 0 ≤ k ∧ k ≤ 21) (hy : 0 < y) : k ≤ 20 := by
  rcases hm with h | ⟨h1, h2⟩
  · omega
  · by_cases e : k = 21
    · subst e
      have h3 : p2 21 = 1 := by decide
      have h4 : 0 < x * y := Int.mul_pos (by omega) hy
      omega
    · omega
theorem cm_next {x y k : Int} (hx : 0 ≤ x ∧ x ≤ 1000000000) (hy : 0 ≤ y ∧ y ≤ 1000) (hm : (k = 0 ∧ 0 < y) ∨ (y < x ∧ x * y < p2 k)) (hy0 : 0 < y) (hk : 0 ≤ k ∧ k ≤ 21) : x % y < y ∧ y * (x % y) < p2 (k + 1) := by
  have h1 := Int.emod_nonneg x (b := y) (by omega)
  have h2 := Int.emod_lt_of_pos x (b := y) hy0
  refine ⟨h2, ?_⟩
  have hk2 := cm_lt hm hk hy0
  rcases hm with ⟨e, -⟩ | ⟨a, b⟩
  · subst e
    have h3 : y * (x % y) ≤ 1000 * 999 := Int.mul_le_mul (by omega) (by omega) h1 (by decide)
    have h4 : p2 (0 + 1) = 1048576 := by decide
    omega
  · rw [p2_s ⟨hk.1, hk2⟩] at b
    have h3 := Int.emod_add_mul_ediv x y
    have h4 : 1 ≤ x / y := Int.le_ediv_of_mul_le hy0 (by omega)
    have h5 : y * 1 ≤ y * (x / y) := Int.mul_le_mul_of_nonneg_left h4 (by omega)
    have h6 : 2 * (x % y) ≤ x := by omega
    have h7 : y * (2 * (x % y)) ≤ y * x := Int.mul_le_mul_of_nonneg_left h6 (by omega)
    rw [Int.mul_left_comm, Int.mul_comm y x] at h7
    omega
theorem xor_neg {a b : Int} (ha : inL a) (hb : 0 < b ∧ b ≤ 9223372036854775807) : Int64.ofInt a ^^^ Int64.ofInt b < 0 ↔ a < 0 := by
  have h0 : (0 : Int64) = Int64.ofInt 0 := by decide
  rw [Int64.lt_iff_toInt_lt, h0, tL (a := 0) (by decide)]
  have e : (Int64.ofInt a ^^^ Int64.ofInt b).toInt = ((Int64.ofInt a).toBitVec ^^^ (Int64.ofInt b).toBitVec).toInt := rfl
  have hA : (Int64.ofInt a).toBitVec.toInt = a := tL ha
  have hB : (Int64.ofInt b).toBitVec.toInt = b := tL (by omega)
  have m1 := BitVec.msb_eq_toInt (x := (Int64.ofInt a).toBitVec)
  have m2 := BitVec.msb_eq_toInt (x := (Int64.ofInt b).toBitVec)
  have m3 := BitVec.msb_eq_toInt (x := (Int64.ofInt a).toBitVec ^^^ (Int64.ofInt b).toBitVec)
  rw [BitVec.msb_xor, m1, m2, hA, hB, decide_eq_false (show ¬ b < 0 by omega), Bool.xor_false] at m3
  rw [e]
  exact (decide_eq_decide.mp m3).symm
theorem fm_b {x y : Int} (h : Int.tmod x y = 0) : Int.tmod x y = x % y := by
  rw [Int.emod_eq_tmod, if_pos (Or.inr (Int.dvd_of_tmod_eq_zero h))]
  omega
theorem fm_c {x y : Int} (hx : x < 0) (hy : 0 < y) (h : ¬ Int.tmod x y = 0) : Int.tmod x y + y = x % y := by
  rw [Int.emod_eq_tmod, if_neg (fun q => by
    rcases q with q | q
    · omega
    · exact h (Int.tmod_eq_zero_of_dvd q))]
  omega
section JX
variable {p : Program} {l : Launch} {e : Env} {R : Room} {s : State} {m : MethodId} {args : Array Value} {below : List Frame} {meth : Method} {c : Code} {H : Heap} {locs : List Loc} {cells slots : Nat} {Q : State → Prop}
variable {cc : ByteArray} {nL : Nat} {Ts : List Cond} {own : String} {pc : Nat} {ls : Array Slot} {rest : List Value}
theorem j_lxor_ge (S : CallFix p m c cc nL s args Ts own) {a b off : Int} {tgt pc1 pc2 pc3 : Nat} (h1 : pc + 1 = pc1) (h2 : pc1 + 1 = pc2) (h3 : pc2 + 1 = pc3) (hdg : decode cc pc = .ok (.lxor, 1)) (hdg1 : decode cc pc1 = .ok (.lconst 0, 1)) (hdg2 : decode cc pc2 = .ok (.lcmp, 1)) (hdg3 : decode cc pc3 = .ok (.ifCond .ge off, 3)) (ht : (pc3 : Int) + off = (tgt : Int)) (ha : inL a) (hb : 0 < b ∧ b ≤ 9223372036854775807) (kt : 0 ≤ a → W p l e R s m args below meth c H locs cells slots Q (F0 m tgt ls rest)) (kf : a < 0 → W p l e R s m args below meth c H locs cells slots Q (F0 m (pc3 + 3) ls rest)) : W p l e R s m args below meth c H locs cells slots Q (F0 m pc ls (jL b :: jL a :: rest)) := by
  subst h1
  subst h2
  subst h3
  refine lv_lxor S.1 S.2.1 hdg ?_
  refine j_lconst (a := 0) S hdg1 rfl ?_
  refine W.lcmp S.1 S.2.1 hdg2 ?_
  have h0 : (0 : Int64) = Int64.ofInt 0 := by decide
  have hx := xor_neg ha hb
  rw [h0] at hx
  have hc : (0 ≤ lg_cmp (Int64.ofInt a ^^^ Int64.ofInt b) (Int64.ofInt 0)) ↔ 0 ≤ a := by
    rw [lg_cmp_ge]
    constructor
    · intro q
      exact Int.not_lt.mp (fun z => by
        have := hx.mpr z
        rw [Int64.lt_iff_toInt_lt] at this
        rw [Int64.le_iff_toInt_le] at q
        omega)
    · intro q
      rw [Int64.le_iff_toInt_le]
      refine Int.not_lt.mp (fun z => ?_)
      rw [← Int64.lt_iff_toInt_lt] at z
      have := hx.mp z
      omega
  exact lv_if_ge S.1 S.2.1 hdg3 ht (fun h => kt (hc.mp h)) (fun h => kf (Int.not_le.mp (fun q => h (hc.mpr q))))
end JX
/-- as Met.ofW, of a method that is run by its bytecode though its class has others that aren't -/
theorem Met_ofWF {l : Launch} {y : MethodName} {ws ws' : List Cond} {rm : Room} {Pc : Array Value → State → Prop} {Qc : Array Value → State → Outcome → State → Prop} {mc ms : Nat} {free : Addr → Prop} {cc : ByteArray} {maxL : Nat} {ret : Option FieldType} (hy : plainFor y = true) (hw : ws = Cond.code y cc maxL ret :: ws')
    (body : ∀ (p : Program) (e : Env) (s : State) (m : MethodId) (args : Array Value) (below : List Frame) (meth : Method) (c : Code) (s₁ : State), BodyLoose p l y (headSpec ws rm) cc maxL ret e s m args below meth c s₁ → c.maxLocals = maxL → Pc args s → W p l e (headSpec ws rm).room s m args below meth c s.heap [] 0 0 (MQ below Qc args s mc ms free) (entryFrame m args maxL)) : Met l y ws rm Pc Qc mc ms free := by
  refine MetFree.of_bodySF (code := cc) (maxLocals := maxL) (ret := ret) hy ?_ ?_
  · intro args s m h hn
    obtain ⟨meth, c, h1, h2, h3, h4, h5, h6, -, -⟩ := Cond.code_spec hn (atoms_spec (ws := ws) h _ (by rw [hw]; exact List.mem_cons_self))
    exact ⟨meth, c, h1, h2, h3, h4, h5, h6⟩
  · intro p e s m args below meth c s₁ B hml hP _
    have hh0 : s₁.heap = s.heap := by rw [B.state]; rfl
    obtain ⟨t, a1, o, b1, b2, b3⟩ := body p e s m args below meth c s₁ B hml hP s₁ hh0 (Stand.of_body B)
    exact ⟨t, o, a1, b1, b2, ⟨b3.1, b3.2⟩⟩
theorem MLF_of {l : Launch} {y : MethodName} {ws ws' : List Cond} {rm : Room} {as : List Value} {B : State → Prop} {post : Int → Prop} {cc : ByteArray} {maxL : Nat} (hy : plainFor y = true) (hw : ws = Cond.code y cc maxL (some .long) :: ws') (hn : (lg_sl as).length ≤ maxL)
    (body : ∀ (p : Program) (e : Env) (s : State) (m : MethodId) (args : Array Value) (below : List Frame) (meth : Method) (c : Code) (Q : State → Prop) (ls : Array Slot), CallFix p m c cc maxL s args ws y.cls → (∀ (i : Int) (pc : Nat) (ls' : Array Slot), post i → decode cc pc = .ok (.lreturn, 1) → W p l e rm s m args below meth c s.heap [] 0 0 Q (F0 m pc ls' [jL i])) → B s → lv_has ls maxL (lv_args 0 as) → W p l e rm s m args below meth c s.heap [] 0 0 Q (F0 m 0 ls [])) : ML l y ws rm as B post := by
  refine Met_ofWF (cc := cc) (maxL := maxL) (ret := some .long) hy hw ?_
  intro p e s m args below meth c s₁ B' hml hv
  obtain ⟨rfl, hB⟩ := hv
  have hlocks := B'.notSynchronized
  rw [lg_entry_eq]
  exact body p e s m _ below meth c _ _ ⟨B'.exec, B'.bytes, hml, findClass_of_methodNamed B'.named, atoms_spec (ws := ws) B'.pre⟩ (fun i pc ls' hp hd => W.lret B'.exec B'.bytes B'.returns (fun t ht hW => ⟨i, rfl, hp, ht⟩) (fun _ h => by cases h) hd) hB (lv_entry as hn)
end
section
theorem plain_eq {w h n : Int} (hw : 0 ≤ w) (hh : 0 < h) (hn : 0 < n) : w * h / n % h = w % n * h / n := by
  have e1 : w * h = w % n * h + n * (w / n * h) := by
    have := Int.emod_add_mul_ediv w n
    calc w * h = (w % n + n * (w / n)) * h := by rw [this]
      _ = w % n * h + n * (w / n * h) := by rw [Int.add_mul, Int.mul_assoc]
  rw [e1, Int.add_mul_ediv_left _ _ (by omega), Int.add_mul_emod_self_right]
  have h1 := Int.emod_nonneg w (b := n) (by omega)
  have h2 := Int.emod_lt_of_pos w (b := n) hn
  have h3 : 0 ≤ w % n * h := Int.mul_nonneg h1 (by omega)
  refine Int.emod_eq_of_lt (Int.ediv_nonneg h3 (by omega)) ?_
  refine Int.ediv_lt_of_lt_mul hn ?_
  rw [Int.mul_comm h n]
  exact Int.mul_lt_mul_of_pos_right h2 hh
theorem hn_eq {w hc n i : Int} : (2 * i * w * hc + n) / (2 * n) = sp_hn w hc n i := by
  unfold sp_hn sp_nog
  rw [Int.mul_assoc 2 i w, Int.mul_assoc 2 (i * w) hc]
theorem er_k {t h : Int} (hh : 5 ≤ h ∧ h ≤ 120) : 0 ≤ 8 * (t % h) / h ∧ 8 * (t % h) / h ≤ 7 := by
  have h1 := Int.emod_nonneg t (b := h) (by omega)
  have h2 := Int.emod_lt_of_pos t (b := h) (by omega)
  have h3 : 0 ≤ 8 * (t % h) / h := Int.ediv_nonneg (by omega) (by omega)
  have h4 : 8 * (t % h) / h < 8 := Int.ediv_lt_of_lt_mul (by omega) (by omega)
  omega
theorem er_eq {E : Int → Int} {h s i : Int} (hh : 5 ≤ h ∧ h ≤ 120) : E (8 * (i * s % h) / h) * h + (E ((8 * (i * s % h) / h + 1) % 8) - E (8 * (i * s % h) / h)) * (8 * (i * s % h) % h) = sp_er E h s i := by
  have hk := @er_k (i * s) h hh
  unfold sp_er
  rw [Int.mul_comm (i * s % h) 8, Int.emod_eq_of_lt (a := 8 * (i * s % h) / h) (b := 8) hk.1 (by omega), Int.mul_sub, Int.sub_mul]
  omega
theorem sp_left {d p q : Int} : p * d - sp_mm d p q * q = p * d % q := by
  unfold sp_mm
  have h := Int.emod_def (p * d) q
  rw [Int.mul_comm q] at h
  exact h.symm
theorem ln_eq {d v p q : Int} : (2 * (p * d % q) * v + q - 1) / (2 * q) = sp_ln d v p q := by
  unfold sp_ln sp_nol
  rw [sp_left, Int.mul_assoc 2]
theorem sp_mm_iv2 {d p q : Int} (hd : 2 ≤ d ∧ d ≤ 720) (hp : 0 ≤ p) (hq : 1 ≤ q) (h : p < q) : 0 ≤ sp_mm d p q ∧ sp_mm d p q ≤ 720 := by
  unfold sp_mm
  have h1 : 0 ≤ p * d := Int.mul_nonneg hp (by omega)
  have h2 : 0 ≤ p * d / q := Int.ediv_nonneg h1 (by omega)
  have h3 : p * d ≤ q * d := Int.mul_le_mul_of_nonneg_right (by omega) (by omega)
  have h4 : p * d / q ≤ d := Int.ediv_le_of_le_mul (by omega) (by rw [Int.mul_comm d]; exact h3)
  omega
theorem sp_ln_iv2 {d v p q : Int} (hv : 2 ≤ v ∧ v ≤ 60) (hq : 1 ≤ q) : 0 ≤ sp_ln d v p q ∧ sp_ln d v p q ≤ 60 := by
  unfold sp_ln sp_nol
  rw [sp_left]
  have h1 : 0 ≤ p * d % q := Int.emod_nonneg _ (by omega)
  have h0 : p * d % q < q := Int.emod_lt_of_pos _ (by omega)
  generalize p * d % q = x at h1 h0 ⊢
  have h2 : 0 ≤ x * v := Int.mul_nonneg h1 (by omega)
  have h3 : x * v ≤ q * v := Int.mul_le_mul_of_nonneg_right (by omega) (by omega)
  have h4 : 0 ≤ (2 * (x * v) + q - 1) / (2 * q) := Int.ediv_nonneg (by omega) (by omega)
  have h5 : (2 * (x * v) + q - 1) / (2 * q) < v + 1 := Int.ediv_lt_of_lt_mul (by omega) (by
    have h6 : v * (2 * q) = 2 * (q * v) := by rw [Int.mul_left_comm, Int.mul_comm v]
    rw [Int.add_mul, h6]
    omega)
  omega
theorem sp_rd_iv2 {d v p q : Int} (hd : 2 ≤ d ∧ d ≤ 720) (hv : 2 ≤ v ∧ v ≤ 60) (hp : 0 ≤ p) (hq : 1 ≤ q) (h : p < q) : 0 ≤ sp_rd d v p q ∧ sp_rd d v p q ≤ 43260 := by
  have h1 := sp_mm_iv2 hd hp hq h
  have h2 := sp_ln_iv2 (d := d) (p := p) hv hq
  have h3 : 0 ≤ sp_mm d p q * v ∧ sp_mm d p q * v ≤ 43200 := iv_mulp h1 hv (by decide)
  unfold sp_rd
  omega
theorem mm_two {d a c : Int} (hc : 0 < c) : sp_mm d (2 * a) (2 * c) = sp_mm d a c := by
  unfold sp_mm
  rw [Int.mul_assoc, Int.mul_ediv_mul_of_pos _ _ (by decide)]
theorem ln_two {d v a c : Int} (hc : 0 < c) : sp_ln d v (2 * a) (2 * c) = sp_ln d v a c := by
  unfold sp_ln sp_nol
  rw [sp_left, sp_left, Int.mul_assoc 2 a d, Int.mul_emod_mul_of_pos _ _ (by decide), Int.mul_assoc 2]
  generalize a * d % c * v = x
  have h1 : (2 * (2 * x) + 2 * c - 1) / (2 * (2 * c)) = (2 * (2 * x) + 2 * c - 1) / 2 / (2 * c) := by
    rw [Int.ediv_ediv_of_nonneg (by decide)]
  rw [h1]
  congr 1
  omega
theorem rd_two {d v a c : Int} (hc : 0 < c) : sp_rd d v (2 * a) (2 * c) = sp_rd d v a c := by
  unfold sp_rd
  rw [mm_two hc, ln_two hc]
theorem two_a {p q e : Int} (hq : 0 < q) : (2000000 * p + 2 * e * q + 2000000 * q) % (2000000 * q) = 2 * ((p * 1000000 + e * q) % (q * 1000000)) := by
  rw [← Int.mul_emod_mul_of_pos _ _ (show (0 : Int) < 2 by decide), show 2 * (q * 1000000) = 2000000 * q by omega, Int.add_emod_right, Int.mul_assoc 2 e q]
  congr 1
  omega
theorem two_b {p q e : Int} (hq : 0 < q) : (2000000 * p + 1000000 * q - 2 * e * q + 2000000 * q) % (2000000 * q) = 2 * ((p * 1000000 + q * 500000 - e * q) % (q * 1000000)) := by
  rw [← Int.mul_emod_mul_of_pos _ _ (show (0 : Int) < 2 by decide), show 2 * (q * 1000000) = 2000000 * q by omega, Int.add_emod_right, Int.mul_assoc 2 e q]
  congr 1
  omega
theorem two_r1 {d v p q e : Int} (hq : 0 < q) : sp_rd d v ((2000000 * p + 2 * e * q + 2000000 * q) % (2000000 * q)) (2000000 * q) = sp_r1 d v p q e := by
  unfold sp_r1
  rw [two_a hq, show 2000000 * q = 2 * (q * 1000000) by omega, rd_two (by omega)]
theorem two_r2 {d v p q e : Int} (hq : 0 < q) : sp_rd d v ((2000000 * p + 1000000 * q - 2 * e * q + 2000000 * q) % (2000000 * q)) (2000000 * q) = sp_r2 d v p q e := by
  unfold sp_r2
  rw [two_b hq, show 2000000 * q = 2 * (q * 1000000) by omega, rd_two (by omega)]
theorem sp_r1_iv {d v p q e : Int} (hd : 2 ≤ d ∧ d ≤ 720) (hv : 2 ≤ v ∧ v ≤ 60) (hq : 0 < q) : 0 ≤ sp_r1 d v p q e ∧ sp_r1 d v p q e ≤ 43260 := sp_rd_iv2 hd hv (Int.emod_nonneg _ (by omega)) (by omega) (Int.emod_lt_of_pos _ (by omega))
theorem sp_r2_iv {d v p q e : Int} (hd : 2 ≤ d ∧ d ≤ 720) (hv : 2 ≤ v ∧ v ≤ 60) (hq : 0 < q) : 0 ≤ sp_r2 d v p q e ∧ sp_r2 d v p q e ≤ 43260 := sp_rd_iv2 hd hv (Int.emod_nonneg _ (by omega)) (by omega) (Int.emod_lt_of_pos _ (by omega))
theorem eq_bd {p q e : Int} (hq : 1 ≤ q) (he : -1000 ≤ e ∧ e ≤ 1000) : -(2000 * q) ≤ 2 * e * q ∧ 2 * e * q ≤ 2000 * q := by
  have h1 : -1000 * q ≤ e * q := Int.mul_le_mul_of_nonneg_right he.1 (by omega)
  have h2 : e * q ≤ 1000 * q := Int.mul_le_mul_of_nonneg_right he.2 (by omega)
  rw [Int.mul_assoc 2 e q]
  omega
/-- near -/
abbrev NearInv (p q k U B O : Int) : Prop := (k = 1 ∧ B = 1 ∧ U = 0 ∧ O = p) ∨ (2 ≤ k ∧ B = sp_nr p q (k - 1) ∧ U = sp_nol (p * B) q ∧ O = sp_gap p q B)
theorem near_d {x q : Int} (hq : 1 ≤ q) : 0 ≤ x - x / q * q ∧ x - x / q * q < q := by
  have h := Int.emod_def x q
  rw [Int.mul_comm q] at h
  rw [← h]
  exact ⟨Int.emod_nonneg _ (by omega), Int.emod_lt_of_pos _ (by omega)⟩
theorem near_1 {x t q : Int} (hq : 1 ≤ q) : x - (t + 1) * q = (x - t * q) - q := by
  rw [Int.add_mul, Int.one_mul]
  omega
theorem nol_lo {x q t : Int} (hq : 1 ≤ q) (ht : t = x / q) (h : x - t * q ≤ q - (x - t * q)) : sp_nol x q = t := by
  have h0 := @near_d x q hq
  rw [← ht] at h0
  unfold sp_nol
  refine Int.le_antisymm (Int.le_of_lt_add_one (Int.ediv_lt_of_lt_mul (by omega) ?_)) ((Int.le_ediv_iff_mul_le (by omega)).mpr ?_)
  · rw [Int.add_mul, Int.mul_left_comm t]
    omega
  · rw [Int.mul_left_comm t]
    omega
theorem nol_hi {x q t : Int} (hq : 1 ≤ q) (ht : t = x / q) (h : q - (x - t * q) < x - t * q) : sp_nol x q = t + 1 := by
  have h0 := @near_d x q hq
  rw [← ht] at h0
  unfold sp_nol
  refine Int.le_antisymm (Int.le_of_lt_add_one (Int.ediv_lt_of_lt_mul (by omega) ?_)) ((Int.le_ediv_iff_mul_le (by omega)).mpr ?_)
  · rw [Int.add_mul, Int.add_mul, Int.mul_left_comm t]
    omega
  · rw [Int.add_mul, Int.mul_left_comm t]
    omega
theorem gap_lo {p k q t : Int} (hq : 1 ≤ q) (ht : t = p * k / q) (h : p * k - t * q ≤ q - (p * k - t * q)) : sp_gap p q k = p * k - t * q := by
  have h0 := @near_d (p * k) q hq
  rw [← ht] at h0
  unfold sp_gap
  rw [nol_lo hq ht h]
  omega
theorem gap_hi {p k q t : Int} (hq : 1 ≤ q) (ht : t = p * k / q) (h : q - (p * k - t * q) < p * k - t * q) : sp_gap p q k = q - (p * k - t * q) := by
  have h0 := @near_d (p * k) q hq
  rw [← ht] at h0
  unfold sp_gap
  rw [nol_hi hq ht h, Int.add_mul, Int.one_mul]
  omega
theorem near_new {p q k U B O : Int} (hk : 1 ≤ k) (hI : NearInv p q k U B O) (hc : sp_gap p q k * B < O * k) : k = sp_nr p q k := by
  rcases hI with ⟨h1, -⟩ | ⟨h1, h2, -, h4⟩
  · subst h1
    exact sp_nr_1.symm
  · rw [sp_nr_s h1, ← h2, ← h4, if_pos hc]
theorem near_new1 {p q k U B O : Int} (hk : 1 ≤ k) (hI : NearInv p q k U B O) (hc : sp_gap p q k * B < O * k) : NearInv p q (k + 1) (sp_nol (p * k) q) k (sp_gap p q k) := by
  refine Or.inr ⟨by omega, ?_, rfl, rfl⟩
  rw [show k + 1 - 1 = k by omega]
  exact near_new hk hI hc
theorem lt_of_mk {a b k : Int} (hk : 0 < k) (h : a * k < b * k) : a < b := Int.lt_of_mul_lt_mul_right h (by omega)
theorem le_of_mk {a b k : Int} (hk : 0 < k) (h : a * k ≤ b * k) : a ≤ b := Int.le_of_mul_le_mul_right h hk
theorem near_1a {p q k U B O t o2 : Int} (hk : 1 ≤ k) (hq : 1 ≤ q) (hB : 1 ≤ B) (hI : NearInv p q k U B O) (ht : t = p * k / q) (ho : o2 = q - (p * k - t * q)) (c1 : (p * k - t * q) * B < O * k) (c2 : o2 * k < (p * k - t * q) * k) : NearInv p q (k + 1) (t + 1) k o2 := by
  have h1 : o2 < p * k - t * q := lt_of_mk (by omega) c2
  subst ho
  rw [← gap_hi hq ht h1, ← nol_hi hq ht h1]
  refine near_new1 hk hI ?_
  rw [gap_hi hq ht h1]
  have := Int.mul_le_mul_of_nonneg_right (Int.le_of_lt h1) (show 0 ≤ B by omega)
  omega
theorem near_1b {p q k U B O t o2 : Int} (hk : 1 ≤ k) (hq : 1 ≤ q) (hI : NearInv p q k U B O) (ht : t = p * k / q) (ho : o2 = q - (p * k - t * q)) (c1 : (p * k - t * q) * B < O * k) (c2 : (p * k - t * q) * k ≤ o2 * k) : NearInv p q (k + 1) t k (p * k - t * q) := by
  have h1 : p * k - t * q ≤ o2 := le_of_mk (by omega) c2
  subst ho
  have e1 := gap_lo hq ht h1
  have e2 := nol_lo hq ht h1
  have h3 := near_new1 hk hI (by rw [e1]; exact c1)
  rw [e1, e2] at h3
  exact h3
theorem near_2a {p q k U B O t o2 : Int} (hk : 1 ≤ k) (hq : 1 ≤ q) (hB : 1 ≤ B) (hI : NearInv p q k U B O) (ht : t = p * k / q) (ho : o2 = q - (p * k - t * q)) (c1 : O * k ≤ (p * k - t * q) * B) (c2 : o2 * B < O * k) : NearInv p q (k + 1) (t + 1) k o2 := by
  have h1 : o2 < p * k - t * q := lt_of_mk (show 0 < B by omega) (by omega)
  subst ho
  have e1 := gap_hi hq ht h1
  have e2 := nol_hi hq ht h1
  have h3 := near_new1 hk hI (by rw [e1]; exact c2)
  rw [e1, e2] at h3
  exact h3
theorem near_2b {p q k U B O t o2 : Int} (hp : 1 ≤ p) (hk : 1 ≤ k) (hq : 1 ≤ q) (hI : NearInv p q k U B O) (ht : t = p * k / q) (ho : o2 = q - (p * k - t * q)) (c1 : O * k ≤ (p * k - t * q) * B) (c2 : O * k ≤ o2 * B) : NearInv p q (k + 1) U B O := by
  have h0 := @near_d (p * k) q hq
  rw [← ht] at h0
  rcases hI with ⟨h1, h2, h3, h4⟩ | ⟨h1, h2, h3, h4⟩
  · subst h1
    subst h2
    subst h3
    subst h4
    rw [Int.mul_one] at ht h0 c1 c2 ho
    rw [Int.mul_one] at c1 c2
    have ht0 : 0 ≤ t := by
      rw [ht]
      exact Int.ediv_nonneg (by omega) (by omega)
    have h5 : t = 0 := by
      rcases Int.lt_or_le t 1 with h | h
      · omega
      · have := Int.mul_le_mul_of_nonneg_right h (show 0 ≤ q by omega)
        omega
    subst h5
    have e0 : (0 : Int) = O * 1 / q := by
      rw [Int.mul_one]
      exact ht
    have e1 := gap_lo (p := O) (k := 1) hq e0 (by omega)
    have e2 := nol_lo (x := O * 1) hq e0 (by omega)
    refine Or.inr ⟨by omega, sp_nr_1.symm, e2.symm, ?_⟩
    rw [e1]
    omega
  · refine Or.inr ⟨by omega, ?_, h3, h4⟩
    rw [show k + 1 - 1 = k by omega, sp_nr_s h1, ← h2, ← h4, if_neg]
    · rcases Int.lt_or_le o2 (p * k - t * q) with h | h
      · rw [gap_hi hq ht (by omega), ← ho]
        omega
      · rw [gap_lo hq ht (by omega)]
        omega
end
section
/-! trains, and what the writing calls answer and leave -/
abbrev Q2 (T : Int → Int) (p q a b : Int) : Prop := a ≠ b ∧ T a * q = T b * p
abbrev Q4 (T : Int → Int) (p q a b c d : Int) : Prop := (a ≠ b ∧ a ≠ c ∧ a ≠ d ∧ b ≠ c ∧ b ≠ d ∧ c ≠ d) ∧ T a * T c * q = T b * T d * p
def No2 (gc : Int) (T : Int → Int) (p q : Int) : Prop := ∀ a b, 0 ≤ a → a < gc → 0 ≤ b → b < gc → ¬ Q2 T p q a b
def No4 (gc : Int) (T : Int → Int) (p q : Int) : Prop := ∀ a b c d, 0 ≤ a → a < gc → 0 ≤ b → b < gc → 0 ≤ c → c < gc → 0 ≤ d → d < gc → ¬ Q4 T p q a b c d
def Two (gc : Int) (T : Int → Int) (p q a b : Int) : Prop := (0 ≤ a ∧ a < gc) ∧ (0 ≤ b ∧ b < gc) ∧ Q2 T p q a b ∧ ∀ a' b', 0 ≤ a' → a' < gc → 0 ≤ b' → b' < gc → 10 * a' + b' < 10 * a + b → ¬ Q2 T p q a' b'
def Sec (gc : Int) (T : Int → Int) (p q a b c d : Int) : Prop := (0 ≤ c ∧ c < gc) ∧ (0 ≤ d ∧ d < gc) ∧ Q4 T p q a b c d ∧ ∀ c' d', 0 ≤ c' → c' < gc → 0 ≤ d' → d' < gc → 10 * c' + d' < 10 * c + d → ¬ Q4 T p q a b c' d'
def Four (gc : Int) (T : Int → Int) (p q a b c d : Int) : Prop := (0 ≤ a ∧ a < gc) ∧ (0 ≤ b ∧ b < gc) ∧ (0 ≤ c ∧ c < gc) ∧ (0 ≤ d ∧ d < gc) ∧ Q4 T p q a b c d ∧ ∀ a' b' c' d', 0 ≤ a' → a' < gc → 0 ≤ b' → b' < gc → 0 ≤ c' → c' < gc → 0 ≤ d' → d' < gc → 1000 * a' + 100 * b' + 10 * c' + d' < 1000 * a + 100 * b + 10 * c + d → ¬ Q4 T p q a' b' c' d'
def Tr (gc : Int) (T : Int → Int) (p q a b c d : Int) : Prop := (Two gc T p q a b ∧ c = -6 ∧ d = -6) ∨ (No2 gc T p q ∧ Four gc T p q a b c d)
def NoTr (gc : Int) (T : Int → Int) (p q : Int) : Prop := No2 gc T p q ∧ No4 gc T p q
def GW (gc : Int) (T : Int → Int) (t ta tb tc r : Int) : Prop := (r = -6 ∧ ∀ g, 0 ≤ g → g < gc → ¬ (T g = t ∧ g ≠ ta ∧ g ≠ tb ∧ g ≠ tc)) ∨ ((0 ≤ r ∧ r < gc) ∧ (T r = t ∧ r ≠ ta ∧ r ≠ tb ∧ r ≠ tc) ∧ ∀ g, 0 ≤ g → g < r → ¬ (T g = t ∧ g ≠ ta ∧ g ≠ tb ∧ g ≠ tc))
theorem GW_iv {gc t ta tb tc r : Int} {T : Int → Int} (hgc : 0 ≤ gc ∧ gc ≤ 10) (h : GW gc T t ta tb tc r) : -6 ≤ r ∧ r ≤ 9 := by
  rcases h with h | h <;> omega
theorem Tr_no {gc p q a b c d : Int} {T : Int → Int} (h : Tr gc T p q a b c d) : ¬ NoTr gc T p q := by
  intro hn
  rcases h with h | h
  · exact hn.1 a b h.1.1.1 h.1.1.2 h.1.2.1.1 h.1.2.1.2 h.1.2.2.1
  · obtain ⟨-, h1, h2, h3, h4, h5, -⟩ := h
    exact hn.2 a b c d h1.1 h1.2 h2.1 h2.2 h3.1 h3.2 h4.1 h4.2 h5
theorem Tr_det {gc p q a b c d a' b' c' d' : Int} {T : Int → Int} (hgc : gc ≤ 10) (h : Tr gc T p q a b c d) (h' : Tr gc T p q a' b' c' d') : a = a' ∧ b = b' ∧ c = c' ∧ d = d' := by
  rcases h with ⟨⟨h1, h2, h3, h4⟩, h5, h6⟩ | ⟨h0, h1, h2, h3, h4, h5, h6⟩ <;> rcases h' with ⟨⟨g1, g2, g3, g4⟩, g5, g6⟩ | ⟨g0, g1, g2, g3, g4, g5, g6⟩
  · have e1 : ¬ (10 * a' + b' < 10 * a + b) := fun q => h4 a' b' g1.1 g1.2 g2.1 g2.2 q g3
    have e2 : ¬ (10 * a + b < 10 * a' + b') := fun q => g4 a b h1.1 h1.2 h2.1 h2.2 q h3
    omega
  · exact absurd h3 (g0 a b h1.1 h1.2 h2.1 h2.2)
  · exact absurd g3 (h0 a' b' g1.1 g1.2 g2.1 g2.2)
  · have e1 : ¬ (1000 * a' + 100 * b' + 10 * c' + d' < 1000 * a + 100 * b + 10 * c + d) := fun q => h6 a' b' c' d' g1.1 g1.2 g2.1 g2.2 g3.1 g3.2 g4.1 g4.2 q g5
    have e2 : ¬ (1000 * a + 100 * b + 10 * c + d < 1000 * a' + 100 * b' + 10 * c' + d') := fun q => g6 a b c d h1.1 h1.2 h2.1 h2.2 h3.1 h3.2 h4.1 h4.2 q h5
    omega
theorem sp_eq_t {up low t : Int} (hl : 1 ≤ low) (ht : t ≠ 0) : t = sp_eq up low ↔ up = t * low := by
  constructor
  · intro e
    by_cases h : up.tmod low = 0
    · rw [sp_eq_1 hl h] at e
      have := Int.tmod_def up low
      rw [h, ← e, Int.mul_comm low] at this
      omega
    · rw [sp_eq_0 (Or.inr h)] at e
      exact absurd e ht
  · intro e
    have h : up.tmod low = 0 := by
      rw [e]
      exact Int.mul_tmod_left ..
    rw [sp_eq_1 hl h, e, Int.mul_tdiv_cancel _ (by omega)]
theorem two_eq {T : Int → Int} {gc p q k b : Int} (hp : 1 ≤ p) (hT : ∀ j, 0 ≤ j → j < gc → 12 ≤ T j ∧ T j ≤ 120) (hb : 0 ≤ b ∧ b < gc) : Q2 T p q k b ↔ (T b = sp_eq (T k * q) p ∧ b ≠ k ∧ b ≠ k ∧ b ≠ k) := by
  have h1 := hT b hb.1 hb.2
  have h2 := @sp_eq_t (T k * q) p (T b) hp (by omega)
  constructor
  · intro h
    exact ⟨h2.mpr h.2, fun e => h.1 e.symm, fun e => h.1 e.symm, fun e => h.1 e.symm⟩
  · intro h
    exact ⟨fun e => h.2.1 e.symm, h2.mp h.1⟩
theorem two_found {T : Int → Int} {gc p q k r : Int} (hp : 1 ≤ p) (hgc : gc ≤ 10) (hT : ∀ j, 0 ≤ j → j < gc → 12 ≤ T j ∧ T j ≤ 120) (hk : 0 ≤ k ∧ k < gc) (hz : ∀ a b, 0 ≤ a → a < k → 0 ≤ b → b < gc → ¬ Q2 T p q a b) (hG : GW gc T (sp_eq (T k * q) p) k k k r) (hr : ¬ r = -6) : Two gc T p q k r := by
  rcases hG with hG | ⟨h1, h2, h3⟩
  · exact absurd hG.1 hr
  · refine ⟨hk, h1, (two_eq hp hT h1).mpr h2, fun a' b' a1 a2 b1 b2 hlt hq => ?_⟩
    by_cases e : a' < k
    · exact hz a' b' a1 e b1 b2 hq
    · have e2 : a' = k := by omega
      rw [e2] at hq
      exact h3 b' b1 (by omega) ((two_eq hp hT ⟨b1, b2⟩).mp hq)
theorem two_step {T : Int → Int} {gc p q k r : Int} (hp : 1 ≤ p) (hT : ∀ j, 0 ≤ j → j < gc → 12 ≤ T j ∧ T j ≤ 120) (hk : 0 ≤ k ∧ k < gc) (hz : ∀ a b, 0 ≤ a → a < k → 0 ≤ b → b < gc → ¬ Q2 T p q a b) (hG : GW gc T (sp_eq (T k * q) p) k k k r) (hr : r = -6) : ∀ a b, 0 ≤ a → a < k + 1 → 0 ≤ b → b < gc → ¬ Q2 T p q a b := by
  intro a b a1 a2 b1 b2 hq
  by_cases e : a < k
  · exact hz a b a1 e b1 b2 hq
  · have e2 : a = k := by omega
    rw [e2] at hq
    rcases hG with hG | ⟨h1, -, -⟩
    · exact hG.2 b b1 b2 ((two_eq hp hT ⟨b1, b2⟩).mp hq)
    · omega
theorem sec_eq {T : Int → Int} {gc p q g1 g2 k b : Int} (hp : 1 ≤ p) (hT : ∀ j, 0 ≤ j → j < gc → 12 ≤ T j ∧ T j ≤ 120) (hg2 : 0 ≤ g2 ∧ g2 < gc) (hne : g1 ≠ g2) (k1 : k ≠ g1) (k2 : k ≠ g2) (hb : 0 ≤ b ∧ b < gc) : Q4 T p q g1 g2 k b ↔ (T b = sp_eq (T g1 * T k * q) (T g2 * p) ∧ b ≠ g1 ∧ b ≠ g2 ∧ b ≠ k) := by
  have h1 := hT b hb.1 hb.2
  have h0 := hT g2 hg2.1 hg2.2
  have hl : 1 ≤ T g2 * p := by
    have := Int.mul_pos (show 0 < T g2 by omega) (show 0 < p by omega)
    omega
  have h2 := @sp_eq_t (T g1 * T k * q) (T g2 * p) (T b) hl (by omega)
  have h3 : T g2 * T b * p = T b * (T g2 * p) := by rw [Int.mul_comm (T g2), Int.mul_assoc]
  constructor
  · intro h
    exact ⟨h2.mpr (by rw [← h3]; exact h.2), fun e => h.1.2.2.1 e.symm, fun e => h.1.2.2.2.2.1 e.symm, fun e => h.1.2.2.2.2.2 e.symm⟩
  · intro h
    refine ⟨⟨hne, fun e => k1 e.symm, fun e => h.2.1 e.symm, fun e => k2 e.symm, fun e => h.2.2.1 e.symm, fun e => h.2.2.2 e.symm⟩, ?_⟩
    rw [h3]
    exact h2.mp h.1
theorem sec_found {T : Int → Int} {gc p q g1 g2 k r : Int} (hp : 1 ≤ p) (hgc : gc ≤ 10) (hT : ∀ j, 0 ≤ j → j < gc → 12 ≤ T j ∧ T j ≤ 120) (hg2 : 0 ≤ g2 ∧ g2 < gc) (hne : g1 ≠ g2) (k1 : k ≠ g1) (k2 : k ≠ g2) (hk : 0 ≤ k ∧ k < gc) (hz : ∀ c d, 0 ≤ c → c < k → 0 ≤ d → d < gc → ¬ Q4 T p q g1 g2 c d) (hG : GW gc T (sp_eq (T g1 * T k * q) (T g2 * p)) g1 g2 k r) (hr : ¬ r = -6) : Sec gc T p q g1 g2 k r := by
  rcases hG with hG | ⟨h1, h2, h3⟩
  · exact absurd hG.1 hr
  · refine ⟨hk, h1, (sec_eq hp hT hg2 hne k1 k2 h1).mpr h2, fun a' b' a1 a2 b1 b2 hlt hq => ?_⟩
    by_cases e : a' < k
    · exact hz a' b' a1 e b1 b2 hq
    · have e2 : a' = k := by omega
      rw [e2] at hq
      exact h3 b' b1 (by omega) ((sec_eq hp hT hg2 hne k1 k2 ⟨b1, b2⟩).mp hq)
theorem sec_step {T : Int → Int} {gc p q g1 g2 k r : Int} (hp : 1 ≤ p) (hT : ∀ j, 0 ≤ j → j < gc → 12 ≤ T j ∧ T j ≤ 120) (hg2 : 0 ≤ g2 ∧ g2 < gc) (hne : g1 ≠ g2) (k1 : k ≠ g1) (k2 : k ≠ g2) (hz : ∀ c d, 0 ≤ c → c < k → 0 ≤ d → d < gc → ¬ Q4 T p q g1 g2 c d) (hG : GW gc T (sp_eq (T g1 * T k * q) (T g2 * p)) g1 g2 k r) (hr : r = -6) : ∀ c d, 0 ≤ c → c < k + 1 → 0 ≤ d → d < gc → ¬ Q4 T p q g1 g2 c d := by
  intro a b a1 a2 b1 b2 hq
  by_cases e : a < k
  · exact hz a b a1 e b1 b2 hq
  · have e2 : a = k := by omega
    rw [e2] at hq
    rcases hG with hG | ⟨h1, -, -⟩
    · exact hG.2 b b1 b2 ((sec_eq hp hT hg2 hne k1 k2 ⟨b1, b2⟩).mp hq)
    · omega
theorem sec_skip {T : Int → Int} {gc p q g1 g2 k : Int} (hk : k = g1 ∨ k = g2) (hz : ∀ c d, 0 ≤ c → c < k → 0 ≤ d → d < gc → ¬ Q4 T p q g1 g2 c d) : ∀ c d, 0 ≤ c → c < k + 1 → 0 ≤ d → d < gc → ¬ Q4 T p q g1 g2 c d := by
  intro a b a1 a2 b1 b2 hq
  by_cases e : a < k
  · exact hz a b a1 e b1 b2 hq
  · have := hq.1
    omega
theorem four_found {T : Int → Int} {gc p q x1 x2 c d : Int} (hgc : gc ≤ 10) (h1 : 0 ≤ x1 ∧ x1 < gc) (h2 : 0 ≤ x2 ∧ x2 < gc) (hz : ∀ a b c d, 0 ≤ a → a < x1 → 0 ≤ b → b < gc → 0 ≤ c → c < gc → 0 ≤ d → d < gc → ¬ Q4 T p q a b c d) (hz2 : ∀ b c d, 0 ≤ b → b < x2 → 0 ≤ c → c < gc → 0 ≤ d → d < gc → ¬ Q4 T p q x1 b c d) (hs : Sec gc T p q x1 x2 c d) : Four gc T p q x1 x2 c d := by
  obtain ⟨s1, s2, s3, s4⟩ := hs
  refine ⟨h1, h2, s1, s2, s3, fun a' b' c' d' a1 a2 b1 b2 c1 c2 d1 d2 hlt hq => ?_⟩
  by_cases e : a' < x1
  · exact hz a' b' c' d' a1 e b1 b2 c1 c2 d1 d2 hq
  · have ea : a' = x1 := by omega
    rw [ea] at hq
    by_cases e2 : b' < x2
    · exact hz2 b' c' d' b1 e2 c1 c2 d1 d2 hq
    · have eb : b' = x2 := by omega
      rw [eb] at hq
      exact s4 c' d' c1 c2 d1 d2 (by omega) hq
def sel (a b c d k : Int) : Int := if k = 0 then a else if k = 1 then b else if k = 2 then c else d
theorem sel_eq {u : Int → Int} {k : Int} (h : 0 ≤ k ∧ k ≤ 3) : u k = sel (u 0) (u 1) (u 2) (u 3) k := by
  unfold sel
  have h4 : k = 0 ∨ k = 1 ∨ k = 2 ∨ k = 3 := by omega
  rcases h4 with rfl | rfl | rfl | rfl <;> rfl
def P_train (gc : Int) (T : Int → Int) (p q what i : Int) : Prop :=
  ((((p < 1 ∨ 1000000 < p) ∨ (q < 1 ∨ 1000000 < q)) ∨ (what < 0 ∨ 3 < what)) ∧ i = -2) ∨
  (¬ (((p < 1 ∨ 1000000 < p) ∨ (q < 1 ∨ 1000000 < q)) ∨ (what < 0 ∨ 3 < what)) ∧ NoTr gc T p q ∧ i = -6) ∨
  (¬ (((p < 1 ∨ 1000000 < p) ∨ (q < 1 ∨ 1000000 < q)) ∨ (what < 0 ∨ 3 < what)) ∧ ∃ a b c d, Tr gc T p q a b c d ∧ i = sel a b c d what)
theorem P_train_det {gc p q what i j : Int} {T : Int → Int} (hgc : gc ≤ 10) (hi : P_train gc T p q what i) (hj : P_train gc T p q what j) : i = j := by
  rcases hi with ⟨h1, h2⟩ | ⟨h1, h2, h3⟩ | ⟨h1, a, b, c, d, h2, h3⟩ <;> rcases hj with ⟨g1, g2⟩ | ⟨g1, g2, g3⟩ | ⟨g1, a', b', c', d', g2, g3⟩
  · omega
  · exact absurd h1 g1
  · exact absurd h1 g1
  · exact absurd g1 h1
  · omega
  · exact absurd h2 (Tr_no g2)
  · exact absurd g1 h1
  · exact absurd g2 (Tr_no h2)
  · obtain ⟨rfl, rfl, rfl, rfl⟩ := Tr_det hgc h2 g2
    rw [h3, g3]
def mk (n j : Int) : Int := if j % 2 = 0 then n - j / 2 else n + j / 2
theorem mk_e {n k : Int} : mk n (2 * k) = n - k := by
  unfold mk
  rw [if_pos (by omega)]
  omega
theorem mk_o {n k : Int} : mk n (2 * k + 1) = n + k := by
  unfold mk
  rw [if_neg (by omega)]
  omega
def Gd (w cc : Int) (H : Int → Int) (gc : Int) (T : Int → Int) (n j : Int) : Prop := (2 ≤ mk n j ∧ mk n j ≤ 1000) ∧ sp_pl w H (mk n j) cc ≠ -6 ∧ ¬ NoTr gc T (j / 2 * w) (mk n j)
def dsel (w cc : Int) (H : Int → Int) (n what j a b c d : Int) : Int := if what = 0 then mk n j else if what = 1 then sp_pl w H (mk n j) cc else if what = 6 then (if n < mk n j then 1 else 0) else sel a b c d (what - 2)
def P_diff (w cc : Int) (H : Int → Int) (gc : Int) (T : Int → Int) (n what i : Int) : Prop :=
  (((n < 2 ∨ 1000 < n) ∨ (what < 0 ∨ 6 < what)) ∧ i = -2) ∨
  (¬ ((n < 2 ∨ 1000 < n) ∨ (what < 0 ∨ 6 < what)) ∧ (∀ j, 2 ≤ j → j < 22 → ¬ Gd w cc H gc T n j) ∧ i = -6) ∨
  (¬ ((n < 2 ∨ 1000 < n) ∨ (what < 0 ∨ 6 < what)) ∧ ∃ j a b c d, (2 ≤ j ∧ j < 22) ∧ Gd w cc H gc T n j ∧ (∀ j', 2 ≤ j' → j' < j → ¬ Gd w cc H gc T n j') ∧ Tr gc T (j / 2 * w) (mk n j) a b c d ∧ i = dsel w cc H n what j a b c d)
theorem P_diff_det {w cc gc n what i j : Int} {H T : Int → Int} (hgc : gc ≤ 10) (hi : P_diff w cc H gc T n what i) (hj : P_diff w cc H gc T n what j) : i = j := by
  rcases hi with ⟨h1, h2⟩ | ⟨h1, h2, h3⟩ | ⟨h1, k, a, b, c, d, h2, h3, h4, h5, h6⟩ <;> rcases hj with ⟨g1, g2⟩ | ⟨g1, g2, g3⟩ | ⟨g1, k', a', b', c', d', g2, g3, g4, g5, g6⟩
  · omega
  · exact absurd h1 g1
  · exact absurd h1 g1
  · exact absurd g1 h1
  · omega
  · exact absurd g3 (h2 k' g2.1 g2.2)
  · exact absurd g1 h1
  · exact absurd h3 (g2 k h2.1 h2.2)
  · have e1 : ¬ k' < k := fun q => h4 k' g2.1 q g3
    have e2 : ¬ k < k' := fun q => g4 k h2.1 q h3
    have e3 : k = k' := by omega
    subst e3
    obtain ⟨rfl, rfl, rfl, rfl⟩ := Tr_det hgc h5 g5
    rw [h6, g6]
/-- what standsIn answers, m being n less or and k -/
def SI (w cc : Int) (H : Int → Int) (gc : Int) (T : Int → Int) (x n i : Int) (u : Int → Int) : Prop := (i = 1 ∧ ((2 ≤ x ∧ x ≤ 1000) ∧ sp_pl w H x cc ≠ -6) ∧ Tr gc T (((Int.natAbs (x - n) : Nat) : Int) * w) x (u 0) (u 1) (u 2) (u 3)) ∨ (i = 0 ∧ ¬ (((2 ≤ x ∧ x ≤ 1000) ∧ sp_pl w H x cc ≠ -6) ∧ ¬ NoTr gc T (((Int.natAbs (x - n) : Nat) : Int) * w) x))
def PB (w cc : Int) (H : Int → Int) (gc : Int) (T : Int → Int) (n i : Int) (u : Int → Int) : Prop := (∃ j, (2 ≤ j ∧ j < 22) ∧ Gd w cc H gc T n j ∧ (∀ j', 2 ≤ j' → j' < j → ¬ Gd w cc H gc T n j') ∧ Tr gc T (j / 2 * w) (mk n j) (u 0) (u 1) (u 2) (u 3) ∧ i = mk n j) ∨ ((∀ j, 2 ≤ j → j < 22 → ¬ Gd w cc H gc T n j) ∧ i = -6)
theorem SI_key {w cc gc n j x k i : Int} {H T u : Int → Int} (hk : 0 ≤ k) (hj : j / 2 = k) (hm : mk n j = x) (hx : x = n - k ∨ x = n + k) (h : SI w cc H gc T x n i u) : (i = 1 ∧ Gd w cc H gc T n j ∧ Tr gc T (j / 2 * w) (mk n j) (u 0) (u 1) (u 2) (u 3)) ∨ (i = 0 ∧ ¬ Gd w cc H gc T n j) := by
  have e : ((Int.natAbs (x - n) : Nat) : Int) = k := by omega
  unfold SI at h
  unfold Gd
  rw [e] at h
  rw [hm, hj]
  rcases h with ⟨h1, h2, h3⟩ | ⟨h1, h2⟩
  · exact Or.inl ⟨h1, ⟨h2.1, h2.2, Tr_no h3⟩, h3⟩
  · exact Or.inr ⟨h1, fun q => h2 ⟨⟨q.1, q.2.1⟩, q.2.2⟩⟩
theorem PB_e {w cc gc n k i : Int} {H T u : Int → Int} (hk : 1 ≤ k ∧ k ≤ 10) (hz : ∀ j, 2 ≤ j → j < 2 * k → ¬ Gd w cc H gc T n j) (h : SI w cc H gc T (n - k) n i u) (hi : ¬ i = 0) : PB w cc H gc T n (n - k) u := by
  rcases SI_key (j := 2 * k) (k := k) (by omega) (by omega) mk_e (Or.inl rfl) h with ⟨h1, h2, h3⟩ | ⟨h1, -⟩
  · exact Or.inl ⟨2 * k, by omega, h2, hz, h3, mk_e.symm⟩
  · exact absurd h1 hi
theorem PB_o {w cc gc n k i i2 : Int} {H T u u2 : Int → Int} (hk : 1 ≤ k ∧ k ≤ 10) (hz : ∀ j, 2 ≤ j → j < 2 * k → ¬ Gd w cc H gc T n j) (h : SI w cc H gc T (n - k) n i u) (hi : i = 0) (h2 : SI w cc H gc T (n + k) n i2 u2) (hi2 : ¬ i2 = 0) : PB w cc H gc T n (n + k) u2 := by
  rcases SI_key (j := 2 * k) (k := k) (by omega) (by omega) mk_e (Or.inl rfl) h with ⟨h1, -⟩ | ⟨-, g⟩
  · omega
  rcases SI_key (j := 2 * k + 1) (k := k) (by omega) (by omega) mk_o (Or.inr rfl) h2 with ⟨h1, h2, h3⟩ | ⟨h1, -⟩
  · exact Or.inl ⟨2 * k + 1, by omega, h2, fun j a b => if e : j = 2 * k then (by rw [e]; exact g) else hz j a (by omega), h3, mk_o.symm⟩
  · exact absurd h1 hi2
theorem PB_s {w cc gc n k i i2 : Int} {H T u u2 : Int → Int} (hk : 1 ≤ k ∧ k ≤ 10) (hz : ∀ j, 2 ≤ j → j < 2 * k → ¬ Gd w cc H gc T n j) (h : SI w cc H gc T (n - k) n i u) (hi : i = 0) (h2 : SI w cc H gc T (n + k) n i2 u2) (hi2 : i2 = 0) : ∀ j, 2 ≤ j → j < 2 * (k + 1) → ¬ Gd w cc H gc T n j := by
  rcases SI_key (j := 2 * k) (k := k) (by omega) (by omega) mk_e (Or.inl rfl) h with ⟨h1, -⟩ | ⟨-, g⟩
  · omega
  rcases SI_key (j := 2 * k + 1) (k := k) (by omega) (by omega) mk_o (Or.inr rfl) h2 with ⟨h1, -⟩ | ⟨-, g2⟩
  · omega
  · intro j a b
    by_cases e : j = 2 * k
    · rw [e]
      exact g
    · by_cases e2 : j = 2 * k + 1
      · rw [e2]
        exact g2
      · exact hz j a (by omega)
theorem m4_step {gc p q k x6 x7 x8 x9 : Int} {T : Int → Int} (hgc : gc ≤ 10) (hd : k = 1000 * x6 + 100 * x7 + 10 * x8 + x9) (h6 : 0 ≤ x6 ∧ x6 ≤ 9) (h7 : 0 ≤ x7 ∧ x7 ≤ 9) (h8 : 0 ≤ x8 ∧ x8 ≤ 9) (h9 : 0 ≤ x9 ∧ x9 ≤ 9) (hz : ∀ a b c d, 0 ≤ a → a < gc → 0 ≤ b → b < gc → 0 ≤ c → c < gc → 0 ≤ d → d < gc → 1000 * a + 100 * b + 10 * c + d < k → ¬ Q4 T p q a b c d) (hno : ¬ ((x6 < gc ∧ x7 < gc ∧ x8 < gc ∧ x9 < gc) ∧ Q4 T p q x6 x7 x8 x9)) : ∀ a b c d, 0 ≤ a → a < gc → 0 ≤ b → b < gc → 0 ≤ c → c < gc → 0 ≤ d → d < gc → 1000 * a + 100 * b + 10 * c + d < k + 1 → ¬ Q4 T p q a b c d := by
  intro a b c d a1 a2 b1 b2 c1 c2 d1 d2 hlt hq
  by_cases e : 1000 * a + 100 * b + 10 * c + d < k
  · exact hz a b c d a1 a2 b1 b2 c1 c2 d1 d2 e hq
  · have e1 : a = x6 := by omega
    have e2 : b = x7 := by omega
    have e3 : c = x8 := by omega
    have e4 : d = x9 := by omega
    rw [e1, e2, e3, e4] at hq
    exact hno ⟨⟨by omega, by omega, by omega, by omega⟩, hq⟩
/-- the calls that write -/
def R_wheel (w x i w' : Int) : Prop := ((10 ≤ x ∧ x ≤ 200) ∧ i = w ∧ w' = x) ∨ (¬ (10 ≤ x ∧ x ≤ 200) ∧ i = -2 ∧ w' = w)
def R_circle (H : Int → Int) (cc x i cc' : Int) (H' : Int → Int) : Prop :=
  (¬ (5 ≤ x ∧ x ≤ 120) ∧ i = -2 ∧ cc' = cc ∧ H' = H) ∨ ((5 ≤ x ∧ x ≤ 120) ∧ 8 ≤ cc ∧ i = -4 ∧ cc' = cc ∧ H' = H) ∨ ((5 ≤ x ∧ x ≤ 120) ∧ cc < 8 ∧ (∃ j, 0 ≤ j ∧ j < cc ∧ H j = x) ∧ i = -5 ∧ cc' = cc ∧ H' = H) ∨ ((5 ≤ x ∧ x ≤ 120) ∧ cc < 8 ∧ (¬ ∃ j, 0 ≤ j ∧ j < cc ∧ H j = x) ∧ i = cc ∧ cc' = cc + 1 ∧ H' = jU H cc x)
def R_gear (T : Int → Int) (gc x i gc' : Int) (T' : Int → Int) : Prop :=
  (¬ (12 ≤ x ∧ x ≤ 120) ∧ i = -2 ∧ gc' = gc ∧ T' = T) ∨ ((12 ≤ x ∧ x ≤ 120) ∧ 10 ≤ gc ∧ i = -4 ∧ gc' = gc ∧ T' = T) ∨ ((12 ≤ x ∧ x ≤ 120) ∧ gc < 10 ∧ i = gc ∧ gc' = gc + 1 ∧ T' = jU T gc x)
def R_error (E : Int → Int) (k x i : Int) (E' : Int → Int) : Prop :=
  (¬ (0 ≤ k ∧ k ≤ 7) ∧ i = -1001 ∧ E' = E) ∨ ((0 ≤ k ∧ k ≤ 7) ∧ ¬ (-100 ≤ x ∧ x ≤ 100) ∧ i = -1002 ∧ E' = E) ∨ ((0 ≤ k ∧ k ≤ 7) ∧ (-100 ≤ x ∧ x ≤ 100) ∧ i = E k ∧ E' = jU E k x)
def R_vernier (d v x y i d' v' : Int) : Prop := (((2 ≤ x ∧ x ≤ 720) ∧ (2 ≤ y ∧ y ≤ 60)) ∧ i = 1 ∧ d' = x ∧ v' = y) ∨ (¬ ((2 ≤ x ∧ x ≤ 720) ∧ (2 ≤ y ∧ y ≤ 60)) ∧ i = -2 ∧ d' = d ∧ v' = v)
end
section
abbrev rmX0_isOutside : Room := { frames := 0, cells := 0, slots := 0, locals := 0 }
theorem hdX0_isOutside : yX0_isOutside.cls ≠ "java/lang/invoke/MethodHandle" ∧ yX0_isOutside.cls ≠ "java/lang/invoke/VarHandle" ∧ (parseMethodDescriptor yX0_isOutside.desc).map (fun d => d.parameters.length) = some 3 := by decide +kernel
set_option maxHeartbeats 4000000 in
set_option maxRecDepth 100000 in
theorem c_X0_isOutside (l : Launch) (x : Int) (lo : Int) (hi : Int) (hx : inI x) (hlo : inI lo) (hhi : inI hi) : MI l yX0_isOutside wsX0_isOutside rmX0_isOutside [jI x, jI lo, jI hi] W0 (fun rR => rR = bI (x < lo ∨ hi < x)) := by
  refine MZ_of (cc := cX0_isOutside) (maxL := 3) (by decide) rfl (Nat.le_of_ble_eq_true rfl) ?_
  intro pP eE sS mM aA bL mT cC QQ ls S hret _ hl
  have hl : lv_has ls 3 [(0, jI x), (1, jI lo), (2, jI hi)] := hl
  refine j_iload_n S dX0_isOutside_0 rfl (lv_at hl 0 rfl) ?_
  refine j_iload_n S dX0_isOutside_1 rfl (lv_at hl 1 rfl) ?_
  refine j_icmp_lt (tgt := 10) S dX0_isOutside_2 (by decide) (iv_i hx (by decide +kernel)) (iv_i hlo (by decide +kernel)) (fun c2 => ?_) (fun c2 => ?_)
  · have r1_ : (-2147483648) ≤ x ∧ x ≤ 2147483646 := by omega
    have r2_ : (-2147483647) ≤ lo ∧ lo ≤ 2147483647 := by omega
    refine j_iconst S dX0_isOutside_10 ?_
    refine j_goto (tgt := 15) S dX0_isOutside_11 (by decide) ?_
    exact hret 1 15 _ (Or.inr rfl) (bI_t (by omega)) dX0_isOutside_15
  · refine j_iload_n S dX0_isOutside_5 rfl (lv_at hl 0 rfl) ?_
    refine j_iload_n S dX0_isOutside_6 rfl (lv_at hl 2 rfl) ?_
    refine j_icmp_le (tgt := 14) S dX0_isOutside_7 (by decide) (iv_i hx (by decide +kernel)) (iv_i hhi (by decide +kernel)) (fun c7 => ?_) (fun c7 => ?_)
    · refine j_iconst S dX0_isOutside_14 ?_
      exact hret 0 15 _ (Or.inl rfl) (bI_f (by omega)) dX0_isOutside_15
    · have r3_ : (-2147483648) ≤ hi ∧ hi ≤ 2147483646 := by omega
      have r4_ : (-2147483647) ≤ x ∧ x ≤ 2147483647 := by omega
      refine j_iconst S dX0_isOutside_10 ?_
      refine j_goto (tgt := 15) S dX0_isOutside_11 (by decide) ?_
      exact hret 1 15 _ (Or.inr rfl) (bI_t (by omega)) dX0_isOutside_15
abbrev rmX0_isNoNumberOfParts : Room := { frames := 1, cells := 0, slots := 0, locals := 22 }
theorem hdX0_isNoNumberOfParts : yX0_isNoNumberOfParts.cls ≠ "java/lang/invoke/MethodHandle" ∧ yX0_isNoNumberOfParts.cls ≠ "java/lang/invoke/VarHandle" ∧ (parseMethodDescriptor yX0_isNoNumberOfParts.desc).map (fun d => d.parameters.length) = some 1 := by decide +kernel
set_option maxHeartbeats 4000000 in
set_option maxRecDepth 100000 in
theorem c_X0_isNoNumberOfParts (l : Launch) (n : Int) (hn : inI n) : MI l yX0_isNoNumberOfParts wsX0_isNoNumberOfParts rmX0_isNoNumberOfParts [jI n] W0 (fun rR => rR = bI (n < 2 ∨ 1000 < n)) := by
  refine MZ_of (cc := cX0_isNoNumberOfParts) (maxL := 1) (by decide) rfl (Nat.le_of_ble_eq_true rfl) ?_
  intro pP eE sS mM aA bL mT cC QQ ls S hret _ hl
  have hl : lv_has ls 1 [(0, jI n)] := hl
  refine j_iload_n S dX0_isNoNumberOfParts_0 rfl (lv_at hl 0 rfl) ?_
  refine j_iconst S dX0_isNoNumberOfParts_1 ?_
  refine j_sipush S dX0_isNoNumberOfParts_2 (by decide) ?_
  refine j_csi (As := [jI n, jI 2, jI 1000]) S (c_X0_isOutside l n 2 1000 (iv_w hn (by decide +kernel)) (iv_w (iv_n 2) (by decide +kernel)) (iv_w (iv_n 1000) (by decide +kernel))) (va_cwS 3 S.2.2.2.2 gX0_isNoNumberOfParts_X0_isOutside rfl rfl rfl hdX0_isOutside ⟨Nat.le_of_ble_eq_true rfl, Nat.le_of_ble_eq_true rfl⟩) [] rfl rfl hl.1 (Nat.le_of_ble_eq_true rfl) ⟨Nat.zero_le _, Nat.zero_le _⟩ dX0_isNoNumberOfParts_5 (fun i5 q5 => ?_)
  subst q5
  exact hret (bI (n < 2 ∨ 1000 < n)) 8 _ bI_01 rfl dX0_isNoNumberOfParts_8
abbrev rmX0_isNoStep : Room := { frames := 1, cells := 0, slots := 0, locals := 22 }
theorem hdX0_isNoStep : yX0_isNoStep.cls ≠ "java/lang/invoke/MethodHandle" ∧ yX0_isNoStep.cls ≠ "java/lang/invoke/VarHandle" ∧ (parseMethodDescriptor yX0_isNoStep.desc).map (fun d => d.parameters.length) = some 1 := by decide +kernel
set_option maxHeartbeats 4000000 in
set_option maxRecDepth 100000 in
theorem c_X0_isNoStep (l : Launch) (x : Int) (hx : inI x) : MI l yX0_isNoStep wsX0_isNoStep rmX0_isNoStep [jI x] W0 (fun rR => rR = bI (x < 1 ∨ 100000 < x)) := by
  refine MZ_of (cc := cX0_isNoStep) (maxL := 1) (by decide) rfl (Nat.le_of_ble_eq_true rfl) ?_
  intro pP eE sS mM aA bL mT cC QQ ls S hret _ hl
  have hl : lv_has ls 1 [(0, jI x)] := hl
  refine j_iload_n S dX0_isNoStep_0 rfl (lv_at hl 0 rfl) ?_
  refine j_iconst S dX0_isNoStep_1 ?_
  refine j_ldc (n := 100000) S (S.2.2.2.2 _ (List.mem_of_getElem? (i := 1) rfl)) (by decide) dX0_isNoStep_2 ?_
  refine j_csi (As := [jI x, jI 1, jI 100000]) S (c_X0_isOutside l x 1 100000 (iv_w hx (by decide +kernel)) (iv_w (iv_n 1) (by decide +kernel)) (iv_w (iv_n 100000) (by decide +kernel))) (va_cwS 3 S.2.2.2.2 gX0_isNoStep_X0_isOutside rfl rfl rfl hdX0_isOutside ⟨Nat.le_of_ble_eq_true rfl, Nat.le_of_ble_eq_true rfl⟩) [] rfl rfl hl.1 (Nat.le_of_ble_eq_true rfl) ⟨Nat.zero_le _, Nat.zero_le _⟩ dX0_isNoStep_4 (fun i4 q4 => ?_)
  subst q4
  exact hret (bI (x < 1 ∨ 100000 < x)) 7 _ bI_01 rfl dX0_isNoStep_7
abbrev rmX0_isNoShare : Room := { frames := 1, cells := 0, slots := 0, locals := 22 }
theorem hdX0_isNoShare : yX0_isNoShare.cls ≠ "java/lang/invoke/MethodHandle" ∧ yX0_isNoShare.cls ≠ "java/lang/invoke/VarHandle" ∧ (parseMethodDescriptor yX0_isNoShare.desc).map (fun d => d.parameters.length) = some 2 := by decide +kernel
set_option maxHeartbeats 4000000 in
set_option maxRecDepth 100000 in
theorem c_X0_isNoShare (l : Launch) (x : Int) (y : Int) (hx : inI x) (hy : inI y) : MI l yX0_isNoShare wsX0_isNoShare rmX0_isNoShare [jI x, jI y] W0 (fun rR => rR = bI ((x < 1 ∨ 1000000 < x) ∨ (y < 1 ∨ 1000000 < y))) := by
  refine MZ_of (cc := cX0_isNoShare) (maxL := 2) (by decide) rfl (Nat.le_of_ble_eq_true rfl) ?_
  intro pP eE sS mM aA bL mT cC QQ ls S hret _ hl
  have hl : lv_has ls 2 [(0, jI x), (1, jI y)] := hl
  refine j_iload_n S dX0_isNoShare_0 rfl (lv_at hl 0 rfl) ?_
  refine j_iconst S dX0_isNoShare_1 ?_
  refine j_ldc (n := 1000000) S (S.2.2.2.2 _ (List.mem_of_getElem? (i := 1) rfl)) (by decide) dX0_isNoShare_2 ?_
  refine j_csi (As := [jI x, jI 1, jI 1000000]) S (c_X0_isOutside l x 1 1000000 (iv_w hx (by decide +kernel)) (iv_w (iv_n 1) (by decide +kernel)) (iv_w (iv_n 1000000) (by decide +kernel))) (va_cwS 3 S.2.2.2.2 gX0_isNoShare_X0_isOutside rfl rfl rfl hdX0_isOutside ⟨Nat.le_of_ble_eq_true rfl, Nat.le_of_ble_eq_true rfl⟩) [] rfl rfl hl.1 (Nat.le_of_ble_eq_true rfl) ⟨Nat.zero_le _, Nat.zero_le _⟩ dX0_isNoShare_4 (fun i4 q4 => ?_)
  subst q4
  refine j_ifb_ne (tgt := 20) S dX0_isNoShare_7 (by decide) (fun c7 => ?_) (fun c7 => ?_)
  · refine j_iconst S dX0_isNoShare_20 ?_
    refine j_goto (tgt := 25) S dX0_isNoShare_21 (by decide) ?_
    exact hret 1 25 _ (Or.inr rfl) (bI_t (by omega)) dX0_isNoShare_25
  · have r1_ : 1 ≤ x ∧ x ≤ 1000000 := by omega
    refine j_iload_n S dX0_isNoShare_10 rfl (lv_at hl 1 rfl) ?_
    refine j_iconst S dX0_isNoShare_11 ?_
    refine j_ldc (n := 1000000) S (S.2.2.2.2 _ (List.mem_of_getElem? (i := 1) rfl)) (by decide) dX0_isNoShare_12 ?_
    refine j_csi (As := [jI y, jI 1, jI 1000000]) S (c_X0_isOutside l y 1 1000000 (iv_w hy (by decide +kernel)) (iv_w (iv_n 1) (by decide +kernel)) (iv_w (iv_n 1000000) (by decide +kernel))) (va_cwS 3 S.2.2.2.2 gX0_isNoShare_X0_isOutside rfl rfl rfl hdX0_isOutside ⟨Nat.le_of_ble_eq_true rfl, Nat.le_of_ble_eq_true rfl⟩) [] rfl rfl hl.1 (Nat.le_of_ble_eq_true rfl) ⟨Nat.zero_le _, Nat.zero_le _⟩ dX0_isNoShare_14 (fun i14 q14 => ?_)
    subst q14
    refine j_ifb_eq (tgt := 24) S dX0_isNoShare_17 (by decide) (fun c17 => ?_) (fun c17 => ?_)
    · have r2_ : 1 ≤ y ∧ y ≤ 1000000 := by omega
      refine j_iconst S dX0_isNoShare_24 ?_
      exact hret 0 25 _ (Or.inl rfl) (bI_f (by omega)) dX0_isNoShare_25
    · refine j_iconst S dX0_isNoShare_20 ?_
      refine j_goto (tgt := 25) S dX0_isNoShare_21 (by decide) ?_
      exact hret 1 25 _ (Or.inr rfl) (bI_t (by omega)) dX0_isNoShare_25
abbrev rmX0_isNoPlace : Room := { frames := 1, cells := 0, slots := 0, locals := 22 }
theorem hdX0_isNoPlace : yX0_isNoPlace.cls ≠ "java/lang/invoke/MethodHandle" ∧ yX0_isNoPlace.cls ≠ "java/lang/invoke/VarHandle" ∧ (parseMethodDescriptor yX0_isNoPlace.desc).map (fun d => d.parameters.length) = some 2 := by decide +kernel
set_option maxHeartbeats 4000000 in
set_option maxRecDepth 100000 in
theorem c_X0_isNoPlace (l : Launch) (x : Int) (y : Int) (hx : inI x) (hy : inI y) : MI l yX0_isNoPlace wsX0_isNoPlace rmX0_isNoPlace [jI x, jI y] W0 (fun rR => rR = bI ((y < 1 ∨ 1000000 < y) ∨ (x < 0 ∨ y - 1 < x))) := by
  refine MZ_of (cc := cX0_isNoPlace) (maxL := 2) (by decide) rfl (Nat.le_of_ble_eq_true rfl) ?_
  intro pP eE sS mM aA bL mT cC QQ ls S hret _ hl
  have hl : lv_has ls 2 [(0, jI x), (1, jI y)] := hl
  refine j_iload_n S dX0_isNoPlace_0 rfl (lv_at hl 1 rfl) ?_
  refine j_iconst S dX0_isNoPlace_1 ?_
  refine j_ldc (n := 1000000) S (S.2.2.2.2 _ (List.mem_of_getElem? (i := 1) rfl)) (by decide) dX0_isNoPlace_2 ?_
  refine j_csi (As := [jI y, jI 1, jI 1000000]) S (c_X0_isOutside l y 1 1000000 (iv_w hy (by decide +kernel)) (iv_w (iv_n 1) (by decide +kernel)) (iv_w (iv_n 1000000) (by decide +kernel))) (va_cwS 3 S.2.2.2.2 gX0_isNoPlace_X0_isOutside rfl rfl rfl hdX0_isOutside ⟨Nat.le_of_ble_eq_true rfl, Nat.le_of_ble_eq_true rfl⟩) [] rfl rfl hl.1 (Nat.le_of_ble_eq_true rfl) ⟨Nat.zero_le _, Nat.zero_le _⟩ dX0_isNoPlace_4 (fun i4 q4 => ?_)
  subst q4
  refine j_ifb_ne (tgt := 21) S dX0_isNoPlace_7 (by decide) (fun c7 => ?_) (fun c7 => ?_)
  · refine j_iconst S dX0_isNoPlace_21 ?_
    refine j_goto (tgt := 26) S dX0_isNoPlace_22 (by decide) ?_
    exact hret 1 26 _ (Or.inr rfl) (bI_t (by omega)) dX0_isNoPlace_26
  · have r1_ : 1 ≤ y ∧ y ≤ 1000000 := by omega
    refine j_iload_n S dX0_isNoPlace_10 rfl (lv_at hl 0 rfl) ?_
    refine j_iconst S dX0_isNoPlace_11 ?_
    refine j_iload_n S dX0_isNoPlace_12 rfl (lv_at hl 1 rfl) ?_
    refine j_iconst S dX0_isNoPlace_13 ?_
    refine j_isub S dX0_isNoPlace_14 ?_
    refine j_csi (As := [jI x, jI 0, jI (y - 1)]) S (c_X0_isOutside l x 0 (y - 1) (iv_w hx (by decide +kernel)) (iv_w (iv_n 0) (by decide +kernel)) (iv_w (iv_sub (lo := 0) (hi := 999999) r1_ (iv_n 1) (by decide +kernel)) (by decide +kernel))) (va_cwS 3 S.2.2.2.2 gX0_isNoPlace_X0_isOutside rfl rfl rfl hdX0_isOutside ⟨Nat.le_of_ble_eq_true rfl, Nat.le_of_ble_eq_true rfl⟩) [] rfl rfl hl.1 (Nat.le_of_ble_eq_true rfl) ⟨Nat.zero_le _, Nat.zero_le _⟩ dX0_isNoPlace_15 (fun i15 q15 => ?_)
    subst q15
    refine j_ifb_eq (tgt := 25) S dX0_isNoPlace_18 (by decide) (fun c18 => ?_) (fun c18 => ?_)
    · have r2_ : 0 ≤ x ∧ x ≤ 999999 := by omega
      refine j_iconst S dX0_isNoPlace_25 ?_
      exact hret 0 26 _ (Or.inl rfl) (bI_f (by omega)) dX0_isNoPlace_26
    · refine j_iconst S dX0_isNoPlace_21 ?_
      refine j_goto (tgt := 26) S dX0_isNoPlace_22 (by decide) ?_
      exact hret 1 26 _ (Or.inr rfl) (bI_t (by omega)) dX0_isNoPlace_26
abbrev rmX0_holesAt : Room := { frames := 0, cells := 0, slots := 0, locals := 0 }
theorem hdX0_holesAt : yX0_holesAt.cls ≠ "java/lang/invoke/MethodHandle" ∧ yX0_holesAt.cls ≠ "java/lang/invoke/VarHandle" ∧ (parseMethodDescriptor yX0_holesAt.desc).map (fun d => d.parameters.length) = some 1 := by decide +kernel
set_option maxHeartbeats 4000000 in
set_option maxRecDepth 100000 in
theorem c_X0_holesAt (l : Launch) (D : va_G) (h a0 a1 a2 a3 : Nat) (cA : ClassId) (H T E F : Int → Int) (cc gc w d v : Int) (hok : SOK H T E cc gc w d v) (x : Int) (hx : inI x) : MI l yX0_holesAt wsX0_holesAt rmX0_holesAt [.ref h, jI x] (WB D (XW h a0 a1 a2 a3 cA H T E F cc gc w d v) cA) (fun rR => (¬ (0 ≤ x ∧ x < cc) ∧ rR = 0) ∨ ((0 ≤ x ∧ x < cc) ∧ rR = H x ∧ 5 ≤ rR ∧ rR ≤ 120)) := by
  refine MI_of (cc := cX0_holesAt) (maxL := 2) (by decide) rfl (Nat.le_of_ble_eq_true rfl) ?_
  intro pP eE sS mM aA bL mT cC QQ ls S hret ⟨hP, hK⟩ hl
  obtain ⟨hcc, hgc, hw, hd, hv, hH, hT, hE⟩ := id hok
  have hin : ∀ w ∈ wsX00, w ∈ wsX0_holesAt := fun w hw => List.mem_cons_of_mem _ (List.mem_append_right _ hw)
  have hl : lv_has ls 2 [(0, .ref h), (1, jI x)] := hl
  refine j_iload_n S dX0_holesAt_0 rfl (lv_at hl 1 rfl) ?_
  refine j_if_lt (tgt := 12) S dX0_holesAt_1 (by decide) (iv_i hx (by decide +kernel)) (fun c1 => ?_) (fun c1 => ?_)
  · have r1_ : (-2147483648) ≤ x ∧ x ≤ (-1) := by omega
    refine j_iconst S dX0_holesAt_12 ?_
    refine j_goto (tgt := 22) S dX0_holesAt_13 (by decide) ?_
    exact hret 0 22 _ (by omega) dX0_holesAt_22
  · have r2_ : 0 ≤ x ∧ x ≤ 2147483647 := by omega
    refine j_iload_n S dX0_holesAt_4 rfl (lv_at hl 1 rfl) ?_
    refine lv_aload_n S.1 S.2.1 dX0_holesAt_5 rfl (lv_at hl 0 rfl) ?_
    refine j_get (v := jI cc) S hin hK hP rfl rfl 4 (by decide) (List.mem_of_getElem? (i := 1) rfl) rfl dX0_holesAt_6 ?_
    refine j_icmp_lt (tgt := 16) S dX0_holesAt_9 (by decide) (iv_i r2_ (by decide +kernel)) (iv_i hcc (by decide +kernel)) (fun c9 => ?_) (fun c9 => ?_)
    · have r3_ : 0 ≤ x ∧ x ≤ 7 := by omega
      have r4_ : 1 ≤ cc ∧ cc ≤ 8 := by omega
      refine lv_aload_n S.1 S.2.1 dX0_holesAt_16 rfl (lv_at hl 0 rfl) ?_
      refine j_get (v := .ref a0) S hin hK hP rfl rfl 0 (by decide) (List.mem_of_getElem? (i := 2) rfl) rfl dX0_holesAt_17 ?_
      refine j_iload_n S dX0_holesAt_20 rfl (lv_at hl 1 rfl) ?_
      refine j_iald S hK hP 1 0 rfl rfl (iv_ix (n := 8) r3_ (by decide +kernel)) dX0_holesAt_21 ?_
      have r5_ := hH x (by omega) (by omega)
      exact hret (H x) 22 _ (by omega) dX0_holesAt_22
    · refine j_iconst S dX0_holesAt_12 ?_
      refine j_goto (tgt := 22) S dX0_holesAt_13 (by decide) ?_
      exact hret 0 22 _ (by omega) dX0_holesAt_22
abbrev rmX0_holes : Room := { frames := 1, cells := 0, slots := 0, locals := 21 }
theorem hdX0_holes : yX0_holes.cls ≠ "java/lang/invoke/MethodHandle" ∧ yX0_holes.cls ≠ "java/lang/invoke/VarHandle" ∧ (parseMethodDescriptor yX0_holes.desc).map (fun d => d.parameters.length) = some 1 := by decide +kernel
set_option maxHeartbeats 4000000 in
set_option maxRecDepth 100000 in
theorem c_X0_holes (l : Launch) (D : va_G) (h a0 a1 a2 a3 : Nat) (cA : ClassId) (H T E F : Int → Int) (cc gc w d v : Int) (hok : SOK H T E cc gc w d v) (x : Int) (hx : inI x) : MI l yX0_holes wsX0_holes rmX0_holes [.ref h, jI x] (WB D (XW h a0 a1 a2 a3 cA H T E F cc gc w d v) cA) (fun rR => rR = sp_holes cc H x) := by
  refine MI_of (cc := cX0_holes) (maxL := 3) (by decide) rfl (Nat.le_of_ble_eq_true rfl) ?_
  intro pP eE sS mM aA bL mT cC QQ ls S hret ⟨hP, hK⟩ hl
  obtain ⟨hcc, hgc, hw, hd, hv, hH, hT, hE⟩ := id hok
  have hin : ∀ w ∈ wsX00, w ∈ wsX0_holes := fun w hw => List.mem_cons_of_mem _ (List.mem_append_right _ hw)
  have hl : lv_has ls 3 [(0, .ref h), (1, jI x)] := hl
  refine lv_aload_n S.1 S.2.1 dX0_holes_0 rfl (lv_at hl 0 rfl) ?_
  refine j_iload_n S dX0_holes_1 rfl (lv_at hl 1 rfl) ?_
  refine j_cvi (As := [jI x]) (ci := 0) S (c_X0_holesAt l D h a0 a1 a2 a3 cA H T E F cc gc w d v hok x (iv_w hx (by decide +kernel))) (cwV 1 S.2.2.2.2 gX0_holes_X0_holesAt rfl rfl rfl ⟨rfl, hdX0_holesAt⟩ ⟨Nat.le_of_ble_eq_true rfl, Nat.le_of_ble_eq_true rfl⟩) hK hP rfl rfl rfl [] rfl rfl hl.1 (Nat.le_of_ble_eq_true rfl) ⟨Nat.zero_le _, Nat.zero_le _⟩ dX0_holes_2 (fun i2 q2 => ?_)
  have r1_ : 0 ≤ i2 ∧ i2 ≤ 120 := by omega
  refine j_istore_n (lv' := [(2, jI i2), (0, .ref h), (1, jI x)]) S dX0_holes_5 rfl hl (by decide) rfl (fun ls hl => ?_)
  refine j_iload_n S dX0_holes_6 rfl (lv_at hl 0 rfl) ?_
  refine j_if_ne (tgt := 14) S dX0_holes_7 (by decide) (iv_i r1_ (by decide +kernel)) (fun c7 => ?_) (fun c7 => ?_)
  · have r2_ : 1 ≤ i2 ∧ i2 ≤ 120 := by omega
    refine j_iload_n S dX0_holes_14 rfl (lv_at hl 0 rfl) ?_
    exact hret i2 15 _ (by unfold sp_holes; (repeat' split) <;> first | omega | rfl) dX0_holes_15
  · have r3_ : 0 ≤ i2 ∧ i2 ≤ 0 := by omega
    refine j_iconst S dX0_holes_10 ?_
    refine j_goto (tgt := 15) S dX0_holes_11 (by decide) ?_
    exact hret (-1) 15 _ (by unfold sp_holes; (repeat' split) <;> first | omega | rfl) dX0_holes_15
abbrev rmX0_hasCircleOf : Room := { frames := 0, cells := 0, slots := 0, locals := 0 }
theorem hdX0_hasCircleOf : yX0_hasCircleOf.cls ≠ "java/lang/invoke/MethodHandle" ∧ yX0_hasCircleOf.cls ≠ "java/lang/invoke/VarHandle" ∧ (parseMethodDescriptor yX0_hasCircleOf.desc).map (fun d => d.parameters.length) = some 1 := by decide +kernel
set_option maxHeartbeats 4000000 in
set_option maxRecDepth 100000 in
theorem c_X0_hasCircleOf (l : Launch) (D : va_G) (h a0 a1 a2 a3 : Nat) (cA : ClassId) (H T E F : Int → Int) (cc gc w d v : Int) (hok : SOK H T E cc gc w d v) (x : Int) (hx : inI x) : MI l yX0_hasCircleOf wsX0_hasCircleOf rmX0_hasCircleOf [.ref h, jI x] (WB D (XW h a0 a1 a2 a3 cA H T E F cc gc w d v) cA) (fun rR => rR = bI (∃ j, 0 ≤ j ∧ j < cc ∧ H j = x)) := by
  refine MZ_of (cc := cX0_hasCircleOf) (maxL := 3) (by decide) rfl (Nat.le_of_ble_eq_true rfl) ?_
  intro pP eE sS mM aA bL mT cC QQ ls S hret ⟨hP, hK⟩ hl
  obtain ⟨hcc, hgc, hw, hd, hv, hH, hT, hE⟩ := id hok
  have hin : ∀ w ∈ wsX00, w ∈ wsX0_hasCircleOf := fun w hw => List.mem_cons_of_mem _ (List.mem_append_right _ hw)
  have hl : lv_has ls 3 [(0, .ref h), (1, jI x)] := hl
  refine j_iconst S dX0_hasCircleOf_0 ?_
  refine j_istore_n (lv' := [(2, jI 0), (0, .ref h), (1, jI x)]) S dX0_hasCircleOf_1 rfl hl (by decide) rfl (fun ls hl => ?_)
  have loop2 : ∀ (N : Nat) (k : Int) (ls : Array Slot), (0 ≤ k ∧ k ≤ 8) → (k ≤ cc) → (∀ j, 0 ≤ j → j < k → H j ≠ x) → cc - k < (N : Int) → lv_has ls 3 [(2, jI k), (0, .ref h), (1, jI x)] → W pP l eE rmX0_hasCircleOf sS mM aA bL mT cC sS.heap [] 0 0 QQ (F0 mM 2 ls []) := by
    intro N
    induction N with
    | zero =>
      intro k ls hk hk2 hn hN
      exact absurd hN (by omega)
    | succ N ih2 =>
      intro k ls hk hk2 hn hN hl
      refine j_iload_n S dX0_hasCircleOf_2 rfl (lv_at hl 0 rfl) ?_
      refine lv_aload_n S.1 S.2.1 dX0_hasCircleOf_3 rfl (lv_at hl 1 rfl) ?_
      refine j_get (v := jI cc) S hin hK hP rfl rfl 4 (by decide) (List.mem_of_getElem? (i := 1) rfl) rfl dX0_hasCircleOf_4 ?_
      refine j_icmp_ge (tgt := 28) S dX0_hasCircleOf_7 (by decide) (iv_i hk (by decide +kernel)) (iv_i hcc (by decide +kernel)) (fun c7 => ?_) (fun c7 => ?_)
      · refine j_iconst S dX0_hasCircleOf_28 ?_
        exact hret 0 29 _ (Or.inl rfl) (bI_f (fun ⟨j, h1, h2, e⟩ => hn j h1 (by omega) e)) dX0_hasCircleOf_29
      · have r1_ : 0 ≤ k ∧ k ≤ 7 := by omega
        have r2_ : 1 ≤ cc ∧ cc ≤ 8 := by omega
        refine lv_aload_n S.1 S.2.1 dX0_hasCircleOf_10 rfl (lv_at hl 1 rfl) ?_
        refine j_get (v := .ref a0) S hin hK hP rfl rfl 0 (by decide) (List.mem_of_getElem? (i := 2) rfl) rfl dX0_hasCircleOf_11 ?_
        refine j_iload_n S dX0_hasCircleOf_14 rfl (lv_at hl 0 rfl) ?_
        refine j_iald S hK hP 1 0 rfl rfl (iv_ix (n := 8) r1_ (by decide +kernel)) dX0_hasCircleOf_15 ?_
        have r3_ := hH k (by omega) (by omega)
        refine j_iload_n S dX0_hasCircleOf_16 rfl (lv_at hl 2 rfl) ?_
        refine j_icmp_ne (tgt := 22) S dX0_hasCircleOf_17 (by decide) (iv_i r3_ (by decide +kernel)) (iv_i hx (by decide +kernel)) (fun c17 => ?_) (fun c17 => ?_)
        · refine j_iinc (k := 0) (y := (k + 1)) (lv' := [(2, jI (k + 1)), (0, .ref h), (1, jI x)]) S dX0_hasCircleOf_22 hl rfl rfl (by decide) rfl (fun ls hl => ?_)
          refine j_goto (tgt := 2) S dX0_hasCircleOf_25 (by decide) ?_
          exact ih2 (k + 1) _ (by omega) (by omega) (fun j h1 h2 => by by_cases e : j = k; rw [e]; exact c17; exact hn j h1 (by omega)) (by omega) (lv_sub hl [0, 1, 2] rfl)
        · have r4_ : 5 ≤ x ∧ x ≤ 120 := by omega
          refine j_iconst S dX0_hasCircleOf_20 ?_
          exact hret 1 21 _ (Or.inr rfl) (bI_t ⟨k, by omega, by omega, c17⟩) dX0_hasCircleOf_21
  exact loop2 9 0 _ (by omega) (by omega) (fun j h1 h2 => absurd h2 (by omega)) (by omega) (lv_sub hl [0, 1, 2] rfl)
abbrev rmX0_exactQuotient : Room := { frames := 0, cells := 0, slots := 0, locals := 0 }
theorem hdX0_exactQuotient : yX0_exactQuotient.cls ≠ "java/lang/invoke/MethodHandle" ∧ yX0_exactQuotient.cls ≠ "java/lang/invoke/VarHandle" ∧ (parseMethodDescriptor yX0_exactQuotient.desc).map (fun d => d.parameters.length) = some 2 := by decide +kernel
set_option maxHeartbeats 4000000 in
set_option maxRecDepth 100000 in
theorem c_X0_exactQuotient (l : Launch) (x : Int) (y : Int) (hx : (-100000000000000000) ≤ x ∧ x ≤ 100000000000000000) (hy : (-100000000000000000) ≤ y ∧ y ≤ 100000000000000000) : ML l yX0_exactQuotient wsX0_exactQuotient rmX0_exactQuotient [jL x, jL y] W0 (fun rR => rR = sp_eq x y) := by
  refine ML_of (cc := cX0_exactQuotient) (maxL := 4) (by decide) rfl (Nat.le_of_ble_eq_true rfl) ?_
  intro pP eE sS mM aA bL mT cC QQ ls S hret _ hl
  have hl : lv_has ls 4 [(0, jL x), (2, jL y)] := hl
  refine j_lload_n S dX0_exactQuotient_0 rfl (lv_at hl 1 rfl) ?_
  refine j_lconst (a := 1) S dX0_exactQuotient_1 rfl ?_
  refine j_lcmp_lt (pc1 := 3) (tgt := 14) S rfl dX0_exactQuotient_2 dX0_exactQuotient_3 (by decide) (iv_l hy (by decide +kernel)) (iv_l (iv_n 1) (by decide +kernel)) (fun c2 => ?_) (fun c2 => ?_)
  · have r1_ : (-100000000000000000) ≤ y ∧ y ≤ 0 := by omega
    refine j_lconst (a := 0) S dX0_exactQuotient_14 rfl ?_
    refine j_goto (tgt := 21) S dX0_exactQuotient_15 (by decide) ?_
    exact hret 0 21 _ (sp_eq_0 (by omega)).symm dX0_exactQuotient_21
  · have r2_ : 1 ≤ y ∧ y ≤ 100000000000000000 := by omega
    refine j_lload_n S dX0_exactQuotient_6 rfl (lv_at hl 0 rfl) ?_
    refine j_lload_n S dX0_exactQuotient_7 rfl (lv_at hl 1 rfl) ?_
    refine j_lrem S dX0_exactQuotient_8 (iv_l hx (by decide +kernel)) (iv_pl r2_ (by decide +kernel)) (iv_gt hx (by decide +kernel)) ?_
    refine j_lconst (a := 0) S dX0_exactQuotient_9 rfl ?_
    refine j_lcmp_eq (pc1 := 11) (tgt := 18) S rfl dX0_exactQuotient_10 dX0_exactQuotient_11 (by decide) (iv_l (iv_tmod (lo := (-99999999999999999)) (hi := 99999999999999999) r2_ (by decide +kernel)) (by decide +kernel)) (iv_l (iv_n 0) (by decide +kernel)) (fun c10 => ?_) (fun c10 => ?_)
    · refine j_lload_n S dX0_exactQuotient_18 rfl (lv_at hl 0 rfl) ?_
      refine j_lload_n S dX0_exactQuotient_19 rfl (lv_at hl 1 rfl) ?_
      refine j_ldiv S dX0_exactQuotient_20 (iv_l hx (by decide +kernel)) (iv_pl r2_ (by decide +kernel)) (iv_gt hx (by decide +kernel)) ?_
      exact hret (Int.tdiv x y) 21 _ (sp_eq_1 (by omega) c10).symm dX0_exactQuotient_21
    · refine j_lconst (a := 0) S dX0_exactQuotient_14 rfl ?_
      refine j_goto (tgt := 21) S dX0_exactQuotient_15 (by decide) ?_
      exact hret 0 21 _ (sp_eq_0 (by omega)).symm dX0_exactQuotient_21
abbrev rmX0_nearestOrLesser : Room := { frames := 0, cells := 0, slots := 0, locals := 0 }
theorem hdX0_nearestOrLesser : yX0_nearestOrLesser.cls ≠ "java/lang/invoke/MethodHandle" ∧ yX0_nearestOrLesser.cls ≠ "java/lang/invoke/VarHandle" ∧ (parseMethodDescriptor yX0_nearestOrLesser.desc).map (fun d => d.parameters.length) = some 2 := by decide +kernel
set_option maxHeartbeats 4000000 in
set_option maxRecDepth 100000 in
theorem c_X0_nearestOrLesser (l : Launch) (x : Int) (y : Int) (hx : 0 ≤ x ∧ x ≤ 100000000000000000) (hy : 1 ≤ y ∧ y ≤ 100000000000000000) : ML l yX0_nearestOrLesser wsX0_nearestOrLesser rmX0_nearestOrLesser [jL x, jL y] W0 (fun rR => rR = sp_nol x y) := by
  refine ML_of (cc := cX0_nearestOrLesser) (maxL := 4) (by decide) rfl (Nat.le_of_ble_eq_true rfl) ?_
  intro pP eE sS mM aA bL mT cC QQ ls S hret _ hl
  have hl : lv_has ls 4 [(0, jL x), (2, jL y)] := hl
  refine j_lload_n S dX0_nearestOrLesser_0 rfl (lv_at hl 1 rfl) ?_
  refine j_lconst (a := 1) S dX0_nearestOrLesser_1 rfl ?_
  refine j_lcmp_ge (pc1 := 3) (tgt := 10) S rfl dX0_nearestOrLesser_2 dX0_nearestOrLesser_3 (by decide) (iv_l hy (by decide +kernel)) (iv_l (iv_n 1) (by decide +kernel)) (fun c2 => ?_) (fun z9 => by have : 1 ≤ y ∧ y ≤ 100000000000000000 := hy; omega)
  refine j_ldc2 (n := 2) S (S.2.2.2.2 _ (List.mem_of_getElem? (i := 1) rfl)) (by decide) dX0_nearestOrLesser_10 ?_
  refine j_lload_n S dX0_nearestOrLesser_13 rfl (lv_at hl 0 rfl) ?_
  refine j_lmul S dX0_nearestOrLesser_14 ?_
  refine j_lload_n S dX0_nearestOrLesser_15 rfl (lv_at hl 1 rfl) ?_
  refine j_ladd S dX0_nearestOrLesser_16 ?_
  refine j_lconst (a := 1) S dX0_nearestOrLesser_17 rfl ?_
  refine j_lsub S dX0_nearestOrLesser_18 ?_
  refine j_ldc2 (n := 2) S (S.2.2.2.2 _ (List.mem_of_getElem? (i := 1) rfl)) (by decide) dX0_nearestOrLesser_19 ?_
  refine j_lload_n S dX0_nearestOrLesser_22 rfl (lv_at hl 1 rfl) ?_
  refine j_lmul S dX0_nearestOrLesser_23 ?_
  refine j_ldivp S dX0_nearestOrLesser_24 (iv_l (iv_sub (lo := 0) (hi := 299999999999999999) (iv_add (lo := 1) (hi := 300000000000000000) (iv_mulp (lo := 0) (hi := 200000000000000000) (iv_n 2) hx (by decide +kernel)) hy (by decide +kernel)) (iv_n 1) (by decide +kernel)) (by decide +kernel)) (iv_pl (iv_mulp (lo := 2) (hi := 200000000000000000) (iv_n 2) hy (by decide +kernel)) (by decide +kernel)) (iv_nn (iv_sub (lo := 0) (hi := 299999999999999999) (iv_add (lo := 1) (hi := 300000000000000000) (iv_mulp (lo := 0) (hi := 200000000000000000) (iv_n 2) hx (by decide +kernel)) hy (by decide +kernel)) (iv_n 1) (by decide +kernel)) (by decide +kernel)) ?_
  exact hret ((((2 * x) + y) - 1) / (2 * y)) 25 _ rfl dX0_nearestOrLesser_25
abbrev rmX0_nearestOrGreater : Room := { frames := 0, cells := 0, slots := 0, locals := 0 }
theorem hdX0_nearestOrGreater : yX0_nearestOrGreater.cls ≠ "java/lang/invoke/MethodHandle" ∧ yX0_nearestOrGreater.cls ≠ "java/lang/invoke/VarHandle" ∧ (parseMethodDescriptor yX0_nearestOrGreater.desc).map (fun d => d.parameters.length) = some 2 := by decide +kernel
set_option maxHeartbeats 4000000 in
set_option maxRecDepth 100000 in
theorem c_X0_nearestOrGreater (l : Launch) (x : Int) (y : Int) (hx : 0 ≤ x ∧ x ≤ 100000000000000000) (hy : 1 ≤ y ∧ y ≤ 100000000000000000) : ML l yX0_nearestOrGreater wsX0_nearestOrGreater rmX0_nearestOrGreater [jL x, jL y] W0 (fun rR => rR = sp_nog x y) := by
  refine ML_of (cc := cX0_nearestOrGreater) (maxL := 4) (by decide) rfl (Nat.le_of_ble_eq_true rfl) ?_
  intro pP eE sS mM aA bL mT cC QQ ls S hret _ hl
  have hl : lv_has ls 4 [(0, jL x), (2, jL y)] := hl
  refine j_lload_n S dX0_nearestOrGreater_0 rfl (lv_at hl 1 rfl) ?_
  refine j_lconst (a := 1) S dX0_nearestOrGreater_1 rfl ?_
  refine j_lcmp_ge (pc1 := 3) (tgt := 10) S rfl dX0_nearestOrGreater_2 dX0_nearestOrGreater_3 (by decide) (iv_l hy (by decide +kernel)) (iv_l (iv_n 1) (by decide +kernel)) (fun c2 => ?_) (fun z9 => by have : 1 ≤ y ∧ y ≤ 100000000000000000 := hy; omega)
  refine j_ldc2 (n := 2) S (S.2.2.2.2 _ (List.mem_of_getElem? (i := 1) rfl)) (by decide) dX0_nearestOrGreater_10 ?_
  refine j_lload_n S dX0_nearestOrGreater_13 rfl (lv_at hl 0 rfl) ?_
  refine j_lmul S dX0_nearestOrGreater_14 ?_
  refine j_lload_n S dX0_nearestOrGreater_15 rfl (lv_at hl 1 rfl) ?_
  refine j_ladd S dX0_nearestOrGreater_16 ?_
  refine j_ldc2 (n := 2) S (S.2.2.2.2 _ (List.mem_of_getElem? (i := 1) rfl)) (by decide) dX0_nearestOrGreater_17 ?_
  refine j_lload_n S dX0_nearestOrGreater_20 rfl (lv_at hl 1 rfl) ?_
  refine j_lmul S dX0_nearestOrGreater_21 ?_
  refine j_ldivp S dX0_nearestOrGreater_22 (iv_l (iv_add (lo := 1) (hi := 300000000000000000) (iv_mulp (lo := 0) (hi := 200000000000000000) (iv_n 2) hx (by decide +kernel)) hy (by decide +kernel)) (by decide +kernel)) (iv_pl (iv_mulp (lo := 2) (hi := 200000000000000000) (iv_n 2) hy (by decide +kernel)) (by decide +kernel)) (iv_nn (iv_add (lo := 1) (hi := 300000000000000000) (iv_mulp (lo := 0) (hi := 200000000000000000) (iv_n 2) hx (by decide +kernel)) hy (by decide +kernel)) (by decide +kernel)) ?_
  exact hret (((2 * x) + y) / (2 * y)) 23 _ rfl dX0_nearestOrGreater_23
end
section
abbrev rmX0_nearestHole : Room := { frames := 1, cells := 0, slots := 0, locals := 23 }
theorem hdX0_nearestHole : yX0_nearestHole.cls ≠ "java/lang/invoke/MethodHandle" ∧ yX0_nearestHole.cls ≠ "java/lang/invoke/VarHandle" ∧ (parseMethodDescriptor yX0_nearestHole.desc).map (fun d => d.parameters.length) = some 3 := by decide +kernel
set_option maxHeartbeats 4000000 in
set_option maxRecDepth 100000 in
theorem c_X0_nearestHole (l : Launch) (D : va_G) (h a0 a1 a2 a3 : Nat) (cA : ClassId) (H T E F : Int → Int) (cc gc w d v : Int) (hok : SOK H T E cc gc w d v) (u1 : Int) (n : Int) (i : Int) (hu1 : 5 ≤ u1 ∧ u1 ≤ 120) (hn : 2 ≤ n ∧ n ≤ 1000) (hi : 0 ≤ i ∧ i ≤ 1000) : MI l yX0_nearestHole wsX0_nearestHole rmX0_nearestHole [.ref h, jI u1, jI n, jI i] (WB D (XW h a0 a1 a2 a3 cA H T E F cc gc w d v) cA) (fun rR => rR = sp_hn w u1 n i) := by
  refine MI_of (cc := cX0_nearestHole) (maxL := 4) (by decide) rfl (Nat.le_of_ble_eq_true rfl) ?_
  intro pP eE sS mM aA bL mT cC QQ ls S hret ⟨hP, hK⟩ hl
  obtain ⟨hcc, hgc, hw, hd, hv, hH, hT, hE⟩ := id hok
  have hin : ∀ w ∈ wsX00, w ∈ wsX0_nearestHole := fun w hw => List.mem_cons_of_mem _ (List.mem_append_right _ hw)
  have hl : lv_has ls 4 [(0, .ref h), (1, jI u1), (2, jI n), (3, jI i)] := hl
  refine j_iload_n S dX0_nearestHole_0 rfl (lv_at hl 3 rfl) ?_
  refine lv_aload_n S.1 S.2.1 dX0_nearestHole_1 rfl (lv_at hl 0 rfl) ?_
  refine j_get (v := jI w) S hin hK hP rfl rfl 6 (by decide) (List.mem_of_getElem? (i := 1) rfl) rfl dX0_nearestHole_2 ?_
  refine j_imul S dX0_nearestHole_5 ?_
  refine j_iload_n S dX0_nearestHole_6 rfl (lv_at hl 1 rfl) ?_
  refine j_imul S dX0_nearestHole_7 ?_
  refine j_i2l S dX0_nearestHole_8 (iv_i (iv_mulp (lo := 0) (hi := 24000000) (iv_mulp (lo := 0) (hi := 200000) hi hw (by decide +kernel)) hu1 (by decide +kernel)) (by decide +kernel)) ?_
  refine j_iload_n S dX0_nearestHole_9 rfl (lv_at hl 2 rfl) ?_
  refine j_i2l S dX0_nearestHole_10 (iv_i hn (by decide +kernel)) ?_
  refine j_csl (As := [jL ((i * w) * u1), jL n]) S (c_X0_nearestOrGreater l ((i * w) * u1) n (iv_w (iv_mulp (lo := 0) (hi := 24000000) (iv_mulp (lo := 0) (hi := 200000) hi hw (by decide +kernel)) hu1 (by decide +kernel)) (by decide +kernel)) (iv_w hn (by decide +kernel))) (va_cwS 2 S.2.2.2.2 gX0_nearestHole_X0_nearestOrGreater rfl rfl rfl hdX0_nearestOrGreater ⟨Nat.le_of_ble_eq_true rfl, Nat.le_of_ble_eq_true rfl⟩) [] rfl rfl hl.1 (Nat.le_of_ble_eq_true rfl) ⟨Nat.zero_le _, Nat.zero_le _⟩ dX0_nearestHole_11 (fun i11 q11 => ?_)
  subst q11
  have r1_ : 0 ≤ (sp_nog ((i * w) * u1) n) ∧ (sp_nog ((i * w) * u1) n) ≤ 24000001 := sp_nog_iv (ub := 24000001) (iv_w (lo := 0) (hi := 24000000) (iv_mulp (lo := 0) (hi := 24000000) (iv_mulp (lo := 0) (hi := 200000) hi hw (by decide +kernel)) hu1 (by decide +kernel)) (by decide +kernel)) (by have := hn; omega) (by decide)
  refine j_l2i S dX0_nearestHole_14 ?_
  exact hret (sp_nog ((i * w) * u1) n) 15 _ rfl dX0_nearestHole_15
abbrev rmX0_missUpper : Room := { frames := 2, cells := 0, slots := 0, locals := 46 }
theorem hdX0_missUpper : yX0_missUpper.cls ≠ "java/lang/invoke/MethodHandle" ∧ yX0_missUpper.cls ≠ "java/lang/invoke/VarHandle" ∧ (parseMethodDescriptor yX0_missUpper.desc).map (fun d => d.parameters.length) = some 3 := by decide +kernel
set_option maxHeartbeats 4000000 in
set_option maxRecDepth 100000 in
theorem c_X0_missUpper (l : Launch) (D : va_G) (h a0 a1 a2 a3 : Nat) (cA : ClassId) (H T E F : Int → Int) (cc gc w d v : Int) (hok : SOK H T E cc gc w d v) (u1 : Int) (n : Int) (i : Int) (hu1 : 5 ≤ u1 ∧ u1 ≤ 120) (hn : 2 ≤ n ∧ n ≤ 1000) (hi : 0 ≤ i ∧ i ≤ 1000) : MI l yX0_missUpper wsX0_missUpper rmX0_missUpper [.ref h, jI u1, jI n, jI i] (WB D (XW h a0 a1 a2 a3 cA H T E F cc gc w d v) cA) (fun rR => rR = sp_ms w u1 n i) := by
  refine MI_of (cc := cX0_missUpper) (maxL := 4) (by decide) rfl (Nat.le_of_ble_eq_true rfl) ?_
  intro pP eE sS mM aA bL mT cC QQ ls S hret ⟨hP, hK⟩ hl
  obtain ⟨hcc, hgc, hw, hd, hv, hH, hT, hE⟩ := id hok
  have hin : ∀ w ∈ wsX00, w ∈ wsX0_missUpper := fun w hw => List.mem_cons_of_mem _ (List.mem_append_right _ hw)
  have hl : lv_has ls 4 [(0, .ref h), (1, jI u1), (2, jI n), (3, jI i)] := hl
  refine lv_aload_n S.1 S.2.1 dX0_missUpper_0 rfl (lv_at hl 0 rfl) ?_
  refine j_iload_n S dX0_missUpper_1 rfl (lv_at hl 1 rfl) ?_
  refine j_iload_n S dX0_missUpper_2 rfl (lv_at hl 2 rfl) ?_
  refine j_iload_n S dX0_missUpper_3 rfl (lv_at hl 3 rfl) ?_
  refine j_cvi (As := [jI u1, jI n, jI i]) (ci := 0) S (c_X0_nearestHole l D h a0 a1 a2 a3 cA H T E F cc gc w d v hok u1 n i (iv_w hu1 (by decide +kernel)) (iv_w hn (by decide +kernel)) (iv_w hi (by decide +kernel))) (cwV 3 S.2.2.2.2 gX0_missUpper_X0_nearestHole rfl rfl rfl ⟨rfl, hdX0_nearestHole⟩ ⟨Nat.le_of_ble_eq_true rfl, Nat.le_of_ble_eq_true rfl⟩) hK hP rfl rfl rfl [] rfl rfl hl.1 (Nat.le_of_ble_eq_true rfl) ⟨Nat.zero_le _, Nat.zero_le _⟩ dX0_missUpper_4 (fun i4 q4 => ?_)
  subst q4
  have r1_ : 0 ≤ (sp_hn w u1 n i) ∧ (sp_hn w u1 n i) ≤ 48001000 := sp_hn_iv hw (iv_w (lo := 5) (hi := 120) hu1 (by decide +kernel)) (iv_w (lo := 0) (hi := 1000) hi (by decide +kernel)) (iv_w (lo := 2) (hi := 1000) hn (by decide +kernel))
  refine j_iload_n S dX0_missUpper_7 rfl (lv_at hl 2 rfl) ?_
  refine j_imul S dX0_missUpper_8 ?_
  refine j_iload_n S dX0_missUpper_9 rfl (lv_at hl 3 rfl) ?_
  refine lv_aload_n S.1 S.2.1 dX0_missUpper_10 rfl (lv_at hl 0 rfl) ?_
  refine j_get (v := jI w) S hin hK hP rfl rfl 6 (by decide) (List.mem_of_getElem? (i := 1) rfl) rfl dX0_missUpper_11 ?_
  refine j_imul S dX0_missUpper_14 ?_
  refine j_iload_n S dX0_missUpper_15 rfl (lv_at hl 1 rfl) ?_
  refine j_imul S dX0_missUpper_16 ?_
  refine j_isub S dX0_missUpper_17 ?_
  exact hret (((sp_hn w u1 n i) * n) - ((i * w) * u1)) 18 _ rfl dX0_missUpper_18
abbrev rmX0_worstUpper : Room := { frames := 3, cells := 0, slots := 0, locals := 69 }
theorem hdX0_worstUpper : yX0_worstUpper.cls ≠ "java/lang/invoke/MethodHandle" ∧ yX0_worstUpper.cls ≠ "java/lang/invoke/VarHandle" ∧ (parseMethodDescriptor yX0_worstUpper.desc).map (fun d => d.parameters.length) = some 2 := by decide +kernel
set_option maxHeartbeats 4000000 in
set_option maxRecDepth 100000 in
theorem c_X0_worstUpper (l : Launch) (D : va_G) (h a0 a1 a2 a3 : Nat) (cA : ClassId) (H T E F : Int → Int) (cc gc w d v : Int) (hok : SOK H T E cc gc w d v) (u1 : Int) (n : Int) (hu1 : 5 ≤ u1 ∧ u1 ≤ 120) (hn : 2 ≤ n ∧ n ≤ 1000) : MI l yX0_worstUpper wsX0_worstUpper rmX0_worstUpper [.ref h, jI u1, jI n] (WB D (XW h a0 a1 a2 a3 cA H T E F cc gc w d v) cA) (fun rR => rR = sp_wu w u1 n) := by
  refine MI_of (cc := cX0_worstUpper) (maxL := 5) (by decide) rfl (Nat.le_of_ble_eq_true rfl) ?_
  intro pP eE sS mM aA bL mT cC QQ ls S hret ⟨hP, hK⟩ hl
  obtain ⟨hcc, hgc, hw, hd, hv, hH, hT, hE⟩ := id hok
  have hin : ∀ w ∈ wsX00, w ∈ wsX0_worstUpper := fun w hw => List.mem_cons_of_mem _ (List.mem_append_right _ hw)
  have hl : lv_has ls 5 [(0, .ref h), (1, jI u1), (2, jI n)] := hl
  refine j_iconst S dX0_worstUpper_0 ?_
  refine j_istore_n (lv' := [(3, jI 0), (0, .ref h), (1, jI u1), (2, jI n)]) S dX0_worstUpper_1 rfl hl (by decide) rfl (fun ls hl => ?_)
  refine j_iconst S dX0_worstUpper_2 ?_
  refine j_istore (lv' := [(4, jI 0), (3, jI 0), (0, .ref h), (1, jI u1), (2, jI n)]) S dX0_worstUpper_3 hl (by decide) rfl (fun ls hl => ?_)
  have loop5 : ∀ (N : Nat) (b k : Int) (ls : Array Slot), (0 ≤ k ∧ k ≤ 1001) → (k ≤ n + 1) → (b = sp_wf w u1 n k) → (0 ≤ b ∧ b ≤ 500) → n + 1 - k < (N : Int) → lv_has ls 5 [(4, jI k), (3, jI b), (0, .ref h), (1, jI u1), (2, jI n)] → W pP l eE rmX0_worstUpper sS mM aA bL mT cC sS.heap [] 0 0 QQ (F0 mM 5 ls []) := by
    intro N
    induction N with
    | zero =>
      intro b k ls hk hk2 hb hbi hN
      exact absurd hN (by omega)
    | succ N ih5 =>
      intro b k ls hk hk2 hb hbi hN hl
      refine j_iload S dX0_worstUpper_5 (lv_at hl 0 rfl) ?_
      refine j_iload_n S dX0_worstUpper_7 rfl (lv_at hl 4 rfl) ?_
      refine j_icmp_gt (tgt := 33) S dX0_worstUpper_8 (by decide) (iv_i hk (by decide +kernel)) (iv_i hn (by decide +kernel)) (fun c8 => ?_) (fun c8 => ?_)
      · have r1_ : 3 ≤ k ∧ k ≤ 1001 := by omega
        refine j_iload_n S dX0_worstUpper_33 rfl (lv_at hl 1 rfl) ?_
        exact hret b 34 _ (by rw [hb, show k = n + 1 from by omega]; rfl) dX0_worstUpper_34
      · have r2_ : 0 ≤ k ∧ k ≤ 1000 := by omega
        refine j_iload_n S dX0_worstUpper_11 rfl (lv_at hl 1 rfl) ?_
        refine lv_aload_n S.1 S.2.1 dX0_worstUpper_12 rfl (lv_at hl 2 rfl) ?_
        refine j_iload_n S dX0_worstUpper_13 rfl (lv_at hl 3 rfl) ?_
        refine j_iload_n S dX0_worstUpper_14 rfl (lv_at hl 4 rfl) ?_
        refine j_iload S dX0_worstUpper_15 (lv_at hl 0 rfl) ?_
        refine j_cvi (As := [jI u1, jI n, jI k]) (ci := 0) S (c_X0_missUpper l D h a0 a1 a2 a3 cA H T E F cc gc w d v hok u1 n k (iv_w hu1 (by decide +kernel)) (iv_w hn (by decide +kernel)) (iv_w r2_ (by decide +kernel))) (cwV 3 S.2.2.2.2 gX0_worstUpper_X0_missUpper rfl rfl rfl ⟨rfl, hdX0_missUpper⟩ ⟨Nat.le_of_ble_eq_true rfl, Nat.le_of_ble_eq_true rfl⟩) hK hP rfl rfl rfl [jI b] rfl rfl hl.1 (Nat.le_of_ble_eq_true rfl) ⟨Nat.zero_le _, Nat.zero_le _⟩ dX0_worstUpper_17 (fun i17 q17 => ?_)
        subst q17
        have r3_ : (-500) ≤ (sp_ms w u1 n k) ∧ (sp_ms w u1 n k) ≤ 500 := sp_ms_iv (iv_w (lo := 2) (hi := 1000) hn (by decide +kernel))
        refine j_mabs S hl.1 (List.mem_of_getElem? (i := 1) rfl) (List.mem_of_getElem? (i := 2) rfl) (List.mem_of_getElem? (i := 3) rfl) (List.mem_of_getElem? (i := 4) rfl) (Nat.le_of_ble_eq_true rfl) (Nat.le_of_ble_eq_true rfl) ⟨Nat.zero_le _, Nat.zero_le _⟩ r3_ (by decide +kernel) dX0_worstUpper_20 ?_
        have t4_ : (-500) ≤ (sp_ms w u1 n k) ∧ (sp_ms w u1 n k) ≤ 500 := r3_
        have r5_ : 0 ≤ ((Int.natAbs (sp_ms w u1 n k) : Nat) : Int) ∧ ((Int.natAbs (sp_ms w u1 n k) : Nat) : Int) ≤ 500 := by omega
        refine j_mmax S hl.1 (List.mem_of_getElem? (i := 5) rfl) (List.mem_of_getElem? (i := 6) rfl) (List.mem_of_getElem? (i := 3) rfl) (List.mem_of_getElem? (i := 7) rfl) (Nat.le_of_ble_eq_true rfl) (Nat.le_of_ble_eq_true rfl) ⟨Nat.zero_le _, Nat.zero_le _⟩ (iv_i hbi (by decide +kernel)) (iv_i r5_ (by decide +kernel)) dX0_worstUpper_23 ?_
        have t6_ : 0 ≤ b ∧ b ≤ 500 := hbi
        have t7_ : 0 ≤ ((Int.natAbs (sp_ms w u1 n k) : Nat) : Int) ∧ ((Int.natAbs (sp_ms w u1 n k) : Nat) : Int) ≤ 500 := r5_
        have r8_ : 0 ≤ (max b ((Int.natAbs (sp_ms w u1 n k) : Nat) : Int)) ∧ (max b ((Int.natAbs (sp_ms w u1 n k) : Nat) : Int)) ≤ 500 := by omega
        refine j_istore_n (lv' := [(3, jI (max b ((Int.natAbs (sp_ms w u1 n k) : Nat) : Int))), (4, jI k), (0, .ref h), (1, jI u1), (2, jI n)]) S dX0_worstUpper_26 rfl hl (by decide) rfl (fun ls hl => ?_)
        refine j_iinc (k := 1) (y := (k + 1)) (lv' := [(4, jI (k + 1)), (3, jI (max b ((Int.natAbs (sp_ms w u1 n k) : Nat) : Int))), (0, .ref h), (1, jI u1), (2, jI n)]) S dX0_worstUpper_27 hl rfl rfl (by decide) rfl (fun ls hl => ?_)
        refine j_goto (tgt := 5) S dX0_worstUpper_30 (by decide) ?_
        exact ih5 (max b ((Int.natAbs (sp_ms w u1 n k) : Nat) : Int)) (k + 1) _ (by omega) (by omega) (by rw [sp_wf_s (by omega), ← hb]) (by omega) (by omega) (lv_sub hl [0, 1, 2, 3, 4] rfl)
  exact loop5 1002 0 0 _ (by omega) (by omega) rfl (by omega) (by omega) (lv_sub hl [0, 1, 2, 3, 4] rfl)
abbrev rmX0_exactCuts : Room := { frames := 3, cells := 0, slots := 0, locals := 69 }
theorem hdX0_exactCuts : yX0_exactCuts.cls ≠ "java/lang/invoke/MethodHandle" ∧ yX0_exactCuts.cls ≠ "java/lang/invoke/VarHandle" ∧ (parseMethodDescriptor yX0_exactCuts.desc).map (fun d => d.parameters.length) = some 2 := by decide +kernel
set_option maxHeartbeats 4000000 in
set_option maxRecDepth 100000 in
theorem c_X0_exactCuts (l : Launch) (D : va_G) (h a0 a1 a2 a3 : Nat) (cA : ClassId) (H T E F : Int → Int) (cc gc w d v : Int) (hok : SOK H T E cc gc w d v) (u1 : Int) (n : Int) (hu1 : 5 ≤ u1 ∧ u1 ≤ 120) (hn : 2 ≤ n ∧ n ≤ 1000) : MI l yX0_exactCuts wsX0_exactCuts rmX0_exactCuts [.ref h, jI u1, jI n] (WB D (XW h a0 a1 a2 a3 cA H T E F cc gc w d v) cA) (fun rR => rR = sp_xf w u1 n n) := by
  refine MI_of (cc := cX0_exactCuts) (maxL := 5) (by decide) rfl (Nat.le_of_ble_eq_true rfl) ?_
  intro pP eE sS mM aA bL mT cC QQ ls S hret ⟨hP, hK⟩ hl
  obtain ⟨hcc, hgc, hw, hd, hv, hH, hT, hE⟩ := id hok
  have hin : ∀ w ∈ wsX00, w ∈ wsX0_exactCuts := fun w hw => List.mem_cons_of_mem _ (List.mem_append_right _ hw)
  have hl : lv_has ls 5 [(0, .ref h), (1, jI u1), (2, jI n)] := hl
  refine j_iconst S dX0_exactCuts_0 ?_
  refine j_istore_n (lv' := [(3, jI 0), (0, .ref h), (1, jI u1), (2, jI n)]) S dX0_exactCuts_1 rfl hl (by decide) rfl (fun ls hl => ?_)
  refine j_iconst S dX0_exactCuts_2 ?_
  refine j_istore (lv' := [(4, jI 0), (3, jI 0), (0, .ref h), (1, jI u1), (2, jI n)]) S dX0_exactCuts_3 hl (by decide) rfl (fun ls hl => ?_)
  have loop5 : ∀ (N : Nat) (b k : Int) (ls : Array Slot), (0 ≤ k ∧ k ≤ 1000) → (k ≤ n) → (b = sp_xf w u1 n k) → n - k < (N : Int) → lv_has ls 5 [(4, jI k), (3, jI b), (0, .ref h), (1, jI u1), (2, jI n)] → W pP l eE rmX0_exactCuts sS mM aA bL mT cC sS.heap [] 0 0 QQ (F0 mM 5 ls []) := by
    intro N
    induction N with
    | zero =>
      intro b k ls hk hk2 hb hN
      exact absurd hN (by omega)
    | succ N ih5 =>
      intro b k ls hk hk2 hb hN hl
      refine j_iload S dX0_exactCuts_5 (lv_at hl 0 rfl) ?_
      refine j_iload_n S dX0_exactCuts_7 rfl (lv_at hl 4 rfl) ?_
      refine j_icmp_ge (tgt := 31) S dX0_exactCuts_8 (by decide) (iv_i hk (by decide +kernel)) (iv_i hn (by decide +kernel)) (fun c8 => ?_) (fun c8 => ?_)
      · have r1_ : 2 ≤ k ∧ k ≤ 1000 := by omega
        refine j_iload_n S dX0_exactCuts_31 rfl (lv_at hl 1 rfl) ?_
        exact hret b 32 _ (by rw [hb, show k = n from by omega]) dX0_exactCuts_32
      · have r2_ : 0 ≤ k ∧ k ≤ 999 := by omega
        refine lv_aload_n S.1 S.2.1 dX0_exactCuts_11 rfl (lv_at hl 2 rfl) ?_
        refine j_iload_n S dX0_exactCuts_12 rfl (lv_at hl 3 rfl) ?_
        refine j_iload_n S dX0_exactCuts_13 rfl (lv_at hl 4 rfl) ?_
        refine j_iload S dX0_exactCuts_14 (lv_at hl 0 rfl) ?_
        refine j_cvi (As := [jI u1, jI n, jI k]) (ci := 0) S (c_X0_missUpper l D h a0 a1 a2 a3 cA H T E F cc gc w d v hok u1 n k (iv_w hu1 (by decide +kernel)) (iv_w hn (by decide +kernel)) (iv_w r2_ (by decide +kernel))) (cwV 3 S.2.2.2.2 gX0_exactCuts_X0_missUpper rfl rfl rfl ⟨rfl, hdX0_missUpper⟩ ⟨Nat.le_of_ble_eq_true rfl, Nat.le_of_ble_eq_true rfl⟩) hK hP rfl rfl rfl [] rfl rfl hl.1 (Nat.le_of_ble_eq_true rfl) ⟨Nat.zero_le _, Nat.zero_le _⟩ dX0_exactCuts_16 (fun i16 q16 => ?_)
        subst q16
        have r3_ : (-500) ≤ (sp_ms w u1 n k) ∧ (sp_ms w u1 n k) ≤ 500 := sp_ms_iv (iv_w (lo := 2) (hi := 1000) hn (by decide +kernel))
        refine j_if_ne (tgt := 25) S dX0_exactCuts_19 (by decide) (iv_i r3_ (by decide +kernel)) (fun c19 => ?_) (fun c19 => ?_)
        · refine j_iinc (k := 0) (y := (k + 1)) (lv' := [(4, jI (k + 1)), (3, jI b), (0, .ref h), (1, jI u1), (2, jI n)]) S dX0_exactCuts_25 hl rfl rfl (by decide) rfl (fun ls hl => ?_)
          refine j_goto (tgt := 5) S dX0_exactCuts_28 (by decide) ?_
          exact ih5 b (k + 1) _ (by omega) (by omega) (by rw [sp_xf_s (by omega), ← hb]; split <;> omega) (by omega) (lv_sub hl [0, 1, 2, 3, 4] rfl)
        · have r4_ : 0 ≤ (sp_ms w u1 n k) ∧ (sp_ms w u1 n k) ≤ 0 := by omega
          refine j_iinc (k := 1) (y := (b + 1)) (lv' := [(3, jI (b + 1)), (4, jI k), (0, .ref h), (1, jI u1), (2, jI n)]) S dX0_exactCuts_22 hl rfl rfl (by decide) rfl (fun ls hl => ?_)
          refine j_iinc (k := 1) (y := (k + 1)) (lv' := [(4, jI (k + 1)), (3, jI (b + 1)), (0, .ref h), (1, jI u1), (2, jI n)]) S dX0_exactCuts_25 hl rfl rfl (by decide) rfl (fun ls hl => ?_)
          refine j_goto (tgt := 5) S dX0_exactCuts_28 (by decide) ?_
          exact ih5 (b + 1) (k + 1) _ (by omega) (by omega) (by rw [sp_xf_s (by omega), ← hb]; split <;> omega) (by omega) (lv_sub hl [0, 1, 2, 3, 4] rfl)
  exact loop5 1001 0 0 _ (by omega) (by omega) rfl (by omega) (lv_sub hl [0, 1, 2, 3, 4] rfl)
abbrev rmX0_errorUpper : Room := { frames := 0, cells := 0, slots := 0, locals := 0 }
theorem hdX0_errorUpper : yX0_errorUpper.cls ≠ "java/lang/invoke/MethodHandle" ∧ yX0_errorUpper.cls ≠ "java/lang/invoke/VarHandle" ∧ (parseMethodDescriptor yX0_errorUpper.desc).map (fun d => d.parameters.length) = some 3 := by decide +kernel
set_option maxHeartbeats 4000000 in
set_option maxRecDepth 100000 in
theorem c_X0_errorUpper (l : Launch) (D : va_G) (h a0 a1 a2 a3 : Nat) (cA : ClassId) (H T E F : Int → Int) (cc gc w d v : Int) (hok : SOK H T E cc gc w d v) (u1 : Int) (s : Int) (i : Int) (hu1 : 5 ≤ u1 ∧ u1 ≤ 120) (hs : 1 ≤ s ∧ s ≤ 100000) (hi : 0 ≤ i ∧ i ≤ 10000) : MI l yX0_errorUpper wsX0_errorUpper rmX0_errorUpper [.ref h, jI u1, jI s, jI i] (WB D (XW h a0 a1 a2 a3 cA H T E F cc gc w d v) cA) (fun rR => rR = sp_er E u1 s i) := by
  refine MI_of (cc := cX0_errorUpper) (maxL := 7) (by decide) rfl (Nat.le_of_ble_eq_true rfl) ?_
  intro pP eE sS mM aA bL mT cC QQ ls S hret ⟨hP, hK⟩ hl
  obtain ⟨hcc, hgc, hw, hd, hv, hH, hT, hE⟩ := id hok
  have hin : ∀ w ∈ wsX00, w ∈ wsX0_errorUpper := fun w hw => List.mem_cons_of_mem _ (List.mem_append_right _ hw)
  have hl : lv_has ls 7 [(0, .ref h), (1, jI u1), (2, jI s), (3, jI i)] := hl
  refine j_iload_n S dX0_errorUpper_0 rfl (lv_at hl 1 rfl) ?_
  refine j_iconst S dX0_errorUpper_1 ?_
  refine j_icmp_ge (tgt := 7) S dX0_errorUpper_2 (by decide) (iv_i hu1 (by decide +kernel)) (iv_i (iv_n 1) (by decide +kernel)) (fun c2 => ?_) (fun z9 => by have : 5 ≤ u1 ∧ u1 ≤ 120 := hu1; omega)
  refine j_iload_n S dX0_errorUpper_7 rfl (lv_at hl 3 rfl) ?_
  refine j_i2l S dX0_errorUpper_8 (iv_i hi (by decide +kernel)) ?_
  refine j_iload_n S dX0_errorUpper_9 rfl (lv_at hl 2 rfl) ?_
  refine j_i2l S dX0_errorUpper_10 (iv_i hs (by decide +kernel)) ?_
  refine j_lmul S dX0_errorUpper_11 ?_
  refine j_iload_n S dX0_errorUpper_12 rfl (lv_at hl 1 rfl) ?_
  refine j_i2l S dX0_errorUpper_13 (iv_i hu1 (by decide +kernel)) ?_
  refine j_lremp S dX0_errorUpper_14 (iv_l (iv_mulp (lo := 0) (hi := 1000000000) hi hs (by decide +kernel)) (by decide +kernel)) (iv_pl hu1 (by decide +kernel)) (iv_nn (iv_mulp (lo := 0) (hi := 1000000000) hi hs (by decide +kernel)) (by decide +kernel)) ?_
  refine j_l2i S dX0_errorUpper_15 ?_
  refine j_istore (lv' := [(4, jI ((i * s) % u1)), (0, .ref h), (1, jI u1), (2, jI s), (3, jI i)]) S dX0_errorUpper_16 hl (by decide) rfl (fun ls hl => ?_)
  refine j_iload S dX0_errorUpper_18 (lv_at hl 0 rfl) ?_
  refine j_bipush S dX0_errorUpper_20 (by decide) ?_
  refine j_imul S dX0_errorUpper_22 ?_
  refine j_iload_n S dX0_errorUpper_23 rfl (lv_at hl 2 rfl) ?_
  refine j_idivp S dX0_errorUpper_24 (iv_i (iv_mulp (lo := 0) (hi := 952) (iv_mod (lo := 0) (hi := 119) hu1 (by decide +kernel)) (iv_n 8) (by decide +kernel)) (by decide +kernel)) (iv_pi hu1 (by decide +kernel)) (iv_nn (iv_mulp (lo := 0) (hi := 952) (iv_mod (lo := 0) (hi := 119) hu1 (by decide +kernel)) (iv_n 8) (by decide +kernel)) (by decide +kernel)) ?_
  refine j_istore (lv' := [(5, jI ((((i * s) % u1) * 8) / u1)), (4, jI ((i * s) % u1)), (0, .ref h), (1, jI u1), (2, jI s), (3, jI i)]) S dX0_errorUpper_25 hl (by decide) rfl (fun ls hl => ?_)
  refine j_iload S dX0_errorUpper_27 (lv_at hl 1 rfl) ?_
  refine j_bipush S dX0_errorUpper_29 (by decide) ?_
  refine j_imul S dX0_errorUpper_31 ?_
  refine j_iload_n S dX0_errorUpper_32 rfl (lv_at hl 3 rfl) ?_
  refine j_iremp S dX0_errorUpper_33 (iv_i (iv_mulp (lo := 0) (hi := 952) (iv_mod (lo := 0) (hi := 119) hu1 (by decide +kernel)) (iv_n 8) (by decide +kernel)) (by decide +kernel)) (iv_pi hu1 (by decide +kernel)) (iv_nn (iv_mulp (lo := 0) (hi := 952) (iv_mod (lo := 0) (hi := 119) hu1 (by decide +kernel)) (iv_n 8) (by decide +kernel)) (by decide +kernel)) ?_
  refine j_istore (lv' := [(6, jI ((((i * s) % u1) * 8) % u1)), (5, jI ((((i * s) % u1) * 8) / u1)), (4, jI ((i * s) % u1)), (0, .ref h), (1, jI u1), (2, jI s), (3, jI i)]) S dX0_errorUpper_34 hl (by decide) rfl (fun ls hl => ?_)
  refine lv_aload_n S.1 S.2.1 dX0_errorUpper_36 rfl (lv_at hl 3 rfl) ?_
  refine j_get (v := .ref a2) S hin hK hP rfl rfl 2 (by decide) (List.mem_of_getElem? (i := 1) rfl) rfl dX0_errorUpper_37 ?_
  refine j_iload S dX0_errorUpper_40 (lv_at hl 1 rfl) ?_
  refine j_bipush S dX0_errorUpper_42 (by decide) ?_
  refine j_iremp S dX0_errorUpper_44 (iv_i (iv_div (lo := 0) (hi := 952) (iv_mulp (lo := 0) (hi := 952) (iv_mod (lo := 0) (hi := 119) hu1 (by decide +kernel)) (iv_n 8) (by decide +kernel)) (by have := hu1; omega) (by decide +kernel)) (by decide +kernel)) (iv_pi (iv_n 8) (by decide +kernel)) (iv_nn (iv_div (lo := 0) (hi := 952) (iv_mulp (lo := 0) (hi := 952) (iv_mod (lo := 0) (hi := 119) hu1 (by decide +kernel)) (iv_n 8) (by decide +kernel)) (by have := hu1; omega) (by decide +kernel)) (by decide +kernel)) ?_
  refine j_iald S hK hP 3 0 rfl rfl (iv_ix (n := 8) (iv_mod (lo := 0) (hi := 7) (iv_n 8) (by decide +kernel)) (by decide +kernel)) dX0_errorUpper_45 ?_
  have t2_ : 0 ≤ (((((i * s) % u1) * 8) / u1) % 8) ∧ (((((i * s) % u1) * 8) / u1) % 8) ≤ 7 := (iv_mod (lo := 0) (hi := 7) (iv_n 8) (by decide +kernel))
  have r1_ := hE (((((i * s) % u1) * 8) / u1) % 8) (by omega) (by omega)
  refine j_iload_n S dX0_errorUpper_46 rfl (lv_at hl 4 rfl) ?_
  refine j_iload S dX0_errorUpper_47 (lv_at hl 0 rfl) ?_
  refine j_isub S dX0_errorUpper_49 ?_
  refine j_imul S dX0_errorUpper_50 ?_
  refine lv_aload_n S.1 S.2.1 dX0_errorUpper_51 rfl (lv_at hl 3 rfl) ?_
  refine j_get (v := .ref a2) S hin hK hP rfl rfl 2 (by decide) (List.mem_of_getElem? (i := 1) rfl) rfl dX0_errorUpper_52 ?_
  refine j_iload S dX0_errorUpper_55 (lv_at hl 1 rfl) ?_
  refine j_iconst S dX0_errorUpper_57 ?_
  refine j_iadd S dX0_errorUpper_58 ?_
  refine j_bipush S dX0_errorUpper_59 (by decide) ?_
  refine j_iremp S dX0_errorUpper_61 (iv_i (iv_add (lo := 1) (hi := 953) (iv_div (lo := 0) (hi := 952) (iv_mulp (lo := 0) (hi := 952) (iv_mod (lo := 0) (hi := 119) hu1 (by decide +kernel)) (iv_n 8) (by decide +kernel)) (by have := hu1; omega) (by decide +kernel)) (iv_n 1) (by decide +kernel)) (by decide +kernel)) (iv_pi (iv_n 8) (by decide +kernel)) (iv_nn (iv_add (lo := 1) (hi := 953) (iv_div (lo := 0) (hi := 952) (iv_mulp (lo := 0) (hi := 952) (iv_mod (lo := 0) (hi := 119) hu1 (by decide +kernel)) (iv_n 8) (by decide +kernel)) (by have := hu1; omega) (by decide +kernel)) (iv_n 1) (by decide +kernel)) (by decide +kernel)) ?_
  refine j_iald S hK hP 3 0 rfl rfl (iv_ix (n := 8) (iv_mod (lo := 0) (hi := 7) (iv_n 8) (by decide +kernel)) (by decide +kernel)) dX0_errorUpper_62 ?_
  have t4_ : 0 ≤ ((((((i * s) % u1) * 8) / u1) + 1) % 8) ∧ ((((((i * s) % u1) * 8) / u1) + 1) % 8) ≤ 7 := (iv_mod (lo := 0) (hi := 7) (iv_n 8) (by decide +kernel))
  have r3_ := hE ((((((i * s) % u1) * 8) / u1) + 1) % 8) (by omega) (by omega)
  refine j_iload S dX0_errorUpper_63 (lv_at hl 0 rfl) ?_
  refine j_imul S dX0_errorUpper_65 ?_
  refine j_iadd S dX0_errorUpper_66 ?_
  exact hret (((E (((((i * s) % u1) * 8) / u1) % 8)) * (u1 - ((((i * s) % u1) * 8) % u1))) + ((E ((((((i * s) % u1) * 8) / u1) + 1) % 8)) * ((((i * s) % u1) * 8) % u1))) 67 _ rfl dX0_errorUpper_67
abbrev rmX0_gapUpper : Room := { frames := 1, cells := 0, slots := 0, locals := 24 }
theorem hdX0_gapUpper : yX0_gapUpper.cls ≠ "java/lang/invoke/MethodHandle" ∧ yX0_gapUpper.cls ≠ "java/lang/invoke/VarHandle" ∧ (parseMethodDescriptor yX0_gapUpper.desc).map (fun d => d.parameters.length) = some 3 := by decide +kernel
set_option maxHeartbeats 4000000 in
set_option maxRecDepth 100000 in
theorem c_X0_gapUpper (l : Launch) (p : Int) (q : Int) (low : Int) (hp : 1 ≤ p ∧ p ≤ 1000000) (hq : 1 ≤ q ∧ q ≤ 1000000) (hlow : 1 ≤ low ∧ low ≤ 10000) : ML l yX0_gapUpper wsX0_gapUpper rmX0_gapUpper [jI p, jI q, jI low] W0 (fun rR => rR = sp_gap p q low) := by
  refine ML_of (cc := cX0_gapUpper) (maxL := 5) (by decide) rfl (Nat.le_of_ble_eq_true rfl) ?_
  intro pP eE sS mM aA bL mT cC QQ ls S hret _ hl
  have hl : lv_has ls 5 [(0, jI p), (1, jI q), (2, jI low)] := hl
  refine j_iload_n S dX0_gapUpper_0 rfl (lv_at hl 0 rfl) ?_
  refine j_i2l S dX0_gapUpper_1 (iv_i hp (by decide +kernel)) ?_
  refine j_iload_n S dX0_gapUpper_2 rfl (lv_at hl 2 rfl) ?_
  refine j_i2l S dX0_gapUpper_3 (iv_i hlow (by decide +kernel)) ?_
  refine j_lmul S dX0_gapUpper_4 ?_
  refine j_lstore_n (lv' := [(3, jL (p * low)), (0, jI p), (1, jI q), (2, jI low)]) S dX0_gapUpper_5 rfl hl (by decide) rfl (fun ls hl => ?_)
  refine j_lload_n S dX0_gapUpper_6 rfl (lv_at hl 0 rfl) ?_
  refine j_iload_n S dX0_gapUpper_7 rfl (lv_at hl 2 rfl) ?_
  refine j_i2l S dX0_gapUpper_8 (iv_i hq (by decide +kernel)) ?_
  refine j_csl (As := [jL (p * low), jL q]) S (c_X0_nearestOrLesser l (p * low) q (iv_w (iv_mulp (lo := 1) (hi := 10000000000) hp hlow (by decide +kernel)) (by decide +kernel)) (iv_w hq (by decide +kernel))) (va_cwS 2 S.2.2.2.2 gX0_gapUpper_X0_nearestOrLesser rfl rfl rfl hdX0_nearestOrLesser ⟨Nat.le_of_ble_eq_true rfl, Nat.le_of_ble_eq_true rfl⟩) [] rfl rfl hl.1 (Nat.le_of_ble_eq_true rfl) ⟨Nat.zero_le _, Nat.zero_le _⟩ dX0_gapUpper_9 (fun i9 q9 => ?_)
  subst q9
  have r1_ : 0 ≤ (sp_nol (p * low) q) ∧ (sp_nol (p * low) q) ≤ 10000000001 := sp_nol_iv (ub := 10000000001) (iv_w (lo := 0) (hi := 10000000000) (iv_mulp (lo := 1) (hi := 10000000000) hp hlow (by decide +kernel)) (by decide +kernel)) (by have := hq; omega) (by decide)
  refine j_iload_n S dX0_gapUpper_12 rfl (lv_at hl 2 rfl) ?_
  refine j_i2l S dX0_gapUpper_13 (iv_i hq (by decide +kernel)) ?_
  refine j_lmul S dX0_gapUpper_14 ?_
  refine j_lload_n S dX0_gapUpper_15 rfl (lv_at hl 0 rfl) ?_
  refine j_lsub S dX0_gapUpper_16 ?_
  refine j_mabsl S hl.1 (List.mem_of_getElem? (i := 1) rfl) (List.mem_of_getElem? (i := 2) rfl) (List.mem_of_getElem? (i := 3) rfl) (List.mem_of_getElem? (i := 4) rfl) (Nat.le_of_ble_eq_true rfl) (Nat.le_of_ble_eq_true rfl) ⟨Nat.zero_le _, Nat.zero_le _⟩ (iv_sub (lo := (-10000000000)) (hi := 10000000000999999) (iv_mulp (lo := 0) (hi := 10000000001000000) r1_ hq (by decide +kernel)) (iv_mulp (lo := 1) (hi := 10000000000) hp hlow (by decide +kernel)) (by decide +kernel)) (by decide +kernel) dX0_gapUpper_17 ?_
  have t2_ : (-10000000000) ≤ (((sp_nol (p * low) q) * q) - (p * low)) ∧ (((sp_nol (p * low) q) * q) - (p * low)) ≤ 10000000000999999 := (iv_sub (lo := (-10000000000)) (hi := 10000000000999999) (iv_mulp (lo := 0) (hi := 10000000001000000) r1_ hq (by decide +kernel)) (iv_mulp (lo := 1) (hi := 10000000000) hp hlow (by decide +kernel)) (by decide +kernel))
  have r3_ : 0 ≤ ((Int.natAbs (((sp_nol (p * low) q) * q) - (p * low)) : Nat) : Int) ∧ ((Int.natAbs (((sp_nol (p * low) q) * q) - (p * low)) : Nat) : Int) ≤ 10000000000999999 := by omega
  exact hret ((Int.natAbs (((sp_nol (p * low) q) * q) - (p * low)) : Nat) : Int) 20 _ rfl dX0_gapUpper_20
abbrev rmX0_nearestLower : Room := { frames := 2, cells := 0, slots := 0, locals := 48 }
theorem hdX0_nearestLower : yX0_nearestLower.cls ≠ "java/lang/invoke/MethodHandle" ∧ yX0_nearestLower.cls ≠ "java/lang/invoke/VarHandle" ∧ (parseMethodDescriptor yX0_nearestLower.desc).map (fun d => d.parameters.length) = some 3 := by decide +kernel
set_option maxHeartbeats 4000000 in
set_option maxRecDepth 100000 in
theorem c_X0_nearestLower (l : Launch) (p : Int) (q : Int) (limit : Int) (hp : 1 ≤ p ∧ p ≤ 1000000) (hq : 1 ≤ q ∧ q ≤ 1000000) (hlimit : 1 ≤ limit ∧ limit ≤ 10000) : MI l yX0_nearestLower wsX0_nearestLower rmX0_nearestLower [jI p, jI q, jI limit] W0 (fun rR => rR = sp_nr p q limit) := by
  refine MI_of (cc := cX0_nearestLower) (maxL := 9) (by decide) rfl (Nat.le_of_ble_eq_true rfl) ?_
  intro pP eE sS mM aA bL mT cC QQ ls S hret _ hl
  have hl : lv_has ls 9 [(0, jI p), (1, jI q), (2, jI limit)] := hl
  refine j_iconst S dX0_nearestLower_0 ?_
  refine j_istore_n (lv' := [(3, jI 1), (0, jI p), (1, jI q), (2, jI limit)]) S dX0_nearestLower_1 rfl hl (by decide) rfl (fun ls hl => ?_)
  refine j_iload_n S dX0_nearestLower_2 rfl (lv_at hl 1 rfl) ?_
  refine j_iload_n S dX0_nearestLower_3 rfl (lv_at hl 2 rfl) ?_
  refine j_iconst S dX0_nearestLower_4 ?_
  refine j_csl (As := [jI p, jI q, jI 1]) S (c_X0_gapUpper l p q 1 (iv_w hp (by decide +kernel)) (iv_w hq (by decide +kernel)) (iv_w (iv_n 1) (by decide +kernel))) (va_cwS 3 S.2.2.2.2 gX0_nearestLower_X0_gapUpper rfl rfl rfl hdX0_gapUpper ⟨Nat.le_of_ble_eq_true rfl, Nat.le_of_ble_eq_true rfl⟩) [] rfl rfl hl.1 (Nat.le_of_ble_eq_true rfl) ⟨Nat.zero_le _, Nat.zero_le _⟩ dX0_nearestLower_5 (fun i5 q5 => ?_)
  subst q5
  have r1_ : 0 ≤ (sp_gap p q 1) ∧ (sp_gap p q 1) ≤ 500000 := sp_gap_iv (iv_w (lo := 1) (hi := 1000000) hq (by decide +kernel))
  refine j_lstore (lv' := [(4, jL (sp_gap p q 1)), (3, jI 1), (0, jI p), (1, jI q), (2, jI limit)]) S dX0_nearestLower_8 hl (by decide) rfl (fun ls hl => ?_)
  refine j_iconst S dX0_nearestLower_10 ?_
  refine j_istore (lv' := [(6, jI 2), (4, jL (sp_gap p q 1)), (3, jI 1), (0, jI p), (1, jI q), (2, jI limit)]) S dX0_nearestLower_11 hl (by decide) rfl (fun ls hl => ?_)
  have loop13 : ∀ (N : Nat) (b G k : Int) (ls : Array Slot), (2 ≤ k ∧ k ≤ 10001) → (k ≤ limit + 1) → (b = sp_nr p q (k - 1)) → (G = sp_gap p q b) → (1 ≤ b ∧ b ≤ 10000) → (0 ≤ G ∧ G ≤ 500000) → limit + 1 - k < (N : Int) → lv_has ls 9 [(6, jI k), (4, jL G), (3, jI b), (0, jI p), (1, jI q), (2, jI limit)] → W pP l eE rmX0_nearestLower sS mM aA bL mT cC sS.heap [] 0 0 QQ (F0 mM 13 ls []) := by
    intro N
    induction N with
    | zero =>
      intro b G k ls hk hk2 hb hg hbi hgi hN
      exact absurd hN (by omega)
    | succ N ih13 =>
      intro b G k ls hk hk2 hb hg hbi hgi hN hl
      refine j_iload S dX0_nearestLower_13 (lv_at hl 0 rfl) ?_
      refine j_iload_n S dX0_nearestLower_15 rfl (lv_at hl 5 rfl) ?_
      refine j_icmp_gt (tgt := 63) S dX0_nearestLower_16 (by decide) (iv_i hk (by decide +kernel)) (iv_i hlimit (by decide +kernel)) (fun c16 => ?_) (fun c16 => ?_)
      · refine j_iload_n S dX0_nearestLower_63 rfl (lv_at hl 2 rfl) ?_
        exact hret b 64 _ (by rw [hb, show k - 1 = limit from by omega]) dX0_nearestLower_64
      · have r2_ : 2 ≤ k ∧ k ≤ 10000 := by omega
        have r3_ : 2 ≤ limit ∧ limit ≤ 10000 := by omega
        refine j_lload S dX0_nearestLower_19 (lv_at hl 1 rfl) ?_
        refine j_lconst (a := 0) S dX0_nearestLower_21 rfl ?_
        refine j_lcmp_le (pc1 := 23) (tgt := 63) S rfl dX0_nearestLower_22 dX0_nearestLower_23 (by decide) (iv_l hgi (by decide +kernel)) (iv_l (iv_n 0) (by decide +kernel)) (fun c22 => ?_) (fun c22 => ?_)
        · have r4_ : 0 ≤ G ∧ G ≤ 0 := by omega
          refine j_iload_n S dX0_nearestLower_63 rfl (lv_at hl 2 rfl) ?_
          exact hret b 64 _ (by rw [hb]; exact (sp_nr_stop (by omega) (by omega) (by rw [← hb, ← hg]; exact c22)).symm) dX0_nearestLower_64
        · have r5_ : 1 ≤ G ∧ G ≤ 500000 := by omega
          refine j_iload_n S dX0_nearestLower_26 rfl (lv_at hl 3 rfl) ?_
          refine j_iload_n S dX0_nearestLower_27 rfl (lv_at hl 4 rfl) ?_
          refine j_iload S dX0_nearestLower_28 (lv_at hl 0 rfl) ?_
          refine j_csl (As := [jI p, jI q, jI k]) S (c_X0_gapUpper l p q k (iv_w hp (by decide +kernel)) (iv_w hq (by decide +kernel)) (iv_w r2_ (by decide +kernel))) (va_cwS 3 S.2.2.2.2 gX0_nearestLower_X0_gapUpper rfl rfl rfl hdX0_gapUpper ⟨Nat.le_of_ble_eq_true rfl, Nat.le_of_ble_eq_true rfl⟩) [] rfl rfl hl.1 (Nat.le_of_ble_eq_true rfl) ⟨Nat.zero_le _, Nat.zero_le _⟩ dX0_nearestLower_30 (fun i30 q30 => ?_)
          subst q30
          have r6_ : 0 ≤ (sp_gap p q k) ∧ (sp_gap p q k) ≤ 500000 := sp_gap_iv (iv_w (lo := 1) (hi := 1000000) hq (by decide +kernel))
          refine j_lstore (lv' := [(7, jL (sp_gap p q k)), (6, jI k), (4, jL G), (3, jI b), (0, jI p), (1, jI q), (2, jI limit)]) S dX0_nearestLower_33 hl (by decide) rfl (fun ls hl => ?_)
          refine j_lload S dX0_nearestLower_35 (lv_at hl 0 rfl) ?_
          refine j_iload_n S dX0_nearestLower_37 rfl (lv_at hl 3 rfl) ?_
          refine j_i2l S dX0_nearestLower_38 (iv_i hbi (by decide +kernel)) ?_
          refine j_lmul S dX0_nearestLower_39 ?_
          refine j_lload S dX0_nearestLower_40 (lv_at hl 2 rfl) ?_
          refine j_iload S dX0_nearestLower_42 (lv_at hl 1 rfl) ?_
          refine j_i2l S dX0_nearestLower_44 (iv_i r2_ (by decide +kernel)) ?_
          refine j_lmul S dX0_nearestLower_45 ?_
          refine j_lcmp_ge (pc1 := 47) (tgt := 57) S rfl dX0_nearestLower_46 dX0_nearestLower_47 (by decide) (iv_l (iv_mulp (lo := 0) (hi := 5000000000) r6_ hbi (by decide +kernel)) (by decide +kernel)) (iv_l (iv_mulp (lo := 2) (hi := 5000000000) r5_ r2_ (by decide +kernel)) (by decide +kernel)) (fun c46 => ?_) (fun c46 => ?_)
          · refine j_iinc (k := 1) (y := (k + 1)) (lv' := [(6, jI (k + 1)), (7, jL (sp_gap p q k)), (4, jL G), (3, jI b), (0, jI p), (1, jI q), (2, jI limit)]) S dX0_nearestLower_57 hl rfl rfl (by decide) rfl (fun ls hl => ?_)
            refine j_goto (tgt := 13) S dX0_nearestLower_60 (by decide) ?_
            exact ih13 b G (k + 1) _ (by omega) (by omega) (by rw [show k + 1 - 1 = k from by omega, sp_nr_s (by omega), ← hb, ← hg]; split <;> omega) hg (by omega) (by omega) (by omega) (lv_sub hl [0, 2, 3, 4, 5, 6] rfl)
          · refine j_iload S dX0_nearestLower_50 (lv_at hl 1 rfl) ?_
            refine j_istore_n (lv' := [(3, jI k), (7, jL (sp_gap p q k)), (6, jI k), (4, jL G), (0, jI p), (1, jI q), (2, jI limit)]) S dX0_nearestLower_52 rfl hl (by decide) rfl (fun ls hl => ?_)
            refine j_lload S dX0_nearestLower_53 (lv_at hl 1 rfl) ?_
            refine j_lstore (lv' := [(4, jL (sp_gap p q k)), (3, jI k), (7, jL (sp_gap p q k)), (6, jI k), (0, jI p), (1, jI q), (2, jI limit)]) S dX0_nearestLower_55 hl (by decide) rfl (fun ls hl => ?_)
            refine j_iinc (k := 3) (y := (k + 1)) (lv' := [(6, jI (k + 1)), (4, jL (sp_gap p q k)), (3, jI k), (7, jL (sp_gap p q k)), (0, jI p), (1, jI q), (2, jI limit)]) S dX0_nearestLower_57 hl rfl rfl (by decide) rfl (fun ls hl => ?_)
            refine j_goto (tgt := 13) S dX0_nearestLower_60 (by decide) ?_
            exact ih13 k (sp_gap p q k) (k + 1) _ (by omega) (by omega) (by rw [show k + 1 - 1 = k from by omega, sp_nr_s (by omega), ← hb, ← hg]; split <;> omega) rfl (by omega) (by omega) (by omega) (lv_sub hl [0, 1, 2, 4, 5, 6] rfl)
  exact loop13 10002 1 (sp_gap p q 1) 2 _ (by omega) (by omega) rfl rfl (by omega) (by omega) (by omega) (lv_sub hl [0, 1, 2, 3, 4, 5] rfl)
abbrev rmX0_mainMark : Room := { frames := 0, cells := 0, slots := 0, locals := 0 }
theorem hdX0_mainMark : yX0_mainMark.cls ≠ "java/lang/invoke/MethodHandle" ∧ yX0_mainMark.cls ≠ "java/lang/invoke/VarHandle" ∧ (parseMethodDescriptor yX0_mainMark.desc).map (fun d => d.parameters.length) = some 2 := by decide +kernel
set_option maxHeartbeats 4000000 in
set_option maxRecDepth 100000 in
theorem c_X0_mainMark (l : Launch) (D : va_G) (h a0 a1 a2 a3 : Nat) (cA : ClassId) (H T E F : Int → Int) (cc gc w d v : Int) (hok : SOK H T E cc gc w d v) (p : Int) (q : Int) (hp : 0 ≤ p ∧ p ≤ 1000000000000) (hq : 1 ≤ q ∧ q ≤ 1000000000000) (hpq : p < q) : ML l yX0_mainMark wsX0_mainMark rmX0_mainMark [.ref h, jL p, jL q] (WB D (XW h a0 a1 a2 a3 cA H T E F cc gc w d v) cA) (fun rR => rR = sp_mm d p q) := by
  refine ML_of (cc := cX0_mainMark) (maxL := 5) (by decide) rfl (Nat.le_of_ble_eq_true rfl) ?_
  intro pP eE sS mM aA bL mT cC QQ ls S hret ⟨hP, hK⟩ hl
  obtain ⟨hcc, hgc, hw, hd, hv, hH, hT, hE⟩ := id hok
  have hin : ∀ w ∈ wsX00, w ∈ wsX0_mainMark := fun w hw => List.mem_cons_of_mem _ (List.mem_append_right _ hw)
  have hl : lv_has ls 5 [(0, .ref h), (1, jL p), (3, jL q)] := hl
  refine j_lload_n S dX0_mainMark_0 rfl (lv_at hl 2 rfl) ?_
  refine j_lconst (a := 1) S dX0_mainMark_1 rfl ?_
  refine j_lcmp_ge (pc1 := 3) (tgt := 10) S rfl dX0_mainMark_2 dX0_mainMark_3 (by decide) (iv_l hq (by decide +kernel)) (iv_l (iv_n 1) (by decide +kernel)) (fun c2 => ?_) (fun z9 => by have : 1 ≤ q ∧ q ≤ 1000000000000 := hq; omega)
  refine j_lload_n S dX0_mainMark_10 rfl (lv_at hl 1 rfl) ?_
  refine lv_aload_n S.1 S.2.1 dX0_mainMark_11 rfl (lv_at hl 0 rfl) ?_
  refine j_get (v := jI d) S hin hK hP rfl rfl 7 (by decide) (List.mem_of_getElem? (i := 1) rfl) rfl dX0_mainMark_12 ?_
  refine j_i2l S dX0_mainMark_15 (iv_i hd (by decide +kernel)) ?_
  refine j_lmul S dX0_mainMark_16 ?_
  refine j_lload_n S dX0_mainMark_17 rfl (lv_at hl 2 rfl) ?_
  refine j_ldivp S dX0_mainMark_18 (iv_l (iv_mulp (lo := 0) (hi := 720000000000000) hp hd (by decide +kernel)) (by decide +kernel)) (iv_pl hq (by decide +kernel)) (iv_nn (iv_mulp (lo := 0) (hi := 720000000000000) hp hd (by decide +kernel)) (by decide +kernel)) ?_
  exact hret ((p * d) / q) 19 _ rfl dX0_mainMark_19
abbrev rmX0_vernierLine : Room := { frames := 1, cells := 0, slots := 0, locals := 24 }
theorem hdX0_vernierLine : yX0_vernierLine.cls ≠ "java/lang/invoke/MethodHandle" ∧ yX0_vernierLine.cls ≠ "java/lang/invoke/VarHandle" ∧ (parseMethodDescriptor yX0_vernierLine.desc).map (fun d => d.parameters.length) = some 2 := by decide +kernel
set_option maxHeartbeats 4000000 in
set_option maxRecDepth 100000 in
theorem c_X0_vernierLine (l : Launch) (D : va_G) (h a0 a1 a2 a3 : Nat) (cA : ClassId) (H T E F : Int → Int) (cc gc w d v : Int) (hok : SOK H T E cc gc w d v) (p : Int) (q : Int) (hp : 0 ≤ p ∧ p ≤ 1000000000000) (hq : 1 ≤ q ∧ q ≤ 1000000000000) (hpq : p < q) : ML l yX0_vernierLine wsX0_vernierLine rmX0_vernierLine [.ref h, jL p, jL q] (WB D (XW h a0 a1 a2 a3 cA H T E F cc gc w d v) cA) (fun rR => rR = sp_ln d v p q) := by
  refine ML_of (cc := cX0_vernierLine) (maxL := 7) (by decide) rfl (Nat.le_of_ble_eq_true rfl) ?_
  intro pP eE sS mM aA bL mT cC QQ ls S hret ⟨hP, hK⟩ hl
  obtain ⟨hcc, hgc, hw, hd, hv, hH, hT, hE⟩ := id hok
  have hin : ∀ w ∈ wsX00, w ∈ wsX0_vernierLine := fun w hw => List.mem_cons_of_mem _ (List.mem_append_right _ hw)
  have hl : lv_has ls 7 [(0, .ref h), (1, jL p), (3, jL q)] := hl
  refine j_lload_n S dX0_vernierLine_0 rfl (lv_at hl 1 rfl) ?_
  refine lv_aload_n S.1 S.2.1 dX0_vernierLine_1 rfl (lv_at hl 0 rfl) ?_
  refine j_get (v := jI d) S hin hK hP rfl rfl 7 (by decide) (List.mem_of_getElem? (i := 1) rfl) rfl dX0_vernierLine_2 ?_
  refine j_i2l S dX0_vernierLine_5 (iv_i hd (by decide +kernel)) ?_
  refine j_lmul S dX0_vernierLine_6 ?_
  refine lv_aload_n S.1 S.2.1 dX0_vernierLine_7 rfl (lv_at hl 0 rfl) ?_
  refine j_lload_n S dX0_vernierLine_8 rfl (lv_at hl 1 rfl) ?_
  refine j_lload_n S dX0_vernierLine_9 rfl (lv_at hl 2 rfl) ?_
  refine j_cvl (As := [jL p, jL q]) (ci := 0) S (c_X0_mainMark l D h a0 a1 a2 a3 cA H T E F cc gc w d v hok p q (iv_w hp (by decide +kernel)) (iv_w hq (by decide +kernel)) (by omega)) (cwV 2 S.2.2.2.2 gX0_vernierLine_X0_mainMark rfl rfl rfl ⟨rfl, hdX0_mainMark⟩ ⟨Nat.le_of_ble_eq_true rfl, Nat.le_of_ble_eq_true rfl⟩) hK hP rfl rfl rfl [jL (p * d)] rfl rfl hl.1 (Nat.le_of_ble_eq_true rfl) ⟨Nat.zero_le _, Nat.zero_le _⟩ dX0_vernierLine_10 (fun i10 q10 => ?_)
  subst q10
  have r1_ : 0 ≤ (sp_mm d p q) ∧ (sp_mm d p q) ≤ 720 := sp_mm_iv hd (iv_w (lo := 0) (hi := 1000000000000) hp (by decide +kernel)) (iv_w (lo := 1) (hi := 1000000000000) hq (by decide +kernel)) (by omega)
  refine j_lload_n S dX0_vernierLine_13 rfl (lv_at hl 2 rfl) ?_
  refine j_lmul S dX0_vernierLine_14 ?_
  refine j_lsub S dX0_vernierLine_15 ?_
  have r2_ : 0 ≤ ((p * d) - ((sp_mm d p q) * q)) ∧ ((p * d) - ((sp_mm d p q) * q)) ≤ 1000000000000 := sp_left_iv hq
  refine j_lstore (lv' := [(5, jL ((p * d) - ((sp_mm d p q) * q))), (0, .ref h), (1, jL p), (3, jL q)]) S dX0_vernierLine_16 hl (by decide) rfl (fun ls hl => ?_)
  refine j_lload S dX0_vernierLine_18 (lv_at hl 0 rfl) ?_
  refine lv_aload_n S.1 S.2.1 dX0_vernierLine_20 rfl (lv_at hl 1 rfl) ?_
  refine j_get (v := jI v) S hin hK hP rfl rfl 8 (by decide) (List.mem_of_getElem? (i := 2) rfl) rfl dX0_vernierLine_21 ?_
  refine j_i2l S dX0_vernierLine_24 (iv_i hv (by decide +kernel)) ?_
  refine j_lmul S dX0_vernierLine_25 ?_
  refine j_lload_n S dX0_vernierLine_26 rfl (lv_at hl 3 rfl) ?_
  refine j_csl (As := [jL (((p * d) - ((sp_mm d p q) * q)) * v), jL q]) S (c_X0_nearestOrLesser l (((p * d) - ((sp_mm d p q) * q)) * v) q (iv_w (iv_mulp (lo := 0) (hi := 60000000000000) r2_ hv (by decide +kernel)) (by decide +kernel)) (iv_w hq (by decide +kernel))) (va_cwS 2 S.2.2.2.2 gX0_vernierLine_X0_nearestOrLesser rfl rfl rfl hdX0_nearestOrLesser ⟨Nat.le_of_ble_eq_true rfl, Nat.le_of_ble_eq_true rfl⟩) [] rfl rfl hl.1 (Nat.le_of_ble_eq_true rfl) ⟨Nat.zero_le _, Nat.zero_le _⟩ dX0_vernierLine_27 (fun i27 q27 => ?_)
  subst q27
  have r3_ : 0 ≤ (sp_nol (((p * d) - ((sp_mm d p q) * q)) * v) q) ∧ (sp_nol (((p * d) - ((sp_mm d p q) * q)) * v) q) ≤ 60000000000001 := sp_nol_iv (ub := 60000000000001) (iv_w (lo := 0) (hi := 60000000000000) (iv_mulp (lo := 0) (hi := 60000000000000) r2_ hv (by decide +kernel)) (by decide +kernel)) (by have := hq; omega) (by decide)
  exact hret (sp_nol (((p * d) - ((sp_mm d p q) * q)) * v) q) 30 _ rfl dX0_vernierLine_30
abbrev rmX0_readParts : Room := { frames := 2, cells := 0, slots := 0, locals := 50 }
theorem hdX0_readParts : yX0_readParts.cls ≠ "java/lang/invoke/MethodHandle" ∧ yX0_readParts.cls ≠ "java/lang/invoke/VarHandle" ∧ (parseMethodDescriptor yX0_readParts.desc).map (fun d => d.parameters.length) = some 2 := by decide +kernel
set_option maxHeartbeats 4000000 in
set_option maxRecDepth 100000 in
theorem c_X0_readParts (l : Launch) (D : va_G) (h a0 a1 a2 a3 : Nat) (cA : ClassId) (H T E F : Int → Int) (cc gc w d v : Int) (hok : SOK H T E cc gc w d v) (p : Int) (q : Int) (hp : 0 ≤ p ∧ p ≤ 1000000000000) (hq : 1 ≤ q ∧ q ≤ 1000000000000) (hpq : p < q) : ML l yX0_readParts wsX0_readParts rmX0_readParts [.ref h, jL p, jL q] (WB D (XW h a0 a1 a2 a3 cA H T E F cc gc w d v) cA) (fun rR => rR = sp_rd d v p q) := by
  refine ML_of (cc := cX0_readParts) (maxL := 5) (by decide) rfl (Nat.le_of_ble_eq_true rfl) ?_
  intro pP eE sS mM aA bL mT cC QQ ls S hret ⟨hP, hK⟩ hl
  obtain ⟨hcc, hgc, hw, hd, hv, hH, hT, hE⟩ := id hok
  have hin : ∀ w ∈ wsX00, w ∈ wsX0_readParts := fun w hw => List.mem_cons_of_mem _ (List.mem_append_right _ hw)
  have hl : lv_has ls 5 [(0, .ref h), (1, jL p), (3, jL q)] := hl
  refine lv_aload_n S.1 S.2.1 dX0_readParts_0 rfl (lv_at hl 0 rfl) ?_
  refine j_lload_n S dX0_readParts_1 rfl (lv_at hl 1 rfl) ?_
  refine j_lload_n S dX0_readParts_2 rfl (lv_at hl 2 rfl) ?_
  refine j_cvl (As := [jL p, jL q]) (ci := 0) S (c_X0_mainMark l D h a0 a1 a2 a3 cA H T E F cc gc w d v hok p q (iv_w hp (by decide +kernel)) (iv_w hq (by decide +kernel)) (by omega)) (cwV 2 S.2.2.2.2 gX0_readParts_X0_mainMark rfl rfl rfl ⟨rfl, hdX0_mainMark⟩ ⟨Nat.le_of_ble_eq_true rfl, Nat.le_of_ble_eq_true rfl⟩) hK hP rfl rfl rfl [] rfl rfl hl.1 (Nat.le_of_ble_eq_true rfl) ⟨Nat.zero_le _, Nat.zero_le _⟩ dX0_readParts_3 (fun i3 q3 => ?_)
  subst q3
  have r1_ : 0 ≤ (sp_mm d p q) ∧ (sp_mm d p q) ≤ 720 := sp_mm_iv hd (iv_w (lo := 0) (hi := 1000000000000) hp (by decide +kernel)) (iv_w (lo := 1) (hi := 1000000000000) hq (by decide +kernel)) (by omega)
  refine lv_aload_n S.1 S.2.1 dX0_readParts_6 rfl (lv_at hl 0 rfl) ?_
  refine j_get (v := jI v) S hin hK hP rfl rfl 8 (by decide) (List.mem_of_getElem? (i := 1) rfl) rfl dX0_readParts_7 ?_
  refine j_i2l S dX0_readParts_10 (iv_i hv (by decide +kernel)) ?_
  refine j_lmul S dX0_readParts_11 ?_
  refine lv_aload_n S.1 S.2.1 dX0_readParts_12 rfl (lv_at hl 0 rfl) ?_
  refine j_lload_n S dX0_readParts_13 rfl (lv_at hl 1 rfl) ?_
  refine j_lload_n S dX0_readParts_14 rfl (lv_at hl 2 rfl) ?_
  refine j_cvl (As := [jL p, jL q]) (ci := 0) S (c_X0_vernierLine l D h a0 a1 a2 a3 cA H T E F cc gc w d v hok p q (iv_w hp (by decide +kernel)) (iv_w hq (by decide +kernel)) (by omega)) (cwV 2 S.2.2.2.2 gX0_readParts_X0_vernierLine rfl rfl rfl ⟨rfl, hdX0_vernierLine⟩ ⟨Nat.le_of_ble_eq_true rfl, Nat.le_of_ble_eq_true rfl⟩) hK hP rfl rfl rfl [jL ((sp_mm d p q) * v)] rfl rfl hl.1 (Nat.le_of_ble_eq_true rfl) ⟨Nat.zero_le _, Nat.zero_le _⟩ dX0_readParts_15 (fun i15 q15 => ?_)
  subst q15
  have r2_ : 0 ≤ (sp_ln d v p q) ∧ (sp_ln d v p q) ≤ 60 := sp_ln_iv hv (iv_w (lo := 1) (hi := 1000000000000) hq (by decide +kernel)) (by omega)
  refine j_ladd S dX0_readParts_18 ?_
  exact hret (((sp_mm d p q) * v) + (sp_ln d v p q)) 19 _ rfl dX0_readParts_19
abbrev rmX0_commonMeasure : Room := { frames := 0, cells := 0, slots := 0, locals := 0 }
theorem hdX0_commonMeasure : yX0_commonMeasure.cls ≠ "java/lang/invoke/MethodHandle" ∧ yX0_commonMeasure.cls ≠ "java/lang/invoke/VarHandle" ∧ (parseMethodDescriptor yX0_commonMeasure.desc).map (fun d => d.parameters.length) = some 2 := by decide +kernel
set_option maxHeartbeats 4000000 in
set_option maxRecDepth 100000 in
theorem c_X0_commonMeasure (l : Launch) (a : Int) (b : Int) (ha : 0 ≤ a ∧ a ≤ 1000000000) (hb : 1 ≤ b ∧ b ≤ 1000) : ML l yX0_commonMeasure wsX0_commonMeasure rmX0_commonMeasure [jL a, jL b] W0 (fun rR => rR = ((Int.gcd a b : Nat) : Int)) := by
  refine ML_of (cc := cX0_commonMeasure) (maxL := 7) (by decide) rfl (Nat.le_of_ble_eq_true rfl) ?_
  intro pP eE sS mM aA bL mT cC QQ ls S hret _ hl
  have hl : lv_has ls 7 [(0, jL a), (2, jL b)] := hl
  refine j_iconst S dX0_commonMeasure_0 ?_
  refine j_istore (lv' := [(4, jI 0), (0, jL a), (2, jL b)]) S dX0_commonMeasure_1 hl (by decide) rfl (fun ls hl => ?_)
  have loop3 : ∀ (N : Nat) (x y k : Int) (ls : Array Slot), (0 ≤ k ∧ k ≤ 21) → (0 ≤ x ∧ x ≤ 1000000000) → (0 ≤ y ∧ y ≤ 1000) → (Int.gcd x y = Int.gcd a b) → ((k = 0 ∧ 0 < y) ∨ (y < x ∧ x * y < p2 k)) → 21 - k < (N : Int) → lv_has ls 7 [(4, jI k), (0, jL x), (2, jL y)] → W pP l eE rmX0_commonMeasure sS mM aA bL mT cC sS.heap [] 0 0 QQ (F0 mM 3 ls []) := by
    intro N
    induction N with
    | zero =>
      intro x y k ls hk hx hy hg hm hN
      exact absurd hN (by omega)
    | succ N ih3 =>
      intro x y k ls hk hx hy hg hm hN hl
      refine j_iload S dX0_commonMeasure_3 (lv_at hl 0 rfl) ?_
      refine j_bipush S dX0_commonMeasure_5 (by decide) ?_
      refine j_icmp_ge (tgt := 32) S dX0_commonMeasure_7 (by decide) (iv_i hk (by decide +kernel)) (iv_i (iv_n 100) (by decide +kernel)) (fun z9 => by have : 0 ≤ k ∧ k ≤ 21 := hk; omega) (fun c7 => ?_)
      refine j_lload_n S dX0_commonMeasure_10 rfl (lv_at hl 2 rfl) ?_
      refine j_lconst (a := 0) S dX0_commonMeasure_11 rfl ?_
      refine j_lcmp_eq (pc1 := 13) (tgt := 32) S rfl dX0_commonMeasure_12 dX0_commonMeasure_13 (by decide) (iv_l hy (by decide +kernel)) (iv_l (iv_n 0) (by decide +kernel)) (fun c12 => ?_) (fun c12 => ?_)
      · have r1_ : 0 ≤ y ∧ y ≤ 0 := by omega
        refine j_lload_n S dX0_commonMeasure_32 rfl (lv_at hl 1 rfl) ?_
        exact hret x 33 _ (by rw [← hg, c12]; exact (gcd_0 hx.1).symm) dX0_commonMeasure_33
      · have r2_ : 1 ≤ y ∧ y ≤ 1000 := by omega
        refine j_lload_n S dX0_commonMeasure_16 rfl (lv_at hl 1 rfl) ?_
        refine j_lload_n S dX0_commonMeasure_17 rfl (lv_at hl 2 rfl) ?_
        refine j_lremp S dX0_commonMeasure_18 (iv_l hx (by decide +kernel)) (iv_pl r2_ (by decide +kernel)) (iv_nn hx (by decide +kernel)) ?_
        refine j_lstore (lv' := [(5, jL (x % y)), (4, jI k), (0, jL x), (2, jL y)]) S dX0_commonMeasure_19 hl (by decide) rfl (fun ls hl => ?_)
        refine j_lload_n S dX0_commonMeasure_21 rfl (lv_at hl 3 rfl) ?_
        refine j_lstore_n (lv' := [(0, jL y), (5, jL (x % y)), (4, jI k), (2, jL y)]) S dX0_commonMeasure_22 rfl hl (by decide) rfl (fun ls hl => ?_)
        refine j_lload S dX0_commonMeasure_23 (lv_at hl 1 rfl) ?_
        refine j_lstore_n (lv' := [(2, jL (x % y)), (0, jL y), (5, jL (x % y)), (4, jI k)]) S dX0_commonMeasure_25 rfl hl (by decide) rfl (fun ls hl => ?_)
        refine j_iinc (k := 3) (y := (k + 1)) (lv' := [(4, jI (k + 1)), (2, jL (x % y)), (0, jL y), (5, jL (x % y))]) S dX0_commonMeasure_26 hl rfl rfl (by decide) rfl (fun ls hl => ?_)
        refine j_goto (tgt := 3) S dX0_commonMeasure_29 (by decide) ?_
        exact ih3 y (x % y) (k + 1) _ (by have := cm_lt hm hk (by omega); omega) (by omega) (by have := Int.emod_nonneg x (b := y) (by omega); have := Int.emod_lt_of_pos x (b := y) (by omega); omega) (by rw [gcd_step (by omega) (by omega), hg]) (Or.inr (cm_next hx hy hm (by omega) hk)) (by have := cm_lt hm hk (by omega); omega) (lv_sub hl [0, 2, 1] rfl)
  exact loop3 22 a b 0 _ (by omega) (by omega) (by omega) rfl (by omega) (by omega) (lv_sub hl [0, 1, 2] rfl)
abbrev rmX0_lowestTerm : Room := { frames := 1, cells := 0, slots := 0, locals := 26 }
theorem hdX0_lowestTerm : yX0_lowestTerm.cls ≠ "java/lang/invoke/MethodHandle" ∧ yX0_lowestTerm.cls ≠ "java/lang/invoke/VarHandle" ∧ (parseMethodDescriptor yX0_lowestTerm.desc).map (fun d => d.parameters.length) = some 3 := by decide +kernel
set_option maxHeartbeats 4000000 in
set_option maxRecDepth 100000 in
theorem c_X0_lowestTerm (l : Launch) (up : Int) (low : Int) (what : Int) (hup : (-1000000000) ≤ up ∧ up ≤ 1000000000) (hlow : 1 ≤ low ∧ low ≤ 1000) (hwhat : inI what) : MI l yX0_lowestTerm wsX0_lowestTerm rmX0_lowestTerm [jL up, jL low, jI what] W0 (fun rR => rR = sp_lt up low what) := by
  refine MI_of (cc := cX0_lowestTerm) (maxL := 9) (by decide) rfl (Nat.le_of_ble_eq_true rfl) ?_
  intro pP eE sS mM aA bL mT cC QQ ls S hret _ hl
  have hl : lv_has ls 9 [(0, jL up), (2, jL low), (4, jI what)] := hl
  refine j_iload S dX0_lowestTerm_0 (lv_at hl 2 rfl) ?_
  refine j_if_ne (tgt := 9) S dX0_lowestTerm_2 (by decide) (iv_i hwhat (by decide +kernel)) (fun c2 => ?_) (fun c2 => ?_)
  · refine j_lload_n S dX0_lowestTerm_9 rfl (lv_at hl 1 rfl) ?_
    refine j_lstore (lv' := [(5, jL low), (0, jL up), (2, jL low), (4, jI what)]) S dX0_lowestTerm_10 hl (by decide) rfl (fun ls hl => ?_)
    refine j_lload_n S dX0_lowestTerm_12 rfl (lv_at hl 1 rfl) ?_
    refine j_mabsl S hl.1 (List.mem_of_getElem? (i := 1) rfl) (List.mem_of_getElem? (i := 2) rfl) (List.mem_of_getElem? (i := 3) rfl) (List.mem_of_getElem? (i := 4) rfl) (Nat.le_of_ble_eq_true rfl) (Nat.le_of_ble_eq_true rfl) ⟨Nat.zero_le _, Nat.zero_le _⟩ hup (by decide +kernel) dX0_lowestTerm_13 ?_
    have t1_ : (-1000000000) ≤ up ∧ up ≤ 1000000000 := hup
    have r2_ : 0 ≤ ((Int.natAbs up : Nat) : Int) ∧ ((Int.natAbs up : Nat) : Int) ≤ 1000000000 := by omega
    refine j_lload_n S dX0_lowestTerm_16 rfl (lv_at hl 2 rfl) ?_
    refine j_csl (As := [jL ((Int.natAbs up : Nat) : Int), jL low]) S (c_X0_commonMeasure l ((Int.natAbs up : Nat) : Int) low (iv_w r2_ (by decide +kernel)) (iv_w hlow (by decide +kernel))) (va_cwS 2 S.2.2.2.2 gX0_lowestTerm_X0_commonMeasure rfl rfl rfl hdX0_commonMeasure ⟨Nat.le_of_ble_eq_true rfl, Nat.le_of_ble_eq_true rfl⟩) [] rfl rfl hl.1 (Nat.le_of_ble_eq_true rfl) ⟨Nat.zero_le _, Nat.zero_le _⟩ dX0_lowestTerm_17 (fun i17 q17 => ?_)
    subst q17
    have r3_ : 1 ≤ ((Int.gcd ((Int.natAbs up : Nat) : Int) low : Nat) : Int) ∧ ((Int.gcd ((Int.natAbs up : Nat) : Int) low : Nat) : Int) ≤ 1000 := gcd_iv (iv_w (lo := 1) (hi := 1000) hlow (by decide +kernel))
    refine j_lstore (lv' := [(7, jL ((Int.gcd ((Int.natAbs up : Nat) : Int) low : Nat) : Int)), (5, jL low), (0, jL up), (2, jL low), (4, jI what)]) S dX0_lowestTerm_20 hl (by decide) rfl (fun ls hl => ?_)
    refine j_lload S dX0_lowestTerm_22 (lv_at hl 0 rfl) ?_
    refine j_lconst (a := 1) S dX0_lowestTerm_24 rfl ?_
    refine j_lcmp_ge (pc1 := 26) (tgt := 34) S rfl dX0_lowestTerm_25 dX0_lowestTerm_26 (by decide) (iv_l r3_ (by decide +kernel)) (iv_l (iv_n 1) (by decide +kernel)) (fun c25 => ?_) (fun z9 => by have : 1 ≤ ((Int.gcd ((Int.natAbs up : Nat) : Int) low : Nat) : Int) ∧ ((Int.gcd ((Int.natAbs up : Nat) : Int) low : Nat) : Int) ≤ 1000 := r3_; omega)
    refine j_lload S dX0_lowestTerm_34 (lv_at hl 1 rfl) ?_
    refine j_lload S dX0_lowestTerm_36 (lv_at hl 0 rfl) ?_
    refine j_ldivp S dX0_lowestTerm_38 (iv_l hlow (by decide +kernel)) (iv_pl r3_ (by decide +kernel)) (iv_nn hlow (by decide +kernel)) ?_
    refine j_l2i S dX0_lowestTerm_39 ?_
    exact hret (low / ((Int.gcd ((Int.natAbs up : Nat) : Int) low : Nat) : Int)) 40 _ (sp_lt_1 c2 (by omega)).symm dX0_lowestTerm_40
  · have r4_ : 0 ≤ what ∧ what ≤ 0 := by omega
    refine j_lload_n S dX0_lowestTerm_5 rfl (lv_at hl 0 rfl) ?_
    refine j_goto (tgt := 10) S dX0_lowestTerm_6 (by decide) ?_
    refine j_lstore (lv' := [(5, jL up), (0, jL up), (2, jL low), (4, jI what)]) S dX0_lowestTerm_10 hl (by decide) rfl (fun ls hl => ?_)
    refine j_lload_n S dX0_lowestTerm_12 rfl (lv_at hl 1 rfl) ?_
    refine j_mabsl S hl.1 (List.mem_of_getElem? (i := 1) rfl) (List.mem_of_getElem? (i := 2) rfl) (List.mem_of_getElem? (i := 3) rfl) (List.mem_of_getElem? (i := 4) rfl) (Nat.le_of_ble_eq_true rfl) (Nat.le_of_ble_eq_true rfl) ⟨Nat.zero_le _, Nat.zero_le _⟩ hup (by decide +kernel) dX0_lowestTerm_13 ?_
    have t5_ : (-1000000000) ≤ up ∧ up ≤ 1000000000 := hup
    have r6_ : 0 ≤ ((Int.natAbs up : Nat) : Int) ∧ ((Int.natAbs up : Nat) : Int) ≤ 1000000000 := by omega
    refine j_lload_n S dX0_lowestTerm_16 rfl (lv_at hl 2 rfl) ?_
    refine j_csl (As := [jL ((Int.natAbs up : Nat) : Int), jL low]) S (c_X0_commonMeasure l ((Int.natAbs up : Nat) : Int) low (iv_w r6_ (by decide +kernel)) (iv_w hlow (by decide +kernel))) (va_cwS 2 S.2.2.2.2 gX0_lowestTerm_X0_commonMeasure rfl rfl rfl hdX0_commonMeasure ⟨Nat.le_of_ble_eq_true rfl, Nat.le_of_ble_eq_true rfl⟩) [] rfl rfl hl.1 (Nat.le_of_ble_eq_true rfl) ⟨Nat.zero_le _, Nat.zero_le _⟩ dX0_lowestTerm_17 (fun i17 q17 => ?_)
    subst q17
    have r7_ : 1 ≤ ((Int.gcd ((Int.natAbs up : Nat) : Int) low : Nat) : Int) ∧ ((Int.gcd ((Int.natAbs up : Nat) : Int) low : Nat) : Int) ≤ 1000 := gcd_iv (iv_w (lo := 1) (hi := 1000) hlow (by decide +kernel))
    refine j_lstore (lv' := [(7, jL ((Int.gcd ((Int.natAbs up : Nat) : Int) low : Nat) : Int)), (5, jL up), (0, jL up), (2, jL low), (4, jI what)]) S dX0_lowestTerm_20 hl (by decide) rfl (fun ls hl => ?_)
    refine j_lload S dX0_lowestTerm_22 (lv_at hl 0 rfl) ?_
    refine j_lconst (a := 1) S dX0_lowestTerm_24 rfl ?_
    refine j_lcmp_ge (pc1 := 26) (tgt := 34) S rfl dX0_lowestTerm_25 dX0_lowestTerm_26 (by decide) (iv_l r7_ (by decide +kernel)) (iv_l (iv_n 1) (by decide +kernel)) (fun c25 => ?_) (fun z9 => by have : 1 ≤ ((Int.gcd ((Int.natAbs up : Nat) : Int) low : Nat) : Int) ∧ ((Int.gcd ((Int.natAbs up : Nat) : Int) low : Nat) : Int) ≤ 1000 := r7_; omega)
    refine j_lload S dX0_lowestTerm_34 (lv_at hl 1 rfl) ?_
    refine j_lload S dX0_lowestTerm_36 (lv_at hl 0 rfl) ?_
    refine j_ldiv S dX0_lowestTerm_38 (iv_l hup (by decide +kernel)) (iv_pl r7_ (by decide +kernel)) (iv_gt hup (by decide +kernel)) ?_
    refine j_l2i S dX0_lowestTerm_39 ?_
    exact hret (Int.tdiv up ((Int.gcd ((Int.natAbs up : Nat) : Int) low : Nat) : Int)) 40 _ (sp_lt_0 c2).symm dX0_lowestTerm_40
abbrev rmX0_plainCircle : Room := { frames := 1, cells := 0, slots := 0, locals := 23 }
theorem hdX0_plainCircle : yX0_plainCircle.cls ≠ "java/lang/invoke/MethodHandle" ∧ yX0_plainCircle.cls ≠ "java/lang/invoke/VarHandle" ∧ (parseMethodDescriptor yX0_plainCircle.desc).map (fun d => d.parameters.length) = some 1 := by decide +kernel
set_option maxHeartbeats 4000000 in
set_option maxRecDepth 100000 in
theorem c_X0_plainCircle (l : Launch) (D : va_G) (h a0 a1 a2 a3 : Nat) (cA : ClassId) (H T E F : Int → Int) (cc gc w d v : Int) (hok : SOK H T E cc gc w d v) (n : Int) (hn : 2 ≤ n ∧ n ≤ 1000) : MI l yX0_plainCircle wsX0_plainCircle rmX0_plainCircle [.ref h, jI n] (WB D (XW h a0 a1 a2 a3 cA H T E F cc gc w d v) cA) (fun rR => rR = sp_pl w H n cc) := by
  refine MI_of (cc := cX0_plainCircle) (maxL := 5) (by decide) rfl (Nat.le_of_ble_eq_true rfl) ?_
  intro pP eE sS mM aA bL mT cC QQ ls S hret ⟨hP, hK⟩ hl
  obtain ⟨hcc, hgc, hw, hd, hv, hH, hT, hE⟩ := id hok
  have hin : ∀ w ∈ wsX00, w ∈ wsX0_plainCircle := fun w hw => List.mem_cons_of_mem _ (List.mem_append_right _ hw)
  have hl : lv_has ls 5 [(0, .ref h), (1, jI n)] := hl
  refine j_bipush S dX0_plainCircle_0 (by decide) ?_
  refine j_istore_n (lv' := [(2, jI (-6)), (0, .ref h), (1, jI n)]) S dX0_plainCircle_2 rfl hl (by decide) rfl (fun ls hl => ?_)
  refine j_iconst S dX0_plainCircle_3 ?_
  refine j_istore_n (lv' := [(3, jI 0), (2, jI (-6)), (0, .ref h), (1, jI n)]) S dX0_plainCircle_4 rfl hl (by decide) rfl (fun ls hl => ?_)
  have loop5 : ∀ (N : Nat) (b k : Int) (ls : Array Slot), (0 ≤ k ∧ k ≤ 8) → (k ≤ cc) → (b = sp_pl w H n k) → (-6 ≤ b ∧ b ≤ 7) → (b = -6 ∨ (0 ≤ b ∧ b < k)) → cc - k < (N : Int) → lv_has ls 5 [(3, jI k), (2, jI b), (0, .ref h), (1, jI n)] → W pP l eE rmX0_plainCircle sS mM aA bL mT cC sS.heap [] 0 0 QQ (F0 mM 5 ls []) := by
    intro N
    induction N with
    | zero =>
      intro b k ls hk hk2 hb hbi hb2 hN
      exact absurd hN (by omega)
    | succ N ih5 =>
      intro b k ls hk hk2 hb hbi hb2 hN hl
      refine j_iload_n S dX0_plainCircle_5 rfl (lv_at hl 0 rfl) ?_
      refine lv_aload_n S.1 S.2.1 dX0_plainCircle_6 rfl (lv_at hl 2 rfl) ?_
      refine j_get (v := jI cc) S hin hK hP rfl rfl 4 (by decide) (List.mem_of_getElem? (i := 1) rfl) rfl dX0_plainCircle_7 ?_
      refine j_icmp_ge (tgt := 76) S dX0_plainCircle_10 (by decide) (iv_i hk (by decide +kernel)) (iv_i hcc (by decide +kernel)) (fun c10 => ?_) (fun c10 => ?_)
      · refine j_iload_n S dX0_plainCircle_76 rfl (lv_at hl 1 rfl) ?_
        exact hret b 77 _ (by rw [hb, show k = cc from by omega]) dX0_plainCircle_77
      · have r1_ : 0 ≤ k ∧ k ≤ 7 := by omega
        have r2_ : 1 ≤ cc ∧ cc ≤ 8 := by omega
        refine lv_aload_n S.1 S.2.1 dX0_plainCircle_13 rfl (lv_at hl 2 rfl) ?_
        refine j_get (v := jI w) S hin hK hP rfl rfl 6 (by decide) (List.mem_of_getElem? (i := 2) rfl) rfl dX0_plainCircle_14 ?_
        refine lv_aload_n S.1 S.2.1 dX0_plainCircle_17 rfl (lv_at hl 2 rfl) ?_
        refine j_get (v := .ref a0) S hin hK hP rfl rfl 0 (by decide) (List.mem_of_getElem? (i := 3) rfl) rfl dX0_plainCircle_18 ?_
        refine j_iload_n S dX0_plainCircle_21 rfl (lv_at hl 0 rfl) ?_
        refine j_iald S hK hP 1 0 rfl rfl (iv_ix (n := 8) r1_ (by decide +kernel)) dX0_plainCircle_22 ?_
        have r3_ := hH k (by omega) (by omega)
        refine j_imul S dX0_plainCircle_23 ?_
        refine j_i2l S dX0_plainCircle_24 (iv_i (iv_mulp (lo := 50) (hi := 24000) hw r3_ (by decide +kernel)) (by decide +kernel)) ?_
        refine j_iload_n S dX0_plainCircle_25 rfl (lv_at hl 3 rfl) ?_
        refine j_i2l S dX0_plainCircle_26 (iv_i hn (by decide +kernel)) ?_
        refine j_csl (As := [jL (w * (H k)), jL n]) S (c_X0_exactQuotient l (w * (H k)) n (iv_w (iv_mulp (lo := 50) (hi := 24000) hw r3_ (by decide +kernel)) (by decide +kernel)) (iv_w hn (by decide +kernel))) (va_cwS 2 S.2.2.2.2 gX0_plainCircle_X0_exactQuotient rfl rfl rfl hdX0_exactQuotient ⟨Nat.le_of_ble_eq_true rfl, Nat.le_of_ble_eq_true rfl⟩) [] rfl rfl hl.1 (Nat.le_of_ble_eq_true rfl) ⟨Nat.zero_le _, Nat.zero_le _⟩ dX0_plainCircle_27 (fun i27 q27 => ?_)
        subst q27
        have r4_ : (-24000) ≤ (sp_eq (w * (H k)) n) ∧ (sp_eq (w * (H k)) n) ≤ 24000 := sp_eq_iv (iv_w (lo := (-24000)) (hi := 24000) (iv_mulp (lo := 50) (hi := 24000) hw r3_ (by decide +kernel)) (by decide +kernel))
        refine j_lconst (a := 0) S dX0_plainCircle_30 rfl ?_
        refine j_lcmp_eq (pc1 := 32) (tgt := 39) S rfl dX0_plainCircle_31 dX0_plainCircle_32 (by decide) (iv_l r4_ (by decide +kernel)) (iv_l (iv_n 0) (by decide +kernel)) (fun c31 => ?_) (fun c31 => ?_)
        · have r5_ : 0 ≤ (sp_eq (w * (H k)) n) ∧ (sp_eq (w * (H k)) n) ≤ 0 := by omega
          refine j_iconst S dX0_plainCircle_39 ?_
          refine j_istore (lv' := [(4, jI 0), (3, jI k), (2, jI b), (0, .ref h), (1, jI n)]) S dX0_plainCircle_40 hl (by decide) rfl (fun ls hl => ?_)
          refine j_iload S dX0_plainCircle_42 (lv_at hl 0 rfl) ?_
          refine j_if_eq (tgt := 70) S dX0_plainCircle_44 (by decide) (iv_i (iv_n 0) (by decide +kernel)) (fun c44 => ?_) (fun z9 => absurd z9 (by decide))
          refine j_iinc (k := 1) (y := (k + 1)) (lv' := [(3, jI (k + 1)), (4, jI 0), (2, jI b), (0, .ref h), (1, jI n)]) S dX0_plainCircle_70 hl rfl rfl (by decide) rfl (fun ls hl => ?_)
          refine j_goto (tgt := 5) S dX0_plainCircle_73 (by decide) ?_
          exact ih5 b (k + 1) _ (by omega) (by omega) (by have e9 := @sp_eq_iff (w * H k) n (by have : 50 ≤ w * H k ∧ w * H k ≤ 24000 := (iv_mulp (lo := 50) (hi := 24000) hw r3_ (by decide +kernel)); omega) (by omega); rw [sp_pl_s (by omega), ← hb]; split <;> omega) (by omega) (by omega) (by omega) (lv_sub hl [0, 2, 3, 4] rfl)
        · refine j_iconst S dX0_plainCircle_35 ?_
          refine j_goto (tgt := 40) S dX0_plainCircle_36 (by decide) ?_
          refine j_istore (lv' := [(4, jI 1), (3, jI k), (2, jI b), (0, .ref h), (1, jI n)]) S dX0_plainCircle_40 hl (by decide) rfl (fun ls hl => ?_)
          refine j_iload S dX0_plainCircle_42 (lv_at hl 0 rfl) ?_
          refine j_if_eq (tgt := 70) S dX0_plainCircle_44 (by decide) (iv_i (iv_n 1) (by decide +kernel)) (fun z9 => absurd z9 (by decide)) (fun c44 => ?_)
          refine j_iload_n S dX0_plainCircle_47 rfl (lv_at hl 2 rfl) ?_
          refine j_bipush S dX0_plainCircle_48 (by decide) ?_
          refine j_icmp_eq (tgt := 68) S dX0_plainCircle_50 (by decide) (iv_i hbi (by decide +kernel)) (iv_i (iv_n (-6)) (by decide +kernel)) (fun c50 => ?_) (fun c50 => ?_)
          · have r6_ : (-6) ≤ b ∧ b ≤ (-6) := by omega
            refine j_iload_n S dX0_plainCircle_68 rfl (lv_at hl 1 rfl) ?_
            refine j_istore_n (lv' := [(2, jI k), (4, jI 1), (3, jI k), (0, .ref h), (1, jI n)]) S dX0_plainCircle_69 rfl hl (by decide) rfl (fun ls hl => ?_)
            refine j_iinc (k := 2) (y := (k + 1)) (lv' := [(3, jI (k + 1)), (2, jI k), (4, jI 1), (0, .ref h), (1, jI n)]) S dX0_plainCircle_70 hl rfl rfl (by decide) rfl (fun ls hl => ?_)
            refine j_goto (tgt := 5) S dX0_plainCircle_73 (by decide) ?_
            exact ih5 k (k + 1) _ (by omega) (by omega) (by have e9 := @sp_eq_iff (w * H k) n (by have : 50 ≤ w * H k ∧ w * H k ≤ 24000 := (iv_mulp (lo := 50) (hi := 24000) hw r3_ (by decide +kernel)); omega) (by omega); rw [sp_pl_s (by omega), ← hb]; split <;> omega) (by omega) (by omega) (by omega) (lv_sub hl [0, 1, 3, 4] rfl)
          · have r7_ : (-5) ≤ b ∧ b ≤ 7 := by omega
            refine lv_aload_n S.1 S.2.1 dX0_plainCircle_53 rfl (lv_at hl 3 rfl) ?_
            refine j_get (v := .ref a0) S hin hK hP rfl rfl 0 (by decide) (List.mem_of_getElem? (i := 3) rfl) rfl dX0_plainCircle_54 ?_
            refine j_iload_n S dX0_plainCircle_57 rfl (lv_at hl 1 rfl) ?_
            refine j_iald S hK hP 1 0 rfl rfl (iv_ix (n := 8) r1_ (by decide +kernel)) dX0_plainCircle_58 ?_
            refine lv_aload_n S.1 S.2.1 dX0_plainCircle_59 rfl (lv_at hl 3 rfl) ?_
            refine j_get (v := .ref a0) S hin hK hP rfl rfl 0 (by decide) (List.mem_of_getElem? (i := 3) rfl) rfl dX0_plainCircle_60 ?_
            refine j_iload_n S dX0_plainCircle_63 rfl (lv_at hl 2 rfl) ?_
            refine j_iald S hK hP 1 0 rfl rfl ⟨by omega, by omega, by omega⟩ dX0_plainCircle_64 ?_
            have r8_ := hH b (by omega) (by omega)
            refine j_icmp_ge (tgt := 70) S dX0_plainCircle_65 (by decide) (iv_i r3_ (by decide +kernel)) (iv_i r8_ (by decide +kernel)) (fun c65 => ?_) (fun c65 => ?_)
            · refine j_iinc (k := 1) (y := (k + 1)) (lv' := [(3, jI (k + 1)), (4, jI 1), (2, jI b), (0, .ref h), (1, jI n)]) S dX0_plainCircle_70 hl rfl rfl (by decide) rfl (fun ls hl => ?_)
              refine j_goto (tgt := 5) S dX0_plainCircle_73 (by decide) ?_
              exact ih5 b (k + 1) _ (by omega) (by omega) (by have e9 := @sp_eq_iff (w * H k) n (by have : 50 ≤ w * H k ∧ w * H k ≤ 24000 := (iv_mulp (lo := 50) (hi := 24000) hw r3_ (by decide +kernel)); omega) (by omega); rw [sp_pl_s (by omega), ← hb]; split <;> omega) (by omega) (by omega) (by omega) (lv_sub hl [0, 2, 3, 4] rfl)
            · have r9_ : 5 ≤ (H k) ∧ (H k) ≤ 119 := by omega
              have r10_ : 6 ≤ (H b) ∧ (H b) ≤ 120 := by omega
              refine j_iload_n S dX0_plainCircle_68 rfl (lv_at hl 1 rfl) ?_
              refine j_istore_n (lv' := [(2, jI k), (4, jI 1), (3, jI k), (0, .ref h), (1, jI n)]) S dX0_plainCircle_69 rfl hl (by decide) rfl (fun ls hl => ?_)
              refine j_iinc (k := 2) (y := (k + 1)) (lv' := [(3, jI (k + 1)), (2, jI k), (4, jI 1), (0, .ref h), (1, jI n)]) S dX0_plainCircle_70 hl rfl rfl (by decide) rfl (fun ls hl => ?_)
              refine j_goto (tgt := 5) S dX0_plainCircle_73 (by decide) ?_
              exact ih5 k (k + 1) _ (by omega) (by omega) (by have e9 := @sp_eq_iff (w * H k) n (by have : 50 ≤ w * H k ∧ w * H k ≤ 23800 := (iv_mulp (lo := 50) (hi := 23800) hw r9_ (by decide +kernel)); omega) (by omega); rw [sp_pl_s (by omega), ← hb]; split <;> omega) (by omega) (by omega) (by omega) (lv_sub hl [0, 1, 3, 4] rfl)
  exact loop5 9 (-6) 0 _ (by omega) (by omega) rfl (by omega) (by omega) (by omega) (lv_sub hl [0, 1, 2, 3] rfl)
abbrev rmX0_plain : Room := { frames := 2, cells := 0, slots := 0, locals := 47 }
theorem hdX0_plain : yX0_plain.cls ≠ "java/lang/invoke/MethodHandle" ∧ yX0_plain.cls ≠ "java/lang/invoke/VarHandle" ∧ (parseMethodDescriptor yX0_plain.desc).map (fun d => d.parameters.length) = some 2 := by decide +kernel
set_option maxHeartbeats 4000000 in
set_option maxRecDepth 100000 in
theorem c_X0_plain (l : Launch) (D : va_G) (h a0 a1 a2 a3 : Nat) (cA : ClassId) (H T E F : Int → Int) (cc gc w d v : Int) (hok : SOK H T E cc gc w d v) (n : Int) (what : Int) (hn : inI n) (hwhat : inI what) : MI l yX0_plain wsX0_plain rmX0_plain [.ref h, jI n, jI what] (WB D (XW h a0 a1 a2 a3 cA H T E F cc gc w d v) cA) (fun rR => rR = sp_plain w cc H n what) := by
  refine MI_of (cc := cX0_plain) (maxL := 4) (by decide) rfl (Nat.le_of_ble_eq_true rfl) ?_
  intro pP eE sS mM aA bL mT cC QQ ls S hret ⟨hP, hK⟩ hl
  obtain ⟨hcc, hgc, hw, hd, hv, hH, hT, hE⟩ := id hok
  have hin : ∀ w ∈ wsX00, w ∈ wsX0_plain := fun w hw => List.mem_cons_of_mem _ (List.mem_append_right _ hw)
  have hl : lv_has ls 4 [(0, .ref h), (1, jI n), (2, jI what)] := hl
  refine j_iload_n S dX0_plain_0 rfl (lv_at hl 1 rfl) ?_
  refine j_csi (As := [jI n]) S (c_X0_isNoNumberOfParts l n (iv_w hn (by decide +kernel))) (va_cwS 1 S.2.2.2.2 gX0_plain_X0_isNoNumberOfParts rfl rfl rfl hdX0_isNoNumberOfParts ⟨Nat.le_of_ble_eq_true rfl, Nat.le_of_ble_eq_true rfl⟩) [] rfl rfl hl.1 (Nat.le_of_ble_eq_true rfl) ⟨Nat.zero_le _, Nat.zero_le _⟩ dX0_plain_1 (fun i1 q1 => ?_)
  subst q1
  refine j_ifb_ne (tgt := 16) S dX0_plain_4 (by decide) (fun c4 => ?_) (fun c4 => ?_)
  · refine j_bipush S dX0_plain_16 (by decide) ?_
    exact hret (-2) 18 _ (by unfold sp_plain; (repeat' split) <;> first | omega | rfl) dX0_plain_18
  · have r1_ : 2 ≤ n ∧ n ≤ 1000 := by omega
    refine j_iload_n S dX0_plain_7 rfl (lv_at hl 2 rfl) ?_
    refine j_iconst S dX0_plain_8 ?_
    refine j_iconst S dX0_plain_9 ?_
    refine j_csi (As := [jI what, jI 0, jI 2]) S (c_X0_isOutside l what 0 2 (iv_w hwhat (by decide +kernel)) (iv_w (iv_n 0) (by decide +kernel)) (iv_w (iv_n 2) (by decide +kernel))) (va_cwS 3 S.2.2.2.2 gX0_plain_X0_isOutside rfl rfl rfl hdX0_isOutside ⟨Nat.le_of_ble_eq_true rfl, Nat.le_of_ble_eq_true rfl⟩) [] rfl rfl hl.1 (Nat.le_of_ble_eq_true rfl) ⟨Nat.zero_le _, Nat.zero_le _⟩ dX0_plain_10 (fun i10 q10 => ?_)
    subst q10
    refine j_ifb_eq (tgt := 19) S dX0_plain_13 (by decide) (fun c13 => ?_) (fun c13 => ?_)
    · have r2_ : 0 ≤ what ∧ what ≤ 2 := by omega
      refine lv_aload_n S.1 S.2.1 dX0_plain_19 rfl (lv_at hl 0 rfl) ?_
      refine j_iload_n S dX0_plain_20 rfl (lv_at hl 1 rfl) ?_
      refine j_cvi (As := [jI n]) (ci := 0) S (c_X0_plainCircle l D h a0 a1 a2 a3 cA H T E F cc gc w d v hok n (iv_w r1_ (by decide +kernel))) (cwV 1 S.2.2.2.2 gX0_plain_X0_plainCircle rfl rfl rfl ⟨rfl, hdX0_plainCircle⟩ ⟨Nat.le_of_ble_eq_true rfl, Nat.le_of_ble_eq_true rfl⟩) hK hP rfl rfl rfl [] rfl rfl hl.1 (Nat.le_of_ble_eq_true rfl) ⟨Nat.zero_le _, Nat.zero_le _⟩ dX0_plain_21 (fun i21 q21 => ?_)
      subst q21
      have r3_ : (-6) ≤ (sp_pl w H n cc) ∧ (sp_pl w H n cc) ≤ 7 := sp_pl_iv hcc
      have e21 := @sp_pl_rng w n cc H hcc.1
      refine j_istore_n (lv' := [(3, jI (sp_pl w H n cc)), (0, .ref h), (1, jI n), (2, jI what)]) S dX0_plain_24 rfl hl (by decide) rfl (fun ls hl => ?_)
      refine j_iload_n S dX0_plain_25 rfl (lv_at hl 3 rfl) ?_
      refine j_if_eq (tgt := 35) S dX0_plain_26 (by decide) (iv_i r2_ (by decide +kernel)) (fun c26 => ?_) (fun c26 => ?_)
      · have r4_ : 0 ≤ what ∧ what ≤ 0 := by omega
        refine j_iload_n S dX0_plain_35 rfl (lv_at hl 0 rfl) ?_
        exact hret (sp_pl w H n cc) 36 _ (by unfold sp_plain; (repeat' split) <;> first | omega | rfl) dX0_plain_36
      · have r5_ : 1 ≤ what ∧ what ≤ 2 := by omega
        refine j_iload_n S dX0_plain_29 rfl (lv_at hl 0 rfl) ?_
        refine j_bipush S dX0_plain_30 (by decide) ?_
        refine j_icmp_ne (tgt := 37) S dX0_plain_32 (by decide) (iv_i r3_ (by decide +kernel)) (iv_i (iv_n (-6)) (by decide +kernel)) (fun c32 => ?_) (fun c32 => ?_)
        · have r6_ : (-5) ≤ (sp_pl w H n cc) ∧ (sp_pl w H n cc) ≤ 7 := by omega
          refine j_iload_n S dX0_plain_37 rfl (lv_at hl 3 rfl) ?_
          refine j_iconst S dX0_plain_38 ?_
          refine j_icmp_ne (tgt := 51) S dX0_plain_39 (by decide) (iv_i r5_ (by decide +kernel)) (iv_i (iv_n 1) (by decide +kernel)) (fun c39 => ?_) (fun c39 => ?_)
          · have r7_ : 2 ≤ what ∧ what ≤ 2 := by omega
            refine lv_aload_n S.1 S.2.1 dX0_plain_51 rfl (lv_at hl 1 rfl) ?_
            refine j_get (v := jI w) S hin hK hP rfl rfl 6 (by decide) (List.mem_of_getElem? (i := 1) rfl) rfl dX0_plain_52 ?_
            refine j_iload_n S dX0_plain_55 rfl (lv_at hl 2 rfl) ?_
            refine j_iremp S dX0_plain_56 (iv_i hw (by decide +kernel)) (iv_pi r1_ (by decide +kernel)) (iv_nn hw (by decide +kernel)) ?_
            refine lv_aload_n S.1 S.2.1 dX0_plain_57 rfl (lv_at hl 1 rfl) ?_
            refine j_iload_n S dX0_plain_58 rfl (lv_at hl 0 rfl) ?_
            refine j_cvi (As := [jI (sp_pl w H n cc)]) (ci := 0) S (c_X0_holesAt l D h a0 a1 a2 a3 cA H T E F cc gc w d v hok (sp_pl w H n cc) (iv_w r6_ (by decide +kernel))) (cwV 1 S.2.2.2.2 gX0_plain_X0_holesAt rfl rfl rfl ⟨rfl, hdX0_holesAt⟩ ⟨Nat.le_of_ble_eq_true rfl, Nat.le_of_ble_eq_true rfl⟩) hK hP rfl rfl rfl [jI (w % n)] rfl rfl hl.1 (Nat.le_of_ble_eq_true rfl) ⟨Nat.zero_le _, Nat.zero_le _⟩ dX0_plain_59 (fun i59 q59 => ?_)
            have r8_ : 0 ≤ i59 ∧ i59 ≤ 120 := by omega
            refine j_imul S dX0_plain_62 ?_
            refine j_iload_n S dX0_plain_63 rfl (lv_at hl 2 rfl) ?_
            refine j_idivp S dX0_plain_64 (iv_i (iv_mulp (lo := 0) (hi := 119880) (iv_mod (lo := 0) (hi := 999) r1_ (by decide +kernel)) r8_ (by decide +kernel)) (by decide +kernel)) (iv_pi r1_ (by decide +kernel)) (iv_nn (iv_mulp (lo := 0) (hi := 119880) (iv_mod (lo := 0) (hi := 999) r1_ (by decide +kernel)) r8_ (by decide +kernel)) (by decide +kernel)) ?_
            exact hret (((w % n) * i59) / n) 65 _ (by unfold sp_plain; (repeat' split) <;> first | omega | (rw [show i59 = H (sp_pl w H n cc) from by omega]) | rfl) dX0_plain_65
          · have r9_ : 1 ≤ what ∧ what ≤ 1 := by omega
            refine lv_aload_n S.1 S.2.1 dX0_plain_42 rfl (lv_at hl 1 rfl) ?_
            refine j_get (v := jI w) S hin hK hP rfl rfl 6 (by decide) (List.mem_of_getElem? (i := 1) rfl) rfl dX0_plain_43 ?_
            refine j_iload_n S dX0_plain_46 rfl (lv_at hl 2 rfl) ?_
            refine j_idivp S dX0_plain_47 (iv_i hw (by decide +kernel)) (iv_pi r1_ (by decide +kernel)) (iv_nn hw (by decide +kernel)) ?_
            refine j_goto (tgt := 65) S dX0_plain_48 (by decide) ?_
            exact hret (w / n) 65 _ (by unfold sp_plain; (repeat' split) <;> first | omega | rfl) dX0_plain_65
        · have r10_ : (-6) ≤ (sp_pl w H n cc) ∧ (sp_pl w H n cc) ≤ (-6) := by omega
          refine j_iload_n S dX0_plain_35 rfl (lv_at hl 0 rfl) ?_
          exact hret (sp_pl w H n cc) 36 _ (by unfold sp_plain; (repeat' split) <;> first | omega | rfl) dX0_plain_36
    · refine j_bipush S dX0_plain_16 (by decide) ?_
      exact hret (-2) 18 _ (by unfold sp_plain; (repeat' split) <;> first | omega | rfl) dX0_plain_18
abbrev rmX0_firstStep : Room := { frames := 1, cells := 0, slots := 0, locals := 23 }
theorem hdX0_firstStep : yX0_firstStep.cls ≠ "java/lang/invoke/MethodHandle" ∧ yX0_firstStep.cls ≠ "java/lang/invoke/VarHandle" ∧ (parseMethodDescriptor yX0_firstStep.desc).map (fun d => d.parameters.length) = some 4 := by decide +kernel
set_option maxHeartbeats 4000000 in
set_option maxRecDepth 100000 in
theorem c_X0_firstStep (l : Launch) (D : va_G) (h a0 a1 a2 a3 : Nat) (cA : ClassId) (H T E F : Int → Int) (cc gc w d v : Int) (hok : SOK H T E cc gc w d v) (u1 : Int) (u2 : Int) (n : Int) (b : Int) (hu1 : 5 ≤ u1 ∧ u1 ≤ 120) (hu2 : 5 ≤ u2 ∧ u2 ≤ 120) (hn : 2 ≤ n ∧ n ≤ 1000) (hb : (-120) ≤ b ∧ b ≤ 120) : MI l yX0_firstStep wsX0_firstStep rmX0_firstStep [.ref h, jI u1, jI u2, jI n, jI b] (WB D (XW h a0 a1 a2 a3 cA H T E F cc gc w d v) cA) (fun rR => rR = sp_fs w u1 u2 n b) := by
  refine MI_of (cc := cX0_firstStep) (maxL := 6) (by decide) rfl (Nat.le_of_ble_eq_true rfl) ?_
  intro pP eE sS mM aA bL mT cC QQ ls S hret ⟨hP, hK⟩ hl
  obtain ⟨hcc, hgc, hw, hd, hv, hH, hT, hE⟩ := id hok
  have hin : ∀ w ∈ wsX00, w ∈ wsX0_firstStep := fun w hw => List.mem_cons_of_mem _ (List.mem_append_right _ hw)
  have hl : lv_has ls 6 [(0, .ref h), (1, jI u1), (2, jI u2), (3, jI n), (4, jI b)] := hl
  refine lv_aload_n S.1 S.2.1 dX0_firstStep_0 rfl (lv_at hl 0 rfl) ?_
  refine j_get (v := jI w) S hin hK hP rfl rfl 6 (by decide) (List.mem_of_getElem? (i := 1) rfl) rfl dX0_firstStep_1 ?_
  refine j_iload_n S dX0_firstStep_4 rfl (lv_at hl 2 rfl) ?_
  refine j_imul S dX0_firstStep_5 ?_
  refine j_iload S dX0_firstStep_6 (lv_at hl 4 rfl) ?_
  refine j_iload_n S dX0_firstStep_8 rfl (lv_at hl 3 rfl) ?_
  refine j_imul S dX0_firstStep_9 ?_
  refine j_isub S dX0_firstStep_10 ?_
  refine j_istore (lv' := [(5, jI ((w * u2) - (b * n))), (0, .ref h), (1, jI u1), (2, jI u2), (3, jI n), (4, jI b)]) S dX0_firstStep_11 hl (by decide) rfl (fun ls hl => ?_)
  refine j_iload_n S dX0_firstStep_13 rfl (lv_at hl 2 rfl) ?_
  refine j_iload S dX0_firstStep_14 (lv_at hl 0 rfl) ?_
  refine j_imul S dX0_firstStep_16 ?_
  refine j_i2l S dX0_firstStep_17 (iv_i (iv_mul (lo := (-17280000)) (hi := 17280000) 120 144000 hu1 (iv_sub (lo := (-119950)) (hi := 144000) (iv_mulp (lo := 50) (hi := 24000) hw hu2 (by decide +kernel)) (iv_mul (lo := (-120000)) (hi := 120000) 120 1000 hb hn (by decide +kernel)) (by decide +kernel)) (by decide +kernel)) (by decide +kernel)) ?_
  refine j_iload_n S dX0_firstStep_18 rfl (lv_at hl 4 rfl) ?_
  refine j_iload_n S dX0_firstStep_19 rfl (lv_at hl 3 rfl) ?_
  refine j_imul S dX0_firstStep_20 ?_
  refine j_i2l S dX0_firstStep_21 (iv_i (iv_mulp (lo := 10) (hi := 120000) hn hu2 (by decide +kernel)) (by decide +kernel)) ?_
  refine j_csl (As := [jL (u1 * ((w * u2) - (b * n))), jL (n * u2)]) S (c_X0_exactQuotient l (u1 * ((w * u2) - (b * n))) (n * u2) (iv_w (iv_mul (lo := (-17280000)) (hi := 17280000) 120 144000 hu1 (iv_sub (lo := (-119950)) (hi := 144000) (iv_mulp (lo := 50) (hi := 24000) hw hu2 (by decide +kernel)) (iv_mul (lo := (-120000)) (hi := 120000) 120 1000 hb hn (by decide +kernel)) (by decide +kernel)) (by decide +kernel)) (by decide +kernel)) (iv_w (iv_mulp (lo := 10) (hi := 120000) hn hu2 (by decide +kernel)) (by decide +kernel))) (va_cwS 2 S.2.2.2.2 gX0_firstStep_X0_exactQuotient rfl rfl rfl hdX0_exactQuotient ⟨Nat.le_of_ble_eq_true rfl, Nat.le_of_ble_eq_true rfl⟩) [] rfl rfl hl.1 (Nat.le_of_ble_eq_true rfl) ⟨Nat.zero_le _, Nat.zero_le _⟩ dX0_firstStep_22 (fun i22 q22 => ?_)
  subst q22
  have r1_ : (-17280000) ≤ (sp_eq (u1 * ((w * u2) - (b * n))) (n * u2)) ∧ (sp_eq (u1 * ((w * u2) - (b * n))) (n * u2)) ≤ 17280000 := sp_eq_iv (iv_w (lo := (-17280000)) (hi := 17280000) (iv_mul (lo := (-17280000)) (hi := 17280000) 120 144000 hu1 (iv_sub (lo := (-119950)) (hi := 144000) (iv_mulp (lo := 50) (hi := 24000) hw hu2 (by decide +kernel)) (iv_mul (lo := (-120000)) (hi := 120000) 120 1000 hb hn (by decide +kernel)) (by decide +kernel)) (by decide +kernel)) (by decide +kernel))
  refine j_l2i S dX0_firstStep_25 ?_
  exact hret (sp_eq (u1 * ((w * u2) - (b * n))) (n * u2)) 26 _ rfl dX0_firstStep_26
abbrev rmX0_secondStep : Room := { frames := 2, cells := 0, slots := 0, locals := 48 }
theorem hdX0_secondStep : yX0_secondStep.cls ≠ "java/lang/invoke/MethodHandle" ∧ yX0_secondStep.cls ≠ "java/lang/invoke/VarHandle" ∧ (parseMethodDescriptor yX0_secondStep.desc).map (fun d => d.parameters.length) = some 3 := by decide +kernel
set_option maxHeartbeats 4000000 in
set_option maxRecDepth 100000 in
theorem c_X0_secondStep (l : Launch) (D : va_G) (h a0 a1 a2 a3 : Nat) (cA : ClassId) (H T E F : Int → Int) (cc gc w d v : Int) (hok : SOK H T E cc gc w d v) (u1 : Int) (u2 : Int) (n : Int) (hu1 : 5 ≤ u1 ∧ u1 ≤ 120) (hu2 : 5 ≤ u2 ∧ u2 ≤ 120) (hn : 2 ≤ n ∧ n ≤ 1000) : MI l yX0_secondStep wsX0_secondStep rmX0_secondStep [.ref h, jI u1, jI u2, jI n] (WB D (XW h a0 a1 a2 a3 cA H T E F cc gc w d v) cA) (fun rR => rR = sp_ss w u1 u2 n 1) := by
  refine MI_of (cc := cX0_secondStep) (maxL := 5) (by decide) rfl (Nat.le_of_ble_eq_true rfl) ?_
  intro pP eE sS mM aA bL mT cC QQ ls S hret ⟨hP, hK⟩ hl
  obtain ⟨hcc, hgc, hw, hd, hv, hH, hT, hE⟩ := id hok
  have hin : ∀ w ∈ wsX00, w ∈ wsX0_secondStep := fun w hw => List.mem_cons_of_mem _ (List.mem_append_right _ hw)
  have hl : lv_has ls 5 [(0, .ref h), (1, jI u1), (2, jI u2), (3, jI n)] := hl
  refine j_iconst S dX0_secondStep_0 ?_
  refine j_istore (lv' := [(4, jI 1), (0, .ref h), (1, jI u1), (2, jI u2), (3, jI n)]) S dX0_secondStep_1 hl (by decide) rfl (fun ls hl => ?_)
  have loop3 : ∀ (N : Nat) (k : Int) (ls : Array Slot), (1 ≤ k ∧ k ≤ 121) → (k ≤ u2 + 1) → (sp_ss w u1 u2 n k = sp_ss w u1 u2 n 1) → u2 + 1 - k < (N : Int) → lv_has ls 5 [(4, jI k), (0, .ref h), (1, jI u1), (2, jI u2), (3, jI n)] → W pP l eE rmX0_secondStep sS mM aA bL mT cC sS.heap [] 0 0 QQ (F0 mM 3 ls []) := by
    intro N
    induction N with
    | zero =>
      intro k ls hk hk2 hs hN
      exact absurd hN (by omega)
    | succ N ih3 =>
      intro k ls hk hk2 hs hN hl
      refine j_iload S dX0_secondStep_3 (lv_at hl 0 rfl) ?_
      refine j_iload_n S dX0_secondStep_5 rfl (lv_at hl 3 rfl) ?_
      refine j_icmp_gt (tgt := 47) S dX0_secondStep_6 (by decide) (iv_i hk (by decide +kernel)) (iv_i hu2 (by decide +kernel)) (fun c6 => ?_) (fun c6 => ?_)
      · have r1_ : 6 ≤ k ∧ k ≤ 121 := by omega
        refine j_iconst S dX0_secondStep_47 ?_
        exact hret 0 48 _ (by rw [← hs, sp_ss_end (by omega)]) dX0_secondStep_48
      · have r2_ : 1 ≤ k ∧ k ≤ 120 := by omega
        refine lv_aload_n S.1 S.2.1 dX0_secondStep_9 rfl (lv_at hl 1 rfl) ?_
        refine j_iload_n S dX0_secondStep_10 rfl (lv_at hl 2 rfl) ?_
        refine j_iload_n S dX0_secondStep_11 rfl (lv_at hl 3 rfl) ?_
        refine j_iload_n S dX0_secondStep_12 rfl (lv_at hl 4 rfl) ?_
        refine j_iload S dX0_secondStep_13 (lv_at hl 0 rfl) ?_
        refine j_cvi (As := [jI u1, jI u2, jI n, jI k]) (ci := 0) S (c_X0_firstStep l D h a0 a1 a2 a3 cA H T E F cc gc w d v hok u1 u2 n k (iv_w hu1 (by decide +kernel)) (iv_w hu2 (by decide +kernel)) (iv_w hn (by decide +kernel)) (iv_w r2_ (by decide +kernel))) (cwV 4 S.2.2.2.2 gX0_secondStep_X0_firstStep rfl rfl rfl ⟨rfl, hdX0_firstStep⟩ ⟨Nat.le_of_ble_eq_true rfl, Nat.le_of_ble_eq_true rfl⟩) hK hP rfl rfl rfl [] rfl rfl hl.1 (Nat.le_of_ble_eq_true rfl) ⟨Nat.zero_le _, Nat.zero_le _⟩ dX0_secondStep_15 (fun i15 q15 => ?_)
        subst q15
        have r3_ : (-17280000) ≤ (sp_fs w u1 u2 n k) ∧ (sp_fs w u1 u2 n k) ≤ 17280000 := sp_fs_iv hw (iv_w (lo := 5) (hi := 120) hu1 (by decide +kernel)) (iv_w (lo := 5) (hi := 120) hu2 (by decide +kernel)) (iv_w (lo := 2) (hi := 1000) hn (by decide +kernel)) (iv_w (lo := (-120)) (hi := 120) r2_ (by decide +kernel))
        refine j_if_eq (tgt := 24) S dX0_secondStep_18 (by decide) (iv_i r3_ (by decide +kernel)) (fun c18 => ?_) (fun c18 => ?_)
        · have r4_ : 0 ≤ (sp_fs w u1 u2 n k) ∧ (sp_fs w u1 u2 n k) ≤ 0 := by omega
          refine lv_aload_n S.1 S.2.1 dX0_secondStep_24 rfl (lv_at hl 1 rfl) ?_
          refine j_iload_n S dX0_secondStep_25 rfl (lv_at hl 2 rfl) ?_
          refine j_iload_n S dX0_secondStep_26 rfl (lv_at hl 3 rfl) ?_
          refine j_iload_n S dX0_secondStep_27 rfl (lv_at hl 4 rfl) ?_
          refine j_iload S dX0_secondStep_28 (lv_at hl 0 rfl) ?_
          refine j_ineg S dX0_secondStep_30 ?_
          refine j_cvi (As := [jI u1, jI u2, jI n, jI (-k)]) (ci := 0) S (c_X0_firstStep l D h a0 a1 a2 a3 cA H T E F cc gc w d v hok u1 u2 n (-k) (iv_w hu1 (by decide +kernel)) (iv_w hu2 (by decide +kernel)) (iv_w hn (by decide +kernel)) (iv_w (iv_neg (lo := (-120)) (hi := (-1)) r2_ (by decide +kernel)) (by decide +kernel))) (cwV 4 S.2.2.2.2 gX0_secondStep_X0_firstStep rfl rfl rfl ⟨rfl, hdX0_firstStep⟩ ⟨Nat.le_of_ble_eq_true rfl, Nat.le_of_ble_eq_true rfl⟩) hK hP rfl rfl rfl [] rfl rfl hl.1 (Nat.le_of_ble_eq_true rfl) ⟨Nat.zero_le _, Nat.zero_le _⟩ dX0_secondStep_31 (fun i31 q31 => ?_)
          subst q31
          have r5_ : (-17280000) ≤ (sp_fs w u1 u2 n (-k)) ∧ (sp_fs w u1 u2 n (-k)) ≤ 17280000 := sp_fs_iv hw (iv_w (lo := 5) (hi := 120) hu1 (by decide +kernel)) (iv_w (lo := 5) (hi := 120) hu2 (by decide +kernel)) (iv_w (lo := 2) (hi := 1000) hn (by decide +kernel)) (iv_w (lo := (-120)) (hi := 120) (iv_neg (lo := (-120)) (hi := (-1)) r2_ (by decide +kernel)) (by decide +kernel))
          refine j_if_eq (tgt := 41) S dX0_secondStep_34 (by decide) (iv_i r5_ (by decide +kernel)) (fun c34 => ?_) (fun c34 => ?_)
          · have r6_ : 0 ≤ (sp_fs w u1 u2 n (-k)) ∧ (sp_fs w u1 u2 n (-k)) ≤ 0 := by omega
            refine j_iinc (k := 0) (y := (k + 1)) (lv' := [(4, jI (k + 1)), (0, .ref h), (1, jI u1), (2, jI u2), (3, jI n)]) S dX0_secondStep_41 hl rfl rfl (by decide) rfl (fun ls hl => ?_)
            refine j_goto (tgt := 3) S dX0_secondStep_44 (by decide) ?_
            exact ih3 (k + 1) _ (by omega) (by omega) (by rw [← hs, sp_ss_s (s := k) (by omega), if_neg (fun q => q c18), if_neg (fun q => q c34)]) (by omega) (lv_sub hl [0, 1, 2, 3, 4] rfl)
          · refine j_iload S dX0_secondStep_37 (lv_at hl 0 rfl) ?_
            refine j_ineg S dX0_secondStep_39 ?_
            exact hret (-k) 40 _ (by rw [← hs, sp_ss_s (by omega), if_neg (fun q => q c18), if_pos c34]) dX0_secondStep_40
        · refine j_iload S dX0_secondStep_21 (lv_at hl 0 rfl) ?_
          exact hret k 23 _ (by rw [← hs, sp_ss_s (by omega), if_pos c18]) dX0_secondStep_23
  exact loop3 122 1 _ (by omega) (by omega) rfl (by omega) (lv_sub hl [0, 1, 2, 3, 4] rfl)
abbrev rmX0_compoundTerm : Room := { frames := 2, cells := 0, slots := 0, locals := 48 }
theorem hdX0_compoundTerm : yX0_compoundTerm.cls ≠ "java/lang/invoke/MethodHandle" ∧ yX0_compoundTerm.cls ≠ "java/lang/invoke/VarHandle" ∧ (parseMethodDescriptor yX0_compoundTerm.desc).map (fun d => d.parameters.length) = some 5 := by decide +kernel
set_option maxHeartbeats 4000000 in
set_option maxRecDepth 100000 in
theorem c_X0_compoundTerm (l : Launch) (D : va_G) (h a0 a1 a2 a3 : Nat) (cA : ClassId) (H T E F : Int → Int) (cc gc w d v : Int) (hok : SOK H T E cc gc w d v) (x1 : Int) (x2 : Int) (n : Int) (b : Int) (what : Int) (hx1 : 0 ≤ x1 ∧ x1 ≤ 7) (hx2 : 0 ≤ x2 ∧ x2 ≤ 7) (hn : 2 ≤ n ∧ n ≤ 1000) (hb : (-120) ≤ b ∧ b ≤ 120) (hwhat : inI what) (hx1c : x1 < cc) (hx2c : x2 < cc) : MI l yX0_compoundTerm wsX0_compoundTerm rmX0_compoundTerm [.ref h, jI x1, jI x2, jI n, jI b, jI what] (WB D (XW h a0 a1 a2 a3 cA H T E F cc gc w d v) cA) (fun rR => rR = sp_ct w H n x1 x2 b what) := by
  refine MI_of (cc := cX0_compoundTerm) (maxL := 6) (by decide) rfl (Nat.le_of_ble_eq_true rfl) ?_
  intro pP eE sS mM aA bL mT cC QQ ls S hret ⟨hP, hK⟩ hl
  obtain ⟨hcc, hgc, hw, hd, hv, hH, hT, hE⟩ := id hok
  have hin : ∀ w ∈ wsX00, w ∈ wsX0_compoundTerm := fun w hw => List.mem_cons_of_mem _ (List.mem_append_right _ hw)
  have hl : lv_has ls 6 [(0, .ref h), (1, jI x1), (2, jI x2), (3, jI n), (4, jI b), (5, jI what)] := hl
  refine j_iload S dX0_compoundTerm_0 (lv_at hl 5 rfl) ?_
  by_cases k0 : what = 0
  · refine lv_tableIn (tgt := 28) S.1 S.2.1 dX0_compoundTerm_2 (by rw [tI (iv_i hwhat (by decide +kernel))]; omega) (by rw [tI (iv_i hwhat (by decide +kernel))]; omega) (by rw [tI (iv_i hwhat (by decide +kernel)), k0]; rfl) (by decide) ?_
    refine j_iload_n S dX0_compoundTerm_28 rfl (lv_at hl 1 rfl) ?_
    exact hret x1 29 _ (by unfold sp_ct; (repeat' split) <;> omega) dX0_compoundTerm_29
  by_cases k1 : what = 1
  · refine lv_tableIn (tgt := 30) S.1 S.2.1 dX0_compoundTerm_2 (by rw [tI (iv_i hwhat (by decide +kernel))]; omega) (by rw [tI (iv_i hwhat (by decide +kernel))]; omega) (by rw [tI (iv_i hwhat (by decide +kernel)), k1]; rfl) (by decide) ?_
    refine lv_aload_n S.1 S.2.1 dX0_compoundTerm_30 rfl (lv_at hl 0 rfl) ?_
    refine lv_aload_n S.1 S.2.1 dX0_compoundTerm_31 rfl (lv_at hl 0 rfl) ?_
    refine j_get (v := .ref a0) S hin hK hP rfl rfl 0 (by decide) (List.mem_of_getElem? (i := 1) rfl) rfl dX0_compoundTerm_32 ?_
    refine j_iload_n S dX0_compoundTerm_35 rfl (lv_at hl 1 rfl) ?_
    refine j_iald S hK hP 1 0 rfl rfl (iv_ix (n := 8) hx1 (by decide +kernel)) dX0_compoundTerm_36 ?_
    have r1_ := hH x1 (by omega) (by omega)
    refine lv_aload_n S.1 S.2.1 dX0_compoundTerm_37 rfl (lv_at hl 0 rfl) ?_
    refine j_get (v := .ref a0) S hin hK hP rfl rfl 0 (by decide) (List.mem_of_getElem? (i := 1) rfl) rfl dX0_compoundTerm_38 ?_
    refine j_iload_n S dX0_compoundTerm_41 rfl (lv_at hl 2 rfl) ?_
    refine j_iald S hK hP 1 0 rfl rfl (iv_ix (n := 8) hx2 (by decide +kernel)) dX0_compoundTerm_42 ?_
    have r2_ := hH x2 (by omega) (by omega)
    refine j_iload_n S dX0_compoundTerm_43 rfl (lv_at hl 3 rfl) ?_
    refine j_iload S dX0_compoundTerm_44 (lv_at hl 4 rfl) ?_
    refine j_cvi (As := [jI (H x1), jI (H x2), jI n, jI b]) (ci := 0) S (c_X0_firstStep l D h a0 a1 a2 a3 cA H T E F cc gc w d v hok (H x1) (H x2) n b (iv_w r1_ (by decide +kernel)) (iv_w r2_ (by decide +kernel)) (iv_w hn (by decide +kernel)) (iv_w hb (by decide +kernel))) (cwV 4 S.2.2.2.2 gX0_compoundTerm_X0_firstStep rfl rfl rfl ⟨rfl, hdX0_firstStep⟩ ⟨Nat.le_of_ble_eq_true rfl, Nat.le_of_ble_eq_true rfl⟩) hK hP rfl rfl rfl [] rfl rfl hl.1 (Nat.le_of_ble_eq_true rfl) ⟨Nat.zero_le _, Nat.zero_le _⟩ dX0_compoundTerm_46 (fun i46 q46 => ?_)
    subst q46
    have r3_ : (-17280000) ≤ (sp_fs w (H x1) (H x2) n b) ∧ (sp_fs w (H x1) (H x2) n b) ≤ 17280000 := sp_fs_iv hw (iv_w (lo := 5) (hi := 120) r1_ (by decide +kernel)) (iv_w (lo := 5) (hi := 120) r2_ (by decide +kernel)) (iv_w (lo := 2) (hi := 1000) hn (by decide +kernel)) (iv_w (lo := (-120)) (hi := 120) hb (by decide +kernel))
    exact hret (sp_fs w (H x1) (H x2) n b) 49 _ (by unfold sp_ct; (repeat' split) <;> omega) dX0_compoundTerm_49
  by_cases k2 : what = 2
  · refine lv_tableIn (tgt := 50) S.1 S.2.1 dX0_compoundTerm_2 (by rw [tI (iv_i hwhat (by decide +kernel))]; omega) (by rw [tI (iv_i hwhat (by decide +kernel))]; omega) (by rw [tI (iv_i hwhat (by decide +kernel)), k2]; rfl) (by decide) ?_
    refine j_iload_n S dX0_compoundTerm_50 rfl (lv_at hl 2 rfl) ?_
    exact hret x2 51 _ (by unfold sp_ct; (repeat' split) <;> omega) dX0_compoundTerm_51
  refine lv_tableOut (tgt := 52) S.1 S.2.1 dX0_compoundTerm_2 (by rw [tI (iv_i hwhat (by decide +kernel))]; omega) (by decide) ?_
  refine j_iload S dX0_compoundTerm_52 (lv_at hl 4 rfl) ?_
  exact hret b 54 _ (by unfold sp_ct; (repeat' split) <;> omega) dX0_compoundTerm_54
end
section
abbrev rmX0_teeth : Room := { frames := 0, cells := 0, slots := 0, locals := 0 }
theorem hdX0_teeth : yX0_teeth.cls ≠ "java/lang/invoke/MethodHandle" ∧ yX0_teeth.cls ≠ "java/lang/invoke/VarHandle" ∧ (parseMethodDescriptor yX0_teeth.desc).map (fun d => d.parameters.length) = some 1 := by decide +kernel
set_option maxHeartbeats 4000000 in
set_option maxRecDepth 100000 in
theorem c_X0_teeth (l : Launch) (D : va_G) (h a0 a1 a2 a3 : Nat) (cA : ClassId) (H T E F : Int → Int) (cc gc w d v : Int) (hok : SOK H T E cc gc w d v) (x : Int) (hx : inI x) : MI l yX0_teeth wsX0_teeth rmX0_teeth [.ref h, jI x] (WB D (XW h a0 a1 a2 a3 cA H T E F cc gc w d v) cA) (fun rR => rR = sp_holes gc T x) := by
  refine MI_of (cc := cX0_teeth) (maxL := 2) (by decide) rfl (Nat.le_of_ble_eq_true rfl) ?_
  intro pP eE sS mM aA bL mT cC QQ ls S hret ⟨hP, hK⟩ hl
  obtain ⟨hcc, hgc, hw, hd, hv, hH, hT, hE⟩ := id hok
  have hin : ∀ w ∈ wsX00, w ∈ wsX0_teeth := fun w hw => List.mem_cons_of_mem _ (List.mem_append_right _ hw)
  have hl : lv_has ls 2 [(0, .ref h), (1, jI x)] := hl
  refine j_iload_n S dX0_teeth_0 rfl (lv_at hl 1 rfl) ?_
  refine j_if_lt (tgt := 12) S dX0_teeth_1 (by decide) (iv_i hx (by decide +kernel)) (fun c1 => ?_) (fun c1 => ?_)
  · have r1_ : (-2147483648) ≤ x ∧ x ≤ (-1) := by omega
    refine j_iconst S dX0_teeth_12 ?_
    refine j_goto (tgt := 22) S dX0_teeth_13 (by decide) ?_
    exact hret (-1) 22 _ (by unfold sp_holes; (repeat' split) <;> first | omega | rfl) dX0_teeth_22
  · have r2_ : 0 ≤ x ∧ x ≤ 2147483647 := by omega
    refine j_iload_n S dX0_teeth_4 rfl (lv_at hl 1 rfl) ?_
    refine lv_aload_n S.1 S.2.1 dX0_teeth_5 rfl (lv_at hl 0 rfl) ?_
    refine j_get (v := jI gc) S hin hK hP rfl rfl 5 (by decide) (List.mem_of_getElem? (i := 1) rfl) rfl dX0_teeth_6 ?_
    refine j_icmp_lt (tgt := 16) S dX0_teeth_9 (by decide) (iv_i r2_ (by decide +kernel)) (iv_i hgc (by decide +kernel)) (fun c9 => ?_) (fun c9 => ?_)
    · have r3_ : 0 ≤ x ∧ x ≤ 9 := by omega
      have r4_ : 1 ≤ gc ∧ gc ≤ 10 := by omega
      refine lv_aload_n S.1 S.2.1 dX0_teeth_16 rfl (lv_at hl 0 rfl) ?_
      refine j_get (v := .ref a1) S hin hK hP rfl rfl 1 (by decide) (List.mem_of_getElem? (i := 2) rfl) rfl dX0_teeth_17 ?_
      refine j_iload_n S dX0_teeth_20 rfl (lv_at hl 1 rfl) ?_
      refine j_iald S hK hP 2 0 rfl rfl (iv_ix (n := 10) r3_ (by decide +kernel)) dX0_teeth_21 ?_
      have r5_ := hT x (by omega) (by omega)
      exact hret (T x) 22 _ (by unfold sp_holes; (repeat' split) <;> first | omega | rfl) dX0_teeth_22
    · refine j_iconst S dX0_teeth_12 ?_
      refine j_goto (tgt := 22) S dX0_teeth_13 (by decide) ?_
      exact hret (-1) 22 _ (by unfold sp_holes; (repeat' split) <;> first | omega | rfl) dX0_teeth_22
abbrev rmX1_in : Room := { frames := 0, cells := 0, slots := 0, locals := 0 }
theorem hdX1_in : yX1_in.cls ≠ "java/lang/invoke/MethodHandle" ∧ yX1_in.cls ≠ "java/lang/invoke/VarHandle" ∧ (parseMethodDescriptor yX1_in.desc).map (fun d => d.parameters.length) = some 3 := by decide +kernel
set_option maxHeartbeats 4000000 in
set_option maxRecDepth 100000 in
theorem c_X1_in (l : Launch) (x : Int) (lo : Int) (hi : Int) (hx : inL x) (hlo : inL lo) (hhi : inL hi) : MI l yX1_in wsX1_in rmX1_in [jL x, jL lo, jL hi] W0 (fun rR => rR = bI (lo ≤ x ∧ x ≤ hi)) := by
  refine MZ_of (cc := cX1_in) (maxL := 6) (by decide) rfl (Nat.le_of_ble_eq_true rfl) ?_
  intro pP eE sS mM aA bL mT cC QQ ls S hret _ hl
  have hl : lv_has ls 6 [(0, jL x), (2, jL lo), (4, jL hi)] := hl
  refine j_lload_n S dX1_in_0 rfl (lv_at hl 0 rfl) ?_
  refine j_lload_n S dX1_in_1 rfl (lv_at hl 1 rfl) ?_
  refine j_lcmp_lt (pc1 := 3) (tgt := 17) S rfl dX1_in_2 dX1_in_3 (by decide) (iv_l hx (by decide +kernel)) (iv_l hlo (by decide +kernel)) (fun c2 => ?_) (fun c2 => ?_)
  · have r1_ : (-9223372036854775808) ≤ x ∧ x ≤ 9223372036854775806 := by omega
    have r2_ : (-9223372036854775807) ≤ lo ∧ lo ≤ 9223372036854775807 := by omega
    refine j_iconst S dX1_in_17 ?_
    exact hret 0 18 _ (Or.inl rfl) (bI_f (by omega)) dX1_in_18
  · refine j_lload_n S dX1_in_6 rfl (lv_at hl 0 rfl) ?_
    refine j_lload S dX1_in_7 (lv_at hl 2 rfl) ?_
    refine j_lcmp_gt (pc1 := 10) (tgt := 17) S rfl dX1_in_9 dX1_in_10 (by decide) (iv_l hx (by decide +kernel)) (iv_l hhi (by decide +kernel)) (fun c9 => ?_) (fun c9 => ?_)
    · have r3_ : (-9223372036854775808) ≤ hi ∧ hi ≤ 9223372036854775806 := by omega
      have r4_ : (-9223372036854775807) ≤ x ∧ x ≤ 9223372036854775807 := by omega
      refine j_iconst S dX1_in_17 ?_
      exact hret 0 18 _ (Or.inl rfl) (bI_f (by omega)) dX1_in_18
    · refine j_iconst S dX1_in_13 ?_
      refine j_goto (tgt := 18) S dX1_in_14 (by decide) ?_
      exact hret 1 18 _ (Or.inr rfl) (bI_t (by omega)) dX1_in_18
abbrev rmX1_isParts : Room := { frames := 1, cells := 0, slots := 0, locals := 25 }
theorem hdX1_isParts : yX1_isParts.cls ≠ "java/lang/invoke/MethodHandle" ∧ yX1_isParts.cls ≠ "java/lang/invoke/VarHandle" ∧ (parseMethodDescriptor yX1_isParts.desc).map (fun d => d.parameters.length) = some 1 := by decide +kernel
set_option maxHeartbeats 4000000 in
set_option maxRecDepth 100000 in
theorem c_X1_isParts (l : Launch) (n : Int) (hn : inI n) : MI l yX1_isParts wsX1_isParts rmX1_isParts [jI n] W0 (fun rR => rR = bI (2 ≤ n ∧ n ≤ 1000)) := by
  refine MZ_of (cc := cX1_isParts) (maxL := 1) (by decide) rfl (Nat.le_of_ble_eq_true rfl) ?_
  intro pP eE sS mM aA bL mT cC QQ ls S hret _ hl
  have hl : lv_has ls 1 [(0, jI n)] := hl
  refine j_iload_n S dX1_isParts_0 rfl (lv_at hl 0 rfl) ?_
  refine j_i2l S dX1_isParts_1 (iv_i hn (by decide +kernel)) ?_
  refine j_ldc2 (n := 2) S (S.2.2.2.2 _ (List.mem_of_getElem? (i := 1) rfl)) (by decide) dX1_isParts_2 ?_
  refine j_ldc2 (n := 1000) S (S.2.2.2.2 _ (List.mem_of_getElem? (i := 2) rfl)) (by decide) dX1_isParts_5 ?_
  refine j_csi (As := [jL n, jL 2, jL 1000]) S (c_X1_in l n 2 1000 (iv_w hn (by decide +kernel)) (iv_w (iv_n 2) (by decide +kernel)) (iv_w (iv_n 1000) (by decide +kernel))) (va_cwS 3 S.2.2.2.2 gX1_isParts_X1_in rfl rfl rfl hdX1_in ⟨Nat.le_of_ble_eq_true rfl, Nat.le_of_ble_eq_true rfl⟩) [] rfl rfl hl.1 (Nat.le_of_ble_eq_true rfl) ⟨Nat.zero_le _, Nat.zero_le _⟩ dX1_isParts_8 (fun i8 q8 => ?_)
  subst q8
  exact hret (bI (2 ≤ n ∧ n ≤ 1000)) 11 _ bI_01 rfl dX1_isParts_11
abbrev rmX1_isSteps : Room := { frames := 1, cells := 0, slots := 0, locals := 25 }
theorem hdX1_isSteps : yX1_isSteps.cls ≠ "java/lang/invoke/MethodHandle" ∧ yX1_isSteps.cls ≠ "java/lang/invoke/VarHandle" ∧ (parseMethodDescriptor yX1_isSteps.desc).map (fun d => d.parameters.length) = some 1 := by decide +kernel
set_option maxHeartbeats 4000000 in
set_option maxRecDepth 100000 in
theorem c_X1_isSteps (l : Launch) (x : Int) (hx : inI x) : MI l yX1_isSteps wsX1_isSteps rmX1_isSteps [jI x] W0 (fun rR => rR = bI (1 ≤ x ∧ x ≤ 100000)) := by
  refine MZ_of (cc := cX1_isSteps) (maxL := 1) (by decide) rfl (Nat.le_of_ble_eq_true rfl) ?_
  intro pP eE sS mM aA bL mT cC QQ ls S hret _ hl
  have hl : lv_has ls 1 [(0, jI x)] := hl
  refine j_iload_n S dX1_isSteps_0 rfl (lv_at hl 0 rfl) ?_
  refine j_i2l S dX1_isSteps_1 (iv_i hx (by decide +kernel)) ?_
  refine j_lconst (a := 1) S dX1_isSteps_2 rfl ?_
  refine j_ldc2 (n := 100000) S (S.2.2.2.2 _ (List.mem_of_getElem? (i := 1) rfl)) (by decide) dX1_isSteps_3 ?_
  refine j_csi (As := [jL x, jL 1, jL 100000]) S (c_X1_in l x 1 100000 (iv_w hx (by decide +kernel)) (iv_w (iv_n 1) (by decide +kernel)) (iv_w (iv_n 100000) (by decide +kernel))) (va_cwS 3 S.2.2.2.2 gX1_isSteps_X1_in rfl rfl rfl hdX1_in ⟨Nat.le_of_ble_eq_true rfl, Nat.le_of_ble_eq_true rfl⟩) [] rfl rfl hl.1 (Nat.le_of_ble_eq_true rfl) ⟨Nat.zero_le _, Nat.zero_le _⟩ dX1_isSteps_6 (fun i6 q6 => ?_)
  subst q6
  exact hret (bI (1 ≤ x ∧ x ≤ 100000)) 9 _ bI_01 rfl dX1_isSteps_9
abbrev rmX1_isCircle : Room := { frames := 1, cells := 0, slots := 0, locals := 25 }
theorem hdX1_isCircle : yX1_isCircle.cls ≠ "java/lang/invoke/MethodHandle" ∧ yX1_isCircle.cls ≠ "java/lang/invoke/VarHandle" ∧ (parseMethodDescriptor yX1_isCircle.desc).map (fun d => d.parameters.length) = some 1 := by decide +kernel
set_option maxHeartbeats 4000000 in
set_option maxRecDepth 100000 in
theorem c_X1_isCircle (l : Launch) (D : va_G) (h a0 a1 a2 a3 : Nat) (cA : ClassId) (H T E F : Int → Int) (cc gc w d v : Int) (hok : SOK H T E cc gc w d v) (x : Int) (hx : inI x) : MI l yX1_isCircle wsX1_isCircle rmX1_isCircle [.ref h, jI x] (WB D (MW h a0 a1 a2 a3 cA H T E F cc gc w d v) cA) (fun rR => rR = bI (0 ≤ x ∧ x ≤ (cc - 1))) := by
  refine MZ_of (cc := cX1_isCircle) (maxL := 2) (by decide) rfl (Nat.le_of_ble_eq_true rfl) ?_
  intro pP eE sS mM aA bL mT cC QQ ls S hret ⟨hP, hK⟩ hl
  obtain ⟨hcc, hgc, hw, hd, hv, hH, hT, hE⟩ := id hok
  have hin : ∀ w ∈ wsX10, w ∈ wsX1_isCircle := fun w hw => List.mem_cons_of_mem _ (List.mem_append_right _ hw)
  have hl : lv_has ls 2 [(0, .ref h), (1, jI x)] := hl
  refine j_iload_n S dX1_isCircle_0 rfl (lv_at hl 1 rfl) ?_
  refine j_i2l S dX1_isCircle_1 (iv_i hx (by decide +kernel)) ?_
  refine j_lconst (a := 0) S dX1_isCircle_2 rfl ?_
  refine lv_aload_n S.1 S.2.1 dX1_isCircle_3 rfl (lv_at hl 0 rfl) ?_
  refine j_get (v := jI cc) S hin hK hP rfl rfl 1 (by decide) (List.mem_of_getElem? (i := 1) rfl) rfl dX1_isCircle_4 ?_
  refine j_iconst S dX1_isCircle_7 ?_
  refine j_isub S dX1_isCircle_8 ?_
  refine j_i2l S dX1_isCircle_9 (iv_i (iv_sub (lo := (-1)) (hi := 7) hcc (iv_n 1) (by decide +kernel)) (by decide +kernel)) ?_
  refine j_csi (As := [jL x, jL 0, jL (cc - 1)]) S (c_X1_in l x 0 (cc - 1) (iv_w hx (by decide +kernel)) (iv_w (iv_n 0) (by decide +kernel)) (iv_w (iv_sub (lo := (-1)) (hi := 7) hcc (iv_n 1) (by decide +kernel)) (by decide +kernel))) (va_cwS 3 S.2.2.2.2 gX1_isCircle_X1_in rfl rfl rfl hdX1_in ⟨Nat.le_of_ble_eq_true rfl, Nat.le_of_ble_eq_true rfl⟩) [] rfl rfl hl.1 (Nat.le_of_ble_eq_true rfl) ⟨Nat.zero_le _, Nat.zero_le _⟩ dX1_isCircle_10 (fun i10 q10 => ?_)
  subst q10
  exact hret (bI (0 ≤ x ∧ x ≤ (cc - 1))) 13 _ bI_01 rfl dX1_isCircle_13
abbrev rmX1_isGear : Room := { frames := 1, cells := 0, slots := 0, locals := 25 }
theorem hdX1_isGear : yX1_isGear.cls ≠ "java/lang/invoke/MethodHandle" ∧ yX1_isGear.cls ≠ "java/lang/invoke/VarHandle" ∧ (parseMethodDescriptor yX1_isGear.desc).map (fun d => d.parameters.length) = some 1 := by decide +kernel
set_option maxHeartbeats 4000000 in
set_option maxRecDepth 100000 in
theorem c_X1_isGear (l : Launch) (D : va_G) (h a0 a1 a2 a3 : Nat) (cA : ClassId) (H T E F : Int → Int) (cc gc w d v : Int) (hok : SOK H T E cc gc w d v) (x : Int) (hx : inI x) : MI l yX1_isGear wsX1_isGear rmX1_isGear [.ref h, jI x] (WB D (MW h a0 a1 a2 a3 cA H T E F cc gc w d v) cA) (fun rR => rR = bI (0 ≤ x ∧ x ≤ (gc - 1))) := by
  refine MZ_of (cc := cX1_isGear) (maxL := 2) (by decide) rfl (Nat.le_of_ble_eq_true rfl) ?_
  intro pP eE sS mM aA bL mT cC QQ ls S hret ⟨hP, hK⟩ hl
  obtain ⟨hcc, hgc, hw, hd, hv, hH, hT, hE⟩ := id hok
  have hin : ∀ w ∈ wsX10, w ∈ wsX1_isGear := fun w hw => List.mem_cons_of_mem _ (List.mem_append_right _ hw)
  have hl : lv_has ls 2 [(0, .ref h), (1, jI x)] := hl
  refine j_iload_n S dX1_isGear_0 rfl (lv_at hl 1 rfl) ?_
  refine j_i2l S dX1_isGear_1 (iv_i hx (by decide +kernel)) ?_
  refine j_lconst (a := 0) S dX1_isGear_2 rfl ?_
  refine lv_aload_n S.1 S.2.1 dX1_isGear_3 rfl (lv_at hl 0 rfl) ?_
  refine j_get (v := jI gc) S hin hK hP rfl rfl 3 (by decide) (List.mem_of_getElem? (i := 1) rfl) rfl dX1_isGear_4 ?_
  refine j_iconst S dX1_isGear_7 ?_
  refine j_isub S dX1_isGear_8 ?_
  refine j_i2l S dX1_isGear_9 (iv_i (iv_sub (lo := (-1)) (hi := 9) hgc (iv_n 1) (by decide +kernel)) (by decide +kernel)) ?_
  refine j_csi (As := [jL x, jL 0, jL (gc - 1)]) S (c_X1_in l x 0 (gc - 1) (iv_w hx (by decide +kernel)) (iv_w (iv_n 0) (by decide +kernel)) (iv_w (iv_sub (lo := (-1)) (hi := 9) hgc (iv_n 1) (by decide +kernel)) (by decide +kernel))) (va_cwS 3 S.2.2.2.2 gX1_isGear_X1_in rfl rfl rfl hdX1_in ⟨Nat.le_of_ble_eq_true rfl, Nat.le_of_ble_eq_true rfl⟩) [] rfl rfl hl.1 (Nat.le_of_ble_eq_true rfl) ⟨Nat.zero_le _, Nat.zero_le _⟩ dX1_isGear_10 (fun i10 q10 => ?_)
  subst q10
  exact hret (bI (0 ≤ x ∧ x ≤ (gc - 1))) 13 _ bI_01 rfl dX1_isGear_13
abbrev rmX1_isCut : Room := { frames := 2, cells := 0, slots := 0, locals := 45 }
theorem hdX1_isCut : yX1_isCut.cls ≠ "java/lang/invoke/MethodHandle" ∧ yX1_isCut.cls ≠ "java/lang/invoke/VarHandle" ∧ (parseMethodDescriptor yX1_isCut.desc).map (fun d => d.parameters.length) = some 2 := by decide +kernel
set_option maxHeartbeats 4000000 in
set_option maxRecDepth 100000 in
theorem c_X1_isCut (l : Launch) (n : Int) (i : Int) (hn : inI n) (hi : inI i) : MI l yX1_isCut wsX1_isCut rmX1_isCut [jI n, jI i] W0 (fun rR => rR = bI ((2 ≤ n ∧ n ≤ 1000) ∧ (0 ≤ i ∧ i ≤ n))) := by
  refine MZ_of (cc := cX1_isCut) (maxL := 2) (by decide) rfl (Nat.le_of_ble_eq_true rfl) ?_
  intro pP eE sS mM aA bL mT cC QQ ls S hret _ hl
  have hl : lv_has ls 2 [(0, jI n), (1, jI i)] := hl
  refine j_iload_n S dX1_isCut_0 rfl (lv_at hl 0 rfl) ?_
  refine j_csi (As := [jI n]) S (c_X1_isParts l n (iv_w hn (by decide +kernel))) (va_cwS 1 S.2.2.2.2 gX1_isCut_X1_isParts rfl rfl rfl hdX1_isParts ⟨Nat.le_of_ble_eq_true rfl, Nat.le_of_ble_eq_true rfl⟩) [] rfl rfl hl.1 (Nat.le_of_ble_eq_true rfl) ⟨Nat.zero_le _, Nat.zero_le _⟩ dX1_isCut_1 (fun i1 q1 => ?_)
  subst q1
  refine j_ifb_eq (tgt := 22) S dX1_isCut_4 (by decide) (fun c4 => ?_) (fun c4 => ?_)
  · refine j_iconst S dX1_isCut_22 ?_
    exact hret 0 23 _ (Or.inl rfl) (bI_f (by omega)) dX1_isCut_23
  · have r1_ : 2 ≤ n ∧ n ≤ 1000 := by omega
    refine j_iload_n S dX1_isCut_7 rfl (lv_at hl 1 rfl) ?_
    refine j_i2l S dX1_isCut_8 (iv_i hi (by decide +kernel)) ?_
    refine j_lconst (a := 0) S dX1_isCut_9 rfl ?_
    refine j_iload_n S dX1_isCut_10 rfl (lv_at hl 0 rfl) ?_
    refine j_i2l S dX1_isCut_11 (iv_i r1_ (by decide +kernel)) ?_
    refine j_csi (As := [jL i, jL 0, jL n]) S (c_X1_in l i 0 n (iv_w hi (by decide +kernel)) (iv_w (iv_n 0) (by decide +kernel)) (iv_w r1_ (by decide +kernel))) (va_cwS 3 S.2.2.2.2 gX1_isCut_X1_in rfl rfl rfl hdX1_in ⟨Nat.le_of_ble_eq_true rfl, Nat.le_of_ble_eq_true rfl⟩) [] rfl rfl hl.1 (Nat.le_of_ble_eq_true rfl) ⟨Nat.zero_le _, Nat.zero_le _⟩ dX1_isCut_12 (fun i12 q12 => ?_)
    subst q12
    refine j_ifb_eq (tgt := 22) S dX1_isCut_15 (by decide) (fun c15 => ?_) (fun c15 => ?_)
    · refine j_iconst S dX1_isCut_22 ?_
      exact hret 0 23 _ (Or.inl rfl) (bI_f (by omega)) dX1_isCut_23
    · have r2_ : 0 ≤ i ∧ i ≤ 1000 := by omega
      refine j_iconst S dX1_isCut_18 ?_
      refine j_goto (tgt := 23) S dX1_isCut_19 (by decide) ?_
      exact hret 1 23 _ (Or.inr rfl) (bI_t (by omega)) dX1_isCut_23
abbrev rmX1_isPlace : Room := { frames := 1, cells := 0, slots := 0, locals := 25 }
theorem hdX1_isPlace : yX1_isPlace.cls ≠ "java/lang/invoke/MethodHandle" ∧ yX1_isPlace.cls ≠ "java/lang/invoke/VarHandle" ∧ (parseMethodDescriptor yX1_isPlace.desc).map (fun d => d.parameters.length) = some 2 := by decide +kernel
set_option maxHeartbeats 4000000 in
set_option maxRecDepth 100000 in
theorem c_X1_isPlace (l : Launch) (x : Int) (y : Int) (hx : inI x) (hy : inI y) : MI l yX1_isPlace wsX1_isPlace rmX1_isPlace [jI x, jI y] W0 (fun rR => rR = bI ((1 ≤ y ∧ y ≤ 1000000) ∧ (0 ≤ x ∧ x ≤ y - 1))) := by
  refine MZ_of (cc := cX1_isPlace) (maxL := 2) (by decide) rfl (Nat.le_of_ble_eq_true rfl) ?_
  intro pP eE sS mM aA bL mT cC QQ ls S hret _ hl
  have hl : lv_has ls 2 [(0, jI x), (1, jI y)] := hl
  refine j_iload_n S dX1_isPlace_0 rfl (lv_at hl 1 rfl) ?_
  refine j_i2l S dX1_isPlace_1 (iv_i hy (by decide +kernel)) ?_
  refine j_lconst (a := 1) S dX1_isPlace_2 rfl ?_
  refine j_ldc2 (n := 1000000) S (S.2.2.2.2 _ (List.mem_of_getElem? (i := 1) rfl)) (by decide) dX1_isPlace_3 ?_
  refine j_csi (As := [jL y, jL 1, jL 1000000]) S (c_X1_in l y 1 1000000 (iv_w hy (by decide +kernel)) (iv_w (iv_n 1) (by decide +kernel)) (iv_w (iv_n 1000000) (by decide +kernel))) (va_cwS 3 S.2.2.2.2 gX1_isPlace_X1_in rfl rfl rfl hdX1_in ⟨Nat.le_of_ble_eq_true rfl, Nat.le_of_ble_eq_true rfl⟩) [] rfl rfl hl.1 (Nat.le_of_ble_eq_true rfl) ⟨Nat.zero_le _, Nat.zero_le _⟩ dX1_isPlace_6 (fun i6 q6 => ?_)
  subst q6
  refine j_ifb_eq (tgt := 29) S dX1_isPlace_9 (by decide) (fun c9 => ?_) (fun c9 => ?_)
  · refine j_iconst S dX1_isPlace_29 ?_
    exact hret 0 30 _ (Or.inl rfl) (bI_f (by omega)) dX1_isPlace_30
  · have r1_ : 1 ≤ y ∧ y ≤ 1000000 := by omega
    refine j_iload_n S dX1_isPlace_12 rfl (lv_at hl 0 rfl) ?_
    refine j_i2l S dX1_isPlace_13 (iv_i hx (by decide +kernel)) ?_
    refine j_lconst (a := 0) S dX1_isPlace_14 rfl ?_
    refine j_iload_n S dX1_isPlace_15 rfl (lv_at hl 1 rfl) ?_
    refine j_i2l S dX1_isPlace_16 (iv_i r1_ (by decide +kernel)) ?_
    refine j_lconst (a := 1) S dX1_isPlace_17 rfl ?_
    refine j_lsub S dX1_isPlace_18 ?_
    refine j_csi (As := [jL x, jL 0, jL (y - 1)]) S (c_X1_in l x 0 (y - 1) (iv_w hx (by decide +kernel)) (iv_w (iv_n 0) (by decide +kernel)) (iv_w (iv_sub (lo := 0) (hi := 999999) r1_ (iv_n 1) (by decide +kernel)) (by decide +kernel))) (va_cwS 3 S.2.2.2.2 gX1_isPlace_X1_in rfl rfl rfl hdX1_in ⟨Nat.le_of_ble_eq_true rfl, Nat.le_of_ble_eq_true rfl⟩) [] rfl rfl hl.1 (Nat.le_of_ble_eq_true rfl) ⟨Nat.zero_le _, Nat.zero_le _⟩ dX1_isPlace_19 (fun i19 q19 => ?_)
    subst q19
    refine j_ifb_eq (tgt := 29) S dX1_isPlace_22 (by decide) (fun c22 => ?_) (fun c22 => ?_)
    · refine j_iconst S dX1_isPlace_29 ?_
      exact hret 0 30 _ (Or.inl rfl) (bI_f (by omega)) dX1_isPlace_30
    · have r2_ : 0 ≤ x ∧ x ≤ 999999 := by omega
      refine j_iconst S dX1_isPlace_25 ?_
      refine j_goto (tgt := 30) S dX1_isPlace_26 (by decide) ?_
      exact hret 1 30 _ (Or.inr rfl) (bI_t (by omega)) dX1_isPlace_30
abbrev rmX1_holes : Room := { frames := 2, cells := 0, slots := 0, locals := 46 }
theorem hdX1_holes : yX1_holes.cls ≠ "java/lang/invoke/MethodHandle" ∧ yX1_holes.cls ≠ "java/lang/invoke/VarHandle" ∧ (parseMethodDescriptor yX1_holes.desc).map (fun d => d.parameters.length) = some 1 := by decide +kernel
set_option maxHeartbeats 4000000 in
set_option maxRecDepth 100000 in
theorem c_X1_holes (l : Launch) (D : va_G) (h a0 a1 a2 a3 : Nat) (cA : ClassId) (H T E F : Int → Int) (cc gc w d v : Int) (hok : SOK H T E cc gc w d v) (x : Int) (hx : inI x) : MI l yX1_holes wsX1_holes rmX1_holes [.ref h, jI x] (WB D (MW h a0 a1 a2 a3 cA H T E F cc gc w d v) cA) (fun rR => rR = sp_holes cc H x) := by
  refine MI_of (cc := cX1_holes) (maxL := 2) (by decide) rfl (Nat.le_of_ble_eq_true rfl) ?_
  intro pP eE sS mM aA bL mT cC QQ ls S hret ⟨hP, hK⟩ hl
  obtain ⟨hcc, hgc, hw, hd, hv, hH, hT, hE⟩ := id hok
  have hin : ∀ w ∈ wsX10, w ∈ wsX1_holes := fun w hw => List.mem_cons_of_mem _ (List.mem_append_right _ hw)
  have hl : lv_has ls 2 [(0, .ref h), (1, jI x)] := hl
  refine lv_aload_n S.1 S.2.1 dX1_holes_0 rfl (lv_at hl 0 rfl) ?_
  refine j_iload_n S dX1_holes_1 rfl (lv_at hl 1 rfl) ?_
  refine j_cvi (As := [jI x]) (ci := 1) S (c_X1_isCircle l D h a0 a1 a2 a3 cA H T E F cc gc w d v hok x (iv_w hx (by decide +kernel))) (cwV 1 S.2.2.2.2 gX1_holes_X1_isCircle rfl rfl rfl ⟨rfl, hdX1_isCircle⟩ ⟨Nat.le_of_ble_eq_true rfl, Nat.le_of_ble_eq_true rfl⟩) hK hP rfl rfl rfl [] rfl rfl hl.1 (Nat.le_of_ble_eq_true rfl) ⟨Nat.zero_le _, Nat.zero_le _⟩ dX1_holes_2 (fun i2 q2 => ?_)
  subst q2
  refine j_ifb_eq (tgt := 17) S dX1_holes_5 (by decide) (fun c5 => ?_) (fun c5 => ?_)
  · refine j_iconst S dX1_holes_17 ?_
    exact hret (-1) 18 _ (by unfold sp_holes; (repeat' split) <;> first | omega | rfl) dX1_holes_18
  · have r1_ : 0 ≤ x ∧ x ≤ 7 := by omega
    refine lv_aload_n S.1 S.2.1 dX1_holes_8 rfl (lv_at hl 0 rfl) ?_
    refine j_get (v := .ref a0) S hin hK hP rfl rfl 2 (by decide) (List.mem_of_getElem? (i := 1) rfl) rfl dX1_holes_9 ?_
    refine j_iload_n S dX1_holes_12 rfl (lv_at hl 1 rfl) ?_
    refine j_iald S hK hP 1 0 rfl rfl (iv_ix (n := 8) r1_ (by decide +kernel)) dX1_holes_13 ?_
    have r2_ := hH x (by omega) (by omega)
    refine j_goto (tgt := 18) S dX1_holes_14 (by decide) ?_
    exact hret (H x) 18 _ (by unfold sp_holes; (repeat' split) <;> first | omega | rfl) dX1_holes_18
abbrev rmX1_teeth : Room := { frames := 2, cells := 0, slots := 0, locals := 46 }
theorem hdX1_teeth : yX1_teeth.cls ≠ "java/lang/invoke/MethodHandle" ∧ yX1_teeth.cls ≠ "java/lang/invoke/VarHandle" ∧ (parseMethodDescriptor yX1_teeth.desc).map (fun d => d.parameters.length) = some 1 := by decide +kernel
set_option maxHeartbeats 4000000 in
set_option maxRecDepth 100000 in
theorem c_X1_teeth (l : Launch) (D : va_G) (h a0 a1 a2 a3 : Nat) (cA : ClassId) (H T E F : Int → Int) (cc gc w d v : Int) (hok : SOK H T E cc gc w d v) (x : Int) (hx : inI x) : MI l yX1_teeth wsX1_teeth rmX1_teeth [.ref h, jI x] (WB D (MW h a0 a1 a2 a3 cA H T E F cc gc w d v) cA) (fun rR => rR = sp_holes gc T x) := by
  refine MI_of (cc := cX1_teeth) (maxL := 2) (by decide) rfl (Nat.le_of_ble_eq_true rfl) ?_
  intro pP eE sS mM aA bL mT cC QQ ls S hret ⟨hP, hK⟩ hl
  obtain ⟨hcc, hgc, hw, hd, hv, hH, hT, hE⟩ := id hok
  have hin : ∀ w ∈ wsX10, w ∈ wsX1_teeth := fun w hw => List.mem_cons_of_mem _ (List.mem_append_right _ hw)
  have hl : lv_has ls 2 [(0, .ref h), (1, jI x)] := hl
  refine lv_aload_n S.1 S.2.1 dX1_teeth_0 rfl (lv_at hl 0 rfl) ?_
  refine j_iload_n S dX1_teeth_1 rfl (lv_at hl 1 rfl) ?_
  refine j_cvi (As := [jI x]) (ci := 1) S (c_X1_isGear l D h a0 a1 a2 a3 cA H T E F cc gc w d v hok x (iv_w hx (by decide +kernel))) (cwV 1 S.2.2.2.2 gX1_teeth_X1_isGear rfl rfl rfl ⟨rfl, hdX1_isGear⟩ ⟨Nat.le_of_ble_eq_true rfl, Nat.le_of_ble_eq_true rfl⟩) hK hP rfl rfl rfl [] rfl rfl hl.1 (Nat.le_of_ble_eq_true rfl) ⟨Nat.zero_le _, Nat.zero_le _⟩ dX1_teeth_2 (fun i2 q2 => ?_)
  subst q2
  refine j_ifb_eq (tgt := 17) S dX1_teeth_5 (by decide) (fun c5 => ?_) (fun c5 => ?_)
  · refine j_iconst S dX1_teeth_17 ?_
    exact hret (-1) 18 _ (by unfold sp_holes; (repeat' split) <;> first | omega | rfl) dX1_teeth_18
  · have r1_ : 0 ≤ x ∧ x ≤ 9 := by omega
    refine lv_aload_n S.1 S.2.1 dX1_teeth_8 rfl (lv_at hl 0 rfl) ?_
    refine j_get (v := .ref a1) S hin hK hP rfl rfl 4 (by decide) (List.mem_of_getElem? (i := 1) rfl) rfl dX1_teeth_9 ?_
    refine j_iload_n S dX1_teeth_12 rfl (lv_at hl 1 rfl) ?_
    refine j_iald S hK hP 2 0 rfl rfl (iv_ix (n := 10) r1_ (by decide +kernel)) dX1_teeth_13 ?_
    have r2_ := hT x (by omega) (by omega)
    refine j_goto (tgt := 18) S dX1_teeth_14 (by decide) ?_
    exact hret (T x) 18 _ (by unfold sp_holes; (repeat' split) <;> first | omega | rfl) dX1_teeth_18
abbrev rmX1_plainOf : Room := { frames := 0, cells := 0, slots := 0, locals := 0 }
theorem hdX1_plainOf : yX1_plainOf.cls ≠ "java/lang/invoke/MethodHandle" ∧ yX1_plainOf.cls ≠ "java/lang/invoke/VarHandle" ∧ (parseMethodDescriptor yX1_plainOf.desc).map (fun d => d.parameters.length) = some 1 := by decide +kernel
set_option maxHeartbeats 4000000 in
set_option maxRecDepth 100000 in
theorem c_X1_plainOf (l : Launch) (D : va_G) (h a0 a1 a2 a3 : Nat) (cA : ClassId) (H T E F : Int → Int) (cc gc w d v : Int) (hok : SOK H T E cc gc w d v) (n : Int) (hn : 2 ≤ n ∧ n ≤ 1000) : MI l yX1_plainOf wsX1_plainOf rmX1_plainOf [.ref h, jI n] (WB D (MW h a0 a1 a2 a3 cA H T E F cc gc w d v) cA) (fun rR => rR = sp_pl w H n cc) := by
  refine MI_of (cc := cX1_plainOf) (maxL := 5) (by decide) rfl (Nat.le_of_ble_eq_true rfl) ?_
  intro pP eE sS mM aA bL mT cC QQ ls S hret ⟨hP, hK⟩ hl
  obtain ⟨hcc, hgc, hw, hd, hv, hH, hT, hE⟩ := id hok
  have hin : ∀ w ∈ wsX10, w ∈ wsX1_plainOf := fun w hw => List.mem_cons_of_mem _ (List.mem_append_right _ hw)
  have hl : lv_has ls 5 [(0, .ref h), (1, jI n)] := hl
  refine j_bipush S dX1_plainOf_0 (by decide) ?_
  refine j_istore_n (lv' := [(2, jI (-6)), (0, .ref h), (1, jI n)]) S dX1_plainOf_2 rfl hl (by decide) rfl (fun ls hl => ?_)
  refine j_iconst S dX1_plainOf_3 ?_
  refine j_istore_n (lv' := [(3, jI 0), (2, jI (-6)), (0, .ref h), (1, jI n)]) S dX1_plainOf_4 rfl hl (by decide) rfl (fun ls hl => ?_)
  have loop5 : ∀ (N : Nat) (b k : Int) (ls : Array Slot), (0 ≤ k ∧ k ≤ 8) → (k ≤ cc) → (b = sp_pl w H n k) → (-6 ≤ b ∧ b ≤ 7) → (b = -6 ∨ (0 ≤ b ∧ b < k)) → cc - k < (N : Int) → lv_has ls 5 [(3, jI k), (2, jI b), (0, .ref h), (1, jI n)] → W pP l eE rmX1_plainOf sS mM aA bL mT cC sS.heap [] 0 0 QQ (F0 mM 5 ls []) := by
    intro N
    induction N with
    | zero =>
      intro b k ls hk hk2 hb hbi hb2 hN
      exact absurd hN (by omega)
    | succ N ih5 =>
      intro b k ls hk hk2 hb hbi hb2 hN hl
      refine j_iload_n S dX1_plainOf_5 rfl (lv_at hl 0 rfl) ?_
      refine lv_aload_n S.1 S.2.1 dX1_plainOf_6 rfl (lv_at hl 2 rfl) ?_
      refine j_get (v := jI cc) S hin hK hP rfl rfl 1 (by decide) (List.mem_of_getElem? (i := 1) rfl) rfl dX1_plainOf_7 ?_
      refine j_icmp_ge (tgt := 72) S dX1_plainOf_10 (by decide) (iv_i hk (by decide +kernel)) (iv_i hcc (by decide +kernel)) (fun c10 => ?_) (fun c10 => ?_)
      · refine j_iload_n S dX1_plainOf_72 rfl (lv_at hl 1 rfl) ?_
        exact hret b 73 _ (by rw [hb, show k = cc from by omega]) dX1_plainOf_73
      · have r1_ : 0 ≤ k ∧ k ≤ 7 := by omega
        have r2_ : 1 ≤ cc ∧ cc ≤ 8 := by omega
        refine lv_aload_n S.1 S.2.1 dX1_plainOf_13 rfl (lv_at hl 2 rfl) ?_
        refine j_get (v := jI w) S hin hK hP rfl rfl 0 (by decide) (List.mem_of_getElem? (i := 2) rfl) rfl dX1_plainOf_14 ?_
        refine lv_aload_n S.1 S.2.1 dX1_plainOf_17 rfl (lv_at hl 2 rfl) ?_
        refine j_get (v := .ref a0) S hin hK hP rfl rfl 2 (by decide) (List.mem_of_getElem? (i := 3) rfl) rfl dX1_plainOf_18 ?_
        refine j_iload_n S dX1_plainOf_21 rfl (lv_at hl 0 rfl) ?_
        refine j_iald S hK hP 1 0 rfl rfl (iv_ix (n := 8) r1_ (by decide +kernel)) dX1_plainOf_22 ?_
        have r3_ := hH k (by omega) (by omega)
        refine j_imul S dX1_plainOf_23 ?_
        refine j_iload_n S dX1_plainOf_24 rfl (lv_at hl 3 rfl) ?_
        refine j_iremp S dX1_plainOf_25 (iv_i (iv_mulp (lo := 50) (hi := 24000) hw r3_ (by decide +kernel)) (by decide +kernel)) (iv_pi hn (by decide +kernel)) (iv_nn (iv_mulp (lo := 50) (hi := 24000) hw r3_ (by decide +kernel)) (by decide +kernel)) ?_
        refine j_if_ne (tgt := 33) S dX1_plainOf_26 (by decide) (iv_i (iv_mod (lo := 0) (hi := 999) hn (by decide +kernel)) (by decide +kernel)) (fun c26 => ?_) (fun c26 => ?_)
        · refine j_iconst S dX1_plainOf_33 ?_
          refine j_istore (lv' := [(4, jI 0), (3, jI k), (2, jI b), (0, .ref h), (1, jI n)]) S dX1_plainOf_34 hl (by decide) rfl (fun ls hl => ?_)
          refine j_iload S dX1_plainOf_36 (lv_at hl 0 rfl) ?_
          refine j_if_eq (tgt := 64) S dX1_plainOf_38 (by decide) (iv_i (iv_n 0) (by decide +kernel)) (fun c38 => ?_) (fun z9 => absurd z9 (by decide))
          refine j_iload_n S dX1_plainOf_64 rfl (lv_at hl 2 rfl) ?_
          refine j_istore_n (lv' := [(2, jI b), (4, jI 0), (3, jI k), (0, .ref h), (1, jI n)]) S dX1_plainOf_65 rfl hl (by decide) rfl (fun ls hl => ?_)
          refine j_iinc (k := 2) (y := (k + 1)) (lv' := [(3, jI (k + 1)), (2, jI b), (4, jI 0), (0, .ref h), (1, jI n)]) S dX1_plainOf_66 hl rfl rfl (by decide) rfl (fun ls hl => ?_)
          refine j_goto (tgt := 5) S dX1_plainOf_69 (by decide) ?_
          exact ih5 b (k + 1) _ (by omega) (by omega) (by have e9 : (w * H k).tmod n = w * H k % n := Int.tmod_eq_emod_of_nonneg (iv_nn (iv_mulp (lo := 50) (hi := 24000) hw r3_ (by decide +kernel)) (by decide +kernel)); rw [sp_pl_s (by omega), ← hb, e9]; split <;> omega) (by omega) (by omega) (by omega) (lv_sub hl [0, 1, 3, 4] rfl)
        · refine j_iconst S dX1_plainOf_29 ?_
          refine j_goto (tgt := 34) S dX1_plainOf_30 (by decide) ?_
          refine j_istore (lv' := [(4, jI 1), (3, jI k), (2, jI b), (0, .ref h), (1, jI n)]) S dX1_plainOf_34 hl (by decide) rfl (fun ls hl => ?_)
          refine j_iload S dX1_plainOf_36 (lv_at hl 0 rfl) ?_
          refine j_if_eq (tgt := 64) S dX1_plainOf_38 (by decide) (iv_i (iv_n 1) (by decide +kernel)) (fun z9 => absurd z9 (by decide)) (fun c38 => ?_)
          refine j_iload_n S dX1_plainOf_41 rfl (lv_at hl 2 rfl) ?_
          refine j_if_lt (tgt := 60) S dX1_plainOf_42 (by decide) (iv_i hbi (by decide +kernel)) (fun c42 => ?_) (fun c42 => ?_)
          · have r4_ : (-6) ≤ b ∧ b ≤ (-1) := by omega
            refine j_iload_n S dX1_plainOf_60 rfl (lv_at hl 1 rfl) ?_
            refine j_goto (tgt := 65) S dX1_plainOf_61 (by decide) ?_
            refine j_istore_n (lv' := [(2, jI k), (4, jI 1), (3, jI k), (0, .ref h), (1, jI n)]) S dX1_plainOf_65 rfl hl (by decide) rfl (fun ls hl => ?_)
            refine j_iinc (k := 2) (y := (k + 1)) (lv' := [(3, jI (k + 1)), (2, jI k), (4, jI 1), (0, .ref h), (1, jI n)]) S dX1_plainOf_66 hl rfl rfl (by decide) rfl (fun ls hl => ?_)
            refine j_goto (tgt := 5) S dX1_plainOf_69 (by decide) ?_
            exact ih5 k (k + 1) _ (by omega) (by omega) (by have e9 : (w * H k).tmod n = w * H k % n := Int.tmod_eq_emod_of_nonneg (iv_nn (iv_mulp (lo := 50) (hi := 24000) hw r3_ (by decide +kernel)) (by decide +kernel)); rw [sp_pl_s (by omega), ← hb, e9]; split <;> omega) (by omega) (by omega) (by omega) (lv_sub hl [0, 1, 3, 4] rfl)
          · have r5_ : 0 ≤ b ∧ b ≤ 7 := by omega
            refine lv_aload_n S.1 S.2.1 dX1_plainOf_45 rfl (lv_at hl 3 rfl) ?_
            refine j_get (v := .ref a0) S hin hK hP rfl rfl 2 (by decide) (List.mem_of_getElem? (i := 3) rfl) rfl dX1_plainOf_46 ?_
            refine j_iload_n S dX1_plainOf_49 rfl (lv_at hl 1 rfl) ?_
            refine j_iald S hK hP 1 0 rfl rfl (iv_ix (n := 8) r1_ (by decide +kernel)) dX1_plainOf_50 ?_
            refine lv_aload_n S.1 S.2.1 dX1_plainOf_51 rfl (lv_at hl 3 rfl) ?_
            refine j_get (v := .ref a0) S hin hK hP rfl rfl 2 (by decide) (List.mem_of_getElem? (i := 3) rfl) rfl dX1_plainOf_52 ?_
            refine j_iload_n S dX1_plainOf_55 rfl (lv_at hl 2 rfl) ?_
            refine j_iald S hK hP 1 0 rfl rfl (iv_ix (n := 8) r5_ (by decide +kernel)) dX1_plainOf_56 ?_
            have r6_ := hH b (by omega) (by omega)
            refine j_icmp_ge (tgt := 64) S dX1_plainOf_57 (by decide) (iv_i r3_ (by decide +kernel)) (iv_i r6_ (by decide +kernel)) (fun c57 => ?_) (fun c57 => ?_)
            · refine j_iload_n S dX1_plainOf_64 rfl (lv_at hl 2 rfl) ?_
              refine j_istore_n (lv' := [(2, jI b), (4, jI 1), (3, jI k), (0, .ref h), (1, jI n)]) S dX1_plainOf_65 rfl hl (by decide) rfl (fun ls hl => ?_)
              refine j_iinc (k := 2) (y := (k + 1)) (lv' := [(3, jI (k + 1)), (2, jI b), (4, jI 1), (0, .ref h), (1, jI n)]) S dX1_plainOf_66 hl rfl rfl (by decide) rfl (fun ls hl => ?_)
              refine j_goto (tgt := 5) S dX1_plainOf_69 (by decide) ?_
              exact ih5 b (k + 1) _ (by omega) (by omega) (by have e9 : (w * H k).tmod n = w * H k % n := Int.tmod_eq_emod_of_nonneg (iv_nn (iv_mulp (lo := 50) (hi := 24000) hw r3_ (by decide +kernel)) (by decide +kernel)); rw [sp_pl_s (by omega), ← hb, e9]; split <;> omega) (by omega) (by omega) (by omega) (lv_sub hl [0, 1, 3, 4] rfl)
            · have r7_ : 5 ≤ (H k) ∧ (H k) ≤ 119 := by omega
              have r8_ : 6 ≤ (H b) ∧ (H b) ≤ 120 := by omega
              refine j_iload_n S dX1_plainOf_60 rfl (lv_at hl 1 rfl) ?_
              refine j_goto (tgt := 65) S dX1_plainOf_61 (by decide) ?_
              refine j_istore_n (lv' := [(2, jI k), (4, jI 1), (3, jI k), (0, .ref h), (1, jI n)]) S dX1_plainOf_65 rfl hl (by decide) rfl (fun ls hl => ?_)
              refine j_iinc (k := 2) (y := (k + 1)) (lv' := [(3, jI (k + 1)), (2, jI k), (4, jI 1), (0, .ref h), (1, jI n)]) S dX1_plainOf_66 hl rfl rfl (by decide) rfl (fun ls hl => ?_)
              refine j_goto (tgt := 5) S dX1_plainOf_69 (by decide) ?_
              exact ih5 k (k + 1) _ (by omega) (by omega) (by have e9 : (w * H k).tmod n = w * H k % n := Int.tmod_eq_emod_of_nonneg (iv_nn (iv_mulp (lo := 50) (hi := 23800) hw r7_ (by decide +kernel)) (by decide +kernel)); rw [sp_pl_s (by omega), ← hb, e9]; split <;> omega) (by omega) (by omega) (by omega) (lv_sub hl [0, 1, 3, 4] rfl)
  exact loop5 9 (-6) 0 _ (by omega) (by omega) rfl (by omega) (by omega) (by omega) (lv_sub hl [0, 1, 2, 3] rfl)
abbrev rmX1_plain : Room := { frames := 2, cells := 0, slots := 0, locals := 45 }
theorem hdX1_plain : yX1_plain.cls ≠ "java/lang/invoke/MethodHandle" ∧ yX1_plain.cls ≠ "java/lang/invoke/VarHandle" ∧ (parseMethodDescriptor yX1_plain.desc).map (fun d => d.parameters.length) = some 2 := by decide +kernel
set_option maxHeartbeats 4000000 in
set_option maxRecDepth 100000 in
theorem c_X1_plain (l : Launch) (D : va_G) (h a0 a1 a2 a3 : Nat) (cA : ClassId) (H T E F : Int → Int) (cc gc w d v : Int) (hok : SOK H T E cc gc w d v) (n : Int) (what : Int) (hn : inI n) (hwhat : inI what) : MI l yX1_plain wsX1_plain rmX1_plain [.ref h, jI n, jI what] (WB D (MW h a0 a1 a2 a3 cA H T E F cc gc w d v) cA) (fun rR => rR = sp_plain w cc H n what) := by
  refine MI_of (cc := cX1_plain) (maxL := 4) (by decide) rfl (Nat.le_of_ble_eq_true rfl) ?_
  intro pP eE sS mM aA bL mT cC QQ ls S hret ⟨hP, hK⟩ hl
  obtain ⟨hcc, hgc, hw, hd, hv, hH, hT, hE⟩ := id hok
  have hin : ∀ w ∈ wsX10, w ∈ wsX1_plain := fun w hw => List.mem_cons_of_mem _ (List.mem_append_right _ hw)
  have hl : lv_has ls 4 [(0, .ref h), (1, jI n), (2, jI what)] := hl
  refine j_iload_n S dX1_plain_0 rfl (lv_at hl 1 rfl) ?_
  refine j_csi (As := [jI n]) S (c_X1_isParts l n (iv_w hn (by decide +kernel))) (va_cwS 1 S.2.2.2.2 gX1_plain_X1_isParts rfl rfl rfl hdX1_isParts ⟨Nat.le_of_ble_eq_true rfl, Nat.le_of_ble_eq_true rfl⟩) [] rfl rfl hl.1 (Nat.le_of_ble_eq_true rfl) ⟨Nat.zero_le _, Nat.zero_le _⟩ dX1_plain_1 (fun i1 q1 => ?_)
  subst q1
  refine j_ifb_eq (tgt := 19) S dX1_plain_4 (by decide) (fun c4 => ?_) (fun c4 => ?_)
  · refine j_bipush S dX1_plain_19 (by decide) ?_
    exact hret (-2) 21 _ (by unfold sp_plain; (repeat' split) <;> first | omega) dX1_plain_21
  · have r1_ : 2 ≤ n ∧ n ≤ 1000 := by omega
    refine j_iload_n S dX1_plain_7 rfl (lv_at hl 2 rfl) ?_
    refine j_i2l S dX1_plain_8 (iv_i hwhat (by decide +kernel)) ?_
    refine j_lconst (a := 0) S dX1_plain_9 rfl ?_
    refine j_ldc2 (n := 2) S (S.2.2.2.2 _ (List.mem_of_getElem? (i := 1) rfl)) (by decide) dX1_plain_10 ?_
    refine j_csi (As := [jL what, jL 0, jL 2]) S (c_X1_in l what 0 2 (iv_w hwhat (by decide +kernel)) (iv_w (iv_n 0) (by decide +kernel)) (iv_w (iv_n 2) (by decide +kernel))) (va_cwS 3 S.2.2.2.2 gX1_plain_X1_in rfl rfl rfl hdX1_in ⟨Nat.le_of_ble_eq_true rfl, Nat.le_of_ble_eq_true rfl⟩) [] rfl rfl hl.1 (Nat.le_of_ble_eq_true rfl) ⟨Nat.zero_le _, Nat.zero_le _⟩ dX1_plain_13 (fun i13 q13 => ?_)
    subst q13
    refine j_ifb_ne (tgt := 22) S dX1_plain_16 (by decide) (fun c16 => ?_) (fun c16 => ?_)
    · have r2_ : 0 ≤ what ∧ what ≤ 2 := by omega
      refine lv_aload_n S.1 S.2.1 dX1_plain_22 rfl (lv_at hl 0 rfl) ?_
      refine j_iload_n S dX1_plain_23 rfl (lv_at hl 1 rfl) ?_
      refine j_cvi (As := [jI n]) (ci := 1) S (c_X1_plainOf l D h a0 a1 a2 a3 cA H T E F cc gc w d v hok n (iv_w r1_ (by decide +kernel))) (cwV 1 S.2.2.2.2 gX1_plain_X1_plainOf rfl rfl rfl ⟨rfl, hdX1_plainOf⟩ ⟨Nat.le_of_ble_eq_true rfl, Nat.le_of_ble_eq_true rfl⟩) hK hP rfl rfl rfl [] rfl rfl hl.1 (Nat.le_of_ble_eq_true rfl) ⟨Nat.zero_le _, Nat.zero_le _⟩ dX1_plain_24 (fun i24 q24 => ?_)
      subst q24
      have r3_ : (-6) ≤ (sp_pl w H n cc) ∧ (sp_pl w H n cc) ≤ 7 := sp_pl_iv hcc
      have e21 := @sp_pl_rng w n cc H hcc.1
      refine j_istore_n (lv' := [(3, jI (sp_pl w H n cc)), (0, .ref h), (1, jI n), (2, jI what)]) S dX1_plain_27 rfl hl (by decide) rfl (fun ls hl => ?_)
      refine j_iload_n S dX1_plain_28 rfl (lv_at hl 0 rfl) ?_
      refine j_if_ge (tgt := 37) S dX1_plain_29 (by decide) (iv_i r3_ (by decide +kernel)) (fun c29 => ?_) (fun c29 => ?_)
      · have r4_ : 0 ≤ (sp_pl w H n cc) ∧ (sp_pl w H n cc) ≤ 7 := by omega
        refine j_iload_n S dX1_plain_37 rfl (lv_at hl 3 rfl) ?_
        refine j_if_ne (tgt := 45) S dX1_plain_38 (by decide) (iv_i r2_ (by decide +kernel)) (fun c38 => ?_) (fun c38 => ?_)
        · have r5_ : 1 ≤ what ∧ what ≤ 2 := by omega
          refine j_iload_n S dX1_plain_45 rfl (lv_at hl 3 rfl) ?_
          refine j_iconst S dX1_plain_46 ?_
          refine j_icmp_ne (tgt := 59) S dX1_plain_47 (by decide) (iv_i r5_ (by decide +kernel)) (iv_i (iv_n 1) (by decide +kernel)) (fun c47 => ?_) (fun c47 => ?_)
          · have r6_ : 2 ≤ what ∧ what ≤ 2 := by omega
            refine lv_aload_n S.1 S.2.1 dX1_plain_59 rfl (lv_at hl 1 rfl) ?_
            refine j_get (v := jI w) S hin hK hP rfl rfl 0 (by decide) (List.mem_of_getElem? (i := 2) rfl) rfl dX1_plain_60 ?_
            refine lv_aload_n S.1 S.2.1 dX1_plain_63 rfl (lv_at hl 1 rfl) ?_
            refine j_get (v := .ref a0) S hin hK hP rfl rfl 2 (by decide) (List.mem_of_getElem? (i := 3) rfl) rfl dX1_plain_64 ?_
            refine j_iload_n S dX1_plain_67 rfl (lv_at hl 0 rfl) ?_
            refine j_iald S hK hP 1 0 rfl rfl (iv_ix (n := 8) r4_ (by decide +kernel)) dX1_plain_68 ?_
            have r7_ := hH (sp_pl w H n cc) (by omega) (by omega)
            refine j_imul S dX1_plain_69 ?_
            refine j_iload_n S dX1_plain_70 rfl (lv_at hl 2 rfl) ?_
            refine j_idivp S dX1_plain_71 (iv_i (iv_mulp (lo := 50) (hi := 24000) hw r7_ (by decide +kernel)) (by decide +kernel)) (iv_pi r1_ (by decide +kernel)) (iv_nn (iv_mulp (lo := 50) (hi := 24000) hw r7_ (by decide +kernel)) (by decide +kernel)) ?_
            refine lv_aload_n S.1 S.2.1 dX1_plain_72 rfl (lv_at hl 1 rfl) ?_
            refine j_get (v := .ref a0) S hin hK hP rfl rfl 2 (by decide) (List.mem_of_getElem? (i := 3) rfl) rfl dX1_plain_73 ?_
            refine j_iload_n S dX1_plain_76 rfl (lv_at hl 0 rfl) ?_
            refine j_iald S hK hP 1 0 rfl rfl (iv_ix (n := 8) r4_ (by decide +kernel)) dX1_plain_77 ?_
            refine j_iremp S dX1_plain_78 (iv_i (iv_div (lo := 0) (hi := 24000) (iv_mulp (lo := 50) (hi := 24000) hw r7_ (by decide +kernel)) (by have := r1_; omega) (by decide +kernel)) (by decide +kernel)) (iv_pi r7_ (by decide +kernel)) (iv_nn (iv_div (lo := 0) (hi := 24000) (iv_mulp (lo := 50) (hi := 24000) hw r7_ (by decide +kernel)) (by have := r1_; omega) (by decide +kernel)) (by decide +kernel)) ?_
            exact hret (((w * (H (sp_pl w H n cc))) / n) % (H (sp_pl w H n cc))) 79 _ (by unfold sp_plain; (repeat' split) <;> first | omega | (exact plain_eq (by omega) (by omega) (by omega))) dX1_plain_79
          · have r8_ : 1 ≤ what ∧ what ≤ 1 := by omega
            refine lv_aload_n S.1 S.2.1 dX1_plain_50 rfl (lv_at hl 1 rfl) ?_
            refine j_get (v := jI w) S hin hK hP rfl rfl 0 (by decide) (List.mem_of_getElem? (i := 2) rfl) rfl dX1_plain_51 ?_
            refine j_iload_n S dX1_plain_54 rfl (lv_at hl 2 rfl) ?_
            refine j_idivp S dX1_plain_55 (iv_i hw (by decide +kernel)) (iv_pi r1_ (by decide +kernel)) (iv_nn hw (by decide +kernel)) ?_
            refine j_goto (tgt := 79) S dX1_plain_56 (by decide) ?_
            exact hret (w / n) 79 _ (by unfold sp_plain; (repeat' split) <;> first | omega) dX1_plain_79
        · have r9_ : 0 ≤ what ∧ what ≤ 0 := by omega
          refine j_iload_n S dX1_plain_41 rfl (lv_at hl 0 rfl) ?_
          refine j_goto (tgt := 79) S dX1_plain_42 (by decide) ?_
          exact hret (sp_pl w H n cc) 79 _ (by unfold sp_plain; (repeat' split) <;> first | omega) dX1_plain_79
      · have r10_ : (-6) ≤ (sp_pl w H n cc) ∧ (sp_pl w H n cc) ≤ (-1) := by omega
        refine j_bipush S dX1_plain_32 (by decide) ?_
        refine j_goto (tgt := 79) S dX1_plain_34 (by decide) ?_
        exact hret (-6) 79 _ (by unfold sp_plain; (repeat' split) <;> first | omega) dX1_plain_79
    · refine j_bipush S dX1_plain_19 (by decide) ?_
      exact hret (-2) 21 _ (by unfold sp_plain; (repeat' split) <;> first | omega) dX1_plain_21
abbrev rmX1_stepBeside : Room := { frames := 0, cells := 0, slots := 0, locals := 0 }
theorem hdX1_stepBeside : yX1_stepBeside.cls ≠ "java/lang/invoke/MethodHandle" ∧ yX1_stepBeside.cls ≠ "java/lang/invoke/VarHandle" ∧ (parseMethodDescriptor yX1_stepBeside.desc).map (fun d => d.parameters.length) = some 4 := by decide +kernel
set_option maxHeartbeats 4000000 in
set_option maxRecDepth 100000 in
theorem c_X1_stepBeside (l : Launch) (D : va_G) (h a0 a1 a2 a3 : Nat) (cA : ClassId) (H T E F : Int → Int) (cc gc w d v : Int) (hok : SOK H T E cc gc w d v) (n : Int) (x1 : Int) (x2 : Int) (b : Int) (hn : 2 ≤ n ∧ n ≤ 1000) (hx1 : 0 ≤ x1 ∧ x1 ≤ 7) (hx2 : 0 ≤ x2 ∧ x2 ≤ 7) (hb : (-120) ≤ b ∧ b ≤ 120) (hx1c : x1 < cc) (hx2c : x2 < cc) : MI l yX1_stepBeside wsX1_stepBeside rmX1_stepBeside [.ref h, jI n, jI x1, jI x2, jI b] (WB D (MW h a0 a1 a2 a3 cA H T E F cc gc w d v) cA) (fun rR => rR = sp_fs w (H x1) (H x2) n b) := by
  refine MI_of (cc := cX1_stepBeside) (maxL := 9) (by decide) rfl (Nat.le_of_ble_eq_true rfl) ?_
  intro pP eE sS mM aA bL mT cC QQ ls S hret ⟨hP, hK⟩ hl
  obtain ⟨hcc, hgc, hw, hd, hv, hH, hT, hE⟩ := id hok
  have hin : ∀ w ∈ wsX10, w ∈ wsX1_stepBeside := fun w hw => List.mem_cons_of_mem _ (List.mem_append_right _ hw)
  have hl : lv_has ls 9 [(0, .ref h), (1, jI n), (2, jI x1), (3, jI x2), (4, jI b)] := hl
  refine lv_aload_n S.1 S.2.1 dX1_stepBeside_0 rfl (lv_at hl 0 rfl) ?_
  refine j_get (v := .ref a0) S hin hK hP rfl rfl 2 (by decide) (List.mem_of_getElem? (i := 1) rfl) rfl dX1_stepBeside_1 ?_
  refine j_iload_n S dX1_stepBeside_4 rfl (lv_at hl 2 rfl) ?_
  refine j_iald S hK hP 1 0 rfl rfl (iv_ix (n := 8) hx1 (by decide +kernel)) dX1_stepBeside_5 ?_
  have r1_ := hH x1 (by omega) (by omega)
  refine j_i2l S dX1_stepBeside_6 (iv_i r1_ (by decide +kernel)) ?_
  refine lv_aload_n S.1 S.2.1 dX1_stepBeside_7 rfl (lv_at hl 0 rfl) ?_
  refine j_get (v := jI w) S hin hK hP rfl rfl 0 (by decide) (List.mem_of_getElem? (i := 2) rfl) rfl dX1_stepBeside_8 ?_
  refine j_i2l S dX1_stepBeside_11 (iv_i hw (by decide +kernel)) ?_
  refine lv_aload_n S.1 S.2.1 dX1_stepBeside_12 rfl (lv_at hl 0 rfl) ?_
  refine j_get (v := .ref a0) S hin hK hP rfl rfl 2 (by decide) (List.mem_of_getElem? (i := 1) rfl) rfl dX1_stepBeside_13 ?_
  refine j_iload_n S dX1_stepBeside_16 rfl (lv_at hl 3 rfl) ?_
  refine j_iald S hK hP 1 0 rfl rfl (iv_ix (n := 8) hx2 (by decide +kernel)) dX1_stepBeside_17 ?_
  have r2_ := hH x2 (by omega) (by omega)
  refine j_i2l S dX1_stepBeside_18 (iv_i r2_ (by decide +kernel)) ?_
  refine j_lmul S dX1_stepBeside_19 ?_
  refine j_iload S dX1_stepBeside_20 (lv_at hl 4 rfl) ?_
  refine j_i2l S dX1_stepBeside_22 (iv_i hb (by decide +kernel)) ?_
  refine j_iload_n S dX1_stepBeside_23 rfl (lv_at hl 1 rfl) ?_
  refine j_i2l S dX1_stepBeside_24 (iv_i hn (by decide +kernel)) ?_
  refine j_lmul S dX1_stepBeside_25 ?_
  refine j_lsub S dX1_stepBeside_26 ?_
  refine j_lmul S dX1_stepBeside_27 ?_
  refine j_lstore (lv' := [(5, jL ((H x1) * ((w * (H x2)) - (b * n)))), (0, .ref h), (1, jI n), (2, jI x1), (3, jI x2), (4, jI b)]) S dX1_stepBeside_28 hl (by decide) rfl (fun ls hl => ?_)
  refine j_iload_n S dX1_stepBeside_30 rfl (lv_at hl 2 rfl) ?_
  refine j_i2l S dX1_stepBeside_31 (iv_i hn (by decide +kernel)) ?_
  refine lv_aload_n S.1 S.2.1 dX1_stepBeside_32 rfl (lv_at hl 1 rfl) ?_
  refine j_get (v := .ref a0) S hin hK hP rfl rfl 2 (by decide) (List.mem_of_getElem? (i := 1) rfl) rfl dX1_stepBeside_33 ?_
  refine j_iload_n S dX1_stepBeside_36 rfl (lv_at hl 4 rfl) ?_
  refine j_iald S hK hP 1 0 rfl rfl (iv_ix (n := 8) hx2 (by decide +kernel)) dX1_stepBeside_37 ?_
  refine j_i2l S dX1_stepBeside_38 (iv_i r2_ (by decide +kernel)) ?_
  refine j_lmul S dX1_stepBeside_39 ?_
  refine j_lstore (lv' := [(7, jL (n * (H x2))), (5, jL ((H x1) * ((w * (H x2)) - (b * n)))), (0, .ref h), (1, jI n), (2, jI x1), (3, jI x2), (4, jI b)]) S dX1_stepBeside_40 hl (by decide) rfl (fun ls hl => ?_)
  refine j_lload S dX1_stepBeside_42 (lv_at hl 1 rfl) ?_
  refine j_lload S dX1_stepBeside_44 (lv_at hl 0 rfl) ?_
  refine j_lrem S dX1_stepBeside_46 (iv_l (iv_mul (lo := (-17280000)) (hi := 17280000) 120 144000 r1_ (iv_sub (lo := (-119950)) (hi := 144000) (iv_mulp (lo := 50) (hi := 24000) hw r2_ (by decide +kernel)) (iv_mul (lo := (-120000)) (hi := 120000) 120 1000 hb hn (by decide +kernel)) (by decide +kernel)) (by decide +kernel)) (by decide +kernel)) (iv_pl (iv_mulp (lo := 10) (hi := 120000) hn r2_ (by decide +kernel)) (by decide +kernel)) (iv_gt (iv_mul (lo := (-17280000)) (hi := 17280000) 120 144000 r1_ (iv_sub (lo := (-119950)) (hi := 144000) (iv_mulp (lo := 50) (hi := 24000) hw r2_ (by decide +kernel)) (iv_mul (lo := (-120000)) (hi := 120000) 120 1000 hb hn (by decide +kernel)) (by decide +kernel)) (by decide +kernel)) (by decide +kernel)) ?_
  refine j_lconst (a := 0) S dX1_stepBeside_47 rfl ?_
  refine j_lcmp_ne (pc1 := 49) (tgt := 61) S rfl dX1_stepBeside_48 dX1_stepBeside_49 (by decide) (iv_l (iv_tmod (lo := (-119999)) (hi := 119999) (iv_mulp (lo := 10) (hi := 120000) hn r2_ (by decide +kernel)) (by decide +kernel)) (by decide +kernel)) (iv_l (iv_n 0) (by decide +kernel)) (fun c48 => ?_) (fun c48 => ?_)
  · refine j_iconst S dX1_stepBeside_61 ?_
    exact hret 0 62 _ (sp_eq_0 (Or.inr c48)).symm dX1_stepBeside_62
  · refine j_lload S dX1_stepBeside_52 (lv_at hl 1 rfl) ?_
    refine j_lload S dX1_stepBeside_54 (lv_at hl 0 rfl) ?_
    refine j_ldiv S dX1_stepBeside_56 (iv_l (iv_mul (lo := (-17280000)) (hi := 17280000) 120 144000 r1_ (iv_sub (lo := (-119950)) (hi := 144000) (iv_mulp (lo := 50) (hi := 24000) hw r2_ (by decide +kernel)) (iv_mul (lo := (-120000)) (hi := 120000) 120 1000 hb hn (by decide +kernel)) (by decide +kernel)) (by decide +kernel)) (by decide +kernel)) (iv_pl (iv_mulp (lo := 10) (hi := 120000) hn r2_ (by decide +kernel)) (by decide +kernel)) (iv_gt (iv_mul (lo := (-17280000)) (hi := 17280000) 120 144000 r1_ (iv_sub (lo := (-119950)) (hi := 144000) (iv_mulp (lo := 50) (hi := 24000) hw r2_ (by decide +kernel)) (iv_mul (lo := (-120000)) (hi := 120000) 120 1000 hb hn (by decide +kernel)) (by decide +kernel)) (by decide +kernel)) (by decide +kernel)) ?_
    refine j_l2i S dX1_stepBeside_57 ?_
    refine j_goto (tgt := 62) S dX1_stepBeside_58 (by decide) ?_
    exact hret (Int.tdiv ((H x1) * ((w * (H x2)) - (b * n))) (n * (H x2))) 62 _ (sp_eq_1 (by have : 10 ≤ n * H x2 ∧ n * H x2 ≤ 120000 := (iv_mulp (lo := 10) (hi := 120000) hn r2_ (by decide +kernel)); omega) c48).symm dX1_stepBeside_62
abbrev rmX1_compound : Room := { frames := 2, cells := 0, slots := 0, locals := 45 }
theorem hdX1_compound : yX1_compound.cls ≠ "java/lang/invoke/MethodHandle" ∧ yX1_compound.cls ≠ "java/lang/invoke/VarHandle" ∧ (parseMethodDescriptor yX1_compound.desc).map (fun d => d.parameters.length) = some 2 := by decide +kernel
set_option maxHeartbeats 4000000 in
set_option maxRecDepth 100000 in
theorem c_X1_compound (l : Launch) (D : va_G) (h a0 a1 a2 a3 : Nat) (cA : ClassId) (H T E F : Int → Int) (cc gc w d v : Int) (hok : SOK H T E cc gc w d v) (n : Int) (what : Int) (hn : inI n) (hwhat : inI what) : MI l yX1_compound wsX1_compound rmX1_compound [.ref h, jI n, jI what] (WB D (MW h a0 a1 a2 a3 cA H T E F cc gc w d v) cA) (fun rR => P_compound w cc H n what rR) := by
  refine MI_of (cc := cX1_compound) (maxL := 8) (by decide) rfl (Nat.le_of_ble_eq_true rfl) ?_
  intro pP eE sS mM aA bL mT cC QQ ls S hret ⟨hP, hK⟩ hl
  obtain ⟨hcc, hgc, hw, hd, hv, hH, hT, hE⟩ := id hok
  have hin : ∀ w ∈ wsX10, w ∈ wsX1_compound := fun w hw => List.mem_cons_of_mem _ (List.mem_append_right _ hw)
  have hl : lv_has ls 8 [(0, .ref h), (1, jI n), (2, jI what)] := hl
  refine j_iload_n S dX1_compound_0 rfl (lv_at hl 1 rfl) ?_
  refine j_csi (As := [jI n]) S (c_X1_isParts l n (iv_w hn (by decide +kernel))) (va_cwS 1 S.2.2.2.2 gX1_compound_X1_isParts rfl rfl rfl hdX1_isParts ⟨Nat.le_of_ble_eq_true rfl, Nat.le_of_ble_eq_true rfl⟩) [] rfl rfl hl.1 (Nat.le_of_ble_eq_true rfl) ⟨Nat.zero_le _, Nat.zero_le _⟩ dX1_compound_1 (fun i1 q1 => ?_)
  subst q1
  refine j_ifb_eq (tgt := 19) S dX1_compound_4 (by decide) (fun c4 => ?_) (fun c4 => ?_)
  · refine j_ldc (n := (-1000000002)) S (S.2.2.2.2 _ (List.mem_of_getElem? (i := 2) rfl)) (by decide) dX1_compound_19 ?_
    exact hret (-1000000002) 21 _ (Or.inl ⟨by omega, rfl⟩) dX1_compound_21
  · have r1_ : 2 ≤ n ∧ n ≤ 1000 := by omega
    refine j_iload_n S dX1_compound_7 rfl (lv_at hl 2 rfl) ?_
    refine j_i2l S dX1_compound_8 (iv_i hwhat (by decide +kernel)) ?_
    refine j_lconst (a := 0) S dX1_compound_9 rfl ?_
    refine j_ldc2 (n := 3) S (S.2.2.2.2 _ (List.mem_of_getElem? (i := 1) rfl)) (by decide) dX1_compound_10 ?_
    refine j_csi (As := [jL what, jL 0, jL 3]) S (c_X1_in l what 0 3 (iv_w hwhat (by decide +kernel)) (iv_w (iv_n 0) (by decide +kernel)) (iv_w (iv_n 3) (by decide +kernel))) (va_cwS 3 S.2.2.2.2 gX1_compound_X1_in rfl rfl rfl hdX1_in ⟨Nat.le_of_ble_eq_true rfl, Nat.le_of_ble_eq_true rfl⟩) [] rfl rfl hl.1 (Nat.le_of_ble_eq_true rfl) ⟨Nat.zero_le _, Nat.zero_le _⟩ dX1_compound_13 (fun i13 q13 => ?_)
    subst q13
    refine j_ifb_ne (tgt := 22) S dX1_compound_16 (by decide) (fun c16 => ?_) (fun c16 => ?_)
    · have r2_ : 0 ≤ what ∧ what ≤ 3 := by omega
      refine j_iconst S dX1_compound_22 ?_
      refine j_istore_n (lv' := [(3, jI 0), (0, .ref h), (1, jI n), (2, jI what)]) S dX1_compound_23 rfl hl (by decide) rfl (fun ls hl => ?_)
      have loop24 : ∀ (N : Nat) (x1 : Int) (ls : Array Slot), (0 ≤ x1 ∧ x1 ≤ 8) → (x1 ≤ cc) → (∀ h' k', 0 ≤ h' → h' < x1 → h' < k' → k' < cc → sp_sec w H n h' k' = 0) → cc - x1 < (N : Int) → lv_has ls 8 [(3, jI x1), (0, .ref h), (1, jI n), (2, jI what)] → W pP l eE rmX1_compound sS mM aA bL mT cC sS.heap [] 0 0 QQ (F0 mM 24 ls []) := by
        intro N
        induction N with
        | zero =>
          intro x1 ls hx1 hx1c hz hN
          exact absurd hN (by omega)
        | succ N ih24 =>
          intro x1 ls hx1 hx1c hz hN hl
          refine j_iload_n S dX1_compound_24 rfl (lv_at hl 0 rfl) ?_
          refine lv_aload_n S.1 S.2.1 dX1_compound_25 rfl (lv_at hl 1 rfl) ?_
          refine j_get (v := jI cc) S hin hK hP rfl rfl 1 (by decide) (List.mem_of_getElem? (i := 3) rfl) rfl dX1_compound_26 ?_
          refine j_icmp_ge (tgt := 151) S dX1_compound_29 (by decide) (iv_i hx1 (by decide +kernel)) (iv_i hcc (by decide +kernel)) (fun c29 => ?_) (fun c29 => ?_)
          · refine j_ldc (n := (-1000000005)) S (S.2.2.2.2 _ (List.mem_of_getElem? (i := 5) rfl)) (by decide) dX1_compound_151 ?_
            exact hret (-1000000005) 153 _ (Or.inr (Or.inl ⟨by omega, (fun h' k' a1 a2 a3 => hz h' k' a1 (by omega) a2 a3), rfl⟩)) dX1_compound_153
          · have r3_ : 0 ≤ x1 ∧ x1 ≤ 7 := by omega
            have r4_ : 1 ≤ cc ∧ cc ≤ 8 := by omega
            refine j_iload_n S dX1_compound_32 rfl (lv_at hl 0 rfl) ?_
            refine j_iconst S dX1_compound_33 ?_
            refine j_iadd S dX1_compound_34 ?_
            refine j_istore (lv' := [(4, jI (x1 + 1)), (3, jI x1), (0, .ref h), (1, jI n), (2, jI what)]) S dX1_compound_35 hl (by decide) rfl (fun ls hl => ?_)
            have loop37 : ∀ (N : Nat) (x2 : Int) (ls : Array Slot), (0 ≤ x2 ∧ x2 ≤ 8) → (x1 < x2 ∧ x2 ≤ cc) → (∀ k', x1 < k' → k' < x2 → sp_sec w H n x1 k' = 0) → cc - x2 < (N : Int) → lv_has ls 8 [(4, jI x2), (3, jI x1), (0, .ref h), (1, jI n), (2, jI what)] → W pP l eE rmX1_compound sS mM aA bL mT cC sS.heap [] 0 0 QQ (F0 mM 37 ls []) := by
              intro N
              induction N with
              | zero =>
                intro x2 ls hx2 hx2b hz2 hN
                exact absurd hN (by omega)
              | succ N ih37 =>
                intro x2 ls hx2 hx2b hz2 hN hl
                refine j_iload S dX1_compound_37 (lv_at hl 0 rfl) ?_
                refine lv_aload_n S.1 S.2.1 dX1_compound_39 rfl (lv_at hl 2 rfl) ?_
                refine j_get (v := jI cc) S hin hK hP rfl rfl 1 (by decide) (List.mem_of_getElem? (i := 3) rfl) rfl dX1_compound_40 ?_
                refine j_icmp_ge (tgt := 145) S dX1_compound_43 (by decide) (iv_i hx2 (by decide +kernel)) (iv_i r4_ (by decide +kernel)) (fun c43 => ?_) (fun c43 => ?_)
                · have r5_ : 1 ≤ x2 ∧ x2 ≤ 8 := by omega
                  refine j_iinc (k := 1) (y := (x1 + 1)) (lv' := [(3, jI (x1 + 1)), (4, jI x2), (0, .ref h), (1, jI n), (2, jI what)]) S dX1_compound_145 hl rfl rfl (by decide) rfl (fun ls hl => ?_)
                  refine j_goto (tgt := 24) S dX1_compound_148 (by decide) ?_
                  exact ih24 (x1 + 1) _ (by omega) (by omega) (fun h' k' a1 a2 a3 a4 => by by_cases e : h' = x1; rw [e]; exact hz2 k' (by omega) (by omega); exact hz h' k' a1 (by omega) a3 a4) (by omega) (lv_sub hl [0, 2, 3, 4] rfl)
                · have r6_ : 0 ≤ x2 ∧ x2 ≤ 7 := by omega
                  refine j_iconst S dX1_compound_46 ?_
                  refine j_istore (lv' := [(5, jI 1), (4, jI x2), (3, jI x1), (0, .ref h), (1, jI n), (2, jI what)]) S dX1_compound_47 hl (by decide) rfl (fun ls hl => ?_)
                  have loop49 : ∀ (N : Nat) (k : Int) (ls : Array Slot), (1 ≤ k ∧ k ≤ 121) → (k ≤ H x2 + 1) → (sp_ss w (H x1) (H x2) n k = sp_ss w (H x1) (H x2) n 1) → H x2 + 1 - k < (N : Int) → lv_has ls 8 [(5, jI k), (4, jI x2), (3, jI x1), (0, .ref h), (1, jI n), (2, jI what)] → W pP l eE rmX1_compound sS mM aA bL mT cC sS.heap [] 0 0 QQ (F0 mM 49 ls []) := by
                    intro N
                    induction N with
                    | zero =>
                      intro k ls hk hk2 hs hN
                      exact absurd hN (by omega)
                    | succ N ih49 =>
                      intro k ls hk hk2 hs hN hl
                      refine j_iload S dX1_compound_49 (lv_at hl 0 rfl) ?_
                      refine lv_aload_n S.1 S.2.1 dX1_compound_51 rfl (lv_at hl 3 rfl) ?_
                      refine j_get (v := .ref a0) S hin hK hP rfl rfl 2 (by decide) (List.mem_of_getElem? (i := 4) rfl) rfl dX1_compound_52 ?_
                      refine j_iload S dX1_compound_55 (lv_at hl 1 rfl) ?_
                      refine j_iald S hK hP 1 0 rfl rfl (iv_ix (n := 8) r6_ (by decide +kernel)) dX1_compound_57 ?_
                      have r7_ := hH x2 (by omega) (by omega)
                      refine j_icmp_gt (tgt := 139) S dX1_compound_58 (by decide) (iv_i hk (by decide +kernel)) (iv_i r7_ (by decide +kernel)) (fun c58 => ?_) (fun c58 => ?_)
                      · have r8_ : 6 ≤ k ∧ k ≤ 121 := by omega
                        refine j_iinc (k := 1) (y := (x2 + 1)) (lv' := [(4, jI (x2 + 1)), (5, jI k), (3, jI x1), (0, .ref h), (1, jI n), (2, jI what)]) S dX1_compound_139 hl rfl rfl (by decide) rfl (fun ls hl => ?_)
                        refine j_goto (tgt := 37) S dX1_compound_142 (by decide) ?_
                        exact ih37 (x2 + 1) _ (by omega) (by omega) (fun k' a1 a2 => by by_cases e : k' = x2; rw [e]; unfold sp_sec; rw [← hs, sp_ss_end (by omega)]; exact hz2 k' a1 (by omega)) (by omega) (lv_sub hl [0, 2, 3, 4, 5] rfl)
                      · have r9_ : 1 ≤ k ∧ k ≤ 120 := by omega
                        refine j_iload S dX1_compound_61 (lv_at hl 0 rfl) ?_
                        refine j_istore (lv' := [(6, jI k), (5, jI k), (4, jI x2), (3, jI x1), (0, .ref h), (1, jI n), (2, jI what)]) S dX1_compound_63 hl (by decide) rfl (fun ls hl => ?_)
                        refine j_iload S dX1_compound_65 (lv_at hl 0 rfl) ?_
                        refine j_iload S dX1_compound_67 (lv_at hl 1 rfl) ?_
                        refine j_ineg S dX1_compound_69 ?_
                        refine j_icmp_lt (tgt := 133) S dX1_compound_70 (by decide) (iv_i r9_ (by decide +kernel)) (iv_i (iv_neg (lo := (-120)) (hi := (-1)) r9_ (by decide +kernel)) (by decide +kernel)) (fun z9 => by have : 1 ≤ k ∧ k ≤ 120 := r9_; have : (-120) ≤ (-k) ∧ (-k) ≤ (-1) := (iv_neg (lo := (-120)) (hi := (-1)) r9_ (by decide +kernel)); omega) (fun c70 => ?_)
                        refine lv_aload_n S.1 S.2.1 dX1_compound_73 rfl (lv_at hl 4 rfl) ?_
                        refine j_iload_n S dX1_compound_74 rfl (lv_at hl 5 rfl) ?_
                        refine j_iload_n S dX1_compound_75 rfl (lv_at hl 3 rfl) ?_
                        refine j_iload S dX1_compound_76 (lv_at hl 2 rfl) ?_
                        refine j_iload S dX1_compound_78 (lv_at hl 0 rfl) ?_
                        refine j_cvi (As := [jI n, jI x1, jI x2, jI k]) (ci := 1) S (c_X1_stepBeside l D h a0 a1 a2 a3 cA H T E F cc gc w d v hok n x1 x2 k (iv_w r1_ (by decide +kernel)) (iv_w r3_ (by decide +kernel)) (iv_w r6_ (by decide +kernel)) (iv_w r9_ (by decide +kernel)) (by omega) (by omega)) (cwV 4 S.2.2.2.2 gX1_compound_X1_stepBeside rfl rfl rfl ⟨rfl, hdX1_stepBeside⟩ ⟨Nat.le_of_ble_eq_true rfl, Nat.le_of_ble_eq_true rfl⟩) hK hP rfl rfl rfl [] rfl rfl hl.1 (Nat.le_of_ble_eq_true rfl) ⟨Nat.zero_le _, Nat.zero_le _⟩ dX1_compound_80 (fun i80 q80 => ?_)
                        subst q80
                        have r10_ : (-17280000) ≤ (sp_fs w (H x1) (H x2) n k) ∧ (sp_fs w (H x1) (H x2) n k) ≤ 17280000 := sp_fs_iv hw (hH x1 (by omega) (by omega)) (hH x2 (by omega) (by omega)) (iv_w (lo := 2) (hi := 1000) r1_ (by decide +kernel)) (iv_w (lo := (-120)) (hi := 120) r9_ (by decide +kernel))
                        refine j_istore (lv' := [(7, jI (sp_fs w (H x1) (H x2) n k)), (6, jI k), (5, jI k), (4, jI x2), (3, jI x1), (0, .ref h), (1, jI n), (2, jI what)]) S dX1_compound_83 hl (by decide) rfl (fun ls hl => ?_)
                        refine j_iload S dX1_compound_85 (lv_at hl 0 rfl) ?_
                        refine j_if_eq (tgt := 121) S dX1_compound_87 (by decide) (iv_i r10_ (by decide +kernel)) (fun c87 => ?_) (fun c87 => ?_)
                        · have r11_ : 0 ≤ (sp_fs w (H x1) (H x2) n k) ∧ (sp_fs w (H x1) (H x2) n k) ≤ 0 := by omega
                          refine j_iload S dX1_compound_121 (lv_at hl 1 rfl) ?_
                          refine j_iconst S dX1_compound_123 ?_
                          refine j_iload S dX1_compound_124 (lv_at hl 2 rfl) ?_
                          refine j_imul S dX1_compound_126 ?_
                          refine j_isub S dX1_compound_127 ?_
                          refine j_as (b := (-k)) (by omega) ?_
                          refine j_istore (lv' := [(6, jI (-k)), (7, jI (sp_fs w (H x1) (H x2) n k)), (5, jI k), (4, jI x2), (3, jI x1), (0, .ref h), (1, jI n), (2, jI what)]) S dX1_compound_128 hl (by decide) rfl (fun ls hl => ?_)
                          refine j_goto (tgt := 65) S dX1_compound_130 (by decide) ?_
                          refine j_iload S dX1_compound_65 (lv_at hl 0 rfl) ?_
                          refine j_iload S dX1_compound_67 (lv_at hl 2 rfl) ?_
                          refine j_ineg S dX1_compound_69 ?_
                          refine j_icmp_lt (tgt := 133) S dX1_compound_70 (by decide) (iv_i (iv_neg (lo := (-120)) (hi := (-1)) r9_ (by decide +kernel)) (by decide +kernel)) (iv_i (iv_neg (lo := (-120)) (hi := (-1)) r9_ (by decide +kernel)) (by decide +kernel)) (fun z9 => by have : (-120) ≤ (-k) ∧ (-k) ≤ (-1) := (iv_neg (lo := (-120)) (hi := (-1)) r9_ (by decide +kernel)); have : (-120) ≤ (-k) ∧ (-k) ≤ (-1) := (iv_neg (lo := (-120)) (hi := (-1)) r9_ (by decide +kernel)); omega) (fun c70_2 => ?_)
                          refine lv_aload_n S.1 S.2.1 dX1_compound_73 rfl (lv_at hl 5 rfl) ?_
                          refine j_iload_n S dX1_compound_74 rfl (lv_at hl 6 rfl) ?_
                          refine j_iload_n S dX1_compound_75 rfl (lv_at hl 4 rfl) ?_
                          refine j_iload S dX1_compound_76 (lv_at hl 3 rfl) ?_
                          refine j_iload S dX1_compound_78 (lv_at hl 0 rfl) ?_
                          refine j_cvi (As := [jI n, jI x1, jI x2, jI (-k)]) (ci := 1) S (c_X1_stepBeside l D h a0 a1 a2 a3 cA H T E F cc gc w d v hok n x1 x2 (-k) (iv_w r1_ (by decide +kernel)) (iv_w r3_ (by decide +kernel)) (iv_w r6_ (by decide +kernel)) (iv_w (iv_neg (lo := (-120)) (hi := (-1)) r9_ (by decide +kernel)) (by decide +kernel)) (by omega) (by omega)) (cwV 4 S.2.2.2.2 gX1_compound_X1_stepBeside rfl rfl rfl ⟨rfl, hdX1_stepBeside⟩ ⟨Nat.le_of_ble_eq_true rfl, Nat.le_of_ble_eq_true rfl⟩) hK hP rfl rfl rfl [] rfl rfl hl.1 (Nat.le_of_ble_eq_true rfl) ⟨Nat.zero_le _, Nat.zero_le _⟩ dX1_compound_80 (fun i80_2 q80_2 => ?_)
                          subst q80_2
                          have r12_ : (-17280000) ≤ (sp_fs w (H x1) (H x2) n (-k)) ∧ (sp_fs w (H x1) (H x2) n (-k)) ≤ 17280000 := sp_fs_iv hw (hH x1 (by omega) (by omega)) (hH x2 (by omega) (by omega)) (iv_w (lo := 2) (hi := 1000) r1_ (by decide +kernel)) (iv_w (lo := (-120)) (hi := 120) (iv_neg (lo := (-120)) (hi := (-1)) r9_ (by decide +kernel)) (by decide +kernel))
                          refine j_istore (lv' := [(7, jI (sp_fs w (H x1) (H x2) n (-k))), (6, jI (-k)), (5, jI k), (4, jI x2), (3, jI x1), (0, .ref h), (1, jI n), (2, jI what)]) S dX1_compound_83 hl (by decide) rfl (fun ls hl => ?_)
                          refine j_iload S dX1_compound_85 (lv_at hl 0 rfl) ?_
                          refine j_if_eq (tgt := 121) S dX1_compound_87 (by decide) (iv_i r12_ (by decide +kernel)) (fun c87_2 => ?_) (fun c87_2 => ?_)
                          · have r13_ : 0 ≤ (sp_fs w (H x1) (H x2) n (-k)) ∧ (sp_fs w (H x1) (H x2) n (-k)) ≤ 0 := by omega
                            refine j_iload S dX1_compound_121 (lv_at hl 1 rfl) ?_
                            refine j_iconst S dX1_compound_123 ?_
                            refine j_iload S dX1_compound_124 (lv_at hl 2 rfl) ?_
                            refine j_imul S dX1_compound_126 ?_
                            refine j_isub S dX1_compound_127 ?_
                            refine j_istore (lv' := [(6, jI ((-k) - (2 * k))), (7, jI (sp_fs w (H x1) (H x2) n (-k))), (5, jI k), (4, jI x2), (3, jI x1), (0, .ref h), (1, jI n), (2, jI what)]) S dX1_compound_128 hl (by decide) rfl (fun ls hl => ?_)
                            refine j_goto (tgt := 65) S dX1_compound_130 (by decide) ?_
                            refine j_iload S dX1_compound_65 (lv_at hl 0 rfl) ?_
                            refine j_iload S dX1_compound_67 (lv_at hl 2 rfl) ?_
                            refine j_ineg S dX1_compound_69 ?_
                            refine j_icmp_lt (tgt := 133) S dX1_compound_70 (by decide) (iv_i (iv_sub (lo := (-360)) (hi := (-3)) (iv_neg (lo := (-120)) (hi := (-1)) r9_ (by decide +kernel)) (iv_mulp (lo := 2) (hi := 240) (iv_n 2) r9_ (by decide +kernel)) (by decide +kernel)) (by decide +kernel)) (iv_i (iv_neg (lo := (-120)) (hi := (-1)) r9_ (by decide +kernel)) (by decide +kernel)) (fun c70_3 => ?_) (fun z9 => by omega)
                            refine j_iinc (k := 2) (y := (k + 1)) (lv' := [(5, jI (k + 1)), (6, jI ((-k) - (2 * k))), (7, jI (sp_fs w (H x1) (H x2) n (-k))), (4, jI x2), (3, jI x1), (0, .ref h), (1, jI n), (2, jI what)]) S dX1_compound_133 hl rfl rfl (by decide) rfl (fun ls hl => ?_)
                            refine j_goto (tgt := 49) S dX1_compound_136 (by decide) ?_
                            exact ih49 (k + 1) _ (by omega) (by omega) (by rw [← hs, sp_ss_s (s := k) (by omega), if_neg (fun q => q c87), if_neg (fun q => q c87_2)]) (by omega) (lv_sub hl [0, 3, 4, 5, 6, 7] rfl)
                          · refine j_iload_n S dX1_compound_90 rfl (lv_at hl 7 rfl) ?_
                            refine j_if_ne (tgt := 98) S dX1_compound_91 (by decide) (iv_i r2_ (by decide +kernel)) (fun c91 => ?_) (fun c91 => ?_)
                            · have r14_ : 1 ≤ what ∧ what ≤ 3 := by omega
                              refine j_iload_n S dX1_compound_98 rfl (lv_at hl 7 rfl) ?_
                              refine j_iconst S dX1_compound_99 ?_
                              refine j_icmp_ne (tgt := 108) S dX1_compound_100 (by decide) (iv_i r14_ (by decide +kernel)) (iv_i (iv_n 1) (by decide +kernel)) (fun c100 => ?_) (fun c100 => ?_)
                              · have r15_ : 2 ≤ what ∧ what ≤ 3 := by omega
                                refine j_iload_n S dX1_compound_108 rfl (lv_at hl 7 rfl) ?_
                                refine j_iconst S dX1_compound_109 ?_
                                refine j_icmp_ne (tgt := 118) S dX1_compound_110 (by decide) (iv_i r15_ (by decide +kernel)) (iv_i (iv_n 2) (by decide +kernel)) (fun c110 => ?_) (fun c110 => ?_)
                                · have r16_ : 3 ≤ what ∧ what ≤ 3 := by omega
                                  refine j_iload S dX1_compound_118 (lv_at hl 1 rfl) ?_
                                  exact hret (-k) 120 _ (by have e : sp_sec w H n x1 x2 = (-k) := (by unfold sp_sec; rw [← hs, sp_ss_s (by omega), if_neg (fun q => q c87), if_pos c87_2]); exact Or.inr (Or.inr ⟨by omega, x1, x2, ⟨by omega, by omega, by omega⟩, by omega, (fun h' k' a1 a2 a3 a4 => by rcases a4 with a4 | ⟨a4, a5⟩; exact hz h' k' a1 a4 a2 a3; rw [a4]; exact hz2 k' (by omega) a5), by rw [e]; unfold sp_ct; (repeat' split) <;> omega⟩)) dX1_compound_120
                                · have r17_ : 2 ≤ what ∧ what ≤ 2 := by omega
                                  refine j_iload S dX1_compound_113 (lv_at hl 3 rfl) ?_
                                  refine j_goto (tgt := 120) S dX1_compound_115 (by decide) ?_
                                  exact hret x2 120 _ (by have e : sp_sec w H n x1 x2 = (-k) := (by unfold sp_sec; rw [← hs, sp_ss_s (by omega), if_neg (fun q => q c87), if_pos c87_2]); exact Or.inr (Or.inr ⟨by omega, x1, x2, ⟨by omega, by omega, by omega⟩, by omega, (fun h' k' a1 a2 a3 a4 => by rcases a4 with a4 | ⟨a4, a5⟩; exact hz h' k' a1 a4 a2 a3; rw [a4]; exact hz2 k' (by omega) a5), by rw [e]; unfold sp_ct; (repeat' split) <;> omega⟩)) dX1_compound_120
                              · have r18_ : 1 ≤ what ∧ what ≤ 1 := by omega
                                refine j_iload S dX1_compound_103 (lv_at hl 0 rfl) ?_
                                refine j_goto (tgt := 120) S dX1_compound_105 (by decide) ?_
                                exact hret (sp_fs w (H x1) (H x2) n (-k)) 120 _ (by have e : sp_sec w H n x1 x2 = (-k) := (by unfold sp_sec; rw [← hs, sp_ss_s (by omega), if_neg (fun q => q c87), if_pos c87_2]); exact Or.inr (Or.inr ⟨by omega, x1, x2, ⟨by omega, by omega, by omega⟩, by omega, (fun h' k' a1 a2 a3 a4 => by rcases a4 with a4 | ⟨a4, a5⟩; exact hz h' k' a1 a4 a2 a3; rw [a4]; exact hz2 k' (by omega) a5), by rw [e]; unfold sp_ct; (repeat' split) <;> omega⟩)) dX1_compound_120
                            · have r19_ : 0 ≤ what ∧ what ≤ 0 := by omega
                              refine j_iload_n S dX1_compound_94 rfl (lv_at hl 4 rfl) ?_
                              refine j_goto (tgt := 120) S dX1_compound_95 (by decide) ?_
                              exact hret x1 120 _ (by have e : sp_sec w H n x1 x2 = (-k) := (by unfold sp_sec; rw [← hs, sp_ss_s (by omega), if_neg (fun q => q c87), if_pos c87_2]); exact Or.inr (Or.inr ⟨by omega, x1, x2, ⟨by omega, by omega, by omega⟩, by omega, (fun h' k' a1 a2 a3 a4 => by rcases a4 with a4 | ⟨a4, a5⟩; exact hz h' k' a1 a4 a2 a3; rw [a4]; exact hz2 k' (by omega) a5), by rw [e]; unfold sp_ct; (repeat' split) <;> omega⟩)) dX1_compound_120
                        · refine j_iload_n S dX1_compound_90 rfl (lv_at hl 7 rfl) ?_
                          refine j_if_ne (tgt := 98) S dX1_compound_91 (by decide) (iv_i r2_ (by decide +kernel)) (fun c91 => ?_) (fun c91 => ?_)
                          · have r20_ : 1 ≤ what ∧ what ≤ 3 := by omega
                            refine j_iload_n S dX1_compound_98 rfl (lv_at hl 7 rfl) ?_
                            refine j_iconst S dX1_compound_99 ?_
                            refine j_icmp_ne (tgt := 108) S dX1_compound_100 (by decide) (iv_i r20_ (by decide +kernel)) (iv_i (iv_n 1) (by decide +kernel)) (fun c100 => ?_) (fun c100 => ?_)
                            · have r21_ : 2 ≤ what ∧ what ≤ 3 := by omega
                              refine j_iload_n S dX1_compound_108 rfl (lv_at hl 7 rfl) ?_
                              refine j_iconst S dX1_compound_109 ?_
                              refine j_icmp_ne (tgt := 118) S dX1_compound_110 (by decide) (iv_i r21_ (by decide +kernel)) (iv_i (iv_n 2) (by decide +kernel)) (fun c110 => ?_) (fun c110 => ?_)
                              · have r22_ : 3 ≤ what ∧ what ≤ 3 := by omega
                                refine j_iload S dX1_compound_118 (lv_at hl 1 rfl) ?_
                                exact hret k 120 _ (by have e : sp_sec w H n x1 x2 = k := (by unfold sp_sec; rw [← hs, sp_ss_s (by omega), if_pos c87]); exact Or.inr (Or.inr ⟨by omega, x1, x2, ⟨by omega, by omega, by omega⟩, by omega, (fun h' k' a1 a2 a3 a4 => by rcases a4 with a4 | ⟨a4, a5⟩; exact hz h' k' a1 a4 a2 a3; rw [a4]; exact hz2 k' (by omega) a5), by rw [e]; unfold sp_ct; (repeat' split) <;> omega⟩)) dX1_compound_120
                              · have r23_ : 2 ≤ what ∧ what ≤ 2 := by omega
                                refine j_iload S dX1_compound_113 (lv_at hl 3 rfl) ?_
                                refine j_goto (tgt := 120) S dX1_compound_115 (by decide) ?_
                                exact hret x2 120 _ (by have e : sp_sec w H n x1 x2 = k := (by unfold sp_sec; rw [← hs, sp_ss_s (by omega), if_pos c87]); exact Or.inr (Or.inr ⟨by omega, x1, x2, ⟨by omega, by omega, by omega⟩, by omega, (fun h' k' a1 a2 a3 a4 => by rcases a4 with a4 | ⟨a4, a5⟩; exact hz h' k' a1 a4 a2 a3; rw [a4]; exact hz2 k' (by omega) a5), by rw [e]; unfold sp_ct; (repeat' split) <;> omega⟩)) dX1_compound_120
                            · have r24_ : 1 ≤ what ∧ what ≤ 1 := by omega
                              refine j_iload S dX1_compound_103 (lv_at hl 0 rfl) ?_
                              refine j_goto (tgt := 120) S dX1_compound_105 (by decide) ?_
                              exact hret (sp_fs w (H x1) (H x2) n k) 120 _ (by have e : sp_sec w H n x1 x2 = k := (by unfold sp_sec; rw [← hs, sp_ss_s (by omega), if_pos c87]); exact Or.inr (Or.inr ⟨by omega, x1, x2, ⟨by omega, by omega, by omega⟩, by omega, (fun h' k' a1 a2 a3 a4 => by rcases a4 with a4 | ⟨a4, a5⟩; exact hz h' k' a1 a4 a2 a3; rw [a4]; exact hz2 k' (by omega) a5), by rw [e]; unfold sp_ct; (repeat' split) <;> omega⟩)) dX1_compound_120
                          · have r25_ : 0 ≤ what ∧ what ≤ 0 := by omega
                            refine j_iload_n S dX1_compound_94 rfl (lv_at hl 4 rfl) ?_
                            refine j_goto (tgt := 120) S dX1_compound_95 (by decide) ?_
                            exact hret x1 120 _ (by have e : sp_sec w H n x1 x2 = k := (by unfold sp_sec; rw [← hs, sp_ss_s (by omega), if_pos c87]); exact Or.inr (Or.inr ⟨by omega, x1, x2, ⟨by omega, by omega, by omega⟩, by omega, (fun h' k' a1 a2 a3 a4 => by rcases a4 with a4 | ⟨a4, a5⟩; exact hz h' k' a1 a4 a2 a3; rw [a4]; exact hz2 k' (by omega) a5), by rw [e]; unfold sp_ct; (repeat' split) <;> omega⟩)) dX1_compound_120
                  exact loop49 122 1 _ (by omega) (by have := hH x2 (by omega) (by omega); omega) rfl (by have := hH x2 (by omega) (by omega); omega) (lv_sub hl [0, 1, 2, 3, 4, 5] rfl)
            exact loop37 9 (x1 + 1) _ (by omega) (by omega) (fun k' a1 a2 => absurd a2 (by omega)) (by omega) (lv_sub hl [0, 1, 2, 3, 4] rfl)
      exact loop24 9 0 _ (by omega) (by omega) (fun h' k' a1 a2 => absurd a2 (by omega)) (by omega) (lv_sub hl [0, 1, 2, 3] rfl)
    · refine j_ldc (n := (-1000000002)) S (S.2.2.2.2 _ (List.mem_of_getElem? (i := 2) rfl)) (by decide) dX1_compound_19 ?_
      exact hret (-1000000002) 21 _ (Or.inl ⟨by omega, rfl⟩) dX1_compound_21
abbrev rmX1_holeOf : Room := { frames := 0, cells := 0, slots := 0, locals := 0 }
theorem hdX1_holeOf : yX1_holeOf.cls ≠ "java/lang/invoke/MethodHandle" ∧ yX1_holeOf.cls ≠ "java/lang/invoke/VarHandle" ∧ (parseMethodDescriptor yX1_holeOf.desc).map (fun d => d.parameters.length) = some 3 := by decide +kernel
set_option maxHeartbeats 4000000 in
set_option maxRecDepth 100000 in
theorem c_X1_holeOf (l : Launch) (D : va_G) (h a0 a1 a2 a3 : Nat) (cA : ClassId) (H T E F : Int → Int) (cc gc w d v : Int) (hok : SOK H T E cc gc w d v) (x : Int) (n : Int) (i : Int) (hx : 0 ≤ x ∧ x ≤ 7) (hn : 2 ≤ n ∧ n ≤ 1000) (hi : 0 ≤ i ∧ i ≤ 1000) (hxc : x < cc) : ML l yX1_holeOf wsX1_holeOf rmX1_holeOf [.ref h, jI x, jI n, jI i] (WB D (MW h a0 a1 a2 a3 cA H T E F cc gc w d v) cA) (fun rR => rR = sp_hn w (H x) n i) := by
  refine ML_of (cc := cX1_holeOf) (maxL := 4) (by decide) rfl (Nat.le_of_ble_eq_true rfl) ?_
  intro pP eE sS mM aA bL mT cC QQ ls S hret ⟨hP, hK⟩ hl
  obtain ⟨hcc, hgc, hw, hd, hv, hH, hT, hE⟩ := id hok
  have hin : ∀ w ∈ wsX10, w ∈ wsX1_holeOf := fun w hw => List.mem_cons_of_mem _ (List.mem_append_right _ hw)
  have hl : lv_has ls 4 [(0, .ref h), (1, jI x), (2, jI n), (3, jI i)] := hl
  refine j_ldc2 (n := 2) S (S.2.2.2.2 _ (List.mem_of_getElem? (i := 1) rfl)) (by decide) dX1_holeOf_0 ?_
  refine j_iload_n S dX1_holeOf_3 rfl (lv_at hl 3 rfl) ?_
  refine j_i2l S dX1_holeOf_4 (iv_i hi (by decide +kernel)) ?_
  refine j_lmul S dX1_holeOf_5 ?_
  refine lv_aload_n S.1 S.2.1 dX1_holeOf_6 rfl (lv_at hl 0 rfl) ?_
  refine j_get (v := jI w) S hin hK hP rfl rfl 0 (by decide) (List.mem_of_getElem? (i := 2) rfl) rfl dX1_holeOf_7 ?_
  refine j_i2l S dX1_holeOf_10 (iv_i hw (by decide +kernel)) ?_
  refine j_lmul S dX1_holeOf_11 ?_
  refine lv_aload_n S.1 S.2.1 dX1_holeOf_12 rfl (lv_at hl 0 rfl) ?_
  refine j_get (v := .ref a0) S hin hK hP rfl rfl 2 (by decide) (List.mem_of_getElem? (i := 3) rfl) rfl dX1_holeOf_13 ?_
  refine j_iload_n S dX1_holeOf_16 rfl (lv_at hl 1 rfl) ?_
  refine j_iald S hK hP 1 0 rfl rfl (iv_ix (n := 8) hx (by decide +kernel)) dX1_holeOf_17 ?_
  have r1_ := hH x (by omega) (by omega)
  refine j_i2l S dX1_holeOf_18 (iv_i r1_ (by decide +kernel)) ?_
  refine j_lmul S dX1_holeOf_19 ?_
  refine j_iload_n S dX1_holeOf_20 rfl (lv_at hl 2 rfl) ?_
  refine j_i2l S dX1_holeOf_21 (iv_i hn (by decide +kernel)) ?_
  refine j_ladd S dX1_holeOf_22 ?_
  refine j_ldc2 (n := 2) S (S.2.2.2.2 _ (List.mem_of_getElem? (i := 1) rfl)) (by decide) dX1_holeOf_23 ?_
  refine j_iload_n S dX1_holeOf_26 rfl (lv_at hl 2 rfl) ?_
  refine j_i2l S dX1_holeOf_27 (iv_i hn (by decide +kernel)) ?_
  refine j_lmul S dX1_holeOf_28 ?_
  refine j_ldivp S dX1_holeOf_29 (iv_l (iv_add (lo := 2) (hi := 48001000) (iv_mulp (lo := 0) (hi := 48000000) (iv_mulp (lo := 0) (hi := 400000) (iv_mulp (lo := 0) (hi := 2000) (iv_n 2) hi (by decide +kernel)) hw (by decide +kernel)) r1_ (by decide +kernel)) hn (by decide +kernel)) (by decide +kernel)) (iv_pl (iv_mulp (lo := 4) (hi := 2000) (iv_n 2) hn (by decide +kernel)) (by decide +kernel)) (iv_nn (iv_add (lo := 2) (hi := 48001000) (iv_mulp (lo := 0) (hi := 48000000) (iv_mulp (lo := 0) (hi := 400000) (iv_mulp (lo := 0) (hi := 2000) (iv_n 2) hi (by decide +kernel)) hw (by decide +kernel)) r1_ (by decide +kernel)) hn (by decide +kernel)) (by decide +kernel)) ?_
  exact hret (((((2 * i) * w) * (H x)) + n) / (2 * n)) 30 _ hn_eq dX1_holeOf_30
abbrev rmX1_missOf : Room := { frames := 1, cells := 0, slots := 0, locals := 23 }
theorem hdX1_missOf : yX1_missOf.cls ≠ "java/lang/invoke/MethodHandle" ∧ yX1_missOf.cls ≠ "java/lang/invoke/VarHandle" ∧ (parseMethodDescriptor yX1_missOf.desc).map (fun d => d.parameters.length) = some 3 := by decide +kernel
set_option maxHeartbeats 4000000 in
set_option maxRecDepth 100000 in
theorem c_X1_missOf (l : Launch) (D : va_G) (h a0 a1 a2 a3 : Nat) (cA : ClassId) (H T E F : Int → Int) (cc gc w d v : Int) (hok : SOK H T E cc gc w d v) (x : Int) (n : Int) (i : Int) (hx : 0 ≤ x ∧ x ≤ 7) (hn : 2 ≤ n ∧ n ≤ 1000) (hi : 0 ≤ i ∧ i ≤ 1000) (hxc : x < cc) : ML l yX1_missOf wsX1_missOf rmX1_missOf [.ref h, jI x, jI n, jI i] (WB D (MW h a0 a1 a2 a3 cA H T E F cc gc w d v) cA) (fun rR => rR = sp_ms w (H x) n i) := by
  refine ML_of (cc := cX1_missOf) (maxL := 4) (by decide) rfl (Nat.le_of_ble_eq_true rfl) ?_
  intro pP eE sS mM aA bL mT cC QQ ls S hret ⟨hP, hK⟩ hl
  obtain ⟨hcc, hgc, hw, hd, hv, hH, hT, hE⟩ := id hok
  have hin : ∀ w ∈ wsX10, w ∈ wsX1_missOf := fun w hw => List.mem_cons_of_mem _ (List.mem_append_right _ hw)
  have hl : lv_has ls 4 [(0, .ref h), (1, jI x), (2, jI n), (3, jI i)] := hl
  refine lv_aload_n S.1 S.2.1 dX1_missOf_0 rfl (lv_at hl 0 rfl) ?_
  refine j_iload_n S dX1_missOf_1 rfl (lv_at hl 1 rfl) ?_
  refine j_iload_n S dX1_missOf_2 rfl (lv_at hl 2 rfl) ?_
  refine j_iload_n S dX1_missOf_3 rfl (lv_at hl 3 rfl) ?_
  refine j_cvl (As := [jI x, jI n, jI i]) (ci := 1) S (c_X1_holeOf l D h a0 a1 a2 a3 cA H T E F cc gc w d v hok x n i (iv_w hx (by decide +kernel)) (iv_w hn (by decide +kernel)) (iv_w hi (by decide +kernel)) (by omega)) (cwV 3 S.2.2.2.2 gX1_missOf_X1_holeOf rfl rfl rfl ⟨rfl, hdX1_holeOf⟩ ⟨Nat.le_of_ble_eq_true rfl, Nat.le_of_ble_eq_true rfl⟩) hK hP rfl rfl rfl [] rfl rfl hl.1 (Nat.le_of_ble_eq_true rfl) ⟨Nat.zero_le _, Nat.zero_le _⟩ dX1_missOf_4 (fun i4 q4 => ?_)
  subst q4
  have r1_ : 0 ≤ (sp_hn w (H x) n i) ∧ (sp_hn w (H x) n i) ≤ 48001000 := sp_hn_iv hw (hH x (by omega) (by omega)) (iv_w (lo := 0) (hi := 1000) hi (by decide +kernel)) (iv_w (lo := 2) (hi := 1000) hn (by decide +kernel))
  refine j_iload_n S dX1_missOf_7 rfl (lv_at hl 2 rfl) ?_
  refine j_i2l S dX1_missOf_8 (iv_i hn (by decide +kernel)) ?_
  refine j_lmul S dX1_missOf_9 ?_
  refine j_iload_n S dX1_missOf_10 rfl (lv_at hl 3 rfl) ?_
  refine j_i2l S dX1_missOf_11 (iv_i hi (by decide +kernel)) ?_
  refine lv_aload_n S.1 S.2.1 dX1_missOf_12 rfl (lv_at hl 0 rfl) ?_
  refine j_get (v := jI w) S hin hK hP rfl rfl 0 (by decide) (List.mem_of_getElem? (i := 1) rfl) rfl dX1_missOf_13 ?_
  refine j_i2l S dX1_missOf_16 (iv_i hw (by decide +kernel)) ?_
  refine j_lmul S dX1_missOf_17 ?_
  refine lv_aload_n S.1 S.2.1 dX1_missOf_18 rfl (lv_at hl 0 rfl) ?_
  refine j_get (v := .ref a0) S hin hK hP rfl rfl 2 (by decide) (List.mem_of_getElem? (i := 2) rfl) rfl dX1_missOf_19 ?_
  refine j_iload_n S dX1_missOf_22 rfl (lv_at hl 1 rfl) ?_
  refine j_iald S hK hP 1 0 rfl rfl (iv_ix (n := 8) hx (by decide +kernel)) dX1_missOf_23 ?_
  have r2_ := hH x (by omega) (by omega)
  refine j_i2l S dX1_missOf_24 (iv_i r2_ (by decide +kernel)) ?_
  refine j_lmul S dX1_missOf_25 ?_
  refine j_lsub S dX1_missOf_26 ?_
  exact hret (((sp_hn w (H x) n i) * n) - ((i * w) * (H x))) 27 _ rfl dX1_missOf_27
abbrev rmX1_worstOf : Room := { frames := 2, cells := 0, slots := 0, locals := 46 }
theorem hdX1_worstOf : yX1_worstOf.cls ≠ "java/lang/invoke/MethodHandle" ∧ yX1_worstOf.cls ≠ "java/lang/invoke/VarHandle" ∧ (parseMethodDescriptor yX1_worstOf.desc).map (fun d => d.parameters.length) = some 2 := by decide +kernel
set_option maxHeartbeats 4000000 in
set_option maxRecDepth 100000 in
theorem c_X1_worstOf (l : Launch) (D : va_G) (h a0 a1 a2 a3 : Nat) (cA : ClassId) (H T E F : Int → Int) (cc gc w d v : Int) (hok : SOK H T E cc gc w d v) (x : Int) (n : Int) (hx : 0 ≤ x ∧ x ≤ 7) (hn : 2 ≤ n ∧ n ≤ 1000) (hxc : x < cc) : ML l yX1_worstOf wsX1_worstOf rmX1_worstOf [.ref h, jI x, jI n] (WB D (MW h a0 a1 a2 a3 cA H T E F cc gc w d v) cA) (fun rR => rR = sp_wu w (H x) n) := by
  refine ML_of (cc := cX1_worstOf) (maxL := 8) (by decide) rfl (Nat.le_of_ble_eq_true rfl) ?_
  intro pP eE sS mM aA bL mT cC QQ ls S hret ⟨hP, hK⟩ hl
  obtain ⟨hcc, hgc, hw, hd, hv, hH, hT, hE⟩ := id hok
  have hin : ∀ w ∈ wsX10, w ∈ wsX1_worstOf := fun w hw => List.mem_cons_of_mem _ (List.mem_append_right _ hw)
  have hl : lv_has ls 8 [(0, .ref h), (1, jI x), (2, jI n)] := hl
  refine j_lconst (a := 0) S dX1_worstOf_0 rfl ?_
  refine j_lstore_n (lv' := [(3, jL 0), (0, .ref h), (1, jI x), (2, jI n)]) S dX1_worstOf_1 rfl hl (by decide) rfl (fun ls hl => ?_)
  refine j_iconst S dX1_worstOf_2 ?_
  refine j_istore (lv' := [(5, jI 0), (3, jL 0), (0, .ref h), (1, jI x), (2, jI n)]) S dX1_worstOf_3 hl (by decide) rfl (fun ls hl => ?_)
  have loop5 : ∀ (N : Nat) (b k : Int) (ls : Array Slot), (0 ≤ k ∧ k ≤ 1001) → (k ≤ n + 1) → (b = sp_wf w (H x) n k) → (0 ≤ b ∧ b ≤ 500) → n + 1 - k < (N : Int) → lv_has ls 8 [(5, jI k), (3, jL b), (0, .ref h), (1, jI x), (2, jI n)] → W pP l eE rmX1_worstOf sS mM aA bL mT cC sS.heap [] 0 0 QQ (F0 mM 5 ls []) := by
    intro N
    induction N with
    | zero =>
      intro b k ls hk hk2 hb hbi hN
      exact absurd hN (by omega)
    | succ N ih5 =>
      intro b k ls hk hk2 hb hbi hN hl
      refine j_iload S dX1_worstOf_5 (lv_at hl 0 rfl) ?_
      refine j_iload_n S dX1_worstOf_7 rfl (lv_at hl 4 rfl) ?_
      refine j_icmp_gt (tgt := 58) S dX1_worstOf_8 (by decide) (iv_i hk (by decide +kernel)) (iv_i hn (by decide +kernel)) (fun c8 => ?_) (fun c8 => ?_)
      · have r1_ : 3 ≤ k ∧ k ≤ 1001 := by omega
        refine j_lload_n S dX1_worstOf_58 rfl (lv_at hl 1 rfl) ?_
        exact hret b 59 _ (by rw [hb, show k = n + 1 from by omega]; rfl) dX1_worstOf_59
      · have r2_ : 0 ≤ k ∧ k ≤ 1000 := by omega
        refine lv_aload_n S.1 S.2.1 dX1_worstOf_11 rfl (lv_at hl 2 rfl) ?_
        refine j_iload_n S dX1_worstOf_12 rfl (lv_at hl 3 rfl) ?_
        refine j_iload_n S dX1_worstOf_13 rfl (lv_at hl 4 rfl) ?_
        refine j_iload S dX1_worstOf_14 (lv_at hl 0 rfl) ?_
        refine j_cvl (As := [jI x, jI n, jI k]) (ci := 1) S (c_X1_missOf l D h a0 a1 a2 a3 cA H T E F cc gc w d v hok x n k (iv_w hx (by decide +kernel)) (iv_w hn (by decide +kernel)) (iv_w r2_ (by decide +kernel)) (by omega)) (cwV 3 S.2.2.2.2 gX1_worstOf_X1_missOf rfl rfl rfl ⟨rfl, hdX1_missOf⟩ ⟨Nat.le_of_ble_eq_true rfl, Nat.le_of_ble_eq_true rfl⟩) hK hP rfl rfl rfl [] rfl rfl hl.1 (Nat.le_of_ble_eq_true rfl) ⟨Nat.zero_le _, Nat.zero_le _⟩ dX1_worstOf_16 (fun i16 q16 => ?_)
        subst q16
        have r3_ : (-500) ≤ (sp_ms w (H x) n k) ∧ (sp_ms w (H x) n k) ≤ 500 := sp_ms_iv (iv_w (lo := 2) (hi := 1000) hn (by decide +kernel))
        refine j_lstore (lv' := [(6, jL (sp_ms w (H x) n k)), (5, jI k), (3, jL b), (0, .ref h), (1, jI x), (2, jI n)]) S dX1_worstOf_19 hl (by decide) rfl (fun ls hl => ?_)
        refine j_lload S dX1_worstOf_21 (lv_at hl 0 rfl) ?_
        refine j_lconst (a := 0) S dX1_worstOf_23 rfl ?_
        refine j_lcmp_ge (pc1 := 25) (tgt := 34) S rfl dX1_worstOf_24 dX1_worstOf_25 (by decide) (iv_l r3_ (by decide +kernel)) (iv_l (iv_n 0) (by decide +kernel)) (fun c24 => ?_) (fun c24 => ?_)
        · have r4_ : 0 ≤ (sp_ms w (H x) n k) ∧ (sp_ms w (H x) n k) ≤ 500 := by omega
          refine j_lload S dX1_worstOf_34 (lv_at hl 0 rfl) ?_
          refine j_lstore (lv' := [(6, jL (sp_ms w (H x) n k)), (5, jI k), (3, jL b), (0, .ref h), (1, jI x), (2, jI n)]) S dX1_worstOf_36 hl (by decide) rfl (fun ls hl => ?_)
          refine j_lload S dX1_worstOf_38 (lv_at hl 0 rfl) ?_
          refine j_lload_n S dX1_worstOf_40 rfl (lv_at hl 2 rfl) ?_
          refine j_lcmp_le (pc1 := 42) (tgt := 50) S rfl dX1_worstOf_41 dX1_worstOf_42 (by decide) (iv_l r4_ (by decide +kernel)) (iv_l hbi (by decide +kernel)) (fun c41 => ?_) (fun c41 => ?_)
          · refine j_lload_n S dX1_worstOf_50 rfl (lv_at hl 2 rfl) ?_
            refine j_lstore_n (lv' := [(3, jL b), (6, jL (sp_ms w (H x) n k)), (5, jI k), (0, .ref h), (1, jI x), (2, jI n)]) S dX1_worstOf_51 rfl hl (by decide) rfl (fun ls hl => ?_)
            refine j_iinc (k := 2) (y := (k + 1)) (lv' := [(5, jI (k + 1)), (3, jL b), (6, jL (sp_ms w (H x) n k)), (0, .ref h), (1, jI x), (2, jI n)]) S dX1_worstOf_52 hl rfl rfl (by decide) rfl (fun ls hl => ?_)
            refine j_goto (tgt := 5) S dX1_worstOf_55 (by decide) ?_
            exact ih5 b (k + 1) _ (by omega) (by omega) (by rw [sp_wf_s (by omega), ← hb]; omega) (by omega) (by omega) (lv_sub hl [0, 1, 3, 4, 5] rfl)
          · have r5_ : 0 ≤ b ∧ b ≤ 499 := by omega
            have r6_ : 1 ≤ (sp_ms w (H x) n k) ∧ (sp_ms w (H x) n k) ≤ 500 := by omega
            refine j_lload S dX1_worstOf_45 (lv_at hl 0 rfl) ?_
            refine j_goto (tgt := 51) S dX1_worstOf_47 (by decide) ?_
            refine j_lstore_n (lv' := [(3, jL (sp_ms w (H x) n k)), (6, jL (sp_ms w (H x) n k)), (5, jI k), (0, .ref h), (1, jI x), (2, jI n)]) S dX1_worstOf_51 rfl hl (by decide) rfl (fun ls hl => ?_)
            refine j_iinc (k := 2) (y := (k + 1)) (lv' := [(5, jI (k + 1)), (3, jL (sp_ms w (H x) n k)), (6, jL (sp_ms w (H x) n k)), (0, .ref h), (1, jI x), (2, jI n)]) S dX1_worstOf_52 hl rfl rfl (by decide) rfl (fun ls hl => ?_)
            refine j_goto (tgt := 5) S dX1_worstOf_55 (by decide) ?_
            exact ih5 (sp_ms w (H x) n k) (k + 1) _ (by omega) (by omega) (by rw [sp_wf_s (by omega), ← hb]; omega) (by omega) (by omega) (lv_sub hl [0, 1, 3, 4, 5] rfl)
        · have r7_ : (-500) ≤ (sp_ms w (H x) n k) ∧ (sp_ms w (H x) n k) ≤ (-1) := by omega
          refine j_lload S dX1_worstOf_28 (lv_at hl 0 rfl) ?_
          refine j_lneg S dX1_worstOf_30 ?_
          refine j_goto (tgt := 36) S dX1_worstOf_31 (by decide) ?_
          refine j_lstore (lv' := [(6, jL (-(sp_ms w (H x) n k))), (5, jI k), (3, jL b), (0, .ref h), (1, jI x), (2, jI n)]) S dX1_worstOf_36 hl (by decide) rfl (fun ls hl => ?_)
          refine j_lload S dX1_worstOf_38 (lv_at hl 0 rfl) ?_
          refine j_lload_n S dX1_worstOf_40 rfl (lv_at hl 2 rfl) ?_
          refine j_lcmp_le (pc1 := 42) (tgt := 50) S rfl dX1_worstOf_41 dX1_worstOf_42 (by decide) (iv_l (iv_neg (lo := 1) (hi := 500) r7_ (by decide +kernel)) (by decide +kernel)) (iv_l hbi (by decide +kernel)) (fun c41 => ?_) (fun c41 => ?_)
          · have t8_ : 1 ≤ (-(sp_ms w (H x) n k)) ∧ (-(sp_ms w (H x) n k)) ≤ 500 := (iv_neg (lo := 1) (hi := 500) r7_ (by decide +kernel))
            have r9_ : 1 ≤ b ∧ b ≤ 500 := by omega
            refine j_lload_n S dX1_worstOf_50 rfl (lv_at hl 2 rfl) ?_
            refine j_lstore_n (lv' := [(3, jL b), (6, jL (-(sp_ms w (H x) n k))), (5, jI k), (0, .ref h), (1, jI x), (2, jI n)]) S dX1_worstOf_51 rfl hl (by decide) rfl (fun ls hl => ?_)
            refine j_iinc (k := 2) (y := (k + 1)) (lv' := [(5, jI (k + 1)), (3, jL b), (6, jL (-(sp_ms w (H x) n k))), (0, .ref h), (1, jI x), (2, jI n)]) S dX1_worstOf_52 hl rfl rfl (by decide) rfl (fun ls hl => ?_)
            refine j_goto (tgt := 5) S dX1_worstOf_55 (by decide) ?_
            exact ih5 b (k + 1) _ (by omega) (by omega) (by rw [sp_wf_s (by omega), ← hb]; omega) (by omega) (by omega) (lv_sub hl [0, 1, 3, 4, 5] rfl)
          · have t10_ : 1 ≤ (-(sp_ms w (H x) n k)) ∧ (-(sp_ms w (H x) n k)) ≤ 500 := (iv_neg (lo := 1) (hi := 500) r7_ (by decide +kernel))
            have r11_ : 0 ≤ b ∧ b ≤ 499 := by omega
            refine j_lload S dX1_worstOf_45 (lv_at hl 0 rfl) ?_
            refine j_goto (tgt := 51) S dX1_worstOf_47 (by decide) ?_
            refine j_lstore_n (lv' := [(3, jL (-(sp_ms w (H x) n k))), (6, jL (-(sp_ms w (H x) n k))), (5, jI k), (0, .ref h), (1, jI x), (2, jI n)]) S dX1_worstOf_51 rfl hl (by decide) rfl (fun ls hl => ?_)
            refine j_iinc (k := 2) (y := (k + 1)) (lv' := [(5, jI (k + 1)), (3, jL (-(sp_ms w (H x) n k))), (6, jL (-(sp_ms w (H x) n k))), (0, .ref h), (1, jI x), (2, jI n)]) S dX1_worstOf_52 hl rfl rfl (by decide) rfl (fun ls hl => ?_)
            refine j_goto (tgt := 5) S dX1_worstOf_55 (by decide) ?_
            exact ih5 (-(sp_ms w (H x) n k)) (k + 1) _ (by omega) (by omega) (by rw [sp_wf_s (by omega), ← hb]; omega) (by omega) (by omega) (lv_sub hl [0, 1, 3, 4, 5] rfl)
  exact loop5 1002 0 0 _ (by omega) (by omega) rfl (by omega) (by omega) (lv_sub hl [0, 1, 2, 3, 4] rfl)
abbrev rmX1_exact : Room := { frames := 2, cells := 0, slots := 0, locals := 46 }
theorem hdX1_exact : yX1_exact.cls ≠ "java/lang/invoke/MethodHandle" ∧ yX1_exact.cls ≠ "java/lang/invoke/VarHandle" ∧ (parseMethodDescriptor yX1_exact.desc).map (fun d => d.parameters.length) = some 2 := by decide +kernel
set_option maxHeartbeats 4000000 in
set_option maxRecDepth 100000 in
theorem c_X1_exact (l : Launch) (D : va_G) (h a0 a1 a2 a3 : Nat) (cA : ClassId) (H T E F : Int → Int) (cc gc w d v : Int) (hok : SOK H T E cc gc w d v) (x : Int) (n : Int) (hx : 0 ≤ x ∧ x ≤ 7) (hn : 2 ≤ n ∧ n ≤ 1000) (hxc : x < cc) : MI l yX1_exact wsX1_exact rmX1_exact [.ref h, jI x, jI n] (WB D (MW h a0 a1 a2 a3 cA H T E F cc gc w d v) cA) (fun rR => rR = sp_xf w (H x) n n) := by
  refine MI_of (cc := cX1_exact) (maxL := 5) (by decide) rfl (Nat.le_of_ble_eq_true rfl) ?_
  intro pP eE sS mM aA bL mT cC QQ ls S hret ⟨hP, hK⟩ hl
  obtain ⟨hcc, hgc, hw, hd, hv, hH, hT, hE⟩ := id hok
  have hin : ∀ w ∈ wsX10, w ∈ wsX1_exact := fun w hw => List.mem_cons_of_mem _ (List.mem_append_right _ hw)
  have hl : lv_has ls 5 [(0, .ref h), (1, jI x), (2, jI n)] := hl
  refine j_iconst S dX1_exact_0 ?_
  refine j_istore_n (lv' := [(3, jI 0), (0, .ref h), (1, jI x), (2, jI n)]) S dX1_exact_1 rfl hl (by decide) rfl (fun ls hl => ?_)
  refine j_iconst S dX1_exact_2 ?_
  refine j_istore (lv' := [(4, jI 0), (3, jI 0), (0, .ref h), (1, jI x), (2, jI n)]) S dX1_exact_3 hl (by decide) rfl (fun ls hl => ?_)
  have loop5 : ∀ (N : Nat) (b k : Int) (ls : Array Slot), (0 ≤ k ∧ k ≤ 1000) → (k ≤ n) → (b = sp_xf w (H x) n k) → n - k < (N : Int) → lv_has ls 5 [(4, jI k), (3, jI b), (0, .ref h), (1, jI x), (2, jI n)] → W pP l eE rmX1_exact sS mM aA bL mT cC sS.heap [] 0 0 QQ (F0 mM 5 ls []) := by
    intro N
    induction N with
    | zero =>
      intro b k ls hk hk2 hb hN
      exact absurd hN (by omega)
    | succ N ih5 =>
      intro b k ls hk hk2 hb hN hl
      refine j_iload S dX1_exact_5 (lv_at hl 0 rfl) ?_
      refine j_iload_n S dX1_exact_7 rfl (lv_at hl 4 rfl) ?_
      refine j_icmp_ge (tgt := 38) S dX1_exact_8 (by decide) (iv_i hk (by decide +kernel)) (iv_i hn (by decide +kernel)) (fun c8 => ?_) (fun c8 => ?_)
      · have r1_ : 2 ≤ k ∧ k ≤ 1000 := by omega
        refine j_iload_n S dX1_exact_38 rfl (lv_at hl 1 rfl) ?_
        exact hret b 39 _ (by rw [hb, show k = n from by omega]) dX1_exact_39
      · have r2_ : 0 ≤ k ∧ k ≤ 999 := by omega
        refine j_iload_n S dX1_exact_11 rfl (lv_at hl 1 rfl) ?_
        refine lv_aload_n S.1 S.2.1 dX1_exact_12 rfl (lv_at hl 2 rfl) ?_
        refine j_iload_n S dX1_exact_13 rfl (lv_at hl 3 rfl) ?_
        refine j_iload_n S dX1_exact_14 rfl (lv_at hl 4 rfl) ?_
        refine j_iload S dX1_exact_15 (lv_at hl 0 rfl) ?_
        refine j_cvl (As := [jI x, jI n, jI k]) (ci := 1) S (c_X1_missOf l D h a0 a1 a2 a3 cA H T E F cc gc w d v hok x n k (iv_w hx (by decide +kernel)) (iv_w hn (by decide +kernel)) (iv_w r2_ (by decide +kernel)) (by omega)) (cwV 3 S.2.2.2.2 gX1_exact_X1_missOf rfl rfl rfl ⟨rfl, hdX1_missOf⟩ ⟨Nat.le_of_ble_eq_true rfl, Nat.le_of_ble_eq_true rfl⟩) hK hP rfl rfl rfl [jI b] rfl rfl hl.1 (Nat.le_of_ble_eq_true rfl) ⟨Nat.zero_le _, Nat.zero_le _⟩ dX1_exact_17 (fun i17 q17 => ?_)
        subst q17
        have r3_ : (-500) ≤ (sp_ms w (H x) n k) ∧ (sp_ms w (H x) n k) ≤ 500 := sp_ms_iv (iv_w (lo := 2) (hi := 1000) hn (by decide +kernel))
        refine j_lconst (a := 0) S dX1_exact_20 rfl ?_
        refine j_lcmp_ne (pc1 := 22) (tgt := 29) S rfl dX1_exact_21 dX1_exact_22 (by decide) (iv_l r3_ (by decide +kernel)) (iv_l (iv_n 0) (by decide +kernel)) (fun c21 => ?_) (fun c21 => ?_)
        · refine j_iconst S dX1_exact_29 ?_
          refine j_iadd S dX1_exact_30 ?_
          refine j_istore_n (lv' := [(3, jI (b + 0)), (4, jI k), (0, .ref h), (1, jI x), (2, jI n)]) S dX1_exact_31 rfl hl (by decide) rfl (fun ls hl => ?_)
          refine j_iinc (k := 1) (y := (k + 1)) (lv' := [(4, jI (k + 1)), (3, jI (b + 0)), (0, .ref h), (1, jI x), (2, jI n)]) S dX1_exact_32 hl rfl rfl (by decide) rfl (fun ls hl => ?_)
          refine j_goto (tgt := 5) S dX1_exact_35 (by decide) ?_
          exact ih5 (b + 0) (k + 1) _ (by omega) (by omega) (by rw [sp_xf_s (by omega), ← hb]; split <;> omega) (by omega) (lv_sub hl [0, 1, 2, 3, 4] rfl)
        · have r4_ : 0 ≤ (sp_ms w (H x) n k) ∧ (sp_ms w (H x) n k) ≤ 0 := by omega
          refine j_iconst S dX1_exact_25 ?_
          refine j_goto (tgt := 30) S dX1_exact_26 (by decide) ?_
          refine j_iadd S dX1_exact_30 ?_
          refine j_istore_n (lv' := [(3, jI (b + 1)), (4, jI k), (0, .ref h), (1, jI x), (2, jI n)]) S dX1_exact_31 rfl hl (by decide) rfl (fun ls hl => ?_)
          refine j_iinc (k := 1) (y := (k + 1)) (lv' := [(4, jI (k + 1)), (3, jI (b + 1)), (0, .ref h), (1, jI x), (2, jI n)]) S dX1_exact_32 hl rfl rfl (by decide) rfl (fun ls hl => ?_)
          refine j_goto (tgt := 5) S dX1_exact_35 (by decide) ?_
          exact ih5 (b + 1) (k + 1) _ (by omega) (by omega) (by rw [sp_xf_s (by omega), ← hb]; split <;> omega) (by omega) (lv_sub hl [0, 1, 2, 3, 4] rfl)
  exact loop5 1001 0 0 _ (by omega) (by omega) rfl (by omega) (lv_sub hl [0, 1, 2, 3, 4] rfl)
abbrev rmX1_common : Room := { frames := 0, cells := 0, slots := 0, locals := 0 }
theorem hdX1_common : yX1_common.cls ≠ "java/lang/invoke/MethodHandle" ∧ yX1_common.cls ≠ "java/lang/invoke/VarHandle" ∧ (parseMethodDescriptor yX1_common.desc).map (fun d => d.parameters.length) = some 2 := by decide +kernel
set_option maxHeartbeats 4000000 in
set_option maxRecDepth 100000 in
theorem c_X1_common (l : Launch) (a : Int) (b : Int) (ha : (-1000000000) ≤ a ∧ a ≤ 1000000000) (hb : 1 ≤ b ∧ b ≤ 1000) : ML l yX1_common wsX1_common rmX1_common [jL a, jL b] W0 (fun rR => rR = ((Int.gcd a b : Nat) : Int)) := by
  refine ML_of (cc := cX1_common) (maxL := 10) (by decide) rfl (Nat.le_of_ble_eq_true rfl) ?_
  intro pP eE sS mM aA bL mT cC QQ ls S hret _ hl
  have hl : lv_has ls 10 [(0, jL a), (2, jL b)] := hl
  refine j_lload_n S dX1_common_0 rfl (lv_at hl 0 rfl) ?_
  refine j_lconst (a := 0) S dX1_common_1 rfl ?_
  refine j_lcmp_ge (pc1 := 3) (tgt := 11) S rfl dX1_common_2 dX1_common_3 (by decide) (iv_l ha (by decide +kernel)) (iv_l (iv_n 0) (by decide +kernel)) (fun c2 => ?_) (fun c2 => ?_)
  · have r1_ : 0 ≤ a ∧ a ≤ 1000000000 := by omega
    refine j_lload_n S dX1_common_11 rfl (lv_at hl 0 rfl) ?_
    refine j_lstore (lv' := [(4, jL a), (0, jL a), (2, jL b)]) S dX1_common_12 hl (by decide) rfl (fun ls hl => ?_)
    refine j_lload_n S dX1_common_14 rfl (lv_at hl 2 rfl) ?_
    refine j_lstore (lv' := [(6, jL b), (4, jL a), (0, jL a), (2, jL b)]) S dX1_common_15 hl (by decide) rfl (fun ls hl => ?_)
    have loop17 : ∀ (N : Nat) (x y : Int) (ls : Array Slot), (0 ≤ x ∧ x ≤ 1000000000) → (0 ≤ y ∧ y ≤ 1000) → (Int.gcd x y = Int.gcd a b) → y < (N : Int) → lv_has ls 10 [(6, jL y), (4, jL x), (0, jL a), (2, jL b)] → W pP l eE rmX1_common sS mM aA bL mT cC sS.heap [] 0 0 QQ (F0 mM 17 ls []) := by
      intro N
      induction N with
      | zero =>
        intro x y ls hx hy hg hN
        exact absurd hN (by omega)
      | succ N ih17 =>
        intro x y ls hx hy hg hN hl
        refine j_lload S dX1_common_17 (lv_at hl 0 rfl) ?_
        refine j_lconst (a := 0) S dX1_common_19 rfl ?_
        refine j_lcmp_eq (pc1 := 21) (tgt := 42) S rfl dX1_common_20 dX1_common_21 (by decide) (iv_l hy (by decide +kernel)) (iv_l (iv_n 0) (by decide +kernel)) (fun c20 => ?_) (fun c20 => ?_)
        · have r2_ : 0 ≤ y ∧ y ≤ 0 := by omega
          refine j_lload S dX1_common_42 (lv_at hl 1 rfl) ?_
          exact hret x 44 _ (by rw [← hg, c20]; exact (gcd_0 hx.1).symm) dX1_common_44
        · have r3_ : 1 ≤ y ∧ y ≤ 1000 := by omega
          refine j_lload S dX1_common_24 (lv_at hl 1 rfl) ?_
          refine j_lload S dX1_common_26 (lv_at hl 0 rfl) ?_
          refine j_lremp S dX1_common_28 (iv_l hx (by decide +kernel)) (iv_pl r3_ (by decide +kernel)) (iv_nn hx (by decide +kernel)) ?_
          refine j_lstore (lv' := [(8, jL (x % y)), (6, jL y), (4, jL x), (0, jL a), (2, jL b)]) S dX1_common_29 hl (by decide) rfl (fun ls hl => ?_)
          refine j_lload S dX1_common_31 (lv_at hl 1 rfl) ?_
          refine j_lstore (lv' := [(4, jL y), (8, jL (x % y)), (6, jL y), (0, jL a), (2, jL b)]) S dX1_common_33 hl (by decide) rfl (fun ls hl => ?_)
          refine j_lload S dX1_common_35 (lv_at hl 1 rfl) ?_
          refine j_lstore (lv' := [(6, jL (x % y)), (4, jL y), (8, jL (x % y)), (0, jL a), (2, jL b)]) S dX1_common_37 hl (by decide) rfl (fun ls hl => ?_)
          refine j_goto (tgt := 17) S dX1_common_39 (by decide) ?_
          exact ih17 y (x % y) _ (by omega) (by have := Int.emod_nonneg x (b := y) (by omega); have := Int.emod_lt_of_pos x (b := y) (by omega); omega) (by rw [gcd_step (by omega) (by omega), hg]) (by have := Int.emod_lt_of_pos x (b := y) (by omega); omega) (lv_sub hl [0, 1, 3, 4] rfl)
    exact loop17 1001 a b _ (by omega) (by omega) rfl (by omega) (lv_sub hl [0, 1, 2, 3] rfl)
  · have r4_ : (-1000000000) ≤ a ∧ a ≤ (-1) := by omega
    refine j_lload_n S dX1_common_6 rfl (lv_at hl 0 rfl) ?_
    refine j_lneg S dX1_common_7 ?_
    refine j_goto (tgt := 12) S dX1_common_8 (by decide) ?_
    refine j_lstore (lv' := [(4, jL (-a)), (0, jL a), (2, jL b)]) S dX1_common_12 hl (by decide) rfl (fun ls hl => ?_)
    refine j_lload_n S dX1_common_14 rfl (lv_at hl 2 rfl) ?_
    refine j_lstore (lv' := [(6, jL b), (4, jL (-a)), (0, jL a), (2, jL b)]) S dX1_common_15 hl (by decide) rfl (fun ls hl => ?_)
    have loop17 : ∀ (N : Nat) (x y : Int) (ls : Array Slot), (0 ≤ x ∧ x ≤ 1000000000) → (0 ≤ y ∧ y ≤ 1000) → (Int.gcd x y = Int.gcd a b) → y < (N : Int) → lv_has ls 10 [(6, jL y), (4, jL x), (0, jL a), (2, jL b)] → W pP l eE rmX1_common sS mM aA bL mT cC sS.heap [] 0 0 QQ (F0 mM 17 ls []) := by
      intro N
      induction N with
      | zero =>
        intro x y ls hx hy hg hN
        exact absurd hN (by omega)
      | succ N ih17 =>
        intro x y ls hx hy hg hN hl
        refine j_lload S dX1_common_17 (lv_at hl 0 rfl) ?_
        refine j_lconst (a := 0) S dX1_common_19 rfl ?_
        refine j_lcmp_eq (pc1 := 21) (tgt := 42) S rfl dX1_common_20 dX1_common_21 (by decide) (iv_l hy (by decide +kernel)) (iv_l (iv_n 0) (by decide +kernel)) (fun c20 => ?_) (fun c20 => ?_)
        · have r5_ : 0 ≤ y ∧ y ≤ 0 := by omega
          refine j_lload S dX1_common_42 (lv_at hl 1 rfl) ?_
          exact hret x 44 _ (by rw [← hg, c20]; exact (gcd_0 hx.1).symm) dX1_common_44
        · have r6_ : 1 ≤ y ∧ y ≤ 1000 := by omega
          refine j_lload S dX1_common_24 (lv_at hl 1 rfl) ?_
          refine j_lload S dX1_common_26 (lv_at hl 0 rfl) ?_
          refine j_lremp S dX1_common_28 (iv_l hx (by decide +kernel)) (iv_pl r6_ (by decide +kernel)) (iv_nn hx (by decide +kernel)) ?_
          refine j_lstore (lv' := [(8, jL (x % y)), (6, jL y), (4, jL x), (0, jL a), (2, jL b)]) S dX1_common_29 hl (by decide) rfl (fun ls hl => ?_)
          refine j_lload S dX1_common_31 (lv_at hl 1 rfl) ?_
          refine j_lstore (lv' := [(4, jL y), (8, jL (x % y)), (6, jL y), (0, jL a), (2, jL b)]) S dX1_common_33 hl (by decide) rfl (fun ls hl => ?_)
          refine j_lload S dX1_common_35 (lv_at hl 1 rfl) ?_
          refine j_lstore (lv' := [(6, jL (x % y)), (4, jL y), (8, jL (x % y)), (0, jL a), (2, jL b)]) S dX1_common_37 hl (by decide) rfl (fun ls hl => ?_)
          refine j_goto (tgt := 17) S dX1_common_39 (by decide) ?_
          exact ih17 y (x % y) _ (by omega) (by have := Int.emod_nonneg x (b := y) (by omega); have := Int.emod_lt_of_pos x (b := y) (by omega); omega) (by rw [gcd_step (by omega) (by omega), hg]) (by have := Int.emod_lt_of_pos x (b := y) (by omega); omega) (lv_sub hl [0, 1, 3, 4] rfl)
    exact loop17 1001 (-a) b _ (by omega) (by omega) Int.neg_gcd (by omega) (lv_sub hl [0, 1, 2, 3] rfl)
abbrev rmX1_term : Room := { frames := 1, cells := 0, slots := 0, locals := 29 }
theorem hdX1_term : yX1_term.cls ≠ "java/lang/invoke/MethodHandle" ∧ yX1_term.cls ≠ "java/lang/invoke/VarHandle" ∧ (parseMethodDescriptor yX1_term.desc).map (fun d => d.parameters.length) = some 3 := by decide +kernel
set_option maxHeartbeats 4000000 in
set_option maxRecDepth 100000 in
theorem c_X1_term (l : Launch) (up : Int) (low : Int) (what : Int) (hup : (-1000000000) ≤ up ∧ up ≤ 1000000000) (hlow : 1 ≤ low ∧ low ≤ 1000) (hwhat : inI what) : MI l yX1_term wsX1_term rmX1_term [jL up, jL low, jI what] W0 (fun rR => rR = sp_lt up low what) := by
  refine MI_of (cc := cX1_term) (maxL := 7) (by decide) rfl (Nat.le_of_ble_eq_true rfl) ?_
  intro pP eE sS mM aA bL mT cC QQ ls S hret _ hl
  have hl : lv_has ls 7 [(0, jL up), (2, jL low), (4, jI what)] := hl
  refine j_lload_n S dX1_term_0 rfl (lv_at hl 0 rfl) ?_
  refine j_lload_n S dX1_term_1 rfl (lv_at hl 1 rfl) ?_
  refine j_csl (As := [jL up, jL low]) S (c_X1_common l up low (iv_w hup (by decide +kernel)) (iv_w hlow (by decide +kernel))) (va_cwS 2 S.2.2.2.2 gX1_term_X1_common rfl rfl rfl hdX1_common ⟨Nat.le_of_ble_eq_true rfl, Nat.le_of_ble_eq_true rfl⟩) [] rfl rfl hl.1 (Nat.le_of_ble_eq_true rfl) ⟨Nat.zero_le _, Nat.zero_le _⟩ dX1_term_2 (fun i2 q2 => ?_)
  subst q2
  have r1_ : 1 ≤ ((Int.gcd up low : Nat) : Int) ∧ ((Int.gcd up low : Nat) : Int) ≤ 1000 := gcd_iv (iv_w (lo := 1) (hi := 1000) hlow (by decide +kernel))
  refine j_lstore (lv' := [(5, jL ((Int.gcd up low : Nat) : Int)), (0, jL up), (2, jL low), (4, jI what)]) S dX1_term_5 hl (by decide) rfl (fun ls hl => ?_)
  refine j_iload S dX1_term_7 (lv_at hl 3 rfl) ?_
  refine j_if_ne (tgt := 19) S dX1_term_9 (by decide) (iv_i hwhat (by decide +kernel)) (fun c9 => ?_) (fun c9 => ?_)
  · refine j_lload_n S dX1_term_19 rfl (lv_at hl 2 rfl) ?_
    refine j_lload S dX1_term_20 (lv_at hl 0 rfl) ?_
    refine j_ldivp S dX1_term_22 (iv_l hlow (by decide +kernel)) (iv_pl r1_ (by decide +kernel)) (iv_nn hlow (by decide +kernel)) ?_
    refine j_l2i S dX1_term_23 ?_
    exact hret (low / ((Int.gcd up low : Nat) : Int)) 24 _ (by unfold sp_lt; rw [if_neg c9, Int.tdiv_eq_ediv_of_nonneg (by omega)]) dX1_term_24
  · have r2_ : 0 ≤ what ∧ what ≤ 0 := by omega
    refine j_lload_n S dX1_term_12 rfl (lv_at hl 1 rfl) ?_
    refine j_lload S dX1_term_13 (lv_at hl 0 rfl) ?_
    refine j_ldiv S dX1_term_15 (iv_l hup (by decide +kernel)) (iv_pl r1_ (by decide +kernel)) (iv_gt hup (by decide +kernel)) ?_
    refine j_goto (tgt := 23) S dX1_term_16 (by decide) ?_
    refine j_l2i S dX1_term_23 ?_
    exact hret (Int.tdiv up ((Int.gcd up low : Nat) : Int)) 24 _ (by unfold sp_lt; rw [if_pos c9]) dX1_term_24
abbrev rmX1_hole : Room := { frames := 3, cells := 0, slots := 0, locals := 66 }
theorem hdX1_hole : yX1_hole.cls ≠ "java/lang/invoke/MethodHandle" ∧ yX1_hole.cls ≠ "java/lang/invoke/VarHandle" ∧ (parseMethodDescriptor yX1_hole.desc).map (fun d => d.parameters.length) = some 3 := by decide +kernel
set_option maxHeartbeats 4000000 in
set_option maxRecDepth 100000 in
theorem c_X1_hole (l : Launch) (D : va_G) (h a0 a1 a2 a3 : Nat) (cA : ClassId) (H T E F : Int → Int) (cc gc w d v : Int) (hok : SOK H T E cc gc w d v) (x : Int) (n : Int) (i : Int) (hx : inI x) (hn : inI n) (hi : inI i) : MI l yX1_hole wsX1_hole rmX1_hole [.ref h, jI x, jI n, jI i] (WB D (MW h a0 a1 a2 a3 cA H T E F cc gc w d v) cA) (fun rR => rR = sp_hole w cc H x n i) := by
  refine MI_of (cc := cX1_hole) (maxL := 4) (by decide) rfl (Nat.le_of_ble_eq_true rfl) ?_
  intro pP eE sS mM aA bL mT cC QQ ls S hret ⟨hP, hK⟩ hl
  obtain ⟨hcc, hgc, hw, hd, hv, hH, hT, hE⟩ := id hok
  have hin : ∀ w ∈ wsX10, w ∈ wsX1_hole := fun w hw => List.mem_cons_of_mem _ (List.mem_append_right _ hw)
  have hl : lv_has ls 4 [(0, .ref h), (1, jI x), (2, jI n), (3, jI i)] := hl
  refine lv_aload_n S.1 S.2.1 dX1_hole_0 rfl (lv_at hl 0 rfl) ?_
  refine j_iload_n S dX1_hole_1 rfl (lv_at hl 1 rfl) ?_
  refine j_cvi (As := [jI x]) (ci := 1) S (c_X1_isCircle l D h a0 a1 a2 a3 cA H T E F cc gc w d v hok x (iv_w hx (by decide +kernel))) (cwV 1 S.2.2.2.2 gX1_hole_X1_isCircle rfl rfl rfl ⟨rfl, hdX1_isCircle⟩ ⟨Nat.le_of_ble_eq_true rfl, Nat.le_of_ble_eq_true rfl⟩) hK hP rfl rfl rfl [] rfl rfl hl.1 (Nat.le_of_ble_eq_true rfl) ⟨Nat.zero_le _, Nat.zero_le _⟩ dX1_hole_2 (fun i2 q2 => ?_)
  subst q2
  refine j_ifb_ne (tgt := 10) S dX1_hole_5 (by decide) (fun c5 => ?_) (fun c5 => ?_)
  · have r1_ : 0 ≤ x ∧ x ≤ 7 := by omega
    refine j_iload_n S dX1_hole_10 rfl (lv_at hl 2 rfl) ?_
    refine j_iload_n S dX1_hole_11 rfl (lv_at hl 3 rfl) ?_
    refine j_csi (As := [jI n, jI i]) S (c_X1_isCut l n i (iv_w hn (by decide +kernel)) (iv_w hi (by decide +kernel))) (va_cwS 2 S.2.2.2.2 gX1_hole_X1_isCut rfl rfl rfl hdX1_isCut ⟨Nat.le_of_ble_eq_true rfl, Nat.le_of_ble_eq_true rfl⟩) [] rfl rfl hl.1 (Nat.le_of_ble_eq_true rfl) ⟨Nat.zero_le _, Nat.zero_le _⟩ dX1_hole_12 (fun i12 q12 => ?_)
    subst q12
    refine j_ifb_eq (tgt := 29) S dX1_hole_15 (by decide) (fun c15 => ?_) (fun c15 => ?_)
    · refine j_bipush S dX1_hole_29 (by decide) ?_
      exact hret (-2) 31 _ (by unfold sp_hole; (repeat' split) <;> first | omega | rfl) dX1_hole_31
    · have r2_ : 2 ≤ n ∧ n ≤ 1000 := by omega
      have r3_ : 0 ≤ i ∧ i ≤ 1000 := by omega
      refine lv_aload_n S.1 S.2.1 dX1_hole_18 rfl (lv_at hl 0 rfl) ?_
      refine j_iload_n S dX1_hole_19 rfl (lv_at hl 1 rfl) ?_
      refine j_iload_n S dX1_hole_20 rfl (lv_at hl 2 rfl) ?_
      refine j_iload_n S dX1_hole_21 rfl (lv_at hl 3 rfl) ?_
      refine j_cvl (As := [jI x, jI n, jI i]) (ci := 1) S (c_X1_holeOf l D h a0 a1 a2 a3 cA H T E F cc gc w d v hok x n i (iv_w r1_ (by decide +kernel)) (iv_w r2_ (by decide +kernel)) (iv_w r3_ (by decide +kernel)) (by omega)) (cwV 3 S.2.2.2.2 gX1_hole_X1_holeOf rfl rfl rfl ⟨rfl, hdX1_holeOf⟩ ⟨Nat.le_of_ble_eq_true rfl, Nat.le_of_ble_eq_true rfl⟩) hK hP rfl rfl rfl [] rfl rfl hl.1 (Nat.le_of_ble_eq_true rfl) ⟨Nat.zero_le _, Nat.zero_le _⟩ dX1_hole_22 (fun i22 q22 => ?_)
      subst q22
      have r4_ : 0 ≤ (sp_hn w (H x) n i) ∧ (sp_hn w (H x) n i) ≤ 48001000 := sp_hn_iv hw (hH x (by omega) (by omega)) (iv_w (lo := 0) (hi := 1000) r3_ (by decide +kernel)) (iv_w (lo := 2) (hi := 1000) r2_ (by decide +kernel))
      refine j_l2i S dX1_hole_25 ?_
      refine j_goto (tgt := 31) S dX1_hole_26 (by decide) ?_
      exact hret (sp_hn w (H x) n i) 31 _ (by unfold sp_hole; (repeat' split) <;> first | omega | rfl) dX1_hole_31
  · refine j_iconst S dX1_hole_8 ?_
    exact hret (-1) 9 _ (by unfold sp_hole; (repeat' split) <;> first | omega | rfl) dX1_hole_9
abbrev rmX1_miss : Room := { frames := 3, cells := 0, slots := 0, locals := 66 }
theorem hdX1_miss : yX1_miss.cls ≠ "java/lang/invoke/MethodHandle" ∧ yX1_miss.cls ≠ "java/lang/invoke/VarHandle" ∧ (parseMethodDescriptor yX1_miss.desc).map (fun d => d.parameters.length) = some 4 := by decide +kernel
set_option maxHeartbeats 4000000 in
set_option maxRecDepth 100000 in
theorem c_X1_miss (l : Launch) (D : va_G) (h a0 a1 a2 a3 : Nat) (cA : ClassId) (H T E F : Int → Int) (cc gc w d v : Int) (hok : SOK H T E cc gc w d v) (x : Int) (n : Int) (i : Int) (what : Int) (hx : inI x) (hn : inI n) (hi : inI i) (hwhat : inI what) : MI l yX1_miss wsX1_miss rmX1_miss [.ref h, jI x, jI n, jI i, jI what] (WB D (MW h a0 a1 a2 a3 cA H T E F cc gc w d v) cA) (fun rR => rR = sp_miss w cc H x n i what) := by
  refine MI_of (cc := cX1_miss) (maxL := 5) (by decide) rfl (Nat.le_of_ble_eq_true rfl) ?_
  intro pP eE sS mM aA bL mT cC QQ ls S hret ⟨hP, hK⟩ hl
  obtain ⟨hcc, hgc, hw, hd, hv, hH, hT, hE⟩ := id hok
  have hin : ∀ w ∈ wsX10, w ∈ wsX1_miss := fun w hw => List.mem_cons_of_mem _ (List.mem_append_right _ hw)
  have hl : lv_has ls 5 [(0, .ref h), (1, jI x), (2, jI n), (3, jI i), (4, jI what)] := hl
  refine lv_aload_n S.1 S.2.1 dX1_miss_0 rfl (lv_at hl 0 rfl) ?_
  refine j_iload_n S dX1_miss_1 rfl (lv_at hl 1 rfl) ?_
  refine j_cvi (As := [jI x]) (ci := 1) S (c_X1_isCircle l D h a0 a1 a2 a3 cA H T E F cc gc w d v hok x (iv_w hx (by decide +kernel))) (cwV 1 S.2.2.2.2 gX1_miss_X1_isCircle rfl rfl rfl ⟨rfl, hdX1_isCircle⟩ ⟨Nat.le_of_ble_eq_true rfl, Nat.le_of_ble_eq_true rfl⟩) hK hP rfl rfl rfl [] rfl rfl hl.1 (Nat.le_of_ble_eq_true rfl) ⟨Nat.zero_le _, Nat.zero_le _⟩ dX1_miss_2 (fun i2 q2 => ?_)
  subst q2
  refine j_ifb_ne (tgt := 11) S dX1_miss_5 (by decide) (fun c5 => ?_) (fun c5 => ?_)
  · have r1_ : 0 ≤ x ∧ x ≤ 7 := by omega
    refine j_iload_n S dX1_miss_11 rfl (lv_at hl 2 rfl) ?_
    refine j_iload_n S dX1_miss_12 rfl (lv_at hl 3 rfl) ?_
    refine j_csi (As := [jI n, jI i]) S (c_X1_isCut l n i (iv_w hn (by decide +kernel)) (iv_w hi (by decide +kernel))) (va_cwS 2 S.2.2.2.2 gX1_miss_X1_isCut rfl rfl rfl hdX1_isCut ⟨Nat.le_of_ble_eq_true rfl, Nat.le_of_ble_eq_true rfl⟩) [] rfl rfl hl.1 (Nat.le_of_ble_eq_true rfl) ⟨Nat.zero_le _, Nat.zero_le _⟩ dX1_miss_13 (fun i13 q13 => ?_)
    subst q13
    refine j_ifb_eq (tgt := 47) S dX1_miss_16 (by decide) (fun c16 => ?_) (fun c16 => ?_)
    · refine j_ldc (n := (-1000000002)) S (S.2.2.2.2 _ (List.mem_of_getElem? (i := 2) rfl)) (by decide) dX1_miss_47 ?_
      exact hret (-1000000002) 49 _ (by unfold sp_miss; (repeat' split) <;> first | omega | rfl) dX1_miss_49
    · have r2_ : 2 ≤ n ∧ n ≤ 1000 := by omega
      have r3_ : 0 ≤ i ∧ i ≤ 1000 := by omega
      refine j_iload S dX1_miss_19 (lv_at hl 4 rfl) ?_
      refine j_i2l S dX1_miss_21 (iv_i hwhat (by decide +kernel)) ?_
      refine j_lconst (a := 0) S dX1_miss_22 rfl ?_
      refine j_lconst (a := 1) S dX1_miss_23 rfl ?_
      refine j_csi (As := [jL what, jL 0, jL 1]) S (c_X1_in l what 0 1 (iv_w hwhat (by decide +kernel)) (iv_w (iv_n 0) (by decide +kernel)) (iv_w (iv_n 1) (by decide +kernel))) (va_cwS 3 S.2.2.2.2 gX1_miss_X1_in rfl rfl rfl hdX1_in ⟨Nat.le_of_ble_eq_true rfl, Nat.le_of_ble_eq_true rfl⟩) [] rfl rfl hl.1 (Nat.le_of_ble_eq_true rfl) ⟨Nat.zero_le _, Nat.zero_le _⟩ dX1_miss_24 (fun i24 q24 => ?_)
      subst q24
      refine j_ifb_eq (tgt := 47) S dX1_miss_27 (by decide) (fun c27 => ?_) (fun c27 => ?_)
      · refine j_ldc (n := (-1000000002)) S (S.2.2.2.2 _ (List.mem_of_getElem? (i := 2) rfl)) (by decide) dX1_miss_47 ?_
        exact hret (-1000000002) 49 _ (by unfold sp_miss; (repeat' split) <;> first | omega | rfl) dX1_miss_49
      · have r4_ : 0 ≤ what ∧ what ≤ 1 := by omega
        refine lv_aload_n S.1 S.2.1 dX1_miss_30 rfl (lv_at hl 0 rfl) ?_
        refine j_iload_n S dX1_miss_31 rfl (lv_at hl 1 rfl) ?_
        refine j_iload_n S dX1_miss_32 rfl (lv_at hl 2 rfl) ?_
        refine j_iload_n S dX1_miss_33 rfl (lv_at hl 3 rfl) ?_
        refine j_cvl (As := [jI x, jI n, jI i]) (ci := 1) S (c_X1_missOf l D h a0 a1 a2 a3 cA H T E F cc gc w d v hok x n i (iv_w r1_ (by decide +kernel)) (iv_w r2_ (by decide +kernel)) (iv_w r3_ (by decide +kernel)) (by omega)) (cwV 3 S.2.2.2.2 gX1_miss_X1_missOf rfl rfl rfl ⟨rfl, hdX1_missOf⟩ ⟨Nat.le_of_ble_eq_true rfl, Nat.le_of_ble_eq_true rfl⟩) hK hP rfl rfl rfl [] rfl rfl hl.1 (Nat.le_of_ble_eq_true rfl) ⟨Nat.zero_le _, Nat.zero_le _⟩ dX1_miss_34 (fun i34 q34 => ?_)
        subst q34
        have r5_ : (-500) ≤ (sp_ms w (H x) n i) ∧ (sp_ms w (H x) n i) ≤ 500 := sp_ms_iv (iv_w (lo := 2) (hi := 1000) r2_ (by decide +kernel))
        refine j_iload_n S dX1_miss_37 rfl (lv_at hl 2 rfl) ?_
        refine j_i2l S dX1_miss_38 (iv_i r2_ (by decide +kernel)) ?_
        refine j_iload S dX1_miss_39 (lv_at hl 4 rfl) ?_
        refine j_csi (As := [jL (sp_ms w (H x) n i), jL n, jI what]) S (c_X1_term l (sp_ms w (H x) n i) n what (iv_w r5_ (by decide +kernel)) (iv_w r2_ (by decide +kernel)) (iv_w r4_ (by decide +kernel))) (va_cwS 3 S.2.2.2.2 gX1_miss_X1_term rfl rfl rfl hdX1_term ⟨Nat.le_of_ble_eq_true rfl, Nat.le_of_ble_eq_true rfl⟩) [] rfl rfl hl.1 (Nat.le_of_ble_eq_true rfl) ⟨Nat.zero_le _, Nat.zero_le _⟩ dX1_miss_41 (fun i41 q41 => ?_)
        subst q41
        refine j_goto (tgt := 49) S dX1_miss_44 (by decide) ?_
        exact hret (sp_lt (sp_ms w (H x) n i) n what) 49 _ (by unfold sp_miss; (repeat' split) <;> first | omega | rfl) dX1_miss_49
  · refine j_ldc (n := (-1000000001)) S (S.2.2.2.2 _ (List.mem_of_getElem? (i := 1) rfl)) (by decide) dX1_miss_8 ?_
    exact hret (-1000000001) 10 _ (by unfold sp_miss; (repeat' split) <;> first | omega | rfl) dX1_miss_10
abbrev rmX1_worst : Room := { frames := 3, cells := 0, slots := 0, locals := 73 }
theorem hdX1_worst : yX1_worst.cls ≠ "java/lang/invoke/MethodHandle" ∧ yX1_worst.cls ≠ "java/lang/invoke/VarHandle" ∧ (parseMethodDescriptor yX1_worst.desc).map (fun d => d.parameters.length) = some 3 := by decide +kernel
set_option maxHeartbeats 4000000 in
set_option maxRecDepth 100000 in
theorem c_X1_worst (l : Launch) (D : va_G) (h a0 a1 a2 a3 : Nat) (cA : ClassId) (H T E F : Int → Int) (cc gc w d v : Int) (hok : SOK H T E cc gc w d v) (x : Int) (n : Int) (what : Int) (hx : inI x) (hn : inI n) (hwhat : inI what) : MI l yX1_worst wsX1_worst rmX1_worst [.ref h, jI x, jI n, jI what] (WB D (MW h a0 a1 a2 a3 cA H T E F cc gc w d v) cA) (fun rR => rR = sp_worst w cc H x n what) := by
  refine MI_of (cc := cX1_worst) (maxL := 4) (by decide) rfl (Nat.le_of_ble_eq_true rfl) ?_
  intro pP eE sS mM aA bL mT cC QQ ls S hret ⟨hP, hK⟩ hl
  obtain ⟨hcc, hgc, hw, hd, hv, hH, hT, hE⟩ := id hok
  have hin : ∀ w ∈ wsX10, w ∈ wsX1_worst := fun w hw => List.mem_cons_of_mem _ (List.mem_append_right _ hw)
  have hl : lv_has ls 4 [(0, .ref h), (1, jI x), (2, jI n), (3, jI what)] := hl
  refine lv_aload_n S.1 S.2.1 dX1_worst_0 rfl (lv_at hl 0 rfl) ?_
  refine j_iload_n S dX1_worst_1 rfl (lv_at hl 1 rfl) ?_
  refine j_cvi (As := [jI x]) (ci := 1) S (c_X1_isCircle l D h a0 a1 a2 a3 cA H T E F cc gc w d v hok x (iv_w hx (by decide +kernel))) (cwV 1 S.2.2.2.2 gX1_worst_X1_isCircle rfl rfl rfl ⟨rfl, hdX1_isCircle⟩ ⟨Nat.le_of_ble_eq_true rfl, Nat.le_of_ble_eq_true rfl⟩) hK hP rfl rfl rfl [] rfl rfl hl.1 (Nat.le_of_ble_eq_true rfl) ⟨Nat.zero_le _, Nat.zero_le _⟩ dX1_worst_2 (fun i2 q2 => ?_)
  subst q2
  refine j_ifb_ne (tgt := 10) S dX1_worst_5 (by decide) (fun c5 => ?_) (fun c5 => ?_)
  · have r1_ : 0 ≤ x ∧ x ≤ 7 := by omega
    refine j_iload_n S dX1_worst_10 rfl (lv_at hl 2 rfl) ?_
    refine j_csi (As := [jI n]) S (c_X1_isParts l n (iv_w hn (by decide +kernel))) (va_cwS 1 S.2.2.2.2 gX1_worst_X1_isParts rfl rfl rfl hdX1_isParts ⟨Nat.le_of_ble_eq_true rfl, Nat.le_of_ble_eq_true rfl⟩) [] rfl rfl hl.1 (Nat.le_of_ble_eq_true rfl) ⟨Nat.zero_le _, Nat.zero_le _⟩ dX1_worst_11 (fun i11 q11 => ?_)
    subst q11
    refine j_ifb_eq (tgt := 29) S dX1_worst_14 (by decide) (fun c14 => ?_) (fun c14 => ?_)
    · refine j_bipush S dX1_worst_29 (by decide) ?_
      exact hret (-2) 31 _ (by unfold sp_worst; (repeat' split) <;> first | omega | rfl) dX1_worst_31
    · have r2_ : 2 ≤ n ∧ n ≤ 1000 := by omega
      refine j_iload_n S dX1_worst_17 rfl (lv_at hl 3 rfl) ?_
      refine j_i2l S dX1_worst_18 (iv_i hwhat (by decide +kernel)) ?_
      refine j_lconst (a := 0) S dX1_worst_19 rfl ?_
      refine j_ldc2 (n := 2) S (S.2.2.2.2 _ (List.mem_of_getElem? (i := 1) rfl)) (by decide) dX1_worst_20 ?_
      refine j_csi (As := [jL what, jL 0, jL 2]) S (c_X1_in l what 0 2 (iv_w hwhat (by decide +kernel)) (iv_w (iv_n 0) (by decide +kernel)) (iv_w (iv_n 2) (by decide +kernel))) (va_cwS 3 S.2.2.2.2 gX1_worst_X1_in rfl rfl rfl hdX1_in ⟨Nat.le_of_ble_eq_true rfl, Nat.le_of_ble_eq_true rfl⟩) [] rfl rfl hl.1 (Nat.le_of_ble_eq_true rfl) ⟨Nat.zero_le _, Nat.zero_le _⟩ dX1_worst_23 (fun i23 q23 => ?_)
      subst q23
      refine j_ifb_ne (tgt := 32) S dX1_worst_26 (by decide) (fun c26 => ?_) (fun c26 => ?_)
      · have r3_ : 0 ≤ what ∧ what ≤ 2 := by omega
        refine j_iload_n S dX1_worst_32 rfl (lv_at hl 3 rfl) ?_
        refine j_iconst S dX1_worst_33 ?_
        refine j_icmp_ne (tgt := 46) S dX1_worst_34 (by decide) (iv_i r3_ (by decide +kernel)) (iv_i (iv_n 2) (by decide +kernel)) (fun c34 => ?_) (fun c34 => ?_)
        · have r4_ : 0 ≤ what ∧ what ≤ 1 := by omega
          refine lv_aload_n S.1 S.2.1 dX1_worst_46 rfl (lv_at hl 0 rfl) ?_
          refine j_iload_n S dX1_worst_47 rfl (lv_at hl 1 rfl) ?_
          refine j_iload_n S dX1_worst_48 rfl (lv_at hl 2 rfl) ?_
          refine j_cvl (As := [jI x, jI n]) (ci := 1) S (c_X1_worstOf l D h a0 a1 a2 a3 cA H T E F cc gc w d v hok x n (iv_w r1_ (by decide +kernel)) (iv_w r2_ (by decide +kernel)) (by omega)) (cwV 2 S.2.2.2.2 gX1_worst_X1_worstOf rfl rfl rfl ⟨rfl, hdX1_worstOf⟩ ⟨Nat.le_of_ble_eq_true rfl, Nat.le_of_ble_eq_true rfl⟩) hK hP rfl rfl rfl [] rfl rfl hl.1 (Nat.le_of_ble_eq_true rfl) ⟨Nat.zero_le _, Nat.zero_le _⟩ dX1_worst_49 (fun i49 q49 => ?_)
          subst q49
          have r5_ : 0 ≤ (sp_wu w (H x) n) ∧ (sp_wu w (H x) n) ≤ 500 := sp_wu_iv (iv_w (lo := 2) (hi := 1000) r2_ (by decide +kernel))
          refine j_iload_n S dX1_worst_52 rfl (lv_at hl 2 rfl) ?_
          refine j_i2l S dX1_worst_53 (iv_i r2_ (by decide +kernel)) ?_
          refine j_iload_n S dX1_worst_54 rfl (lv_at hl 3 rfl) ?_
          refine j_csi (As := [jL (sp_wu w (H x) n), jL n, jI what]) S (c_X1_term l (sp_wu w (H x) n) n what (iv_w r5_ (by decide +kernel)) (iv_w r2_ (by decide +kernel)) (iv_w r4_ (by decide +kernel))) (va_cwS 3 S.2.2.2.2 gX1_worst_X1_term rfl rfl rfl hdX1_term ⟨Nat.le_of_ble_eq_true rfl, Nat.le_of_ble_eq_true rfl⟩) [] rfl rfl hl.1 (Nat.le_of_ble_eq_true rfl) ⟨Nat.zero_le _, Nat.zero_le _⟩ dX1_worst_55 (fun i55 q55 => ?_)
          subst q55
          exact hret (sp_lt (sp_wu w (H x) n) n what) 58 _ (by unfold sp_worst; (repeat' split) <;> first | omega | rfl) dX1_worst_58
        · have r6_ : 2 ≤ what ∧ what ≤ 2 := by omega
          refine lv_aload_n S.1 S.2.1 dX1_worst_37 rfl (lv_at hl 0 rfl) ?_
          refine j_iload_n S dX1_worst_38 rfl (lv_at hl 1 rfl) ?_
          refine j_iload_n S dX1_worst_39 rfl (lv_at hl 2 rfl) ?_
          refine j_cvi (As := [jI x, jI n]) (ci := 1) S (c_X1_exact l D h a0 a1 a2 a3 cA H T E F cc gc w d v hok x n (iv_w r1_ (by decide +kernel)) (iv_w r2_ (by decide +kernel)) (by omega)) (cwV 2 S.2.2.2.2 gX1_worst_X1_exact rfl rfl rfl ⟨rfl, hdX1_exact⟩ ⟨Nat.le_of_ble_eq_true rfl, Nat.le_of_ble_eq_true rfl⟩) hK hP rfl rfl rfl [] rfl rfl hl.1 (Nat.le_of_ble_eq_true rfl) ⟨Nat.zero_le _, Nat.zero_le _⟩ dX1_worst_40 (fun i40 q40 => ?_)
          subst q40
          refine j_goto (tgt := 58) S dX1_worst_43 (by decide) ?_
          exact hret (sp_xf w (H x) n n) 58 _ (by unfold sp_worst; (repeat' split) <;> first | omega | rfl) dX1_worst_58
      · refine j_bipush S dX1_worst_29 (by decide) ?_
        exact hret (-2) 31 _ (by unfold sp_worst; (repeat' split) <;> first | omega | rfl) dX1_worst_31
  · refine j_iconst S dX1_worst_8 ?_
    exact hret (-1) 9 _ (by unfold sp_worst; (repeat' split) <;> first | omega | rfl) dX1_worst_9
abbrev rmX1_best : Room := { frames := 3, cells := 0, slots := 0, locals := 73 }
theorem hdX1_best : yX1_best.cls ≠ "java/lang/invoke/MethodHandle" ∧ yX1_best.cls ≠ "java/lang/invoke/VarHandle" ∧ (parseMethodDescriptor yX1_best.desc).map (fun d => d.parameters.length) = some 1 := by decide +kernel
set_option maxHeartbeats 4000000 in
set_option maxRecDepth 100000 in
theorem c_X1_best (l : Launch) (D : va_G) (h a0 a1 a2 a3 : Nat) (cA : ClassId) (H T E F : Int → Int) (cc gc w d v : Int) (hok : SOK H T E cc gc w d v) (n : Int) (hn : inI n) : MI l yX1_best wsX1_best rmX1_best [.ref h, jI n] (WB D (MW h a0 a1 a2 a3 cA H T E F cc gc w d v) cA) (fun rR => rR = sp_best w cc H n) := by
  refine MI_of (cc := cX1_best) (maxL := 4) (by decide) rfl (Nat.le_of_ble_eq_true rfl) ?_
  intro pP eE sS mM aA bL mT cC QQ ls S hret ⟨hP, hK⟩ hl
  obtain ⟨hcc, hgc, hw, hd, hv, hH, hT, hE⟩ := id hok
  have hin : ∀ w ∈ wsX10, w ∈ wsX1_best := fun w hw => List.mem_cons_of_mem _ (List.mem_append_right _ hw)
  have hl : lv_has ls 4 [(0, .ref h), (1, jI n)] := hl
  refine j_iload_n S dX1_best_0 rfl (lv_at hl 1 rfl) ?_
  refine j_csi (As := [jI n]) S (c_X1_isParts l n (iv_w hn (by decide +kernel))) (va_cwS 1 S.2.2.2.2 gX1_best_X1_isParts rfl rfl rfl hdX1_isParts ⟨Nat.le_of_ble_eq_true rfl, Nat.le_of_ble_eq_true rfl⟩) [] rfl rfl hl.1 (Nat.le_of_ble_eq_true rfl) ⟨Nat.zero_le _, Nat.zero_le _⟩ dX1_best_1 (fun i1 q1 => ?_)
  subst q1
  refine j_ifb_ne (tgt := 10) S dX1_best_4 (by decide) (fun c4 => ?_) (fun c4 => ?_)
  · have r1_ : 2 ≤ n ∧ n ≤ 1000 := by omega
    refine lv_aload_n S.1 S.2.1 dX1_best_10 rfl (lv_at hl 0 rfl) ?_
    refine j_get (v := jI cc) S hin hK hP rfl rfl 1 (by decide) (List.mem_of_getElem? (i := 1) rfl) rfl dX1_best_11 ?_
    refine j_if_ne (tgt := 20) S dX1_best_14 (by decide) (iv_i hcc (by decide +kernel)) (fun c14 => ?_) (fun c14 => ?_)
    · have r2_ : 1 ≤ cc ∧ cc ≤ 8 := by omega
      refine j_iconst S dX1_best_20 ?_
      refine j_istore_n (lv' := [(2, jI 0), (0, .ref h), (1, jI n)]) S dX1_best_21 rfl hl (by decide) rfl (fun ls hl => ?_)
      refine j_iconst S dX1_best_22 ?_
      refine j_istore_n (lv' := [(3, jI 1), (2, jI 0), (0, .ref h), (1, jI n)]) S dX1_best_23 rfl hl (by decide) rfl (fun ls hl => ?_)
      have loop24 : ∀ (N : Nat) (b k : Int) (ls : Array Slot), (1 ≤ k ∧ k ≤ 8) → (k ≤ cc) → (b = sp_bs w H n k) → (0 ≤ b ∧ b ≤ 7) → (b < k) → cc - k < (N : Int) → lv_has ls 4 [(3, jI k), (2, jI b), (0, .ref h), (1, jI n)] → W pP l eE rmX1_best sS mM aA bL mT cC sS.heap [] 0 0 QQ (F0 mM 24 ls []) := by
        intro N
        induction N with
        | zero =>
          intro b k ls hk hk2 hb hbi hbk hN
          exact absurd hN (by omega)
        | succ N ih24 =>
          intro b k ls hk hk2 hb hbi hbk hN hl
          refine j_iload_n S dX1_best_24 rfl (lv_at hl 0 rfl) ?_
          refine lv_aload_n S.1 S.2.1 dX1_best_25 rfl (lv_at hl 2 rfl) ?_
          refine j_get (v := jI cc) S hin hK hP rfl rfl 1 (by decide) (List.mem_of_getElem? (i := 1) rfl) rfl dX1_best_26 ?_
          refine j_icmp_ge (tgt := 76) S dX1_best_29 (by decide) (iv_i hk (by decide +kernel)) (iv_i r2_ (by decide +kernel)) (fun c29 => ?_) (fun c29 => ?_)
          · refine j_iload_n S dX1_best_76 rfl (lv_at hl 1 rfl) ?_
            exact hret b 77 _ (by unfold sp_best; (repeat' split) <;> first | omega | (rw [hb, show k = cc from by omega])) dX1_best_77
          · have r3_ : 1 ≤ k ∧ k ≤ 7 := by omega
            have r4_ : 2 ≤ cc ∧ cc ≤ 8 := by omega
            refine lv_aload_n S.1 S.2.1 dX1_best_32 rfl (lv_at hl 2 rfl) ?_
            refine j_iload_n S dX1_best_33 rfl (lv_at hl 0 rfl) ?_
            refine j_iload_n S dX1_best_34 rfl (lv_at hl 3 rfl) ?_
            refine j_cvl (As := [jI k, jI n]) (ci := 1) S (c_X1_worstOf l D h a0 a1 a2 a3 cA H T E F cc gc w d v hok k n (iv_w r3_ (by decide +kernel)) (iv_w r1_ (by decide +kernel)) (by omega)) (cwV 2 S.2.2.2.2 gX1_best_X1_worstOf rfl rfl rfl ⟨rfl, hdX1_worstOf⟩ ⟨Nat.le_of_ble_eq_true rfl, Nat.le_of_ble_eq_true rfl⟩) hK hP rfl rfl rfl [] rfl rfl hl.1 (Nat.le_of_ble_eq_true rfl) ⟨Nat.zero_le _, Nat.zero_le _⟩ dX1_best_35 (fun i35 q35 => ?_)
            subst q35
            have r5_ : 0 ≤ (sp_wu w (H k) n) ∧ (sp_wu w (H k) n) ≤ 500 := sp_wu_iv (iv_w (lo := 2) (hi := 1000) r1_ (by decide +kernel))
            refine lv_aload_n S.1 S.2.1 dX1_best_38 rfl (lv_at hl 2 rfl) ?_
            refine j_get (v := .ref a0) S hin hK hP rfl rfl 2 (by decide) (List.mem_of_getElem? (i := 2) rfl) rfl dX1_best_39 ?_
            refine j_iload_n S dX1_best_42 rfl (lv_at hl 1 rfl) ?_
            refine j_iald S hK hP 1 0 rfl rfl (iv_ix (n := 8) hbi (by decide +kernel)) dX1_best_43 ?_
            have r6_ := hH b (by omega) (by omega)
            refine j_i2l S dX1_best_44 (iv_i r6_ (by decide +kernel)) ?_
            refine j_lmul S dX1_best_45 ?_
            refine lv_aload_n S.1 S.2.1 dX1_best_46 rfl (lv_at hl 2 rfl) ?_
            refine j_iload_n S dX1_best_47 rfl (lv_at hl 1 rfl) ?_
            refine j_iload_n S dX1_best_48 rfl (lv_at hl 3 rfl) ?_
            refine j_cvl (As := [jI b, jI n]) (ci := 1) S (c_X1_worstOf l D h a0 a1 a2 a3 cA H T E F cc gc w d v hok b n (iv_w hbi (by decide +kernel)) (iv_w r1_ (by decide +kernel)) (by omega)) (cwV 2 S.2.2.2.2 gX1_best_X1_worstOf rfl rfl rfl ⟨rfl, hdX1_worstOf⟩ ⟨Nat.le_of_ble_eq_true rfl, Nat.le_of_ble_eq_true rfl⟩) hK hP rfl rfl rfl [jL ((sp_wu w (H k) n) * (H b))] rfl rfl hl.1 (Nat.le_of_ble_eq_true rfl) ⟨Nat.zero_le _, Nat.zero_le _⟩ dX1_best_49 (fun i49 q49 => ?_)
            subst q49
            have r7_ : 0 ≤ (sp_wu w (H b) n) ∧ (sp_wu w (H b) n) ≤ 500 := sp_wu_iv (iv_w (lo := 2) (hi := 1000) r1_ (by decide +kernel))
            refine lv_aload_n S.1 S.2.1 dX1_best_52 rfl (lv_at hl 2 rfl) ?_
            refine j_get (v := .ref a0) S hin hK hP rfl rfl 2 (by decide) (List.mem_of_getElem? (i := 2) rfl) rfl dX1_best_53 ?_
            refine j_iload_n S dX1_best_56 rfl (lv_at hl 0 rfl) ?_
            refine j_iald S hK hP 1 0 rfl rfl (iv_ix (n := 8) r3_ (by decide +kernel)) dX1_best_57 ?_
            have r8_ := hH k (by omega) (by omega)
            refine j_i2l S dX1_best_58 (iv_i r8_ (by decide +kernel)) ?_
            refine j_lmul S dX1_best_59 ?_
            refine j_lcmp_ge (pc1 := 61) (tgt := 68) S rfl dX1_best_60 dX1_best_61 (by decide) (iv_l (iv_mulp (lo := 0) (hi := 60000) r5_ r6_ (by decide +kernel)) (by decide +kernel)) (iv_l (iv_mulp (lo := 0) (hi := 60000) r7_ r8_ (by decide +kernel)) (by decide +kernel)) (fun c60 => ?_) (fun c60 => ?_)
            · refine j_iload_n S dX1_best_68 rfl (lv_at hl 1 rfl) ?_
              refine j_istore_n (lv' := [(2, jI b), (3, jI k), (0, .ref h), (1, jI n)]) S dX1_best_69 rfl hl (by decide) rfl (fun ls hl => ?_)
              refine j_iinc (k := 1) (y := (k + 1)) (lv' := [(3, jI (k + 1)), (2, jI b), (0, .ref h), (1, jI n)]) S dX1_best_70 hl rfl rfl (by decide) rfl (fun ls hl => ?_)
              refine j_goto (tgt := 24) S dX1_best_73 (by decide) ?_
              exact ih24 b (k + 1) _ (by omega) (by omega) (by rw [sp_bs_s (by omega), ← hb]; split <;> omega) (by omega) (by omega) (by omega) (lv_sub hl [0, 1, 2, 3] rfl)
            · refine j_iload_n S dX1_best_64 rfl (lv_at hl 0 rfl) ?_
              refine j_goto (tgt := 69) S dX1_best_65 (by decide) ?_
              refine j_istore_n (lv' := [(2, jI k), (3, jI k), (0, .ref h), (1, jI n)]) S dX1_best_69 rfl hl (by decide) rfl (fun ls hl => ?_)
              refine j_iinc (k := 1) (y := (k + 1)) (lv' := [(3, jI (k + 1)), (2, jI k), (0, .ref h), (1, jI n)]) S dX1_best_70 hl rfl rfl (by decide) rfl (fun ls hl => ?_)
              refine j_goto (tgt := 24) S dX1_best_73 (by decide) ?_
              exact ih24 k (k + 1) _ (by omega) (by omega) (by rw [sp_bs_s (by omega), ← hb]; split <;> omega) (by omega) (by omega) (by omega) (lv_sub hl [0, 1, 2, 3] rfl)
      exact loop24 9 0 1 _ (by omega) (by omega) rfl (by omega) (by omega) (by omega) (lv_sub hl [0, 1, 2, 3] rfl)
    · have r9_ : 0 ≤ cc ∧ cc ≤ 0 := by omega
      refine j_bipush S dX1_best_17 (by decide) ?_
      exact hret (-3) 19 _ (by unfold sp_best; (repeat' split) <;> first | omega) dX1_best_19
  · refine j_bipush S dX1_best_7 (by decide) ?_
    exact hret (-2) 9 _ (by unfold sp_best; (repeat' split) <;> first | omega) dX1_best_9
end
section
abbrev rmX0_wheel : Room := { frames := 1, cells := 0, slots := 0, locals := 22 }
theorem hdX0_wheel : yX0_wheel.cls ≠ "java/lang/invoke/MethodHandle" ∧ yX0_wheel.cls ≠ "java/lang/invoke/VarHandle" ∧ (parseMethodDescriptor yX0_wheel.desc).map (fun d => d.parameters.length) = some 1 := by decide +kernel
set_option maxHeartbeats 4000000 in
set_option maxRecDepth 100000 in
theorem c_X0_wheel (l : Launch) (D : va_G) (h a0 a1 a2 a3 : Nat) (cA : ClassId) (H T E F : Int → Int) (cc gc w d v : Int) (sz : Nat) (hok : SOK H T E cc gc w d v) (x : Int) (hx : inI x) : MMI l yX0_wheel wsX0_wheel rmX0_wheel [.ref h, jI x] D cA (XW h a0 a1 a2 a3 cA H T E F cc gc w d v) (fun u : Int => XW h a0 a1 a2 a3 cA H T E F cc gc u d v) sz (fun rR u => R_wheel w x rR u) := by
  refine MMI_of (cc := cX0_wheel) (maxL := 3) (Or.inl rfl) (by decide) rfl (Nat.le_of_ble_eq_true rfl) ?_
  intro pP eE sS mM aA bL mT cC QQ ls A S hret hP hK hD hS hA hl
  obtain ⟨hcc, hgc, hw, hd, hv, hH, hT, hE⟩ := id hok
  have hin : ∀ w ∈ wsX00, w ∈ wsX0_wheel := fun w hw => List.mem_cons_of_mem _ (List.mem_append_right _ hw)
  have hl : lv_has ls 3 [(0, .ref h), (1, jI x)] := hl
  refine j_iload_n S dX0_wheel_0 rfl (lv_at hl 1 rfl) ?_
  refine j_bipush S dX0_wheel_1 (by decide) ?_
  refine j_sipush S dX0_wheel_3 (by decide) ?_
  refine j_csi (As := [jI x, jI 10, jI 200]) S (c_X0_isOutside l x 10 200 (iv_w hx (by decide +kernel)) (iv_w (iv_n 10) (by decide +kernel)) (iv_w (iv_n 200) (by decide +kernel))) (va_cwS 3 S.2.2.2.2 gX0_wheel_X0_isOutside rfl rfl rfl hdX0_isOutside ⟨Nat.le_of_ble_eq_true rfl, Nat.le_of_ble_eq_true rfl⟩) [] rfl rfl hl.1 (Nat.le_of_ble_eq_true rfl) ⟨Nat.zero_le _, Nat.zero_le _⟩ dX0_wheel_6 (fun i6 q6 => ?_)
  subst q6
  refine j_ifb_eq (tgt := 15) S dX0_wheel_9 (by decide) (fun c9 => ?_) (fun c9 => ?_)
  · have r1_ : 10 ≤ x ∧ x ≤ 200 := by omega
    refine lv_aload_n S.1 S.2.1 dX0_wheel_15 rfl (lv_at hl 0 rfl) ?_
    refine j_get (v := jI w) S hin hK hP rfl rfl 6 (by decide) (List.mem_of_getElem? (i := 1) rfl) rfl dX0_wheel_16 ?_
    refine j_istore_n (lv' := [(2, jI w), (0, .ref h), (1, jI x)]) S dX0_wheel_19 rfl hl (by decide) rfl (fun ls hl => ?_)
    refine lv_aload_n S.1 S.2.1 dX0_wheel_20 rfl (lv_at hl 1 rfl) ?_
    refine j_iload_n S dX0_wheel_21 rfl (lv_at hl 2 rfl) ?_
    refine j_put (wx1 := (XW h a0 a1 a2 a3 cA H T E F cc gc x d v)) S hin tyX0 tyX0_ok nmX0 hK hP hD hS rfl rfl 6 (by decide) (List.mem_of_getElem? (i := 1) rfl) rfl (by decide +kernel) (Nat.le_of_ble_eq_true rfl) rfl dX0_wheel_22 (fun Hp lc hP hD hS => ?_)
    refine j_iload_n S dX0_wheel_25 rfl (lv_at hl 0 rfl) ?_
    exact hret w x _ _ 26 _ (fun q => by cases q) (by unfold R_wheel; omega) hP hD hS dX0_wheel_26
  · refine j_bipush S dX0_wheel_12 (by decide) ?_
    exact hret (-2) w _ _ 14 _ (fun q => by cases q) (by unfold R_wheel; omega) hP hD hS dX0_wheel_14
abbrev rmX0_gear : Room := { frames := 1, cells := 0, slots := 0, locals := 22 }
theorem hdX0_gear : yX0_gear.cls ≠ "java/lang/invoke/MethodHandle" ∧ yX0_gear.cls ≠ "java/lang/invoke/VarHandle" ∧ (parseMethodDescriptor yX0_gear.desc).map (fun d => d.parameters.length) = some 1 := by decide +kernel
set_option maxHeartbeats 4000000 in
set_option maxRecDepth 100000 in
theorem c_X0_gear (l : Launch) (D : va_G) (h a0 a1 a2 a3 : Nat) (cA : ClassId) (H T E F : Int → Int) (cc gc w d v : Int) (sz : Nat) (hok : SOK H T E cc gc w d v) (x : Int) (hx : inI x) : MMI l yX0_gear wsX0_gear rmX0_gear [.ref h, jI x] D cA (XW h a0 a1 a2 a3 cA H T E F cc gc w d v) (fun u : Int × (Int → Int) => XW h a0 a1 a2 a3 cA H u.2 E F cc u.1 w d v) sz (fun rR u => R_gear T gc x rR u.1 u.2) := by
  refine MMI_of (cc := cX0_gear) (maxL := 2) (Or.inl rfl) (by decide) rfl (Nat.le_of_ble_eq_true rfl) ?_
  intro pP eE sS mM aA bL mT cC QQ ls A S hret hP hK hD hS hA hl
  obtain ⟨hcc, hgc, hw, hd, hv, hH, hT, hE⟩ := id hok
  have hin : ∀ w ∈ wsX00, w ∈ wsX0_gear := fun w hw => List.mem_cons_of_mem _ (List.mem_append_right _ hw)
  have hl : lv_has ls 2 [(0, .ref h), (1, jI x)] := hl
  refine j_iload_n S dX0_gear_0 rfl (lv_at hl 1 rfl) ?_
  refine j_bipush S dX0_gear_1 (by decide) ?_
  refine j_bipush S dX0_gear_3 (by decide) ?_
  refine j_csi (As := [jI x, jI 12, jI 120]) S (c_X0_isOutside l x 12 120 (iv_w hx (by decide +kernel)) (iv_w (iv_n 12) (by decide +kernel)) (iv_w (iv_n 120) (by decide +kernel))) (va_cwS 3 S.2.2.2.2 gX0_gear_X0_isOutside rfl rfl rfl hdX0_isOutside ⟨Nat.le_of_ble_eq_true rfl, Nat.le_of_ble_eq_true rfl⟩) [] rfl rfl hl.1 (Nat.le_of_ble_eq_true rfl) ⟨Nat.zero_le _, Nat.zero_le _⟩ dX0_gear_5 (fun i5 q5 => ?_)
  subst q5
  refine j_ifb_eq (tgt := 14) S dX0_gear_8 (by decide) (fun c8 => ?_) (fun c8 => ?_)
  · have r1_ : 12 ≤ x ∧ x ≤ 120 := by omega
    refine lv_aload_n S.1 S.2.1 dX0_gear_14 rfl (lv_at hl 0 rfl) ?_
    refine j_get (v := jI gc) S hin hK hP rfl rfl 5 (by decide) (List.mem_of_getElem? (i := 1) rfl) rfl dX0_gear_15 ?_
    refine j_bipush S dX0_gear_18 (by decide) ?_
    refine j_icmp_lt (tgt := 26) S dX0_gear_20 (by decide) (iv_i hgc (by decide +kernel)) (iv_i (iv_n 10) (by decide +kernel)) (fun c20 => ?_) (fun c20 => ?_)
    · have r2_ : 0 ≤ gc ∧ gc ≤ 9 := by omega
      refine lv_aload_n S.1 S.2.1 dX0_gear_26 rfl (lv_at hl 0 rfl) ?_
      refine j_get (v := .ref a1) S hin hK hP rfl rfl 1 (by decide) (List.mem_of_getElem? (i := 2) rfl) rfl dX0_gear_27 ?_
      refine lv_aload_n S.1 S.2.1 dX0_gear_30 rfl (lv_at hl 0 rfl) ?_
      refine j_get (v := jI gc) S hin hK hP rfl rfl 5 (by decide) (List.mem_of_getElem? (i := 1) rfl) rfl dX0_gear_31 ?_
      refine j_iload_n S dX0_gear_34 rfl (lv_at hl 1 rfl) ?_
      refine j_iast (ws1 := (XW h a0 a1 a2 a3 cA H (jU T gc x) E F cc gc w d v)) S hK hP hD hS 2 0 rfl rfl (iv_ix (n := 10) r2_ (by decide +kernel)) rfl dX0_gear_35 (fun Hp lc hP hD hS => ?_)
      refine lv_aload_n S.1 S.2.1 dX0_gear_36 rfl (lv_at hl 0 rfl) ?_
      refine lv_dup S.1 S.2.1 dX0_gear_37 rfl ?_
      refine j_get (v := jI gc) S hin hK hP rfl rfl 5 (by decide) (List.mem_of_getElem? (i := 1) rfl) rfl dX0_gear_38 ?_
      refine j_iconst S dX0_gear_41 ?_
      refine j_iadd S dX0_gear_42 ?_
      refine j_put (wx1 := (XW h a0 a1 a2 a3 cA H (jU T gc x) E F cc (gc + 1) w d v)) S hin tyX0 tyX0_ok nmX0 hK hP hD hS rfl rfl 5 (by decide) (List.mem_of_getElem? (i := 1) rfl) rfl (by decide +kernel) (Nat.le_of_ble_eq_true rfl) rfl dX0_gear_43 (fun Hp lc hP hD hS => ?_)
      refine lv_aload_n S.1 S.2.1 dX0_gear_46 rfl (lv_at hl 0 rfl) ?_
      refine j_get (v := jI (gc + 1)) S hin hK hP rfl rfl 5 (by decide) (List.mem_of_getElem? (i := 1) rfl) rfl dX0_gear_47 ?_
      refine j_iconst S dX0_gear_50 ?_
      refine j_isub S dX0_gear_51 ?_
      exact hret ((gc + 1) - 1) ((gc + 1), (jU T gc x)) _ _ 52 _ (fun q => by cases q) (Or.inr (Or.inr ⟨by omega, by omega, by omega, rfl, rfl⟩)) hP hD hS dX0_gear_52
    · have r3_ : 10 ≤ gc ∧ gc ≤ 10 := by omega
      refine j_bipush S dX0_gear_23 (by decide) ?_
      exact hret (-4) (gc, T) _ _ 25 _ (fun q => by cases q) (Or.inr (Or.inl ⟨by omega, by omega, rfl, rfl, rfl⟩)) hP hD hS dX0_gear_25
  · refine j_bipush S dX0_gear_11 (by decide) ?_
    exact hret (-2) (gc, T) _ _ 13 _ (fun q => by cases q) (Or.inl ⟨by omega, rfl, rfl, rfl⟩) hP hD hS dX0_gear_13
abbrev rmX0_error : Room := { frames := 1, cells := 0, slots := 0, locals := 22 }
theorem hdX0_error : yX0_error.cls ≠ "java/lang/invoke/MethodHandle" ∧ yX0_error.cls ≠ "java/lang/invoke/VarHandle" ∧ (parseMethodDescriptor yX0_error.desc).map (fun d => d.parameters.length) = some 2 := by decide +kernel
set_option maxHeartbeats 4000000 in
set_option maxRecDepth 100000 in
theorem c_X0_error (l : Launch) (D : va_G) (h a0 a1 a2 a3 : Nat) (cA : ClassId) (H T E F : Int → Int) (cc gc w d v : Int) (sz : Nat) (hok : SOK H T E cc gc w d v) (k : Int) (x : Int) (hk : inI k) (hx : inI x) : MMI l yX0_error wsX0_error rmX0_error [.ref h, jI k, jI x] D cA (XW h a0 a1 a2 a3 cA H T E F cc gc w d v) (fun u : Int → Int => XW h a0 a1 a2 a3 cA H T u F cc gc w d v) sz (fun rR u => R_error E k x rR u) := by
  refine MMI_of (cc := cX0_error) (maxL := 4) (Or.inl rfl) (by decide) rfl (Nat.le_of_ble_eq_true rfl) ?_
  intro pP eE sS mM aA bL mT cC QQ ls A S hret hP hK hD hS hA hl
  obtain ⟨hcc, hgc, hw, hd, hv, hH, hT, hE⟩ := id hok
  have hin : ∀ w ∈ wsX00, w ∈ wsX0_error := fun w hw => List.mem_cons_of_mem _ (List.mem_append_right _ hw)
  have hl : lv_has ls 4 [(0, .ref h), (1, jI k), (2, jI x)] := hl
  refine j_iload_n S dX0_error_0 rfl (lv_at hl 1 rfl) ?_
  refine j_iconst S dX0_error_1 ?_
  refine j_bipush S dX0_error_2 (by decide) ?_
  refine j_csi (As := [jI k, jI 0, jI 7]) S (c_X0_isOutside l k 0 7 (iv_w hk (by decide +kernel)) (iv_w (iv_n 0) (by decide +kernel)) (iv_w (iv_n 7) (by decide +kernel))) (va_cwS 3 S.2.2.2.2 gX0_error_X0_isOutside rfl rfl rfl hdX0_isOutside ⟨Nat.le_of_ble_eq_true rfl, Nat.le_of_ble_eq_true rfl⟩) [] rfl rfl hl.1 (Nat.le_of_ble_eq_true rfl) ⟨Nat.zero_le _, Nat.zero_le _⟩ dX0_error_4 (fun i4 q4 => ?_)
  subst q4
  refine j_ifb_eq (tgt := 14) S dX0_error_7 (by decide) (fun c7 => ?_) (fun c7 => ?_)
  · have r1_ : 0 ≤ k ∧ k ≤ 7 := by omega
    refine j_iload_n S dX0_error_14 rfl (lv_at hl 2 rfl) ?_
    refine j_bipush S dX0_error_15 (by decide) ?_
    refine j_bipush S dX0_error_17 (by decide) ?_
    refine j_csi (As := [jI x, jI (-100), jI 100]) S (c_X0_isOutside l x (-100) 100 (iv_w hx (by decide +kernel)) (iv_w (iv_n (-100)) (by decide +kernel)) (iv_w (iv_n 100) (by decide +kernel))) (va_cwS 3 S.2.2.2.2 gX0_error_X0_isOutside rfl rfl rfl hdX0_isOutside ⟨Nat.le_of_ble_eq_true rfl, Nat.le_of_ble_eq_true rfl⟩) [] rfl rfl hl.1 (Nat.le_of_ble_eq_true rfl) ⟨Nat.zero_le _, Nat.zero_le _⟩ dX0_error_19 (fun i19 q19 => ?_)
    subst q19
    refine j_ifb_eq (tgt := 29) S dX0_error_22 (by decide) (fun c22 => ?_) (fun c22 => ?_)
    · have r2_ : (-100) ≤ x ∧ x ≤ 100 := by omega
      refine lv_aload_n S.1 S.2.1 dX0_error_29 rfl (lv_at hl 0 rfl) ?_
      refine j_get (v := .ref a2) S hin hK hP rfl rfl 2 (by decide) (List.mem_of_getElem? (i := 1) rfl) rfl dX0_error_30 ?_
      refine j_iload_n S dX0_error_33 rfl (lv_at hl 1 rfl) ?_
      refine j_iald S hK hP 3 0 rfl rfl (iv_ix (n := 8) r1_ (by decide +kernel)) dX0_error_34 ?_
      have r3_ := hE k (by omega) (by omega)
      refine j_istore_n (lv' := [(3, jI (E k)), (0, .ref h), (1, jI k), (2, jI x)]) S dX0_error_35 rfl hl (by decide) rfl (fun ls hl => ?_)
      refine lv_aload_n S.1 S.2.1 dX0_error_36 rfl (lv_at hl 1 rfl) ?_
      refine j_get (v := .ref a2) S hin hK hP rfl rfl 2 (by decide) (List.mem_of_getElem? (i := 1) rfl) rfl dX0_error_37 ?_
      refine j_iload_n S dX0_error_40 rfl (lv_at hl 2 rfl) ?_
      refine j_iload_n S dX0_error_41 rfl (lv_at hl 3 rfl) ?_
      refine j_iast (ws1 := (XW h a0 a1 a2 a3 cA H T (jU E k x) F cc gc w d v)) S hK hP hD hS 3 0 rfl rfl (iv_ix (n := 8) r1_ (by decide +kernel)) rfl dX0_error_42 (fun Hp lc hP hD hS => ?_)
      refine j_iload_n S dX0_error_43 rfl (lv_at hl 0 rfl) ?_
      exact hret (E k) (jU E k x) _ _ 44 _ (fun q => by cases q) (Or.inr (Or.inr ⟨by omega, by omega, rfl, rfl⟩)) hP hD hS dX0_error_44
    · refine j_sipush S dX0_error_25 (by decide) ?_
      exact hret (-1002) E _ _ 28 _ (fun q => by cases q) (Or.inr (Or.inl ⟨by omega, by omega, rfl, rfl⟩)) hP hD hS dX0_error_28
  · refine j_sipush S dX0_error_10 (by decide) ?_
    exact hret (-1001) E _ _ 13 _ (fun q => by cases q) (Or.inl ⟨by omega, rfl, rfl⟩) hP hD hS dX0_error_13
abbrev rmX0_vernier : Room := { frames := 1, cells := 0, slots := 0, locals := 22 }
theorem hdX0_vernier : yX0_vernier.cls ≠ "java/lang/invoke/MethodHandle" ∧ yX0_vernier.cls ≠ "java/lang/invoke/VarHandle" ∧ (parseMethodDescriptor yX0_vernier.desc).map (fun d => d.parameters.length) = some 2 := by decide +kernel
set_option maxHeartbeats 4000000 in
set_option maxRecDepth 100000 in
theorem c_X0_vernier (l : Launch) (D : va_G) (h a0 a1 a2 a3 : Nat) (cA : ClassId) (H T E F : Int → Int) (cc gc w d v : Int) (sz : Nat) (hok : SOK H T E cc gc w d v) (x : Int) (y : Int) (hx : inI x) (hy : inI y) : MMI l yX0_vernier wsX0_vernier rmX0_vernier [.ref h, jI x, jI y] D cA (XW h a0 a1 a2 a3 cA H T E F cc gc w d v) (fun u : Int × Int => XW h a0 a1 a2 a3 cA H T E F cc gc w u.1 u.2) sz (fun rR u => R_vernier d v x y rR u.1 u.2) := by
  refine MMI_of (cc := cX0_vernier) (maxL := 3) (Or.inl rfl) (by decide) rfl (Nat.le_of_ble_eq_true rfl) ?_
  intro pP eE sS mM aA bL mT cC QQ ls A S hret hP hK hD hS hA hl
  obtain ⟨hcc, hgc, hw, hd, hv, hH, hT, hE⟩ := id hok
  have hin : ∀ w ∈ wsX00, w ∈ wsX0_vernier := fun w hw => List.mem_cons_of_mem _ (List.mem_append_right _ hw)
  have hl : lv_has ls 3 [(0, .ref h), (1, jI x), (2, jI y)] := hl
  refine j_iload_n S dX0_vernier_0 rfl (lv_at hl 1 rfl) ?_
  refine j_iconst S dX0_vernier_1 ?_
  refine j_sipush S dX0_vernier_2 (by decide) ?_
  refine j_csi (As := [jI x, jI 2, jI 720]) S (c_X0_isOutside l x 2 720 (iv_w hx (by decide +kernel)) (iv_w (iv_n 2) (by decide +kernel)) (iv_w (iv_n 720) (by decide +kernel))) (va_cwS 3 S.2.2.2.2 gX0_vernier_X0_isOutside rfl rfl rfl hdX0_isOutside ⟨Nat.le_of_ble_eq_true rfl, Nat.le_of_ble_eq_true rfl⟩) [] rfl rfl hl.1 (Nat.le_of_ble_eq_true rfl) ⟨Nat.zero_le _, Nat.zero_le _⟩ dX0_vernier_5 (fun i5 q5 => ?_)
  subst q5
  refine j_ifb_ne (tgt := 21) S dX0_vernier_8 (by decide) (fun c8 => ?_) (fun c8 => ?_)
  · refine j_bipush S dX0_vernier_21 (by decide) ?_
    exact hret (-2) (d, v) _ _ 23 _ (fun q => by cases q) (Or.inr ⟨by omega, rfl, rfl, rfl⟩) hP hD hS dX0_vernier_23
  · have r1_ : 2 ≤ x ∧ x ≤ 720 := by omega
    refine j_iload_n S dX0_vernier_11 rfl (lv_at hl 2 rfl) ?_
    refine j_iconst S dX0_vernier_12 ?_
    refine j_bipush S dX0_vernier_13 (by decide) ?_
    refine j_csi (As := [jI y, jI 2, jI 60]) S (c_X0_isOutside l y 2 60 (iv_w hy (by decide +kernel)) (iv_w (iv_n 2) (by decide +kernel)) (iv_w (iv_n 60) (by decide +kernel))) (va_cwS 3 S.2.2.2.2 gX0_vernier_X0_isOutside rfl rfl rfl hdX0_isOutside ⟨Nat.le_of_ble_eq_true rfl, Nat.le_of_ble_eq_true rfl⟩) [] rfl rfl hl.1 (Nat.le_of_ble_eq_true rfl) ⟨Nat.zero_le _, Nat.zero_le _⟩ dX0_vernier_15 (fun i15 q15 => ?_)
    subst q15
    refine j_ifb_eq (tgt := 24) S dX0_vernier_18 (by decide) (fun c18 => ?_) (fun c18 => ?_)
    · have r2_ : 2 ≤ y ∧ y ≤ 60 := by omega
      refine lv_aload_n S.1 S.2.1 dX0_vernier_24 rfl (lv_at hl 0 rfl) ?_
      refine j_iload_n S dX0_vernier_25 rfl (lv_at hl 1 rfl) ?_
      refine j_put (wx1 := (XW h a0 a1 a2 a3 cA H T E F cc gc w x v)) S hin tyX0 tyX0_ok nmX0 hK hP hD hS rfl rfl 7 (by decide) (List.mem_of_getElem? (i := 1) rfl) rfl (by decide +kernel) (Nat.le_of_ble_eq_true rfl) rfl dX0_vernier_26 (fun Hp lc hP hD hS => ?_)
      refine lv_aload_n S.1 S.2.1 dX0_vernier_29 rfl (lv_at hl 0 rfl) ?_
      refine j_iload_n S dX0_vernier_30 rfl (lv_at hl 2 rfl) ?_
      refine j_put (wx1 := (XW h a0 a1 a2 a3 cA H T E F cc gc w x y)) S hin tyX0 tyX0_ok nmX0 hK hP hD hS rfl rfl 8 (by decide) (List.mem_of_getElem? (i := 2) rfl) rfl (by decide +kernel) (Nat.le_of_ble_eq_true rfl) rfl dX0_vernier_31 (fun Hp lc hP hD hS => ?_)
      refine j_iconst S dX0_vernier_34 ?_
      exact hret 1 (x, y) _ _ 35 _ (fun q => by cases q) (Or.inl ⟨by omega, rfl, rfl, rfl⟩) hP hD hS dX0_vernier_35
    · refine j_bipush S dX0_vernier_21 (by decide) ?_
      exact hret (-2) (d, v) _ _ 23 _ (fun q => by cases q) (Or.inr ⟨by omega, rfl, rfl, rfl⟩) hP hD hS dX0_vernier_23
abbrev rmX0_circle : Room := { frames := 1, cells := 0, slots := 0, locals := 22 }
theorem hdX0_circle : yX0_circle.cls ≠ "java/lang/invoke/MethodHandle" ∧ yX0_circle.cls ≠ "java/lang/invoke/VarHandle" ∧ (parseMethodDescriptor yX0_circle.desc).map (fun d => d.parameters.length) = some 1 := by decide +kernel
set_option maxHeartbeats 4000000 in
set_option maxRecDepth 100000 in
theorem c_X0_circle (l : Launch) (D : va_G) (h a0 a1 a2 a3 : Nat) (cA : ClassId) (H T E F : Int → Int) (cc gc w d v : Int) (sz : Nat) (hok : SOK H T E cc gc w d v) (x : Int) (hx : inI x) : MMI l yX0_circle wsX0_circle rmX0_circle [.ref h, jI x] D cA (XW h a0 a1 a2 a3 cA H T E F cc gc w d v) (fun u : Int × (Int → Int) => XW h a0 a1 a2 a3 cA u.2 T E F u.1 gc w d v) sz (fun rR u => R_circle H cc x rR u.1 u.2) := by
  refine MMI_of (cc := cX0_circle) (maxL := 2) (Or.inl rfl) (by decide) rfl (Nat.le_of_ble_eq_true rfl) ?_
  intro pP eE sS mM aA bL mT cC QQ ls A S hret hP hK hD hS hA hl
  obtain ⟨hcc, hgc, hw, hd, hv, hH, hT, hE⟩ := id hok
  have hin : ∀ w ∈ wsX00, w ∈ wsX0_circle := fun w hw => List.mem_cons_of_mem _ (List.mem_append_right _ hw)
  have hl : lv_has ls 2 [(0, .ref h), (1, jI x)] := hl
  refine j_iload_n S dX0_circle_0 rfl (lv_at hl 1 rfl) ?_
  refine j_iconst S dX0_circle_1 ?_
  refine j_bipush S dX0_circle_2 (by decide) ?_
  refine j_csi (As := [jI x, jI 5, jI 120]) S (c_X0_isOutside l x 5 120 (iv_w hx (by decide +kernel)) (iv_w (iv_n 5) (by decide +kernel)) (iv_w (iv_n 120) (by decide +kernel))) (va_cwS 3 S.2.2.2.2 gX0_circle_X0_isOutside rfl rfl rfl hdX0_isOutside ⟨Nat.le_of_ble_eq_true rfl, Nat.le_of_ble_eq_true rfl⟩) [] rfl rfl hl.1 (Nat.le_of_ble_eq_true rfl) ⟨Nat.zero_le _, Nat.zero_le _⟩ dX0_circle_4 (fun i4 q4 => ?_)
  subst q4
  refine j_ifb_eq (tgt := 13) S dX0_circle_7 (by decide) (fun c7 => ?_) (fun c7 => ?_)
  · have r1_ : 5 ≤ x ∧ x ≤ 120 := by omega
    refine lv_aload_n S.1 S.2.1 dX0_circle_13 rfl (lv_at hl 0 rfl) ?_
    refine j_get (v := jI cc) S hin hK hP rfl rfl 4 (by decide) (List.mem_of_getElem? (i := 1) rfl) rfl dX0_circle_14 ?_
    refine j_bipush S dX0_circle_17 (by decide) ?_
    refine j_icmp_lt (tgt := 25) S dX0_circle_19 (by decide) (iv_i hcc (by decide +kernel)) (iv_i (iv_n 8) (by decide +kernel)) (fun c19 => ?_) (fun c19 => ?_)
    · have r2_ : 0 ≤ cc ∧ cc ≤ 7 := by omega
      refine lv_aload_n S.1 S.2.1 dX0_circle_25 rfl (lv_at hl 0 rfl) ?_
      refine j_iload_n S dX0_circle_26 rfl (lv_at hl 1 rfl) ?_
      refine j_cvi (As := [jI x]) (ci := 0) S (c_X0_hasCircleOf l D h a0 a1 a2 a3 cA H T E F cc gc w d v hok x (iv_w r1_ (by decide +kernel))) (cwV 1 S.2.2.2.2 gX0_circle_X0_hasCircleOf rfl rfl rfl ⟨rfl, hdX0_hasCircleOf⟩ ⟨Nat.le_of_ble_eq_true rfl, Nat.le_of_ble_eq_true rfl⟩) hK hP rfl rfl rfl [] rfl rfl hl.1 (Nat.le_of_ble_eq_true rfl) ⟨Nat.zero_le _, Nat.zero_le _⟩ dX0_circle_27 (fun i27 q27 => ?_)
      subst q27
      refine j_ifb_eq (tgt := 36) S dX0_circle_30 (by decide) (fun c30 => ?_) (fun c30 => ?_)
      · refine lv_aload_n S.1 S.2.1 dX0_circle_36 rfl (lv_at hl 0 rfl) ?_
        refine j_get (v := .ref a0) S hin hK hP rfl rfl 0 (by decide) (List.mem_of_getElem? (i := 2) rfl) rfl dX0_circle_37 ?_
        refine lv_aload_n S.1 S.2.1 dX0_circle_40 rfl (lv_at hl 0 rfl) ?_
        refine j_get (v := jI cc) S hin hK hP rfl rfl 4 (by decide) (List.mem_of_getElem? (i := 1) rfl) rfl dX0_circle_41 ?_
        refine j_iload_n S dX0_circle_44 rfl (lv_at hl 1 rfl) ?_
        refine j_iast (ws1 := (XW h a0 a1 a2 a3 cA (jU H cc x) T E F cc gc w d v)) S hK hP hD hS 1 0 rfl rfl (iv_ix (n := 8) r2_ (by decide +kernel)) rfl dX0_circle_45 (fun Hp lc hP hD hS => ?_)
        refine lv_aload_n S.1 S.2.1 dX0_circle_46 rfl (lv_at hl 0 rfl) ?_
        refine lv_dup S.1 S.2.1 dX0_circle_47 rfl ?_
        refine j_get (v := jI cc) S hin hK hP rfl rfl 4 (by decide) (List.mem_of_getElem? (i := 1) rfl) rfl dX0_circle_48 ?_
        refine j_iconst S dX0_circle_51 ?_
        refine j_iadd S dX0_circle_52 ?_
        refine j_put (wx1 := (XW h a0 a1 a2 a3 cA (jU H cc x) T E F (cc + 1) gc w d v)) S hin tyX0 tyX0_ok nmX0 hK hP hD hS rfl rfl 4 (by decide) (List.mem_of_getElem? (i := 1) rfl) rfl (by decide +kernel) (Nat.le_of_ble_eq_true rfl) rfl dX0_circle_53 (fun Hp lc hP hD hS => ?_)
        refine lv_aload_n S.1 S.2.1 dX0_circle_56 rfl (lv_at hl 0 rfl) ?_
        refine j_get (v := jI (cc + 1)) S hin hK hP rfl rfl 4 (by decide) (List.mem_of_getElem? (i := 1) rfl) rfl dX0_circle_57 ?_
        refine j_iconst S dX0_circle_60 ?_
        refine j_isub S dX0_circle_61 ?_
        exact hret ((cc + 1) - 1) ((cc + 1), (jU H cc x)) _ _ 62 _ (fun q => by cases q) (Or.inr (Or.inr (Or.inr ⟨by omega, by omega, c30, by omega, rfl, rfl⟩))) hP hD hS dX0_circle_62
      · refine j_bipush S dX0_circle_33 (by decide) ?_
        exact hret (-5) (cc, H) _ _ 35 _ (fun q => by cases q) (Or.inr (Or.inr (Or.inl ⟨by omega, by omega, c30, rfl, rfl, rfl⟩))) hP hD hS dX0_circle_35
    · have r3_ : 8 ≤ cc ∧ cc ≤ 8 := by omega
      refine j_bipush S dX0_circle_22 (by decide) ?_
      exact hret (-4) (cc, H) _ _ 24 _ (fun q => by cases q) (Or.inr (Or.inl ⟨by omega, by omega, rfl, rfl, rfl⟩)) hP hD hS dX0_circle_24
  · refine j_bipush S dX0_circle_10 (by decide) ?_
    exact hret (-2) (cc, H) _ _ 12 _ (fun q => by cases q) (Or.inl ⟨by omega, rfl, rfl, rfl⟩) hP hD hS dX0_circle_12
abbrev rmX1_wheel : Room := { frames := 1, cells := 0, slots := 0, locals := 25 }
theorem hdX1_wheel : yX1_wheel.cls ≠ "java/lang/invoke/MethodHandle" ∧ yX1_wheel.cls ≠ "java/lang/invoke/VarHandle" ∧ (parseMethodDescriptor yX1_wheel.desc).map (fun d => d.parameters.length) = some 1 := by decide +kernel
set_option maxHeartbeats 4000000 in
set_option maxRecDepth 100000 in
theorem c_X1_wheel (l : Launch) (D : va_G) (h a0 a1 a2 a3 : Nat) (cA : ClassId) (H T E F : Int → Int) (cc gc w d v : Int) (sz : Nat) (hok : SOK H T E cc gc w d v) (x : Int) (hx : inI x) : MMI l yX1_wheel wsX1_wheel rmX1_wheel [.ref h, jI x] D cA (MW h a0 a1 a2 a3 cA H T E F cc gc w d v) (fun u : Int => MW h a0 a1 a2 a3 cA H T E F cc gc u d v) sz (fun rR u => R_wheel w x rR u) := by
  refine MMI_of (cc := cX1_wheel) (maxL := 3) (Or.inl rfl) (by decide) rfl (Nat.le_of_ble_eq_true rfl) ?_
  intro pP eE sS mM aA bL mT cC QQ ls A S hret hP hK hD hS hA hl
  obtain ⟨hcc, hgc, hw, hd, hv, hH, hT, hE⟩ := id hok
  have hin : ∀ w ∈ wsX10, w ∈ wsX1_wheel := fun w hw => List.mem_cons_of_mem _ (List.mem_append_right _ hw)
  have hl : lv_has ls 3 [(0, .ref h), (1, jI x)] := hl
  refine j_iload_n S dX1_wheel_0 rfl (lv_at hl 1 rfl) ?_
  refine j_i2l S dX1_wheel_1 (iv_i hx (by decide +kernel)) ?_
  refine j_ldc2 (n := 10) S (S.2.2.2.2 _ (List.mem_of_getElem? (i := 1) rfl)) (by decide) dX1_wheel_2 ?_
  refine j_ldc2 (n := 200) S (S.2.2.2.2 _ (List.mem_of_getElem? (i := 2) rfl)) (by decide) dX1_wheel_5 ?_
  refine j_csi (As := [jL x, jL 10, jL 200]) S (c_X1_in l x 10 200 (iv_w hx (by decide +kernel)) (iv_w (iv_n 10) (by decide +kernel)) (iv_w (iv_n 200) (by decide +kernel))) (va_cwS 3 S.2.2.2.2 gX1_wheel_X1_in rfl rfl rfl hdX1_in ⟨Nat.le_of_ble_eq_true rfl, Nat.le_of_ble_eq_true rfl⟩) [] rfl rfl hl.1 (Nat.le_of_ble_eq_true rfl) ⟨Nat.zero_le _, Nat.zero_le _⟩ dX1_wheel_8 (fun i8 q8 => ?_)
  subst q8
  refine j_ifb_ne (tgt := 17) S dX1_wheel_11 (by decide) (fun c11 => ?_) (fun c11 => ?_)
  · have r1_ : 10 ≤ x ∧ x ≤ 200 := by omega
    refine lv_aload_n S.1 S.2.1 dX1_wheel_17 rfl (lv_at hl 0 rfl) ?_
    refine j_get (v := jI w) S hin hK hP rfl rfl 0 (by decide) (List.mem_of_getElem? (i := 3) rfl) rfl dX1_wheel_18 ?_
    refine j_istore_n (lv' := [(2, jI w), (0, .ref h), (1, jI x)]) S dX1_wheel_21 rfl hl (by decide) rfl (fun ls hl => ?_)
    refine lv_aload_n S.1 S.2.1 dX1_wheel_22 rfl (lv_at hl 1 rfl) ?_
    refine j_iload_n S dX1_wheel_23 rfl (lv_at hl 2 rfl) ?_
    refine j_put (wx1 := (MW h a0 a1 a2 a3 cA H T E F cc gc x d v)) S hin tyX1 tyX1_ok nmX1 hK hP hD hS rfl rfl 0 (by decide) (List.mem_of_getElem? (i := 3) rfl) rfl (by decide +kernel) (Nat.le_of_ble_eq_true rfl) rfl dX1_wheel_24 (fun Hp lc hP hD hS => ?_)
    refine j_iload_n S dX1_wheel_27 rfl (lv_at hl 0 rfl) ?_
    exact hret w x _ _ 28 _ (fun q => by cases q) (by unfold R_wheel; omega) hP hD hS dX1_wheel_28
  · refine j_bipush S dX1_wheel_14 (by decide) ?_
    exact hret (-2) w _ _ 16 _ (fun q => by cases q) (by unfold R_wheel; omega) hP hD hS dX1_wheel_16
abbrev rmX1_gear : Room := { frames := 1, cells := 0, slots := 0, locals := 25 }
theorem hdX1_gear : yX1_gear.cls ≠ "java/lang/invoke/MethodHandle" ∧ yX1_gear.cls ≠ "java/lang/invoke/VarHandle" ∧ (parseMethodDescriptor yX1_gear.desc).map (fun d => d.parameters.length) = some 1 := by decide +kernel
set_option maxHeartbeats 4000000 in
set_option maxRecDepth 100000 in
theorem c_X1_gear (l : Launch) (D : va_G) (h a0 a1 a2 a3 : Nat) (cA : ClassId) (H T E F : Int → Int) (cc gc w d v : Int) (sz : Nat) (hok : SOK H T E cc gc w d v) (x : Int) (hx : inI x) : MMI l yX1_gear wsX1_gear rmX1_gear [.ref h, jI x] D cA (MW h a0 a1 a2 a3 cA H T E F cc gc w d v) (fun u : Int × (Int → Int) => MW h a0 a1 a2 a3 cA H u.2 E F cc u.1 w d v) sz (fun rR u => R_gear T gc x rR u.1 u.2) := by
  refine MMI_of (cc := cX1_gear) (maxL := 2) (Or.inl rfl) (by decide) rfl (Nat.le_of_ble_eq_true rfl) ?_
  intro pP eE sS mM aA bL mT cC QQ ls A S hret hP hK hD hS hA hl
  obtain ⟨hcc, hgc, hw, hd, hv, hH, hT, hE⟩ := id hok
  have hin : ∀ w ∈ wsX10, w ∈ wsX1_gear := fun w hw => List.mem_cons_of_mem _ (List.mem_append_right _ hw)
  have hl : lv_has ls 2 [(0, .ref h), (1, jI x)] := hl
  refine j_iload_n S dX1_gear_0 rfl (lv_at hl 1 rfl) ?_
  refine j_i2l S dX1_gear_1 (iv_i hx (by decide +kernel)) ?_
  refine j_ldc2 (n := 12) S (S.2.2.2.2 _ (List.mem_of_getElem? (i := 1) rfl)) (by decide) dX1_gear_2 ?_
  refine j_ldc2 (n := 120) S (S.2.2.2.2 _ (List.mem_of_getElem? (i := 2) rfl)) (by decide) dX1_gear_5 ?_
  refine j_csi (As := [jL x, jL 12, jL 120]) S (c_X1_in l x 12 120 (iv_w hx (by decide +kernel)) (iv_w (iv_n 12) (by decide +kernel)) (iv_w (iv_n 120) (by decide +kernel))) (va_cwS 3 S.2.2.2.2 gX1_gear_X1_in rfl rfl rfl hdX1_in ⟨Nat.le_of_ble_eq_true rfl, Nat.le_of_ble_eq_true rfl⟩) [] rfl rfl hl.1 (Nat.le_of_ble_eq_true rfl) ⟨Nat.zero_le _, Nat.zero_le _⟩ dX1_gear_8 (fun i8 q8 => ?_)
  subst q8
  refine j_ifb_ne (tgt := 17) S dX1_gear_11 (by decide) (fun c11 => ?_) (fun c11 => ?_)
  · have r1_ : 12 ≤ x ∧ x ≤ 120 := by omega
    refine lv_aload_n S.1 S.2.1 dX1_gear_17 rfl (lv_at hl 0 rfl) ?_
    refine j_get (v := jI gc) S hin hK hP rfl rfl 3 (by decide) (List.mem_of_getElem? (i := 3) rfl) rfl dX1_gear_18 ?_
    refine j_bipush S dX1_gear_21 (by decide) ?_
    refine j_icmp_ne (tgt := 29) S dX1_gear_23 (by decide) (iv_i hgc (by decide +kernel)) (iv_i (iv_n 10) (by decide +kernel)) (fun c23 => ?_) (fun c23 => ?_)
    · have r2_ : 0 ≤ gc ∧ gc ≤ 9 := by omega
      refine lv_aload_n S.1 S.2.1 dX1_gear_29 rfl (lv_at hl 0 rfl) ?_
      refine j_get (v := .ref a1) S hin hK hP rfl rfl 4 (by decide) (List.mem_of_getElem? (i := 4) rfl) rfl dX1_gear_30 ?_
      refine lv_aload_n S.1 S.2.1 dX1_gear_33 rfl (lv_at hl 0 rfl) ?_
      refine j_get (v := jI gc) S hin hK hP rfl rfl 3 (by decide) (List.mem_of_getElem? (i := 3) rfl) rfl dX1_gear_34 ?_
      refine j_iload_n S dX1_gear_37 rfl (lv_at hl 1 rfl) ?_
      refine j_iast (ws1 := (MW h a0 a1 a2 a3 cA H (jU T gc x) E F cc gc w d v)) S hK hP hD hS 2 0 rfl rfl (iv_ix (n := 10) r2_ (by decide +kernel)) rfl dX1_gear_38 (fun Hp lc hP hD hS => ?_)
      refine lv_aload_n S.1 S.2.1 dX1_gear_39 rfl (lv_at hl 0 rfl) ?_
      refine lv_dup S.1 S.2.1 dX1_gear_40 rfl ?_
      refine j_get (v := jI gc) S hin hK hP rfl rfl 3 (by decide) (List.mem_of_getElem? (i := 3) rfl) rfl dX1_gear_41 ?_
      refine j_iconst S dX1_gear_44 ?_
      refine j_iadd S dX1_gear_45 ?_
      refine j_put (wx1 := (MW h a0 a1 a2 a3 cA H (jU T gc x) E F cc (gc + 1) w d v)) S hin tyX1 tyX1_ok nmX1 hK hP hD hS rfl rfl 3 (by decide) (List.mem_of_getElem? (i := 3) rfl) rfl (by decide +kernel) (Nat.le_of_ble_eq_true rfl) rfl dX1_gear_46 (fun Hp lc hP hD hS => ?_)
      refine lv_aload_n S.1 S.2.1 dX1_gear_49 rfl (lv_at hl 0 rfl) ?_
      refine j_get (v := jI (gc + 1)) S hin hK hP rfl rfl 3 (by decide) (List.mem_of_getElem? (i := 3) rfl) rfl dX1_gear_50 ?_
      refine j_iconst S dX1_gear_53 ?_
      refine j_isub S dX1_gear_54 ?_
      exact hret ((gc + 1) - 1) ((gc + 1), (jU T gc x)) _ _ 55 _ (fun q => by cases q) (Or.inr (Or.inr ⟨by omega, by omega, by omega, rfl, rfl⟩)) hP hD hS dX1_gear_55
    · have r3_ : 10 ≤ gc ∧ gc ≤ 10 := by omega
      refine j_bipush S dX1_gear_26 (by decide) ?_
      exact hret (-4) (gc, T) _ _ 28 _ (fun q => by cases q) (Or.inr (Or.inl ⟨by omega, by omega, rfl, rfl, rfl⟩)) hP hD hS dX1_gear_28
  · refine j_bipush S dX1_gear_14 (by decide) ?_
    exact hret (-2) (gc, T) _ _ 16 _ (fun q => by cases q) (Or.inl ⟨by omega, rfl, rfl, rfl⟩) hP hD hS dX1_gear_16
abbrev rmX1_error : Room := { frames := 1, cells := 0, slots := 0, locals := 25 }
theorem hdX1_error : yX1_error.cls ≠ "java/lang/invoke/MethodHandle" ∧ yX1_error.cls ≠ "java/lang/invoke/VarHandle" ∧ (parseMethodDescriptor yX1_error.desc).map (fun d => d.parameters.length) = some 2 := by decide +kernel
set_option maxHeartbeats 4000000 in
set_option maxRecDepth 100000 in
theorem c_X1_error (l : Launch) (D : va_G) (h a0 a1 a2 a3 : Nat) (cA : ClassId) (H T E F : Int → Int) (cc gc w d v : Int) (sz : Nat) (hok : SOK H T E cc gc w d v) (k : Int) (x : Int) (hk : inI k) (hx : inI x) : MMI l yX1_error wsX1_error rmX1_error [.ref h, jI k, jI x] D cA (MW h a0 a1 a2 a3 cA H T E F cc gc w d v) (fun u : Int → Int => MW h a0 a1 a2 a3 cA H T u F cc gc w d v) sz (fun rR u => R_error E k x rR u) := by
  refine MMI_of (cc := cX1_error) (maxL := 4) (Or.inl rfl) (by decide) rfl (Nat.le_of_ble_eq_true rfl) ?_
  intro pP eE sS mM aA bL mT cC QQ ls A S hret hP hK hD hS hA hl
  obtain ⟨hcc, hgc, hw, hd, hv, hH, hT, hE⟩ := id hok
  have hin : ∀ w ∈ wsX10, w ∈ wsX1_error := fun w hw => List.mem_cons_of_mem _ (List.mem_append_right _ hw)
  have hl : lv_has ls 4 [(0, .ref h), (1, jI k), (2, jI x)] := hl
  refine j_iload_n S dX1_error_0 rfl (lv_at hl 1 rfl) ?_
  refine j_i2l S dX1_error_1 (iv_i hk (by decide +kernel)) ?_
  refine j_lconst (a := 0) S dX1_error_2 rfl ?_
  refine j_ldc2 (n := 7) S (S.2.2.2.2 _ (List.mem_of_getElem? (i := 1) rfl)) (by decide) dX1_error_3 ?_
  refine j_csi (As := [jL k, jL 0, jL 7]) S (c_X1_in l k 0 7 (iv_w hk (by decide +kernel)) (iv_w (iv_n 0) (by decide +kernel)) (iv_w (iv_n 7) (by decide +kernel))) (va_cwS 3 S.2.2.2.2 gX1_error_X1_in rfl rfl rfl hdX1_in ⟨Nat.le_of_ble_eq_true rfl, Nat.le_of_ble_eq_true rfl⟩) [] rfl rfl hl.1 (Nat.le_of_ble_eq_true rfl) ⟨Nat.zero_le _, Nat.zero_le _⟩ dX1_error_6 (fun i6 q6 => ?_)
  subst q6
  refine j_ifb_ne (tgt := 16) S dX1_error_9 (by decide) (fun c9 => ?_) (fun c9 => ?_)
  · have r1_ : 0 ≤ k ∧ k ≤ 7 := by omega
    refine j_iload_n S dX1_error_16 rfl (lv_at hl 2 rfl) ?_
    refine j_i2l S dX1_error_17 (iv_i hx (by decide +kernel)) ?_
    refine j_ldc2 (n := (-100)) S (S.2.2.2.2 _ (List.mem_of_getElem? (i := 2) rfl)) (by decide) dX1_error_18 ?_
    refine j_ldc2 (n := 100) S (S.2.2.2.2 _ (List.mem_of_getElem? (i := 3) rfl)) (by decide) dX1_error_21 ?_
    refine j_csi (As := [jL x, jL (-100), jL 100]) S (c_X1_in l x (-100) 100 (iv_w hx (by decide +kernel)) (iv_w (iv_n (-100)) (by decide +kernel)) (iv_w (iv_n 100) (by decide +kernel))) (va_cwS 3 S.2.2.2.2 gX1_error_X1_in rfl rfl rfl hdX1_in ⟨Nat.le_of_ble_eq_true rfl, Nat.le_of_ble_eq_true rfl⟩) [] rfl rfl hl.1 (Nat.le_of_ble_eq_true rfl) ⟨Nat.zero_le _, Nat.zero_le _⟩ dX1_error_24 (fun i24 q24 => ?_)
    subst q24
    refine j_ifb_ne (tgt := 34) S dX1_error_27 (by decide) (fun c27 => ?_) (fun c27 => ?_)
    · have r2_ : (-100) ≤ x ∧ x ≤ 100 := by omega
      refine lv_aload_n S.1 S.2.1 dX1_error_34 rfl (lv_at hl 0 rfl) ?_
      refine j_get (v := .ref a2) S hin hK hP rfl rfl 5 (by decide) (List.mem_of_getElem? (i := 4) rfl) rfl dX1_error_35 ?_
      refine j_iload_n S dX1_error_38 rfl (lv_at hl 1 rfl) ?_
      refine j_iald S hK hP 3 0 rfl rfl (iv_ix (n := 8) r1_ (by decide +kernel)) dX1_error_39 ?_
      have r3_ := hE k (by omega) (by omega)
      refine j_istore_n (lv' := [(3, jI (E k)), (0, .ref h), (1, jI k), (2, jI x)]) S dX1_error_40 rfl hl (by decide) rfl (fun ls hl => ?_)
      refine lv_aload_n S.1 S.2.1 dX1_error_41 rfl (lv_at hl 1 rfl) ?_
      refine j_get (v := .ref a2) S hin hK hP rfl rfl 5 (by decide) (List.mem_of_getElem? (i := 4) rfl) rfl dX1_error_42 ?_
      refine j_iload_n S dX1_error_45 rfl (lv_at hl 2 rfl) ?_
      refine j_iload_n S dX1_error_46 rfl (lv_at hl 3 rfl) ?_
      refine j_iast (ws1 := (MW h a0 a1 a2 a3 cA H T (jU E k x) F cc gc w d v)) S hK hP hD hS 3 0 rfl rfl (iv_ix (n := 8) r1_ (by decide +kernel)) rfl dX1_error_47 (fun Hp lc hP hD hS => ?_)
      refine j_iload_n S dX1_error_48 rfl (lv_at hl 0 rfl) ?_
      exact hret (E k) (jU E k x) _ _ 49 _ (fun q => by cases q) (Or.inr (Or.inr ⟨by omega, by omega, rfl, rfl⟩)) hP hD hS dX1_error_49
    · refine j_sipush S dX1_error_30 (by decide) ?_
      exact hret (-1002) E _ _ 33 _ (fun q => by cases q) (Or.inr (Or.inl ⟨by omega, by omega, rfl, rfl⟩)) hP hD hS dX1_error_33
  · refine j_sipush S dX1_error_12 (by decide) ?_
    exact hret (-1001) E _ _ 15 _ (fun q => by cases q) (Or.inl ⟨by omega, rfl, rfl⟩) hP hD hS dX1_error_15
abbrev rmX1_vernier : Room := { frames := 1, cells := 0, slots := 0, locals := 25 }
theorem hdX1_vernier : yX1_vernier.cls ≠ "java/lang/invoke/MethodHandle" ∧ yX1_vernier.cls ≠ "java/lang/invoke/VarHandle" ∧ (parseMethodDescriptor yX1_vernier.desc).map (fun d => d.parameters.length) = some 2 := by decide +kernel
set_option maxHeartbeats 4000000 in
set_option maxRecDepth 100000 in
theorem c_X1_vernier (l : Launch) (D : va_G) (h a0 a1 a2 a3 : Nat) (cA : ClassId) (H T E F : Int → Int) (cc gc w d v : Int) (sz : Nat) (hok : SOK H T E cc gc w d v) (x : Int) (y : Int) (hx : inI x) (hy : inI y) : MMI l yX1_vernier wsX1_vernier rmX1_vernier [.ref h, jI x, jI y] D cA (MW h a0 a1 a2 a3 cA H T E F cc gc w d v) (fun u : Int × Int => MW h a0 a1 a2 a3 cA H T E F cc gc w u.1 u.2) sz (fun rR u => R_vernier d v x y rR u.1 u.2) := by
  refine MMI_of (cc := cX1_vernier) (maxL := 3) (Or.inl rfl) (by decide) rfl (Nat.le_of_ble_eq_true rfl) ?_
  intro pP eE sS mM aA bL mT cC QQ ls A S hret hP hK hD hS hA hl
  obtain ⟨hcc, hgc, hw, hd, hv, hH, hT, hE⟩ := id hok
  have hin : ∀ w ∈ wsX10, w ∈ wsX1_vernier := fun w hw => List.mem_cons_of_mem _ (List.mem_append_right _ hw)
  have hl : lv_has ls 3 [(0, .ref h), (1, jI x), (2, jI y)] := hl
  refine j_iload_n S dX1_vernier_0 rfl (lv_at hl 1 rfl) ?_
  refine j_i2l S dX1_vernier_1 (iv_i hx (by decide +kernel)) ?_
  refine j_ldc2 (n := 2) S (S.2.2.2.2 _ (List.mem_of_getElem? (i := 1) rfl)) (by decide) dX1_vernier_2 ?_
  refine j_ldc2 (n := 720) S (S.2.2.2.2 _ (List.mem_of_getElem? (i := 2) rfl)) (by decide) dX1_vernier_5 ?_
  refine j_csi (As := [jL x, jL 2, jL 720]) S (c_X1_in l x 2 720 (iv_w hx (by decide +kernel)) (iv_w (iv_n 2) (by decide +kernel)) (iv_w (iv_n 720) (by decide +kernel))) (va_cwS 3 S.2.2.2.2 gX1_vernier_X1_in rfl rfl rfl hdX1_in ⟨Nat.le_of_ble_eq_true rfl, Nat.le_of_ble_eq_true rfl⟩) [] rfl rfl hl.1 (Nat.le_of_ble_eq_true rfl) ⟨Nat.zero_le _, Nat.zero_le _⟩ dX1_vernier_8 (fun i8 q8 => ?_)
  subst q8
  refine j_ifb_eq (tgt := 28) S dX1_vernier_11 (by decide) (fun c11 => ?_) (fun c11 => ?_)
  · refine j_bipush S dX1_vernier_28 (by decide) ?_
    exact hret (-2) (d, v) _ _ 30 _ (fun q => by cases q) (Or.inr ⟨by omega, rfl, rfl, rfl⟩) hP hD hS dX1_vernier_30
  · have r1_ : 2 ≤ x ∧ x ≤ 720 := by omega
    refine j_iload_n S dX1_vernier_14 rfl (lv_at hl 2 rfl) ?_
    refine j_i2l S dX1_vernier_15 (iv_i hy (by decide +kernel)) ?_
    refine j_ldc2 (n := 2) S (S.2.2.2.2 _ (List.mem_of_getElem? (i := 1) rfl)) (by decide) dX1_vernier_16 ?_
    refine j_ldc2 (n := 60) S (S.2.2.2.2 _ (List.mem_of_getElem? (i := 3) rfl)) (by decide) dX1_vernier_19 ?_
    refine j_csi (As := [jL y, jL 2, jL 60]) S (c_X1_in l y 2 60 (iv_w hy (by decide +kernel)) (iv_w (iv_n 2) (by decide +kernel)) (iv_w (iv_n 60) (by decide +kernel))) (va_cwS 3 S.2.2.2.2 gX1_vernier_X1_in rfl rfl rfl hdX1_in ⟨Nat.le_of_ble_eq_true rfl, Nat.le_of_ble_eq_true rfl⟩) [] rfl rfl hl.1 (Nat.le_of_ble_eq_true rfl) ⟨Nat.zero_le _, Nat.zero_le _⟩ dX1_vernier_22 (fun i22 q22 => ?_)
    subst q22
    refine j_ifb_ne (tgt := 31) S dX1_vernier_25 (by decide) (fun c25 => ?_) (fun c25 => ?_)
    · have r2_ : 2 ≤ y ∧ y ≤ 60 := by omega
      refine lv_aload_n S.1 S.2.1 dX1_vernier_31 rfl (lv_at hl 0 rfl) ?_
      refine j_iload_n S dX1_vernier_32 rfl (lv_at hl 1 rfl) ?_
      refine j_put (wx1 := (MW h a0 a1 a2 a3 cA H T E F cc gc w x v)) S hin tyX1 tyX1_ok nmX1 hK hP hD hS rfl rfl 6 (by decide) (List.mem_of_getElem? (i := 4) rfl) rfl (by decide +kernel) (Nat.le_of_ble_eq_true rfl) rfl dX1_vernier_33 (fun Hp lc hP hD hS => ?_)
      refine lv_aload_n S.1 S.2.1 dX1_vernier_36 rfl (lv_at hl 0 rfl) ?_
      refine j_iload_n S dX1_vernier_37 rfl (lv_at hl 2 rfl) ?_
      refine j_put (wx1 := (MW h a0 a1 a2 a3 cA H T E F cc gc w x y)) S hin tyX1 tyX1_ok nmX1 hK hP hD hS rfl rfl 7 (by decide) (List.mem_of_getElem? (i := 5) rfl) rfl (by decide +kernel) (Nat.le_of_ble_eq_true rfl) rfl dX1_vernier_38 (fun Hp lc hP hD hS => ?_)
      refine j_iconst S dX1_vernier_41 ?_
      exact hret 1 (x, y) _ _ 42 _ (fun q => by cases q) (Or.inl ⟨by omega, rfl, rfl, rfl⟩) hP hD hS dX1_vernier_42
    · refine j_bipush S dX1_vernier_28 (by decide) ?_
      exact hret (-2) (d, v) _ _ 30 _ (fun q => by cases q) (Or.inr ⟨by omega, rfl, rfl, rfl⟩) hP hD hS dX1_vernier_30
abbrev rmX1_circle : Room := { frames := 1, cells := 0, slots := 0, locals := 25 }
theorem hdX1_circle : yX1_circle.cls ≠ "java/lang/invoke/MethodHandle" ∧ yX1_circle.cls ≠ "java/lang/invoke/VarHandle" ∧ (parseMethodDescriptor yX1_circle.desc).map (fun d => d.parameters.length) = some 1 := by decide +kernel
set_option maxHeartbeats 4000000 in
set_option maxRecDepth 100000 in
theorem c_X1_circle (l : Launch) (D : va_G) (h a0 a1 a2 a3 : Nat) (cA : ClassId) (H T E F : Int → Int) (cc gc w d v : Int) (sz : Nat) (hok : SOK H T E cc gc w d v) (x : Int) (hx : inI x) : MMI l yX1_circle wsX1_circle rmX1_circle [.ref h, jI x] D cA (MW h a0 a1 a2 a3 cA H T E F cc gc w d v) (fun u : Int × (Int → Int) => MW h a0 a1 a2 a3 cA u.2 T E F u.1 gc w d v) sz (fun rR u => R_circle H cc x rR u.1 u.2) := by
  refine MMI_of (cc := cX1_circle) (maxL := 3) (Or.inl rfl) (by decide) rfl (Nat.le_of_ble_eq_true rfl) ?_
  intro pP eE sS mM aA bL mT cC QQ ls A S hret hP hK hD hS hA hl
  obtain ⟨hcc, hgc, hw, hd, hv, hH, hT, hE⟩ := id hok
  have hin : ∀ w ∈ wsX10, w ∈ wsX1_circle := fun w hw => List.mem_cons_of_mem _ (List.mem_append_right _ hw)
  have hl : lv_has ls 3 [(0, .ref h), (1, jI x)] := hl
  refine j_iload_n S dX1_circle_0 rfl (lv_at hl 1 rfl) ?_
  refine j_i2l S dX1_circle_1 (iv_i hx (by decide +kernel)) ?_
  refine j_ldc2 (n := 5) S (S.2.2.2.2 _ (List.mem_of_getElem? (i := 1) rfl)) (by decide) dX1_circle_2 ?_
  refine j_ldc2 (n := 120) S (S.2.2.2.2 _ (List.mem_of_getElem? (i := 2) rfl)) (by decide) dX1_circle_5 ?_
  refine j_csi (As := [jL x, jL 5, jL 120]) S (c_X1_in l x 5 120 (iv_w hx (by decide +kernel)) (iv_w (iv_n 5) (by decide +kernel)) (iv_w (iv_n 120) (by decide +kernel))) (va_cwS 3 S.2.2.2.2 gX1_circle_X1_in rfl rfl rfl hdX1_in ⟨Nat.le_of_ble_eq_true rfl, Nat.le_of_ble_eq_true rfl⟩) [] rfl rfl hl.1 (Nat.le_of_ble_eq_true rfl) ⟨Nat.zero_le _, Nat.zero_le _⟩ dX1_circle_8 (fun i8 q8 => ?_)
  subst q8
  refine j_ifb_ne (tgt := 17) S dX1_circle_11 (by decide) (fun c11 => ?_) (fun c11 => ?_)
  · have r1_ : 5 ≤ x ∧ x ≤ 120 := by omega
    refine lv_aload_n S.1 S.2.1 dX1_circle_17 rfl (lv_at hl 0 rfl) ?_
    refine j_get (v := jI cc) S hin hK hP rfl rfl 1 (by decide) (List.mem_of_getElem? (i := 3) rfl) rfl dX1_circle_18 ?_
    refine j_bipush S dX1_circle_21 (by decide) ?_
    refine j_icmp_ne (tgt := 29) S dX1_circle_23 (by decide) (iv_i hcc (by decide +kernel)) (iv_i (iv_n 8) (by decide +kernel)) (fun c23 => ?_) (fun c23 => ?_)
    · have r2_ : 0 ≤ cc ∧ cc ≤ 7 := by omega
      refine j_iconst S dX1_circle_29 ?_
      refine j_istore_n (lv' := [(2, jI 0), (0, .ref h), (1, jI x)]) S dX1_circle_30 rfl hl (by decide) rfl (fun ls hl => ?_)
      have loop31 : ∀ (N : Nat) (k : Int) (ls : Array Slot), (0 ≤ k ∧ k ≤ 7) → (k ≤ cc) → (∀ j, 0 ≤ j → j < k → H j ≠ x) → cc - k < (N : Int) → lv_has ls 3 [(2, jI k), (0, .ref h), (1, jI x)] → W pP l eE rmX1_circle sS mM aA bL mT cC sS.heap [] 0 0 QQ (F0 mM 31 ls []) := by
        intro N
        induction N with
        | zero =>
          intro k ls hk hk2 hz hN
          exact absurd hN (by omega)
        | succ N ih31 =>
          intro k ls hk hk2 hz hN hl
          refine j_iload_n S dX1_circle_31 rfl (lv_at hl 0 rfl) ?_
          refine lv_aload_n S.1 S.2.1 dX1_circle_32 rfl (lv_at hl 1 rfl) ?_
          refine j_get (v := jI cc) S hin hK hP rfl rfl 1 (by decide) (List.mem_of_getElem? (i := 3) rfl) rfl dX1_circle_33 ?_
          refine j_icmp_ge (tgt := 58) S dX1_circle_36 (by decide) (iv_i hk (by decide +kernel)) (iv_i r2_ (by decide +kernel)) (fun c36 => ?_) (fun c36 => ?_)
          · refine lv_aload_n S.1 S.2.1 dX1_circle_58 rfl (lv_at hl 1 rfl) ?_
            refine j_get (v := .ref a0) S hin hK hP rfl rfl 2 (by decide) (List.mem_of_getElem? (i := 4) rfl) rfl dX1_circle_59 ?_
            refine lv_aload_n S.1 S.2.1 dX1_circle_62 rfl (lv_at hl 1 rfl) ?_
            refine j_get (v := jI cc) S hin hK hP rfl rfl 1 (by decide) (List.mem_of_getElem? (i := 3) rfl) rfl dX1_circle_63 ?_
            refine j_iload_n S dX1_circle_66 rfl (lv_at hl 2 rfl) ?_
            refine j_iast (ws1 := (MW h a0 a1 a2 a3 cA (jU H cc x) T E F cc gc w d v)) S hK hP hD hS 1 0 rfl rfl (iv_ix (n := 8) r2_ (by decide +kernel)) rfl dX1_circle_67 (fun Hp lc hP hD hS => ?_)
            refine lv_aload_n S.1 S.2.1 dX1_circle_68 rfl (lv_at hl 1 rfl) ?_
            refine lv_dup S.1 S.2.1 dX1_circle_69 rfl ?_
            refine j_get (v := jI cc) S hin hK hP rfl rfl 1 (by decide) (List.mem_of_getElem? (i := 3) rfl) rfl dX1_circle_70 ?_
            refine j_iconst S dX1_circle_73 ?_
            refine j_iadd S dX1_circle_74 ?_
            refine j_put (wx1 := (MW h a0 a1 a2 a3 cA (jU H cc x) T E F (cc + 1) gc w d v)) S hin tyX1 tyX1_ok nmX1 hK hP hD hS rfl rfl 1 (by decide) (List.mem_of_getElem? (i := 3) rfl) rfl (by decide +kernel) (Nat.le_of_ble_eq_true rfl) rfl dX1_circle_75 (fun Hp lc hP hD hS => ?_)
            refine lv_aload_n S.1 S.2.1 dX1_circle_78 rfl (lv_at hl 1 rfl) ?_
            refine j_get (v := jI (cc + 1)) S hin hK hP rfl rfl 1 (by decide) (List.mem_of_getElem? (i := 3) rfl) rfl dX1_circle_79 ?_
            refine j_iconst S dX1_circle_82 ?_
            refine j_isub S dX1_circle_83 ?_
            exact hret ((cc + 1) - 1) ((cc + 1), (jU H cc x)) _ _ 84 _ (fun q => by cases q) (Or.inr (Or.inr (Or.inr ⟨by omega, by omega, (fun ⟨j, h1, h2, e⟩ => hz j h1 (by omega) e), by omega, rfl, rfl⟩))) hP hD hS dX1_circle_84
          · have r3_ : 0 ≤ k ∧ k ≤ 6 := by omega
            have r4_ : 1 ≤ cc ∧ cc ≤ 7 := by omega
            refine lv_aload_n S.1 S.2.1 dX1_circle_39 rfl (lv_at hl 1 rfl) ?_
            refine j_get (v := .ref a0) S hin hK hP rfl rfl 2 (by decide) (List.mem_of_getElem? (i := 4) rfl) rfl dX1_circle_40 ?_
            refine j_iload_n S dX1_circle_43 rfl (lv_at hl 0 rfl) ?_
            refine j_iald S hK hP 1 0 rfl rfl (iv_ix (n := 8) r3_ (by decide +kernel)) dX1_circle_44 ?_
            have r5_ := hH k (by omega) (by omega)
            refine j_iload_n S dX1_circle_45 rfl (lv_at hl 2 rfl) ?_
            refine j_icmp_ne (tgt := 52) S dX1_circle_46 (by decide) (iv_i r5_ (by decide +kernel)) (iv_i r1_ (by decide +kernel)) (fun c46 => ?_) (fun c46 => ?_)
            · refine j_iinc (k := 0) (y := (k + 1)) (lv' := [(2, jI (k + 1)), (0, .ref h), (1, jI x)]) S dX1_circle_52 hl rfl rfl (by decide) rfl (fun ls hl => ?_)
              refine j_goto (tgt := 31) S dX1_circle_55 (by decide) ?_
              exact ih31 (k + 1) _ (by omega) (by omega) (fun j h1 h2 => by by_cases e : j = k; rw [e]; exact c46; exact hz j h1 (by omega)) (by omega) (lv_sub hl [0, 1, 2] rfl)
            · refine j_bipush S dX1_circle_49 (by decide) ?_
              exact hret (-5) (cc, H) _ _ 51 _ (fun q => by cases q) (Or.inr (Or.inr (Or.inl ⟨by omega, by omega, ⟨k, by omega, by omega, c46⟩, rfl, rfl, rfl⟩))) hP hD hS dX1_circle_51
      exact loop31 9 0 _ (by omega) (by omega) (fun j h1 h2 => absurd h2 (by omega)) (by omega) (lv_sub hl [0, 1, 2] rfl)
    · have r6_ : 8 ≤ cc ∧ cc ≤ 8 := by omega
      refine j_bipush S dX1_circle_26 (by decide) ?_
      exact hret (-4) (cc, H) _ _ 28 _ (fun q => by cases q) (Or.inr (Or.inl ⟨by omega, by omega, rfl, rfl, rfl⟩)) hP hD hS dX1_circle_28
  · refine j_bipush S dX1_circle_14 (by decide) ?_
    exact hret (-2) (cc, H) _ _ 16 _ (fun q => by cases q) (Or.inl ⟨by omega, rfl, rfl, rfl⟩) hP hD hS dX1_circle_16
end
section
abbrev rmX0_gearWith : Room := { frames := 0, cells := 0, slots := 0, locals := 0 }
theorem hdX0_gearWith : yX0_gearWith.cls ≠ "java/lang/invoke/MethodHandle" ∧ yX0_gearWith.cls ≠ "java/lang/invoke/VarHandle" ∧ (parseMethodDescriptor yX0_gearWith.desc).map (fun d => d.parameters.length) = some 4 := by decide +kernel
set_option maxHeartbeats 4000000 in
set_option maxRecDepth 100000 in
theorem c_X0_gearWith (l : Launch) (D : va_G) (h a0 a1 a2 a3 : Nat) (cA : ClassId) (H T E F : Int → Int) (cc gc w d v : Int) (hok : SOK H T E cc gc w d v) (t : Int) (g1 : Int) (g2 : Int) (g3 : Int) (ht : (-100000000000000000) ≤ t ∧ t ≤ 100000000000000000) (hg1 : inI g1) (hg2 : inI g2) (hg3 : inI g3) : MI l yX0_gearWith wsX0_gearWith rmX0_gearWith [.ref h, jL t, jI g1, jI g2, jI g3] (WB D (XW h a0 a1 a2 a3 cA H T E F cc gc w d v) cA) (fun rR => GW gc T t g1 g2 g3 rR) := by
  refine MI_of (cc := cX0_gearWith) (maxL := 7) (by decide) rfl (Nat.le_of_ble_eq_true rfl) ?_
  intro pP eE sS mM aA bL mT cC QQ ls S hret ⟨hP, hK⟩ hl
  obtain ⟨hcc, hgc, hw, hd, hv, hH, hT, hE⟩ := id hok
  have hin : ∀ w ∈ wsX00, w ∈ wsX0_gearWith := fun w hw => List.mem_cons_of_mem _ (List.mem_append_right _ hw)
  have hl : lv_has ls 7 [(0, .ref h), (1, jL t), (3, jI g1), (4, jI g2), (5, jI g3)] := hl
  refine j_iconst S dX0_gearWith_0 ?_
  refine j_istore (lv' := [(6, jI 0), (0, .ref h), (1, jL t), (3, jI g1), (4, jI g2), (5, jI g3)]) S dX0_gearWith_1 hl (by decide) rfl (fun ls hl => ?_)
  have loop3 : ∀ (N : Nat) (k : Int) (ls : Array Slot), (0 ≤ k ∧ k ≤ 10) → (k ≤ gc) → (∀ g, 0 ≤ g → g < k → ¬ (T g = t ∧ g ≠ g1 ∧ g ≠ g2 ∧ g ≠ g3)) → gc - k < (N : Int) → lv_has ls 7 [(6, jI k), (0, .ref h), (1, jL t), (3, jI g1), (4, jI g2), (5, jI g3)] → W pP l eE rmX0_gearWith sS mM aA bL mT cC sS.heap [] 0 0 QQ (F0 mM 3 ls []) := by
    intro N
    induction N with
    | zero =>
      intro k ls hk hk2 hz hN
      exact absurd hN (by omega)
    | succ N ih3 =>
      intro k ls hk hk2 hz hN hl
      refine j_iload S dX0_gearWith_3 (lv_at hl 0 rfl) ?_
      refine lv_aload_n S.1 S.2.1 dX0_gearWith_5 rfl (lv_at hl 1 rfl) ?_
      refine j_get (v := jI gc) S hin hK hP rfl rfl 5 (by decide) (List.mem_of_getElem? (i := 1) rfl) rfl dX0_gearWith_6 ?_
      refine j_icmp_ge (tgt := 54) S dX0_gearWith_9 (by decide) (iv_i hk (by decide +kernel)) (iv_i hgc (by decide +kernel)) (fun c9 => ?_) (fun c9 => ?_)
      · refine j_bipush S dX0_gearWith_54 (by decide) ?_
        exact hret (-6) 56 _ (Or.inl ⟨rfl, fun g a b => hz g a (by omega)⟩) dX0_gearWith_56
      · have r1_ : 0 ≤ k ∧ k ≤ 9 := by omega
        have r2_ : 1 ≤ gc ∧ gc ≤ 10 := by omega
        refine lv_aload_n S.1 S.2.1 dX0_gearWith_12 rfl (lv_at hl 1 rfl) ?_
        refine j_get (v := .ref a1) S hin hK hP rfl rfl 1 (by decide) (List.mem_of_getElem? (i := 2) rfl) rfl dX0_gearWith_13 ?_
        refine j_iload S dX0_gearWith_16 (lv_at hl 0 rfl) ?_
        refine j_iald S hK hP 2 0 rfl rfl (iv_ix (n := 10) r1_ (by decide +kernel)) dX0_gearWith_18 ?_
        have r3_ := hT k (by omega) (by omega)
        refine j_i2l S dX0_gearWith_19 (iv_i r3_ (by decide +kernel)) ?_
        refine j_lload_n S dX0_gearWith_20 rfl (lv_at hl 2 rfl) ?_
        refine j_lcmp_ne (pc1 := 22) (tgt := 48) S rfl dX0_gearWith_21 dX0_gearWith_22 (by decide) (iv_l r3_ (by decide +kernel)) (iv_l ht (by decide +kernel)) (fun c21 => ?_) (fun c21 => ?_)
        · refine j_iinc (k := 0) (y := (k + 1)) (lv' := [(6, jI (k + 1)), (0, .ref h), (1, jL t), (3, jI g1), (4, jI g2), (5, jI g3)]) S dX0_gearWith_48 hl rfl rfl (by decide) rfl (fun ls hl => ?_)
          refine j_goto (tgt := 3) S dX0_gearWith_51 (by decide) ?_
          exact ih3 (k + 1) _ (by omega) (by omega) (fun g a b => by by_cases e : g = k; rw [e]; omega; exact hz g a (by omega)) (by omega) (lv_sub hl [0, 1, 2, 3, 4, 5] rfl)
        · have r4_ : 12 ≤ t ∧ t ≤ 120 := by omega
          refine j_iload S dX0_gearWith_25 (lv_at hl 0 rfl) ?_
          refine j_iload_n S dX0_gearWith_27 rfl (lv_at hl 3 rfl) ?_
          refine j_icmp_eq (tgt := 48) S dX0_gearWith_28 (by decide) (iv_i r1_ (by decide +kernel)) (iv_i hg1 (by decide +kernel)) (fun c28 => ?_) (fun c28 => ?_)
          · have r5_ : 0 ≤ g1 ∧ g1 ≤ 9 := by omega
            refine j_iinc (k := 0) (y := (k + 1)) (lv' := [(6, jI (k + 1)), (0, .ref h), (1, jL t), (3, jI g1), (4, jI g2), (5, jI g3)]) S dX0_gearWith_48 hl rfl rfl (by decide) rfl (fun ls hl => ?_)
            refine j_goto (tgt := 3) S dX0_gearWith_51 (by decide) ?_
            exact ih3 (k + 1) _ (by omega) (by omega) (fun g a b => by by_cases e : g = k; rw [e]; omega; exact hz g a (by omega)) (by omega) (lv_sub hl [0, 1, 2, 3, 4, 5] rfl)
          · refine j_iload S dX0_gearWith_31 (lv_at hl 0 rfl) ?_
            refine j_iload S dX0_gearWith_33 (lv_at hl 4 rfl) ?_
            refine j_icmp_eq (tgt := 48) S dX0_gearWith_35 (by decide) (iv_i r1_ (by decide +kernel)) (iv_i hg2 (by decide +kernel)) (fun c35 => ?_) (fun c35 => ?_)
            · have r6_ : 0 ≤ g2 ∧ g2 ≤ 9 := by omega
              refine j_iinc (k := 0) (y := (k + 1)) (lv' := [(6, jI (k + 1)), (0, .ref h), (1, jL t), (3, jI g1), (4, jI g2), (5, jI g3)]) S dX0_gearWith_48 hl rfl rfl (by decide) rfl (fun ls hl => ?_)
              refine j_goto (tgt := 3) S dX0_gearWith_51 (by decide) ?_
              exact ih3 (k + 1) _ (by omega) (by omega) (fun g a b => by by_cases e : g = k; rw [e]; omega; exact hz g a (by omega)) (by omega) (lv_sub hl [0, 1, 2, 3, 4, 5] rfl)
            · refine j_iload S dX0_gearWith_38 (lv_at hl 0 rfl) ?_
              refine j_iload S dX0_gearWith_40 (lv_at hl 5 rfl) ?_
              refine j_icmp_eq (tgt := 48) S dX0_gearWith_42 (by decide) (iv_i r1_ (by decide +kernel)) (iv_i hg3 (by decide +kernel)) (fun c42 => ?_) (fun c42 => ?_)
              · have r7_ : 0 ≤ g3 ∧ g3 ≤ 9 := by omega
                refine j_iinc (k := 0) (y := (k + 1)) (lv' := [(6, jI (k + 1)), (0, .ref h), (1, jL t), (3, jI g1), (4, jI g2), (5, jI g3)]) S dX0_gearWith_48 hl rfl rfl (by decide) rfl (fun ls hl => ?_)
                refine j_goto (tgt := 3) S dX0_gearWith_51 (by decide) ?_
                exact ih3 (k + 1) _ (by omega) (by omega) (fun g a b => by by_cases e : g = k; rw [e]; omega; exact hz g a (by omega)) (by omega) (lv_sub hl [0, 1, 2, 3, 4, 5] rfl)
              · refine j_iload S dX0_gearWith_45 (lv_at hl 0 rfl) ?_
                exact hret k 47 _ (Or.inr ⟨by omega, by omega, hz⟩) dX0_gearWith_47
  exact loop3 11 0 _ (by omega) (by omega) (fun j h1 h2 => absurd h2 (by omega)) (by omega) (lv_sub hl [0, 1, 2, 3, 4, 5] rfl)
abbrev rmX0_keepTrain : Room := { frames := 0, cells := 0, slots := 0, locals := 0 }
theorem hdX0_keepTrain : yX0_keepTrain.cls ≠ "java/lang/invoke/MethodHandle" ∧ yX0_keepTrain.cls ≠ "java/lang/invoke/VarHandle" ∧ (parseMethodDescriptor yX0_keepTrain.desc).map (fun d => d.parameters.length) = some 4 := by decide +kernel
set_option maxHeartbeats 4000000 in
set_option maxRecDepth 100000 in
theorem c_X0_keepTrain (l : Launch) (D : va_G) (h a0 a1 a2 a3 : Nat) (cA : ClassId) (H T E F : Int → Int) (cc gc w d v : Int) (sz : Nat) (hok : SOK H T E cc gc w d v) (g1 : Int) (g2 : Int) (g3 : Int) (g4 : Int) (hg1 : inI g1) (hg2 : inI g2) (hg3 : inI g3) (hg4 : inI g4) : MMI l yX0_keepTrain wsX0_keepTrain rmX0_keepTrain [.ref h, jI g1, jI g2, jI g3, jI g4] D cA (XW h a0 a1 a2 a3 cA H T E F cc gc w d v) (fun u : Int → Int => XW h a0 a1 a2 a3 cA H T E u cc gc w d v) sz (fun rR u => rR = 1 ∧ u 0 = g1 ∧ u 1 = g2 ∧ u 2 = g3 ∧ u 3 = g4) := by
  refine MMI_of (cc := cX0_keepTrain) (maxL := 5) (Or.inr rfl) (by decide) rfl (Nat.le_of_ble_eq_true rfl) ?_
  intro pP eE sS mM aA bL mT cC QQ ls A S hret hP hK hD hS hA hl
  obtain ⟨hcc, hgc, hw, hd, hv, hH, hT, hE⟩ := id hok
  have hin : ∀ w ∈ wsX00, w ∈ wsX0_keepTrain := fun w hw => List.mem_cons_of_mem _ (List.mem_append_right _ hw)
  have hl : lv_has ls 5 [(0, .ref h), (1, jI g1), (2, jI g2), (3, jI g3), (4, jI g4)] := hl
  refine lv_aload_n S.1 S.2.1 dX0_keepTrain_0 rfl (lv_at hl 0 rfl) ?_
  refine j_get (v := .ref a3) S hin hK hP rfl rfl 3 (by decide) (List.mem_of_getElem? (i := 1) rfl) rfl dX0_keepTrain_1 ?_
  refine j_iconst S dX0_keepTrain_4 ?_
  refine j_iload_n S dX0_keepTrain_5 rfl (lv_at hl 1 rfl) ?_
  refine j_iast (ws1 := (XW h a0 a1 a2 a3 cA H T E (jU F 0 g1) cc gc w d v)) S hK hP hD hS 4 0 rfl rfl (iv_ix (n := 4) (iv_n 0) (by decide +kernel)) rfl dX0_keepTrain_6 (fun Hp lc hP hD hS => ?_)
  refine lv_aload_n S.1 S.2.1 dX0_keepTrain_7 rfl (lv_at hl 0 rfl) ?_
  refine j_get (v := .ref a3) S hin hK hP rfl rfl 3 (by decide) (List.mem_of_getElem? (i := 1) rfl) rfl dX0_keepTrain_8 ?_
  refine j_iconst S dX0_keepTrain_11 ?_
  refine j_iload_n S dX0_keepTrain_12 rfl (lv_at hl 2 rfl) ?_
  refine j_iast (ws1 := (XW h a0 a1 a2 a3 cA H T E (jU (jU F 0 g1) 1 g2) cc gc w d v)) S hK hP hD hS 4 0 rfl rfl (iv_ix (n := 4) (iv_n 1) (by decide +kernel)) rfl dX0_keepTrain_13 (fun Hp lc hP hD hS => ?_)
  refine lv_aload_n S.1 S.2.1 dX0_keepTrain_14 rfl (lv_at hl 0 rfl) ?_
  refine j_get (v := .ref a3) S hin hK hP rfl rfl 3 (by decide) (List.mem_of_getElem? (i := 1) rfl) rfl dX0_keepTrain_15 ?_
  refine j_iconst S dX0_keepTrain_18 ?_
  refine j_iload_n S dX0_keepTrain_19 rfl (lv_at hl 3 rfl) ?_
  refine j_iast (ws1 := (XW h a0 a1 a2 a3 cA H T E (jU (jU (jU F 0 g1) 1 g2) 2 g3) cc gc w d v)) S hK hP hD hS 4 0 rfl rfl (iv_ix (n := 4) (iv_n 2) (by decide +kernel)) rfl dX0_keepTrain_20 (fun Hp lc hP hD hS => ?_)
  refine lv_aload_n S.1 S.2.1 dX0_keepTrain_21 rfl (lv_at hl 0 rfl) ?_
  refine j_get (v := .ref a3) S hin hK hP rfl rfl 3 (by decide) (List.mem_of_getElem? (i := 1) rfl) rfl dX0_keepTrain_22 ?_
  refine j_iconst S dX0_keepTrain_25 ?_
  refine j_iload S dX0_keepTrain_26 (lv_at hl 4 rfl) ?_
  refine j_iast (ws1 := (XW h a0 a1 a2 a3 cA H T E (jU (jU (jU (jU F 0 g1) 1 g2) 2 g3) 3 g4) cc gc w d v)) S hK hP hD hS 4 0 rfl rfl (iv_ix (n := 4) (iv_n 3) (by decide +kernel)) rfl dX0_keepTrain_28 (fun Hp lc hP hD hS => ?_)
  refine j_iconst S dX0_keepTrain_29 ?_
  exact hret 1 (jU (jU (jU (jU F 0 g1) 1 g2) 2 g3) 3 g4) _ _ 30 _ (fun _ => Or.inr rfl) ⟨rfl, by simp [jU], by simp [jU], by simp [jU], by simp [jU]⟩ hP hD hS dX0_keepTrain_30
abbrev rmX0_findTwoGears : Room := { frames := 1, cells := 0, slots := 0, locals := 26 }
theorem hdX0_findTwoGears : yX0_findTwoGears.cls ≠ "java/lang/invoke/MethodHandle" ∧ yX0_findTwoGears.cls ≠ "java/lang/invoke/VarHandle" ∧ (parseMethodDescriptor yX0_findTwoGears.desc).map (fun d => d.parameters.length) = some 2 := by decide +kernel
set_option maxHeartbeats 4000000 in
set_option maxRecDepth 100000 in
theorem c_X0_findTwoGears (l : Launch) (D : va_G) (h a0 a1 a2 a3 : Nat) (cA : ClassId) (H T E F : Int → Int) (cc gc w d v : Int) (sz : Nat) (hok : SOK H T E cc gc w d v) (p : Int) (q : Int) (hp : 1 ≤ p ∧ p ≤ 1000000) (hq : 1 ≤ q ∧ q ≤ 1000000) : MMI l yX0_findTwoGears wsX0_findTwoGears rmX0_findTwoGears [.ref h, jL p, jL q] D cA (XW h a0 a1 a2 a3 cA H T E F cc gc w d v) (fun u : Int → Int => XW h a0 a1 a2 a3 cA H T E u cc gc w d v) sz (fun rR u => (rR = 1 ∧ Two gc T p q (u 0) (u 1) ∧ u 2 = -6 ∧ u 3 = -6) ∨ (rR = 0 ∧ No2 gc T p q)) := by
  refine MMI_of (cc := cX0_findTwoGears) (maxL := 7) (Or.inr rfl) (by decide) rfl (Nat.le_of_ble_eq_true rfl) ?_
  intro pP eE sS mM aA bL mT cC QQ ls A S hret hP hK hD hS hA hl
  obtain ⟨hcc, hgc, hw, hd, hv, hH, hT, hE⟩ := id hok
  have hin : ∀ w ∈ wsX00, w ∈ wsX0_findTwoGears := fun w hw => List.mem_cons_of_mem _ (List.mem_append_right _ hw)
  have hl : lv_has ls 7 [(0, .ref h), (1, jL p), (3, jL q)] := hl
  refine j_iconst S dX0_findTwoGears_0 ?_
  refine j_istore (lv' := [(5, jI 0), (0, .ref h), (1, jL p), (3, jL q)]) S dX0_findTwoGears_1 hl (by decide) rfl (fun ls hl => ?_)
  have loop3 : ∀ (N : Nat) (k : Int) (ls : Array Slot), (0 ≤ k ∧ k ≤ 10) → (k ≤ gc) → (∀ a b, 0 ≤ a → a < k → 0 ≤ b → b < gc → ¬ Q2 T p q a b) → gc - k < (N : Int) → lv_has ls 7 [(5, jI k), (0, .ref h), (1, jL p), (3, jL q)] → W pP l eE rmX0_findTwoGears sS mM aA bL mT cC sS.heap [] 0 0 QQ (F0 mM 3 ls []) := by
    intro N
    induction N with
    | zero =>
      intro k ls hk hk2 hz hN
      exact absurd hN (by omega)
    | succ N ih3 =>
      intro k ls hk hk2 hz hN hl
      refine j_iload S dX0_findTwoGears_3 (lv_at hl 0 rfl) ?_
      refine lv_aload_n S.1 S.2.1 dX0_findTwoGears_5 rfl (lv_at hl 1 rfl) ?_
      refine j_get (v := jI gc) S hin hK hP rfl rfl 5 (by decide) (List.mem_of_getElem? (i := 1) rfl) rfl dX0_findTwoGears_6 ?_
      refine j_icmp_ge (tgt := 64) S dX0_findTwoGears_9 (by decide) (iv_i hk (by decide +kernel)) (iv_i hgc (by decide +kernel)) (fun c9 => ?_) (fun c9 => ?_)
      · refine j_iconst S dX0_findTwoGears_64 ?_
        exact hret 0 F _ _ 65 _ (fun _ => Or.inl rfl) (Or.inr ⟨rfl, fun a b a1 a2 b1 b2 => hz a b a1 (by omega) b1 b2⟩) hP hD hS dX0_findTwoGears_65
      · have r1_ : 0 ≤ k ∧ k ≤ 9 := by omega
        have r2_ : 1 ≤ gc ∧ gc ≤ 10 := by omega
        refine lv_aload_n S.1 S.2.1 dX0_findTwoGears_12 rfl (lv_at hl 1 rfl) ?_
        refine lv_aload_n S.1 S.2.1 dX0_findTwoGears_13 rfl (lv_at hl 1 rfl) ?_
        refine j_get (v := .ref a1) S hin hK hP rfl rfl 1 (by decide) (List.mem_of_getElem? (i := 2) rfl) rfl dX0_findTwoGears_14 ?_
        refine j_iload S dX0_findTwoGears_17 (lv_at hl 0 rfl) ?_
        refine j_iald S hK hP 2 0 rfl rfl (iv_ix (n := 10) r1_ (by decide +kernel)) dX0_findTwoGears_19 ?_
        have r3_ := hT k (by omega) (by omega)
        refine j_i2l S dX0_findTwoGears_20 (iv_i r3_ (by decide +kernel)) ?_
        refine j_lload_n S dX0_findTwoGears_21 rfl (lv_at hl 3 rfl) ?_
        refine j_lmul S dX0_findTwoGears_22 ?_
        refine j_lload_n S dX0_findTwoGears_23 rfl (lv_at hl 2 rfl) ?_
        refine j_csl (As := [jL ((T k) * q), jL p]) S (c_X0_exactQuotient l ((T k) * q) p (iv_w (iv_mulp (lo := 12) (hi := 120000000) r3_ hq (by decide +kernel)) (by decide +kernel)) (iv_w hp (by decide +kernel))) (va_cwS 2 S.2.2.2.2 gX0_findTwoGears_X0_exactQuotient rfl rfl rfl hdX0_exactQuotient ⟨Nat.le_of_ble_eq_true rfl, Nat.le_of_ble_eq_true rfl⟩) [.ref h] rfl rfl hl.1 (Nat.le_of_ble_eq_true rfl) ⟨Nat.zero_le _, Nat.zero_le _⟩ dX0_findTwoGears_24 (fun i24 q24 => ?_)
        subst q24
        have r4_ : (-120000000) ≤ (sp_eq ((T k) * q) p) ∧ (sp_eq ((T k) * q) p) ≤ 120000000 := sp_eq_iv (iv_w (lo := (-120000000)) (hi := 120000000) (iv_mulp (lo := 12) (hi := 120000000) r3_ hq (by decide +kernel)) (by decide +kernel))
        refine j_iload S dX0_findTwoGears_27 (lv_at hl 0 rfl) ?_
        refine j_iload S dX0_findTwoGears_29 (lv_at hl 0 rfl) ?_
        refine j_iload S dX0_findTwoGears_31 (lv_at hl 0 rfl) ?_
        refine j_cvi (As := [jL (sp_eq ((T k) * q) p), jI k, jI k, jI k]) (ci := 0) S (c_X0_gearWith l D h a0 a1 a2 a3 cA H T E F cc gc w d v hok (sp_eq ((T k) * q) p) k k k (iv_w r4_ (by decide +kernel)) (iv_w r1_ (by decide +kernel)) (iv_w r1_ (by decide +kernel)) (iv_w r1_ (by decide +kernel))) (cwV 4 S.2.2.2.2 gX0_findTwoGears_X0_gearWith rfl rfl rfl ⟨rfl, hdX0_gearWith⟩ ⟨Nat.le_of_ble_eq_true rfl, Nat.le_of_ble_eq_true rfl⟩) hK hP rfl rfl rfl [] rfl rfl hl.1 (Nat.le_of_ble_eq_true rfl) ⟨Nat.zero_le _, Nat.zero_le _⟩ dX0_findTwoGears_33 (fun i33 q33 => ?_)
        have r5_ : (-6) ≤ i33 ∧ i33 ≤ 9 := GW_iv hgc q33
        refine j_istore (lv' := [(6, jI i33), (5, jI k), (0, .ref h), (1, jL p), (3, jL q)]) S dX0_findTwoGears_36 hl (by decide) rfl (fun ls hl => ?_)
        refine j_iload S dX0_findTwoGears_38 (lv_at hl 0 rfl) ?_
        refine j_bipush S dX0_findTwoGears_40 (by decide) ?_
        refine j_icmp_eq (tgt := 58) S dX0_findTwoGears_42 (by decide) (iv_i r5_ (by decide +kernel)) (iv_i (iv_n (-6)) (by decide +kernel)) (fun c42 => ?_) (fun c42 => ?_)
        · have r6_ : (-6) ≤ i33 ∧ i33 ≤ (-6) := by omega
          refine j_iinc (k := 1) (y := (k + 1)) (lv' := [(5, jI (k + 1)), (6, jI i33), (0, .ref h), (1, jL p), (3, jL q)]) S dX0_findTwoGears_58 hl rfl rfl (by decide) rfl (fun ls hl => ?_)
          refine j_goto (tgt := 3) S dX0_findTwoGears_61 (by decide) ?_
          exact ih3 (k + 1) _ (by omega) (by omega) (two_step (by omega) hT (by omega) hz q33 c42) (by omega) (lv_sub hl [0, 2, 3, 4] rfl)
        · have r7_ : (-5) ≤ i33 ∧ i33 ≤ 9 := by omega
          refine lv_aload_n S.1 S.2.1 dX0_findTwoGears_45 rfl (lv_at hl 2 rfl) ?_
          refine j_iload S dX0_findTwoGears_46 (lv_at hl 1 rfl) ?_
          refine j_iload S dX0_findTwoGears_48 (lv_at hl 0 rfl) ?_
          refine j_bipush S dX0_findTwoGears_50 (by decide) ?_
          refine j_bipush S dX0_findTwoGears_52 (by decide) ?_
          refine j_cvm [0, 1, 2, 3, 4] [] (wr := []) (As := [jI k, jI i33, jI (-6), jI (-6)]) (ci := 0) S (c_X0_keepTrain l D h a0 a1 a2 a3 cA H T E F cc gc w d v _ hok k i33 (-6) (-6) (iv_w r1_ (by decide +kernel)) (iv_w r7_ (by decide +kernel)) (iv_w (iv_n (-6)) (by decide +kernel)) (iv_w (iv_n (-6)) (by decide +kernel))) (cwV 4 S.2.2.2.2 gX0_findTwoGears_X0_keepTrain rfl rfl rfl ⟨rfl, hdX0_keepTrain⟩ ⟨Nat.le_of_ble_eq_true rfl, Nat.le_of_ble_eq_true rfl⟩) hK hP hD hS hA rfl rfl rfl rfl (by decide) rfl rfl rfl [] rfl rfl hl.1 (Nat.le_of_ble_eq_true rfl) ⟨Nat.zero_le _, Nat.zero_le _⟩ dX0_findTwoGears_54 (fun i54 u54 Hp lc q54 hP hD hS => ?_)
          have hP : va_P D vwCl (XW h a0 a1 a2 a3 cA H T E u54 cc gc w d v) Hp := hP
          have hD : va_D A (XW h a0 a1 a2 a3 cA H T E u54 cc gc w d v) := hD
          have r8_ : 0 ≤ i54 ∧ i54 ≤ 1 := by omega
          exact hret i54 u54 _ _ 57 _ (fun _ => (Or.inr q54.1)) (Or.inl ⟨q54.1, by rw [q54.2.1, q54.2.2.1]; exact two_found (by omega) (by omega) hT (by omega) hz q33 c42, q54.2.2.2⟩) hP hD hS dX0_findTwoGears_57
  exact loop3 11 0 _ (by omega) (by omega) (fun a b a1 a2 => absurd a2 (by omega)) (by omega) (lv_sub hl [0, 1, 2, 3] rfl)
abbrev rmX0_findSecondPair : Room := { frames := 1, cells := 0, slots := 0, locals := 26 }
theorem hdX0_findSecondPair : yX0_findSecondPair.cls ≠ "java/lang/invoke/MethodHandle" ∧ yX0_findSecondPair.cls ≠ "java/lang/invoke/VarHandle" ∧ (parseMethodDescriptor yX0_findSecondPair.desc).map (fun d => d.parameters.length) = some 4 := by decide +kernel
set_option maxHeartbeats 4000000 in
set_option maxRecDepth 100000 in
theorem c_X0_findSecondPair (l : Launch) (D : va_G) (h a0 a1 a2 a3 : Nat) (cA : ClassId) (H T E F : Int → Int) (cc gc w d v : Int) (sz : Nat) (hok : SOK H T E cc gc w d v) (g1 : Int) (g2 : Int) (p : Int) (q : Int) (hg1 : 0 ≤ g1 ∧ g1 ≤ 9) (hg2 : 0 ≤ g2 ∧ g2 ≤ 9) (hp : 1 ≤ p ∧ p ≤ 1000000) (hq : 1 ≤ q ∧ q ≤ 1000000) (hg1c : g1 < gc) (hg2c : g2 < gc) (hne : ¬ g1 = g2) : MMI l yX0_findSecondPair wsX0_findSecondPair rmX0_findSecondPair [.ref h, jI g1, jI g2, jL p, jL q] D cA (XW h a0 a1 a2 a3 cA H T E F cc gc w d v) (fun u : Int → Int => XW h a0 a1 a2 a3 cA H T E u cc gc w d v) sz (fun rR u => (rR = 1 ∧ u 0 = g1 ∧ u 1 = g2 ∧ Sec gc T p q g1 g2 (u 2) (u 3)) ∨ (rR = 0 ∧ ∀ c d, 0 ≤ c → c < gc → 0 ≤ d → d < gc → ¬ Q4 T p q g1 g2 c d)) := by
  refine MMI_of (cc := cX0_findSecondPair) (maxL := 11) (Or.inr rfl) (by decide) rfl (Nat.le_of_ble_eq_true rfl) ?_
  intro pP eE sS mM aA bL mT cC QQ ls A S hret hP hK hD hS hA hl
  obtain ⟨hcc, hgc, hw, hd, hv, hH, hT, hE⟩ := id hok
  have hin : ∀ w ∈ wsX00, w ∈ wsX0_findSecondPair := fun w hw => List.mem_cons_of_mem _ (List.mem_append_right _ hw)
  have hl : lv_has ls 11 [(0, .ref h), (1, jI g1), (2, jI g2), (3, jL p), (5, jL q)] := hl
  refine j_iconst S dX0_findSecondPair_0 ?_
  refine j_istore (lv' := [(7, jI 0), (0, .ref h), (1, jI g1), (2, jI g2), (3, jL p), (5, jL q)]) S dX0_findSecondPair_1 hl (by decide) rfl (fun ls hl => ?_)
  have loop3 : ∀ (N : Nat) (k : Int) (ls : Array Slot), (0 ≤ k ∧ k ≤ 10) → (k ≤ gc) → (∀ c d, 0 ≤ c → c < k → 0 ≤ d → d < gc → ¬ Q4 T p q g1 g2 c d) → gc - k < (N : Int) → lv_has ls 11 [(7, jI k), (0, .ref h), (1, jI g1), (2, jI g2), (3, jL p), (5, jL q)] → W pP l eE rmX0_findSecondPair sS mM aA bL mT cC sS.heap [] 0 0 QQ (F0 mM 3 ls []) := by
    intro N
    induction N with
    | zero =>
      intro k ls hk hk2 hz hN
      exact absurd hN (by omega)
    | succ N ih3 =>
      intro k ls hk hk2 hz hN hl
      refine j_iload S dX0_findSecondPair_3 (lv_at hl 0 rfl) ?_
      refine lv_aload_n S.1 S.2.1 dX0_findSecondPair_5 rfl (lv_at hl 1 rfl) ?_
      refine j_get (v := jI gc) S hin hK hP rfl rfl 5 (by decide) (List.mem_of_getElem? (i := 1) rfl) rfl dX0_findSecondPair_6 ?_
      refine j_icmp_ge (tgt := 92) S dX0_findSecondPair_9 (by decide) (iv_i hk (by decide +kernel)) (iv_i hgc (by decide +kernel)) (fun c9 => ?_) (fun c9 => ?_)
      · refine j_iconst S dX0_findSecondPair_92 ?_
        exact hret 0 F _ _ 93 _ (fun _ => Or.inl rfl) (Or.inr ⟨rfl, fun c d a1 a2 b1 b2 => hz c d a1 (by omega) b1 b2⟩) hP hD hS dX0_findSecondPair_93
      · have r1_ : 0 ≤ k ∧ k ≤ 9 := by omega
        have r2_ : 1 ≤ gc ∧ gc ≤ 10 := by omega
        refine j_iload S dX0_findSecondPair_12 (lv_at hl 0 rfl) ?_
        refine j_iload_n S dX0_findSecondPair_14 rfl (lv_at hl 2 rfl) ?_
        refine j_icmp_eq (tgt := 86) S dX0_findSecondPair_15 (by decide) (iv_i r1_ (by decide +kernel)) (iv_i hg1 (by decide +kernel)) (fun c15 => ?_) (fun c15 => ?_)
        · refine j_iinc (k := 0) (y := (k + 1)) (lv' := [(7, jI (k + 1)), (0, .ref h), (1, jI g1), (2, jI g2), (3, jL p), (5, jL q)]) S dX0_findSecondPair_86 hl rfl rfl (by decide) rfl (fun ls hl => ?_)
          refine j_goto (tgt := 3) S dX0_findSecondPair_89 (by decide) ?_
          exact ih3 (k + 1) _ (by omega) (by omega) (sec_skip (by omega) hz) (by omega) (lv_sub hl [0, 1, 2, 3, 4, 5] rfl)
        · refine j_iload S dX0_findSecondPair_18 (lv_at hl 0 rfl) ?_
          refine j_iload_n S dX0_findSecondPair_20 rfl (lv_at hl 3 rfl) ?_
          refine j_icmp_eq (tgt := 86) S dX0_findSecondPair_21 (by decide) (iv_i r1_ (by decide +kernel)) (iv_i hg2 (by decide +kernel)) (fun c21 => ?_) (fun c21 => ?_)
          · refine j_iinc (k := 0) (y := (k + 1)) (lv' := [(7, jI (k + 1)), (0, .ref h), (1, jI g1), (2, jI g2), (3, jL p), (5, jL q)]) S dX0_findSecondPair_86 hl rfl rfl (by decide) rfl (fun ls hl => ?_)
            refine j_goto (tgt := 3) S dX0_findSecondPair_89 (by decide) ?_
            exact ih3 (k + 1) _ (by omega) (by omega) (sec_skip (by omega) hz) (by omega) (lv_sub hl [0, 1, 2, 3, 4, 5] rfl)
          · refine lv_aload_n S.1 S.2.1 dX0_findSecondPair_24 rfl (lv_at hl 1 rfl) ?_
            refine j_get (v := .ref a1) S hin hK hP rfl rfl 1 (by decide) (List.mem_of_getElem? (i := 2) rfl) rfl dX0_findSecondPair_25 ?_
            refine j_iload_n S dX0_findSecondPair_28 rfl (lv_at hl 2 rfl) ?_
            refine j_iald S hK hP 2 0 rfl rfl (iv_ix (n := 10) hg1 (by decide +kernel)) dX0_findSecondPair_29 ?_
            have r3_ := hT g1 (by omega) (by omega)
            refine lv_aload_n S.1 S.2.1 dX0_findSecondPair_30 rfl (lv_at hl 1 rfl) ?_
            refine j_get (v := .ref a1) S hin hK hP rfl rfl 1 (by decide) (List.mem_of_getElem? (i := 2) rfl) rfl dX0_findSecondPair_31 ?_
            refine j_iload S dX0_findSecondPair_34 (lv_at hl 0 rfl) ?_
            refine j_iald S hK hP 2 0 rfl rfl (iv_ix (n := 10) r1_ (by decide +kernel)) dX0_findSecondPair_36 ?_
            have r4_ := hT k (by omega) (by omega)
            refine j_imul S dX0_findSecondPair_37 ?_
            refine j_i2l S dX0_findSecondPair_38 (iv_i (iv_mulp (lo := 144) (hi := 14400) r3_ r4_ (by decide +kernel)) (by decide +kernel)) ?_
            refine j_lload S dX0_findSecondPair_39 (lv_at hl 5 rfl) ?_
            refine j_lmul S dX0_findSecondPair_41 ?_
            refine j_lstore (lv' := [(8, jL (((T g1) * (T k)) * q)), (7, jI k), (0, .ref h), (1, jI g1), (2, jI g2), (3, jL p), (5, jL q)]) S dX0_findSecondPair_42 hl (by decide) rfl (fun ls hl => ?_)
            refine lv_aload_n S.1 S.2.1 dX0_findSecondPair_44 rfl (lv_at hl 2 rfl) ?_
            refine j_lload S dX0_findSecondPair_45 (lv_at hl 0 rfl) ?_
            refine lv_aload_n S.1 S.2.1 dX0_findSecondPair_47 rfl (lv_at hl 2 rfl) ?_
            refine j_get (v := .ref a1) S hin hK hP rfl rfl 1 (by decide) (List.mem_of_getElem? (i := 2) rfl) rfl dX0_findSecondPair_48 ?_
            refine j_iload_n S dX0_findSecondPair_51 rfl (lv_at hl 4 rfl) ?_
            refine j_iald S hK hP 2 0 rfl rfl (iv_ix (n := 10) hg2 (by decide +kernel)) dX0_findSecondPair_52 ?_
            have r5_ := hT g2 (by omega) (by omega)
            refine j_i2l S dX0_findSecondPair_53 (iv_i r5_ (by decide +kernel)) ?_
            refine j_lload_n S dX0_findSecondPair_54 rfl (lv_at hl 5 rfl) ?_
            refine j_lmul S dX0_findSecondPair_55 ?_
            refine j_csl (As := [jL (((T g1) * (T k)) * q), jL ((T g2) * p)]) S (c_X0_exactQuotient l (((T g1) * (T k)) * q) ((T g2) * p) (iv_w (iv_mulp (lo := 144) (hi := 14400000000) (iv_mulp (lo := 144) (hi := 14400) r3_ r4_ (by decide +kernel)) hq (by decide +kernel)) (by decide +kernel)) (iv_w (iv_mulp (lo := 12) (hi := 120000000) r5_ hp (by decide +kernel)) (by decide +kernel))) (va_cwS 2 S.2.2.2.2 gX0_findSecondPair_X0_exactQuotient rfl rfl rfl hdX0_exactQuotient ⟨Nat.le_of_ble_eq_true rfl, Nat.le_of_ble_eq_true rfl⟩) [.ref h] rfl rfl hl.1 (Nat.le_of_ble_eq_true rfl) ⟨Nat.zero_le _, Nat.zero_le _⟩ dX0_findSecondPair_56 (fun i56 q56 => ?_)
            subst q56
            have r6_ : (-14400000000) ≤ (sp_eq (((T g1) * (T k)) * q) ((T g2) * p)) ∧ (sp_eq (((T g1) * (T k)) * q) ((T g2) * p)) ≤ 14400000000 := sp_eq_iv (iv_w (lo := (-14400000000)) (hi := 14400000000) (iv_mulp (lo := 144) (hi := 14400000000) (iv_mulp (lo := 144) (hi := 14400) r3_ r4_ (by decide +kernel)) hq (by decide +kernel)) (by decide +kernel))
            refine j_iload_n S dX0_findSecondPair_59 rfl (lv_at hl 3 rfl) ?_
            refine j_iload_n S dX0_findSecondPair_60 rfl (lv_at hl 4 rfl) ?_
            refine j_iload S dX0_findSecondPair_61 (lv_at hl 1 rfl) ?_
            refine j_cvi (As := [jL (sp_eq (((T g1) * (T k)) * q) ((T g2) * p)), jI g1, jI g2, jI k]) (ci := 0) S (c_X0_gearWith l D h a0 a1 a2 a3 cA H T E F cc gc w d v hok (sp_eq (((T g1) * (T k)) * q) ((T g2) * p)) g1 g2 k (iv_w r6_ (by decide +kernel)) (iv_w hg1 (by decide +kernel)) (iv_w hg2 (by decide +kernel)) (iv_w r1_ (by decide +kernel))) (cwV 4 S.2.2.2.2 gX0_findSecondPair_X0_gearWith rfl rfl rfl ⟨rfl, hdX0_gearWith⟩ ⟨Nat.le_of_ble_eq_true rfl, Nat.le_of_ble_eq_true rfl⟩) hK hP rfl rfl rfl [] rfl rfl hl.1 (Nat.le_of_ble_eq_true rfl) ⟨Nat.zero_le _, Nat.zero_le _⟩ dX0_findSecondPair_63 (fun i63 q63 => ?_)
            have r7_ : (-6) ≤ i63 ∧ i63 ≤ 9 := GW_iv hgc q63
            refine j_istore (lv' := [(10, jI i63), (8, jL (((T g1) * (T k)) * q)), (7, jI k), (0, .ref h), (1, jI g1), (2, jI g2), (3, jL p), (5, jL q)]) S dX0_findSecondPair_66 hl (by decide) rfl (fun ls hl => ?_)
            refine j_iload S dX0_findSecondPair_68 (lv_at hl 0 rfl) ?_
            refine j_bipush S dX0_findSecondPair_70 (by decide) ?_
            refine j_icmp_eq (tgt := 86) S dX0_findSecondPair_72 (by decide) (iv_i r7_ (by decide +kernel)) (iv_i (iv_n (-6)) (by decide +kernel)) (fun c72 => ?_) (fun c72 => ?_)
            · have r8_ : (-6) ≤ i63 ∧ i63 ≤ (-6) := by omega
              refine j_iinc (k := 2) (y := (k + 1)) (lv' := [(7, jI (k + 1)), (10, jI i63), (8, jL (((T g1) * (T k)) * q)), (0, .ref h), (1, jI g1), (2, jI g2), (3, jL p), (5, jL q)]) S dX0_findSecondPair_86 hl rfl rfl (by decide) rfl (fun ls hl => ?_)
              refine j_goto (tgt := 3) S dX0_findSecondPair_89 (by decide) ?_
              exact ih3 (k + 1) _ (by omega) (by omega) (sec_step (by omega) hT (by omega) hne c15 c21 hz q63 c72) (by omega) (lv_sub hl [0, 3, 4, 5, 6, 7] rfl)
            · have r9_ : (-5) ≤ i63 ∧ i63 ≤ 9 := by omega
              refine lv_aload_n S.1 S.2.1 dX0_findSecondPair_75 rfl (lv_at hl 3 rfl) ?_
              refine j_iload_n S dX0_findSecondPair_76 rfl (lv_at hl 4 rfl) ?_
              refine j_iload_n S dX0_findSecondPair_77 rfl (lv_at hl 5 rfl) ?_
              refine j_iload S dX0_findSecondPair_78 (lv_at hl 2 rfl) ?_
              refine j_iload S dX0_findSecondPair_80 (lv_at hl 0 rfl) ?_
              refine j_cvm [0, 1, 2, 3, 4] [] (wr := []) (As := [jI g1, jI g2, jI k, jI i63]) (ci := 0) S (c_X0_keepTrain l D h a0 a1 a2 a3 cA H T E F cc gc w d v _ hok g1 g2 k i63 (iv_w hg1 (by decide +kernel)) (iv_w hg2 (by decide +kernel)) (iv_w r1_ (by decide +kernel)) (iv_w r9_ (by decide +kernel))) (cwV 4 S.2.2.2.2 gX0_findSecondPair_X0_keepTrain rfl rfl rfl ⟨rfl, hdX0_keepTrain⟩ ⟨Nat.le_of_ble_eq_true rfl, Nat.le_of_ble_eq_true rfl⟩) hK hP hD hS hA rfl rfl rfl rfl (by decide) rfl rfl rfl [] rfl rfl hl.1 (Nat.le_of_ble_eq_true rfl) ⟨Nat.zero_le _, Nat.zero_le _⟩ dX0_findSecondPair_82 (fun i82 u82 Hp lc q82 hP hD hS => ?_)
              have hP : va_P D vwCl (XW h a0 a1 a2 a3 cA H T E u82 cc gc w d v) Hp := hP
              have hD : va_D A (XW h a0 a1 a2 a3 cA H T E u82 cc gc w d v) := hD
              have r10_ : 0 ≤ i82 ∧ i82 ≤ 1 := by omega
              exact hret i82 u82 _ _ 85 _ (fun _ => (Or.inr q82.1)) (Or.inl ⟨q82.1, q82.2.1, q82.2.2.1, by rw [q82.2.2.2.1, q82.2.2.2.2]; exact sec_found (by omega) (by omega) hT (by omega) hne c15 c21 (by omega) hz q63 c72⟩) hP hD hS dX0_findSecondPair_85
  exact loop3 11 0 _ (by omega) (by omega) (fun c d a1 a2 => absurd a2 (by omega)) (by omega) (lv_sub hl [0, 1, 2, 3, 4, 5] rfl)
abbrev rmX0_findFourGears : Room := { frames := 2, cells := 0, slots := 0, locals := 56 }
theorem hdX0_findFourGears : yX0_findFourGears.cls ≠ "java/lang/invoke/MethodHandle" ∧ yX0_findFourGears.cls ≠ "java/lang/invoke/VarHandle" ∧ (parseMethodDescriptor yX0_findFourGears.desc).map (fun d => d.parameters.length) = some 2 := by decide +kernel
set_option maxHeartbeats 4000000 in
set_option maxRecDepth 100000 in
theorem c_X0_findFourGears (l : Launch) (D : va_G) (h a0 a1 a2 a3 : Nat) (cA : ClassId) (H T E F : Int → Int) (cc gc w d v : Int) (sz : Nat) (hok : SOK H T E cc gc w d v) (p : Int) (q : Int) (hp : 1 ≤ p ∧ p ≤ 1000000) (hq : 1 ≤ q ∧ q ≤ 1000000) : MMI l yX0_findFourGears wsX0_findFourGears rmX0_findFourGears [.ref h, jL p, jL q] D cA (XW h a0 a1 a2 a3 cA H T E F cc gc w d v) (fun u : Int → Int => XW h a0 a1 a2 a3 cA H T E u cc gc w d v) sz (fun rR u => (rR = 1 ∧ Four gc T p q (u 0) (u 1) (u 2) (u 3)) ∨ (rR = 0 ∧ No4 gc T p q)) := by
  refine MMI_of (cc := cX0_findFourGears) (maxL := 7) (Or.inr rfl) (by decide) rfl (Nat.le_of_ble_eq_true rfl) ?_
  intro pP eE sS mM aA bL mT cC QQ ls A S hret hP hK hD hS hA hl
  obtain ⟨hcc, hgc, hw, hd, hv, hH, hT, hE⟩ := id hok
  have hin : ∀ w ∈ wsX00, w ∈ wsX0_findFourGears := fun w hw => List.mem_cons_of_mem _ (List.mem_append_right _ hw)
  have hl : lv_has ls 7 [(0, .ref h), (1, jL p), (3, jL q)] := hl
  refine j_iconst S dX0_findFourGears_0 ?_
  refine j_istore (lv' := [(5, jI 0), (0, .ref h), (1, jL p), (3, jL q)]) S dX0_findFourGears_1 hl (by decide) rfl (fun ls hl => ?_)
  have loop3 : ∀ (N : Nat) (F : Int → Int) (Hp : Heap) (lc : List Loc) (hP : va_P D vwCl (XW h a0 a1 a2 a3 cA H T E F cc gc w d v) Hp) (hD : va_D A (XW h a0 a1 a2 a3 cA H T E F cc gc w d v)) (hS : va_S A sS.heap Hp lc) (x1 : Int) (ls : Array Slot), (0 ≤ x1 ∧ x1 ≤ 10) → (x1 ≤ gc) → (∀ a b c d, 0 ≤ a → a < x1 → 0 ≤ b → b < gc → 0 ≤ c → c < gc → 0 ≤ d → d < gc → ¬ Q4 T p q a b c d) → gc - x1 < (N : Int) → lv_has ls 7 [(5, jI x1), (0, .ref h), (1, jL p), (3, jL q)] → W pP l eE rmX0_findFourGears sS mM aA bL mT cC Hp lc 0 0 QQ (F0 mM 3 ls []) := by
    intro N
    induction N with
    | zero =>
      intro F Hp lc hP hD hS x1 ls hx1 hx1c hz hN
      exact absurd hN (by omega)
    | succ N ih3 =>
      intro F Hp lc hP hD hS x1 ls hx1 hx1c hz hN hl
      refine j_iload S dX0_findFourGears_3 (lv_at hl 0 rfl) ?_
      refine lv_aload_n S.1 S.2.1 dX0_findFourGears_5 rfl (lv_at hl 1 rfl) ?_
      refine j_get (v := jI gc) S hin hK hP rfl rfl 5 (by decide) (List.mem_of_getElem? (i := 1) rfl) rfl dX0_findFourGears_6 ?_
      refine j_icmp_ge (tgt := 58) S dX0_findFourGears_9 (by decide) (iv_i hx1 (by decide +kernel)) (iv_i hgc (by decide +kernel)) (fun c9 => ?_) (fun c9 => ?_)
      · refine j_iconst S dX0_findFourGears_58 ?_
        exact hret 0 F _ _ 59 _ (fun _ => Or.inl rfl) (Or.inr ⟨rfl, fun a b c d a1 a2 b1 b2 e1 e2 f1 f2 => hz a b c d a1 (by omega) b1 b2 e1 e2 f1 f2⟩) hP hD hS dX0_findFourGears_59
      · have r1_ : 0 ≤ x1 ∧ x1 ≤ 9 := by omega
        have r2_ : 1 ≤ gc ∧ gc ≤ 10 := by omega
        refine j_iconst S dX0_findFourGears_12 ?_
        refine j_istore (lv' := [(6, jI 0), (5, jI x1), (0, .ref h), (1, jL p), (3, jL q)]) S dX0_findFourGears_13 hl (by decide) rfl (fun ls hl => ?_)
        have loop15 : ∀ (N : Nat) (F : Int → Int) (Hp : Heap) (lc : List Loc) (hP : va_P D vwCl (XW h a0 a1 a2 a3 cA H T E F cc gc w d v) Hp) (hD : va_D A (XW h a0 a1 a2 a3 cA H T E F cc gc w d v)) (hS : va_S A sS.heap Hp lc) (x2 : Int) (ls : Array Slot), (0 ≤ x2 ∧ x2 ≤ 10) → (x2 ≤ gc) → (∀ b c d, 0 ≤ b → b < x2 → 0 ≤ c → c < gc → 0 ≤ d → d < gc → ¬ Q4 T p q x1 b c d) → gc - x2 < (N : Int) → lv_has ls 7 [(6, jI x2), (5, jI x1), (0, .ref h), (1, jL p), (3, jL q)] → W pP l eE rmX0_findFourGears sS mM aA bL mT cC Hp lc 0 0 QQ (F0 mM 15 ls []) := by
          intro N
          induction N with
          | zero =>
            intro F Hp lc hP hD hS x2 ls hx2 hx2c hz2 hN
            exact absurd hN (by omega)
          | succ N ih15 =>
            intro F Hp lc hP hD hS x2 ls hx2 hx2c hz2 hN hl
            refine j_iload S dX0_findFourGears_15 (lv_at hl 0 rfl) ?_
            refine lv_aload_n S.1 S.2.1 dX0_findFourGears_17 rfl (lv_at hl 2 rfl) ?_
            refine j_get (v := jI gc) S hin hK hP rfl rfl 5 (by decide) (List.mem_of_getElem? (i := 1) rfl) rfl dX0_findFourGears_18 ?_
            refine j_icmp_ge (tgt := 52) S dX0_findFourGears_21 (by decide) (iv_i hx2 (by decide +kernel)) (iv_i r2_ (by decide +kernel)) (fun c21 => ?_) (fun c21 => ?_)
            · have r3_ : 1 ≤ x2 ∧ x2 ≤ 10 := by omega
              refine j_iinc (k := 1) (y := (x1 + 1)) (lv' := [(5, jI (x1 + 1)), (6, jI x2), (0, .ref h), (1, jL p), (3, jL q)]) S dX0_findFourGears_52 hl rfl rfl (by decide) rfl (fun ls hl => ?_)
              refine j_goto (tgt := 3) S dX0_findFourGears_55 (by decide) ?_
              exact ih3 F Hp lc hP hD hS (x1 + 1) _ (by omega) (by omega) (fun a b c d a1 a2 b1 b2 e1 e2 f1 f2 => by by_cases e : a = x1; rw [e]; exact hz2 b c d b1 (by omega) e1 e2 f1 f2; exact hz a b c d a1 (by omega) b1 b2 e1 e2 f1 f2) (by omega) (lv_sub hl [0, 2, 3, 4] rfl)
            · have r4_ : 0 ≤ x2 ∧ x2 ≤ 9 := by omega
              refine j_iload S dX0_findFourGears_24 (lv_at hl 0 rfl) ?_
              refine j_iload S dX0_findFourGears_26 (lv_at hl 1 rfl) ?_
              refine j_icmp_eq (tgt := 46) S dX0_findFourGears_28 (by decide) (iv_i r4_ (by decide +kernel)) (iv_i r1_ (by decide +kernel)) (fun c28 => ?_) (fun c28 => ?_)
              · refine j_iinc (k := 0) (y := (x2 + 1)) (lv' := [(6, jI (x2 + 1)), (5, jI x1), (0, .ref h), (1, jL p), (3, jL q)]) S dX0_findFourGears_46 hl rfl rfl (by decide) rfl (fun ls hl => ?_)
                refine j_goto (tgt := 15) S dX0_findFourGears_49 (by decide) ?_
                exact ih15 F Hp lc hP hD hS (x2 + 1) _ (by omega) (by omega) (fun b c d b1 b2 e1 e2 f1 f2 => by by_cases e : b = x2; rw [e]; exact (fun z => absurd z.1 (by omega)); exact hz2 b c d b1 (by omega) e1 e2 f1 f2) (by omega) (lv_sub hl [0, 1, 2, 3, 4] rfl)
              · refine lv_aload_n S.1 S.2.1 dX0_findFourGears_31 rfl (lv_at hl 2 rfl) ?_
                refine j_iload S dX0_findFourGears_32 (lv_at hl 1 rfl) ?_
                refine j_iload S dX0_findFourGears_34 (lv_at hl 0 rfl) ?_
                refine j_lload_n S dX0_findFourGears_36 rfl (lv_at hl 3 rfl) ?_
                refine j_lload_n S dX0_findFourGears_37 rfl (lv_at hl 4 rfl) ?_
                refine j_cvm [0, 1, 2, 3, 4] [] (wr := []) (As := [jI x1, jI x2, jL p, jL q]) (ci := 0) S (c_X0_findSecondPair l D h a0 a1 a2 a3 cA H T E F cc gc w d v _ hok x1 x2 p q (iv_w r1_ (by decide +kernel)) (iv_w r4_ (by decide +kernel)) (iv_w hp (by decide +kernel)) (iv_w hq (by decide +kernel)) (by omega) (by omega) (by omega)) (cwV 4 S.2.2.2.2 gX0_findFourGears_X0_findSecondPair rfl rfl rfl ⟨rfl, hdX0_findSecondPair⟩ ⟨Nat.le_of_ble_eq_true rfl, Nat.le_of_ble_eq_true rfl⟩) hK hP hD hS hA rfl rfl rfl rfl (by decide) rfl rfl rfl [] rfl rfl hl.1 (Nat.le_of_ble_eq_true rfl) ⟨Nat.zero_le _, Nat.zero_le _⟩ dX0_findFourGears_38 (fun i38 u38 Hp lc q38 hP hD hS => ?_)
                have hP : va_P D vwCl (XW h a0 a1 a2 a3 cA H T E u38 cc gc w d v) Hp := hP
                have hD : va_D A (XW h a0 a1 a2 a3 cA H T E u38 cc gc w d v) := hD
                have r5_ : 0 ≤ i38 ∧ i38 ≤ 1 := by rcases q38 with qq | qq <;> (have := qq.1; omega)
                refine j_if_eq (tgt := 46) S dX0_findFourGears_41 (by decide) (iv_i r5_ (by decide +kernel)) (fun c41 => ?_) (fun c41 => ?_)
                · have r6_ : 0 ≤ i38 ∧ i38 ≤ 0 := by omega
                  refine j_iinc (k := 0) (y := (x2 + 1)) (lv' := [(6, jI (x2 + 1)), (5, jI x1), (0, .ref h), (1, jL p), (3, jL q)]) S dX0_findFourGears_46 hl rfl rfl (by decide) rfl (fun ls hl => ?_)
                  refine j_goto (tgt := 15) S dX0_findFourGears_49 (by decide) ?_
                  exact ih15 u38 Hp lc hP hD hS (x2 + 1) _ (by omega) (by omega) (fun b c d b1 b2 e1 e2 f1 f2 => by by_cases e : b = x2; rw [e]; rcases q38 with q38 | q38; exact absurd q38.1 (by omega); exact q38.2 c d e1 e2 f1 f2; exact hz2 b c d b1 (by omega) e1 e2 f1 f2) (by omega) (lv_sub hl [0, 1, 2, 3, 4] rfl)
                · have r7_ : 1 ≤ i38 ∧ i38 ≤ 1 := by omega
                  refine j_iconst S dX0_findFourGears_44 ?_
                  exact hret 1 u38 _ _ 45 _ (fun _ => Or.inr rfl) (by rcases q38 with q38 | q38; exact Or.inl ⟨rfl, by rw [q38.2.1, q38.2.2.1]; exact four_found (by omega) (by omega) (by omega) hz hz2 q38.2.2.2⟩; exact absurd q38.1 c41) hP hD hS dX0_findFourGears_45
        exact loop15 11 F Hp lc hP hD hS 0 _ (by omega) (by omega) (fun b c d a1 a2 => absurd a2 (by omega)) (by omega) (lv_sub hl [0, 1, 2, 3, 4] rfl)
  exact loop3 11 F sS.heap [] hP hD hS 0 _ (by omega) (by omega) (fun a b c d a1 a2 => absurd a2 (by omega)) (by omega) (lv_sub hl [0, 1, 2, 3] rfl)
abbrev rmX0_findTrain : Room := { frames := 3, cells := 0, slots := 0, locals := 82 }
theorem hdX0_findTrain : yX0_findTrain.cls ≠ "java/lang/invoke/MethodHandle" ∧ yX0_findTrain.cls ≠ "java/lang/invoke/VarHandle" ∧ (parseMethodDescriptor yX0_findTrain.desc).map (fun d => d.parameters.length) = some 2 := by decide +kernel
set_option maxHeartbeats 4000000 in
set_option maxRecDepth 100000 in
theorem c_X0_findTrain (l : Launch) (D : va_G) (h a0 a1 a2 a3 : Nat) (cA : ClassId) (H T E F : Int → Int) (cc gc w d v : Int) (sz : Nat) (hok : SOK H T E cc gc w d v) (p : Int) (q : Int) (hp : 1 ≤ p ∧ p ≤ 1000000) (hq : 1 ≤ q ∧ q ≤ 1000000) : MMI l yX0_findTrain wsX0_findTrain rmX0_findTrain [.ref h, jL p, jL q] D cA (XW h a0 a1 a2 a3 cA H T E F cc gc w d v) (fun u : Int → Int => XW h a0 a1 a2 a3 cA H T E u cc gc w d v) sz (fun rR u => (rR = 1 ∧ Tr gc T p q (u 0) (u 1) (u 2) (u 3)) ∨ (rR = 0 ∧ NoTr gc T p q)) := by
  refine MMI_of (cc := cX0_findTrain) (maxL := 5) (Or.inr rfl) (by decide) rfl (Nat.le_of_ble_eq_true rfl) ?_
  intro pP eE sS mM aA bL mT cC QQ ls A S hret hP hK hD hS hA hl
  obtain ⟨hcc, hgc, hw, hd, hv, hH, hT, hE⟩ := id hok
  have hin : ∀ w ∈ wsX00, w ∈ wsX0_findTrain := fun w hw => List.mem_cons_of_mem _ (List.mem_append_right _ hw)
  have hl : lv_has ls 5 [(0, .ref h), (1, jL p), (3, jL q)] := hl
  refine lv_aload_n S.1 S.2.1 dX0_findTrain_0 rfl (lv_at hl 0 rfl) ?_
  refine j_lload_n S dX0_findTrain_1 rfl (lv_at hl 1 rfl) ?_
  refine j_lload_n S dX0_findTrain_2 rfl (lv_at hl 2 rfl) ?_
  refine j_cvm [0, 1, 2, 3, 4] [] (wr := []) (As := [jL p, jL q]) (ci := 0) S (c_X0_findTwoGears l D h a0 a1 a2 a3 cA H T E F cc gc w d v _ hok p q (iv_w hp (by decide +kernel)) (iv_w hq (by decide +kernel))) (cwV 2 S.2.2.2.2 gX0_findTrain_X0_findTwoGears rfl rfl rfl ⟨rfl, hdX0_findTwoGears⟩ ⟨Nat.le_of_ble_eq_true rfl, Nat.le_of_ble_eq_true rfl⟩) hK hP hD hS hA rfl rfl rfl rfl (by decide) rfl rfl rfl [] rfl rfl hl.1 (Nat.le_of_ble_eq_true rfl) ⟨Nat.zero_le _, Nat.zero_le _⟩ dX0_findTrain_3 (fun i3 u3 Hp lc q3 hP hD hS => ?_)
  have hP : va_P D vwCl (XW h a0 a1 a2 a3 cA H T E u3 cc gc w d v) Hp := hP
  have hD : va_D A (XW h a0 a1 a2 a3 cA H T E u3 cc gc w d v) := hD
  have r1_ : 0 ≤ i3 ∧ i3 ≤ 1 := by rcases q3 with qq | qq <;> (have := qq.1; omega)
  refine j_if_ne (tgt := 18) S dX0_findTrain_6 (by decide) (iv_i r1_ (by decide +kernel)) (fun c6 => ?_) (fun c6 => ?_)
  · have r2_ : 1 ≤ i3 ∧ i3 ≤ 1 := by omega
    refine j_iconst S dX0_findTrain_18 ?_
    refine j_goto (tgt := 23) S dX0_findTrain_19 (by decide) ?_
    exact hret 1 u3 _ _ 23 _ (fun _ => Or.inr rfl) (by rcases q3 with q3 | q3; exact Or.inl ⟨rfl, Or.inl q3.2⟩; exact absurd q3.1 c6) hP hD hS dX0_findTrain_23
  · have r3_ : 0 ≤ i3 ∧ i3 ≤ 0 := by omega
    refine lv_aload_n S.1 S.2.1 dX0_findTrain_9 rfl (lv_at hl 0 rfl) ?_
    refine j_lload_n S dX0_findTrain_10 rfl (lv_at hl 1 rfl) ?_
    refine j_lload_n S dX0_findTrain_11 rfl (lv_at hl 2 rfl) ?_
    refine j_cvm [0, 1, 2, 3, 4] [] (wr := []) (As := [jL p, jL q]) (ci := 0) S (c_X0_findFourGears l D h a0 a1 a2 a3 cA H T E u3 cc gc w d v _ hok p q (iv_w hp (by decide +kernel)) (iv_w hq (by decide +kernel))) (cwV 2 S.2.2.2.2 gX0_findTrain_X0_findFourGears rfl rfl rfl ⟨rfl, hdX0_findFourGears⟩ ⟨Nat.le_of_ble_eq_true rfl, Nat.le_of_ble_eq_true rfl⟩) hK hP hD hS hA rfl rfl rfl rfl (by decide) rfl rfl rfl [] rfl rfl hl.1 (Nat.le_of_ble_eq_true rfl) ⟨Nat.zero_le _, Nat.zero_le _⟩ dX0_findTrain_12 (fun i12 u12 Hp lc q12 hP hD hS => ?_)
    have hP : va_P D vwCl (XW h a0 a1 a2 a3 cA H T E u12 cc gc w d v) Hp := hP
    have hD : va_D A (XW h a0 a1 a2 a3 cA H T E u12 cc gc w d v) := hD
    have r4_ : 0 ≤ i12 ∧ i12 ≤ 1 := by rcases q12 with qq | qq <;> (have := qq.1; omega)
    refine j_if_eq (tgt := 22) S dX0_findTrain_15 (by decide) (iv_i r4_ (by decide +kernel)) (fun c15 => ?_) (fun c15 => ?_)
    · have r5_ : 0 ≤ i12 ∧ i12 ≤ 0 := by omega
      refine j_iconst S dX0_findTrain_22 ?_
      exact hret 0 u12 _ _ 23 _ (fun _ => Or.inl rfl) (by rcases q3 with q3 | q3; exact absurd q3.1 (by omega); rcases q12 with q12 | q12; exact absurd q12.1 (by omega); exact Or.inr ⟨rfl, q3.2, q12.2⟩) hP hD hS dX0_findTrain_23
    · have r6_ : 1 ≤ i12 ∧ i12 ≤ 1 := by omega
      refine j_iconst S dX0_findTrain_18 ?_
      refine j_goto (tgt := 23) S dX0_findTrain_19 (by decide) ?_
      exact hret 1 u12 _ _ 23 _ (fun _ => Or.inr rfl) (by rcases q3 with q3 | q3; exact absurd q3.1 (by omega); rcases q12 with q12 | q12; exact Or.inl ⟨rfl, Or.inr ⟨q3.2, q12.2⟩⟩; exact absurd q12.1 c15) hP hD hS dX0_findTrain_23
abbrev rmX0_train : Room := { frames := 4, cells := 0, slots := 0, locals := 106 }
theorem hdX0_train : yX0_train.cls ≠ "java/lang/invoke/MethodHandle" ∧ yX0_train.cls ≠ "java/lang/invoke/VarHandle" ∧ (parseMethodDescriptor yX0_train.desc).map (fun d => d.parameters.length) = some 3 := by decide +kernel
set_option maxHeartbeats 4000000 in
set_option maxRecDepth 100000 in
theorem c_X0_train (l : Launch) (D : va_G) (h a0 a1 a2 a3 : Nat) (cA : ClassId) (H T E F : Int → Int) (cc gc w d v : Int) (sz : Nat) (hok : SOK H T E cc gc w d v) (p : Int) (q : Int) (what : Int) (hp : inI p) (hq : inI q) (hwhat : inI what) : MMI l yX0_train wsX0_train rmX0_train [.ref h, jI p, jI q, jI what] D cA (XW h a0 a1 a2 a3 cA H T E F cc gc w d v) (fun u : Int → Int => XW h a0 a1 a2 a3 cA H T E u cc gc w d v) sz (fun rR u => P_train gc T p q what rR) := by
  refine MMI_of (cc := cX0_train) (maxL := 4) (Or.inl rfl) (by decide) rfl (Nat.le_of_ble_eq_true rfl) ?_
  intro pP eE sS mM aA bL mT cC QQ ls A S hret hP hK hD hS hA hl
  obtain ⟨hcc, hgc, hw, hd, hv, hH, hT, hE⟩ := id hok
  have hin : ∀ w ∈ wsX00, w ∈ wsX0_train := fun w hw => List.mem_cons_of_mem _ (List.mem_append_right _ hw)
  have hl : lv_has ls 4 [(0, .ref h), (1, jI p), (2, jI q), (3, jI what)] := hl
  refine j_iload_n S dX0_train_0 rfl (lv_at hl 1 rfl) ?_
  refine j_iload_n S dX0_train_1 rfl (lv_at hl 2 rfl) ?_
  refine j_csi (As := [jI p, jI q]) S (c_X0_isNoShare l p q (iv_w hp (by decide +kernel)) (iv_w hq (by decide +kernel))) (va_cwS 2 S.2.2.2.2 gX0_train_X0_isNoShare rfl rfl rfl hdX0_isNoShare ⟨Nat.le_of_ble_eq_true rfl, Nat.le_of_ble_eq_true rfl⟩) [] rfl rfl hl.1 (Nat.le_of_ble_eq_true rfl) ⟨Nat.zero_le _, Nat.zero_le _⟩ dX0_train_2 (fun i2 q2 => ?_)
  subst q2
  refine j_ifb_ne (tgt := 17) S dX0_train_5 (by decide) (fun c5 => ?_) (fun c5 => ?_)
  · refine j_bipush S dX0_train_17 (by decide) ?_
    exact hret (-2) F _ _ 19 _ (fun q => by cases q) (Or.inl ⟨by omega, rfl⟩) hP hD hS dX0_train_19
  · have r1_ : 1 ≤ p ∧ p ≤ 1000000 := by omega
    have r2_ : 1 ≤ q ∧ q ≤ 1000000 := by omega
    refine j_iload_n S dX0_train_8 rfl (lv_at hl 3 rfl) ?_
    refine j_iconst S dX0_train_9 ?_
    refine j_iconst S dX0_train_10 ?_
    refine j_csi (As := [jI what, jI 0, jI 3]) S (c_X0_isOutside l what 0 3 (iv_w hwhat (by decide +kernel)) (iv_w (iv_n 0) (by decide +kernel)) (iv_w (iv_n 3) (by decide +kernel))) (va_cwS 3 S.2.2.2.2 gX0_train_X0_isOutside rfl rfl rfl hdX0_isOutside ⟨Nat.le_of_ble_eq_true rfl, Nat.le_of_ble_eq_true rfl⟩) [] rfl rfl hl.1 (Nat.le_of_ble_eq_true rfl) ⟨Nat.zero_le _, Nat.zero_le _⟩ dX0_train_11 (fun i11 q11 => ?_)
    subst q11
    refine j_ifb_eq (tgt := 20) S dX0_train_14 (by decide) (fun c14 => ?_) (fun c14 => ?_)
    · have r3_ : 0 ≤ what ∧ what ≤ 3 := by omega
      refine lv_aload_n S.1 S.2.1 dX0_train_20 rfl (lv_at hl 0 rfl) ?_
      refine j_iload_n S dX0_train_21 rfl (lv_at hl 1 rfl) ?_
      refine j_i2l S dX0_train_22 (iv_i r1_ (by decide +kernel)) ?_
      refine j_iload_n S dX0_train_23 rfl (lv_at hl 2 rfl) ?_
      refine j_i2l S dX0_train_24 (iv_i r2_ (by decide +kernel)) ?_
      refine j_cvm [0, 1, 2, 3, 4] [] (wr := []) (As := [jL p, jL q]) (ci := 0) S (c_X0_findTrain l D h a0 a1 a2 a3 cA H T E F cc gc w d v _ hok p q (iv_w r1_ (by decide +kernel)) (iv_w r2_ (by decide +kernel))) (cwV 2 S.2.2.2.2 gX0_train_X0_findTrain rfl rfl rfl ⟨rfl, hdX0_findTrain⟩ ⟨Nat.le_of_ble_eq_true rfl, Nat.le_of_ble_eq_true rfl⟩) hK hP hD hS hA rfl rfl rfl rfl (by decide) rfl rfl rfl [] rfl rfl hl.1 (Nat.le_of_ble_eq_true rfl) ⟨Nat.zero_le _, Nat.zero_le _⟩ dX0_train_25 (fun i25 u25 Hp lc q25 hP hD hS => ?_)
      have hP : va_P D vwCl (XW h a0 a1 a2 a3 cA H T E u25 cc gc w d v) Hp := hP
      have hD : va_D A (XW h a0 a1 a2 a3 cA H T E u25 cc gc w d v) := hD
      have r4_ : 0 ≤ i25 ∧ i25 ≤ 1 := by rcases q25 with qq | qq <;> (have := qq.1; omega)
      refine j_if_eq (tgt := 40) S dX0_train_28 (by decide) (iv_i r4_ (by decide +kernel)) (fun c28 => ?_) (fun c28 => ?_)
      · have r5_ : 0 ≤ i25 ∧ i25 ≤ 0 := by omega
        refine j_bipush S dX0_train_40 (by decide) ?_
        exact hret (-6) u25 _ _ 42 _ (fun q => by cases q) (by rcases q25 with qq | qq; exact absurd qq.1 (by omega); exact Or.inr (Or.inl ⟨by omega, qq.2, rfl⟩)) hP hD hS dX0_train_42
      · have r6_ : 1 ≤ i25 ∧ i25 ≤ 1 := by omega
        refine lv_aload_n S.1 S.2.1 dX0_train_31 rfl (lv_at hl 0 rfl) ?_
        refine j_get (v := .ref a3) S hin hK hP rfl rfl 3 (by decide) (List.mem_of_getElem? (i := 1) rfl) rfl dX0_train_32 ?_
        refine j_iload_n S dX0_train_35 rfl (lv_at hl 3 rfl) ?_
        refine j_iald S hK hP 4 0 rfl rfl (iv_ix (n := 4) r3_ (by decide +kernel)) dX0_train_36 ?_
        refine j_goto (tgt := 42) S dX0_train_37 (by decide) ?_
        exact hret (u25 what) u25 _ _ 42 _ (fun q => by cases q) (by rcases q25 with qq | qq; exact Or.inr (Or.inr ⟨by omega, _, _, _, _, qq.2, sel_eq (by omega)⟩); exact absurd qq.1 c28) hP hD hS dX0_train_42
    · refine j_bipush S dX0_train_17 (by decide) ?_
      exact hret (-2) F _ _ 19 _ (fun q => by cases q) (Or.inl ⟨by omega, rfl⟩) hP hD hS dX0_train_19
abbrev rmX0_standsIn : Room := { frames := 4, cells := 0, slots := 0, locals := 106 }
theorem hdX0_standsIn : yX0_standsIn.cls ≠ "java/lang/invoke/MethodHandle" ∧ yX0_standsIn.cls ≠ "java/lang/invoke/VarHandle" ∧ (parseMethodDescriptor yX0_standsIn.desc).map (fun d => d.parameters.length) = some 2 := by decide +kernel
set_option maxHeartbeats 4000000 in
set_option maxRecDepth 100000 in
theorem c_X0_standsIn (l : Launch) (D : va_G) (h a0 a1 a2 a3 : Nat) (cA : ClassId) (H T E F : Int → Int) (cc gc w d v : Int) (sz : Nat) (hok : SOK H T E cc gc w d v) (x : Int) (n : Int) (hx : inI x) (hn : 2 ≤ n ∧ n ≤ 1000) (hxn : -10 ≤ x - n ∧ x - n ≤ 10) (hne : ¬ x = n) : MMI l yX0_standsIn wsX0_standsIn rmX0_standsIn [.ref h, jI x, jI n] D cA (XW h a0 a1 a2 a3 cA H T E F cc gc w d v) (fun u : Int → Int => XW h a0 a1 a2 a3 cA H T E u cc gc w d v) sz (fun rR u => SI w cc H gc T x n rR u) := by
  refine MMI_of (cc := cX0_standsIn) (maxL := 3) (Or.inr rfl) (by decide) rfl (Nat.le_of_ble_eq_true rfl) ?_
  intro pP eE sS mM aA bL mT cC QQ ls A S hret hP hK hD hS hA hl
  obtain ⟨hcc, hgc, hw, hd, hv, hH, hT, hE⟩ := id hok
  have hin : ∀ w ∈ wsX00, w ∈ wsX0_standsIn := fun w hw => List.mem_cons_of_mem _ (List.mem_append_right _ hw)
  have hl : lv_has ls 3 [(0, .ref h), (1, jI x), (2, jI n)] := hl
  refine j_iload_n S dX0_standsIn_0 rfl (lv_at hl 1 rfl) ?_
  refine j_csi (As := [jI x]) S (c_X0_isNoNumberOfParts l x (iv_w hx (by decide +kernel))) (va_cwS 1 S.2.2.2.2 gX0_standsIn_X0_isNoNumberOfParts rfl rfl rfl hdX0_isNoNumberOfParts ⟨Nat.le_of_ble_eq_true rfl, Nat.le_of_ble_eq_true rfl⟩) [] rfl rfl hl.1 (Nat.le_of_ble_eq_true rfl) ⟨Nat.zero_le _, Nat.zero_le _⟩ dX0_standsIn_1 (fun i1 q1 => ?_)
  subst q1
  refine j_ifb_ne (tgt := 42) S dX0_standsIn_4 (by decide) (fun c4 => ?_) (fun c4 => ?_)
  · refine j_iconst S dX0_standsIn_42 ?_
    exact hret 0 F _ _ 43 _ (fun _ => Or.inl rfl) (Or.inr ⟨rfl, fun z9 => absurd z9.1.1 (by omega)⟩) hP hD hS dX0_standsIn_43
  · have r1_ : 2 ≤ x ∧ x ≤ 1000 := by omega
    refine lv_aload_n S.1 S.2.1 dX0_standsIn_7 rfl (lv_at hl 0 rfl) ?_
    refine j_iload_n S dX0_standsIn_8 rfl (lv_at hl 1 rfl) ?_
    refine j_cvi (As := [jI x]) (ci := 0) S (c_X0_plainCircle l D h a0 a1 a2 a3 cA H T E F cc gc w d v hok x (iv_w r1_ (by decide +kernel))) (cwV 1 S.2.2.2.2 gX0_standsIn_X0_plainCircle rfl rfl rfl ⟨rfl, hdX0_plainCircle⟩ ⟨Nat.le_of_ble_eq_true rfl, Nat.le_of_ble_eq_true rfl⟩) hK hP rfl rfl rfl [] rfl rfl hl.1 (Nat.le_of_ble_eq_true rfl) ⟨Nat.zero_le _, Nat.zero_le _⟩ dX0_standsIn_9 (fun i9 q9 => ?_)
    subst q9
    have r2_ : (-6) ≤ (sp_pl w H x cc) ∧ (sp_pl w H x cc) ≤ 7 := sp_pl_iv hcc
    refine j_bipush S dX0_standsIn_12 (by decide) ?_
    refine j_icmp_eq (tgt := 42) S dX0_standsIn_14 (by decide) (iv_i r2_ (by decide +kernel)) (iv_i (iv_n (-6)) (by decide +kernel)) (fun c14 => ?_) (fun c14 => ?_)
    · have r3_ : (-6) ≤ (sp_pl w H x cc) ∧ (sp_pl w H x cc) ≤ (-6) := by omega
      refine j_iconst S dX0_standsIn_42 ?_
      exact hret 0 F _ _ 43 _ (fun _ => Or.inl rfl) (Or.inr ⟨rfl, fun z9 => z9.1.2 c14⟩) hP hD hS dX0_standsIn_43
    · have r4_ : (-5) ≤ (sp_pl w H x cc) ∧ (sp_pl w H x cc) ≤ 7 := by omega
      refine lv_aload_n S.1 S.2.1 dX0_standsIn_17 rfl (lv_at hl 0 rfl) ?_
      refine j_iload_n S dX0_standsIn_18 rfl (lv_at hl 1 rfl) ?_
      refine j_iload_n S dX0_standsIn_19 rfl (lv_at hl 2 rfl) ?_
      refine j_isub S dX0_standsIn_20 ?_
      refine j_mabs S hl.1 (List.mem_of_getElem? (i := 1) rfl) (List.mem_of_getElem? (i := 2) rfl) (List.mem_of_getElem? (i := 3) rfl) (List.mem_of_getElem? (i := 4) rfl) (Nat.le_of_ble_eq_true rfl) (Nat.le_of_ble_eq_true rfl) ⟨Nat.zero_le _, Nat.zero_le _⟩ hxn (by decide +kernel) dX0_standsIn_21 ?_
      have t5_ : (-10) ≤ (x - n) ∧ (x - n) ≤ 10 := hxn
      have r6_ : 0 ≤ ((Int.natAbs (x - n) : Nat) : Int) ∧ ((Int.natAbs (x - n) : Nat) : Int) ≤ 10 := by omega
      have r7_ : 1 ≤ ((Int.natAbs (x - n) : Nat) : Int) ∧ ((Int.natAbs (x - n) : Nat) : Int) ≤ 10 := by omega
      refine lv_aload_n S.1 S.2.1 dX0_standsIn_24 rfl (lv_at hl 0 rfl) ?_
      refine j_get (v := jI w) S hin hK hP rfl rfl 6 (by decide) (List.mem_of_getElem? (i := 5) rfl) rfl dX0_standsIn_25 ?_
      refine j_imul S dX0_standsIn_28 ?_
      refine j_i2l S dX0_standsIn_29 (iv_i (iv_mulp (lo := 10) (hi := 2000) r7_ hw (by decide +kernel)) (by decide +kernel)) ?_
      refine j_iload_n S dX0_standsIn_30 rfl (lv_at hl 1 rfl) ?_
      refine j_i2l S dX0_standsIn_31 (iv_i r1_ (by decide +kernel)) ?_
      refine j_cvm [0, 1, 2, 3, 4] [] (wr := []) (As := [jL (((Int.natAbs (x - n) : Nat) : Int) * w), jL x]) (ci := 0) S (c_X0_findTrain l D h a0 a1 a2 a3 cA H T E F cc gc w d v _ hok (((Int.natAbs (x - n) : Nat) : Int) * w) x (iv_w (iv_mulp (lo := 10) (hi := 2000) r7_ hw (by decide +kernel)) (by decide +kernel)) (iv_w r1_ (by decide +kernel))) (cwV 2 S.2.2.2.2 gX0_standsIn_X0_findTrain rfl rfl rfl ⟨rfl, hdX0_findTrain⟩ ⟨Nat.le_of_ble_eq_true rfl, Nat.le_of_ble_eq_true rfl⟩) hK hP hD hS hA rfl rfl rfl rfl (by decide) rfl rfl rfl [] rfl rfl hl.1 (Nat.le_of_ble_eq_true rfl) ⟨Nat.zero_le _, Nat.zero_le _⟩ dX0_standsIn_32 (fun i32 u32 Hp lc q32 hP hD hS => ?_)
      have hP : va_P D vwCl (XW h a0 a1 a2 a3 cA H T E u32 cc gc w d v) Hp := hP
      have hD : va_D A (XW h a0 a1 a2 a3 cA H T E u32 cc gc w d v) := hD
      have r8_ : 0 ≤ i32 ∧ i32 ≤ 1 := by rcases q32 with qq | qq <;> (have := qq.1; omega)
      refine j_if_eq (tgt := 42) S dX0_standsIn_35 (by decide) (iv_i r8_ (by decide +kernel)) (fun c35 => ?_) (fun c35 => ?_)
      · have r9_ : 0 ≤ i32 ∧ i32 ≤ 0 := by omega
        refine j_iconst S dX0_standsIn_42 ?_
        exact hret 0 u32 _ _ 43 _ (fun _ => Or.inl rfl) (by rcases q32 with qq | qq; exact absurd qq.1 (by omega); exact Or.inr ⟨rfl, fun z9 => z9.2 qq.2⟩) hP hD hS dX0_standsIn_43
      · have r10_ : 1 ≤ i32 ∧ i32 ≤ 1 := by omega
        refine j_iconst S dX0_standsIn_38 ?_
        refine j_goto (tgt := 43) S dX0_standsIn_39 (by decide) ?_
        exact hret 1 u32 _ _ 43 _ (fun _ => Or.inr rfl) (by rcases q32 with qq | qq; exact Or.inl ⟨rfl, ⟨by omega, c14⟩, qq.2⟩; exact absurd qq.1 c35) hP hD hS dX0_standsIn_43
abbrev rmX0_partsBeside : Room := { frames := 5, cells := 0, slots := 0, locals := 128 }
theorem hdX0_partsBeside : yX0_partsBeside.cls ≠ "java/lang/invoke/MethodHandle" ∧ yX0_partsBeside.cls ≠ "java/lang/invoke/VarHandle" ∧ (parseMethodDescriptor yX0_partsBeside.desc).map (fun d => d.parameters.length) = some 1 := by decide +kernel
set_option maxHeartbeats 4000000 in
set_option maxRecDepth 100000 in
theorem c_X0_partsBeside (l : Launch) (D : va_G) (h a0 a1 a2 a3 : Nat) (cA : ClassId) (H T E F : Int → Int) (cc gc w d v : Int) (sz : Nat) (hok : SOK H T E cc gc w d v) (n : Int) (hn : 2 ≤ n ∧ n ≤ 1000) : MMI l yX0_partsBeside wsX0_partsBeside rmX0_partsBeside [.ref h, jI n] D cA (XW h a0 a1 a2 a3 cA H T E F cc gc w d v) (fun u : Int → Int => XW h a0 a1 a2 a3 cA H T E u cc gc w d v) sz (fun rR u => PB w cc H gc T n rR u) := by
  refine MMI_of (cc := cX0_partsBeside) (maxL := 3) (Or.inl rfl) (by decide) rfl (Nat.le_of_ble_eq_true rfl) ?_
  intro pP eE sS mM aA bL mT cC QQ ls A S hret hP hK hD hS hA hl
  obtain ⟨hcc, hgc, hw, hd, hv, hH, hT, hE⟩ := id hok
  have hin : ∀ w ∈ wsX00, w ∈ wsX0_partsBeside := fun w hw => List.mem_cons_of_mem _ (List.mem_append_right _ hw)
  have hl : lv_has ls 3 [(0, .ref h), (1, jI n)] := hl
  refine j_iconst S dX0_partsBeside_0 ?_
  refine j_istore_n (lv' := [(2, jI 1), (0, .ref h), (1, jI n)]) S dX0_partsBeside_1 rfl hl (by decide) rfl (fun ls hl => ?_)
  have loop2 : ∀ (N : Nat) (F : Int → Int) (Hp : Heap) (lc : List Loc) (hP : va_P D vwCl (XW h a0 a1 a2 a3 cA H T E F cc gc w d v) Hp) (hD : va_D A (XW h a0 a1 a2 a3 cA H T E F cc gc w d v)) (hS : va_S A sS.heap Hp lc) (k : Int) (ls : Array Slot), (1 ≤ k ∧ k ≤ 11) → (∀ j, 2 ≤ j → j < 2 * k → ¬ Gd w cc H gc T n j) → 11 - k < (N : Int) → lv_has ls 3 [(2, jI k), (0, .ref h), (1, jI n)] → W pP l eE rmX0_partsBeside sS mM aA bL mT cC Hp lc 0 0 QQ (F0 mM 2 ls []) := by
    intro N
    induction N with
    | zero =>
      intro F Hp lc hP hD hS k ls hk hz hN
      exact absurd hN (by omega)
    | succ N ih2 =>
      intro F Hp lc hP hD hS k ls hk hz hN hl
      refine j_iload_n S dX0_partsBeside_2 rfl (lv_at hl 0 rfl) ?_
      refine j_bipush S dX0_partsBeside_3 (by decide) ?_
      refine j_icmp_gt (tgt := 44) S dX0_partsBeside_5 (by decide) (iv_i hk (by decide +kernel)) (iv_i (iv_n 10) (by decide +kernel)) (fun c5 => ?_) (fun c5 => ?_)
      · have r1_ : 11 ≤ k ∧ k ≤ 11 := by omega
        refine j_bipush S dX0_partsBeside_44 (by decide) ?_
        exact hret (-6) F _ _ 46 _ (fun q => by cases q) (Or.inr ⟨fun j a b => hz j a (by omega), rfl⟩) hP hD hS dX0_partsBeside_46
      · have r2_ : 1 ≤ k ∧ k ≤ 10 := by omega
        refine lv_aload_n S.1 S.2.1 dX0_partsBeside_8 rfl (lv_at hl 1 rfl) ?_
        refine j_iload_n S dX0_partsBeside_9 rfl (lv_at hl 2 rfl) ?_
        refine j_iload_n S dX0_partsBeside_10 rfl (lv_at hl 0 rfl) ?_
        refine j_isub S dX0_partsBeside_11 ?_
        refine j_iload_n S dX0_partsBeside_12 rfl (lv_at hl 2 rfl) ?_
        refine j_cvm [0, 1, 2, 3, 4] [] (wr := []) (As := [jI (n - k), jI n]) (ci := 0) S (c_X0_standsIn l D h a0 a1 a2 a3 cA H T E F cc gc w d v _ hok (n - k) n (iv_w (iv_sub (lo := (-8)) (hi := 999) hn r2_ (by decide +kernel)) (by decide +kernel)) (iv_w hn (by decide +kernel)) (by omega) (by omega)) (cwV 2 S.2.2.2.2 gX0_partsBeside_X0_standsIn rfl rfl rfl ⟨rfl, hdX0_standsIn⟩ ⟨Nat.le_of_ble_eq_true rfl, Nat.le_of_ble_eq_true rfl⟩) hK hP hD hS hA rfl rfl rfl rfl (by decide) rfl rfl rfl [] rfl rfl hl.1 (Nat.le_of_ble_eq_true rfl) ⟨Nat.zero_le _, Nat.zero_le _⟩ dX0_partsBeside_13 (fun i13 u13 Hp lc q13 hP hD hS => ?_)
        have hP : va_P D vwCl (XW h a0 a1 a2 a3 cA H T E u13 cc gc w d v) Hp := hP
        have hD : va_D A (XW h a0 a1 a2 a3 cA H T E u13 cc gc w d v) := hD
        have r3_ : 0 ≤ i13 ∧ i13 ≤ 1 := by rcases q13 with qq | qq <;> (have := qq.1; omega)
        refine j_if_eq (tgt := 23) S dX0_partsBeside_16 (by decide) (iv_i r3_ (by decide +kernel)) (fun c16 => ?_) (fun c16 => ?_)
        · have r4_ : 0 ≤ i13 ∧ i13 ≤ 0 := by omega
          refine lv_aload_n S.1 S.2.1 dX0_partsBeside_23 rfl (lv_at hl 1 rfl) ?_
          refine j_iload_n S dX0_partsBeside_24 rfl (lv_at hl 2 rfl) ?_
          refine j_iload_n S dX0_partsBeside_25 rfl (lv_at hl 0 rfl) ?_
          refine j_iadd S dX0_partsBeside_26 ?_
          refine j_iload_n S dX0_partsBeside_27 rfl (lv_at hl 2 rfl) ?_
          refine j_cvm [0, 1, 2, 3, 4] [] (wr := []) (As := [jI (n + k), jI n]) (ci := 0) S (c_X0_standsIn l D h a0 a1 a2 a3 cA H T E u13 cc gc w d v _ hok (n + k) n (iv_w (iv_add (lo := 3) (hi := 1010) hn r2_ (by decide +kernel)) (by decide +kernel)) (iv_w hn (by decide +kernel)) (by omega) (by omega)) (cwV 2 S.2.2.2.2 gX0_partsBeside_X0_standsIn rfl rfl rfl ⟨rfl, hdX0_standsIn⟩ ⟨Nat.le_of_ble_eq_true rfl, Nat.le_of_ble_eq_true rfl⟩) hK hP hD hS hA rfl rfl rfl rfl (by decide) rfl rfl rfl [] rfl rfl hl.1 (Nat.le_of_ble_eq_true rfl) ⟨Nat.zero_le _, Nat.zero_le _⟩ dX0_partsBeside_28 (fun i28 u28 Hp lc q28 hP hD hS => ?_)
          have hP : va_P D vwCl (XW h a0 a1 a2 a3 cA H T E u28 cc gc w d v) Hp := hP
          have hD : va_D A (XW h a0 a1 a2 a3 cA H T E u28 cc gc w d v) := hD
          have r5_ : 0 ≤ i28 ∧ i28 ≤ 1 := by rcases q28 with qq | qq <;> (have := qq.1; omega)
          refine j_if_eq (tgt := 38) S dX0_partsBeside_31 (by decide) (iv_i r5_ (by decide +kernel)) (fun c31 => ?_) (fun c31 => ?_)
          · have r6_ : 0 ≤ i28 ∧ i28 ≤ 0 := by omega
            refine j_iinc (k := 0) (y := (k + 1)) (lv' := [(2, jI (k + 1)), (0, .ref h), (1, jI n)]) S dX0_partsBeside_38 hl rfl rfl (by decide) rfl (fun ls hl => ?_)
            refine j_goto (tgt := 2) S dX0_partsBeside_41 (by decide) ?_
            exact ih2 u28 Hp lc hP hD hS (k + 1) _ (by omega) (PB_s (by omega) hz q13 c16 q28 c31) (by omega) (lv_sub hl [0, 1, 2] rfl)
          · have r7_ : 1 ≤ i28 ∧ i28 ≤ 1 := by omega
            refine j_iload_n S dX0_partsBeside_34 rfl (lv_at hl 2 rfl) ?_
            refine j_iload_n S dX0_partsBeside_35 rfl (lv_at hl 0 rfl) ?_
            refine j_iadd S dX0_partsBeside_36 ?_
            exact hret (n + k) u28 _ _ 37 _ (fun q => by cases q) (PB_o (by omega) hz q13 c16 q28 c31) hP hD hS dX0_partsBeside_37
        · have r8_ : 1 ≤ i13 ∧ i13 ≤ 1 := by omega
          refine j_iload_n S dX0_partsBeside_19 rfl (lv_at hl 2 rfl) ?_
          refine j_iload_n S dX0_partsBeside_20 rfl (lv_at hl 0 rfl) ?_
          refine j_isub S dX0_partsBeside_21 ?_
          exact hret (n - k) u13 _ _ 22 _ (fun q => by cases q) (PB_e (by omega) hz q13 c16) hP hD hS dX0_partsBeside_22
  exact loop2 11 F sS.heap [] hP hD hS 1 _ (by omega) (fun j a1 a2 => absurd a2 (by omega)) (by omega) (lv_sub hl [0, 1, 2] rfl)
abbrev rmX0_differential : Room := { frames := 6, cells := 0, slots := 0, locals := 150 }
theorem hdX0_differential : yX0_differential.cls ≠ "java/lang/invoke/MethodHandle" ∧ yX0_differential.cls ≠ "java/lang/invoke/VarHandle" ∧ (parseMethodDescriptor yX0_differential.desc).map (fun d => d.parameters.length) = some 2 := by decide +kernel
set_option maxHeartbeats 4000000 in
set_option maxRecDepth 100000 in
theorem c_X0_differential (l : Launch) (D : va_G) (h a0 a1 a2 a3 : Nat) (cA : ClassId) (H T E F : Int → Int) (cc gc w d v : Int) (sz : Nat) (hok : SOK H T E cc gc w d v) (n : Int) (what : Int) (hn : inI n) (hwhat : inI what) : MMI l yX0_differential wsX0_differential rmX0_differential [.ref h, jI n, jI what] D cA (XW h a0 a1 a2 a3 cA H T E F cc gc w d v) (fun u : Int → Int => XW h a0 a1 a2 a3 cA H T E u cc gc w d v) sz (fun rR u => P_diff w cc H gc T n what rR) := by
  refine MMI_of (cc := cX0_differential) (maxL := 4) (Or.inl rfl) (by decide) rfl (Nat.le_of_ble_eq_true rfl) ?_
  intro pP eE sS mM aA bL mT cC QQ ls A S hret hP hK hD hS hA hl
  obtain ⟨hcc, hgc, hw, hd, hv, hH, hT, hE⟩ := id hok
  have hin : ∀ w ∈ wsX00, w ∈ wsX0_differential := fun w hw => List.mem_cons_of_mem _ (List.mem_append_right _ hw)
  have hl : lv_has ls 4 [(0, .ref h), (1, jI n), (2, jI what)] := hl
  refine j_iload_n S dX0_differential_0 rfl (lv_at hl 1 rfl) ?_
  refine j_csi (As := [jI n]) S (c_X0_isNoNumberOfParts l n (iv_w hn (by decide +kernel))) (va_cwS 1 S.2.2.2.2 gX0_differential_X0_isNoNumberOfParts rfl rfl rfl hdX0_isNoNumberOfParts ⟨Nat.le_of_ble_eq_true rfl, Nat.le_of_ble_eq_true rfl⟩) [] rfl rfl hl.1 (Nat.le_of_ble_eq_true rfl) ⟨Nat.zero_le _, Nat.zero_le _⟩ dX0_differential_1 (fun i1 q1 => ?_)
  subst q1
  refine j_ifb_ne (tgt := 17) S dX0_differential_4 (by decide) (fun c4 => ?_) (fun c4 => ?_)
  · refine j_bipush S dX0_differential_17 (by decide) ?_
    exact hret (-2) F _ _ 19 _ (fun q => by cases q) (Or.inl ⟨by omega, rfl⟩) hP hD hS dX0_differential_19
  · have r1_ : 2 ≤ n ∧ n ≤ 1000 := by omega
    refine j_iload_n S dX0_differential_7 rfl (lv_at hl 2 rfl) ?_
    refine j_iconst S dX0_differential_8 ?_
    refine j_bipush S dX0_differential_9 (by decide) ?_
    refine j_csi (As := [jI what, jI 0, jI 6]) S (c_X0_isOutside l what 0 6 (iv_w hwhat (by decide +kernel)) (iv_w (iv_n 0) (by decide +kernel)) (iv_w (iv_n 6) (by decide +kernel))) (va_cwS 3 S.2.2.2.2 gX0_differential_X0_isOutside rfl rfl rfl hdX0_isOutside ⟨Nat.le_of_ble_eq_true rfl, Nat.le_of_ble_eq_true rfl⟩) [] rfl rfl hl.1 (Nat.le_of_ble_eq_true rfl) ⟨Nat.zero_le _, Nat.zero_le _⟩ dX0_differential_11 (fun i11 q11 => ?_)
    subst q11
    refine j_ifb_eq (tgt := 20) S dX0_differential_14 (by decide) (fun c14 => ?_) (fun c14 => ?_)
    · have r2_ : 0 ≤ what ∧ what ≤ 6 := by omega
      refine lv_aload_n S.1 S.2.1 dX0_differential_20 rfl (lv_at hl 0 rfl) ?_
      refine j_iload_n S dX0_differential_21 rfl (lv_at hl 1 rfl) ?_
      refine j_cvm [0, 1, 2, 3, 4] [] (wr := []) (As := [jI n]) (ci := 0) S (c_X0_partsBeside l D h a0 a1 a2 a3 cA H T E F cc gc w d v _ hok n (iv_w r1_ (by decide +kernel))) (cwV 1 S.2.2.2.2 gX0_differential_X0_partsBeside rfl rfl rfl ⟨rfl, hdX0_partsBeside⟩ ⟨Nat.le_of_ble_eq_true rfl, Nat.le_of_ble_eq_true rfl⟩) hK hP hD hS hA rfl rfl rfl rfl (by decide) rfl rfl rfl [] rfl rfl hl.1 (Nat.le_of_ble_eq_true rfl) ⟨Nat.zero_le _, Nat.zero_le _⟩ dX0_differential_22 (fun i22 u22 Hp lc q22 hP hD hS => ?_)
      have hP : va_P D vwCl (XW h a0 a1 a2 a3 cA H T E u22 cc gc w d v) Hp := hP
      have hD : va_D A (XW h a0 a1 a2 a3 cA H T E u22 cc gc w d v) := hD
      have r3_ : (-6) ≤ i22 ∧ i22 ≤ 1000 := by rcases q22 with ⟨j, -, hg, -, -, e⟩ | ⟨-, e⟩; have := hg.1; omega; omega
      refine j_istore_n (lv' := [(3, jI i22), (0, .ref h), (1, jI n), (2, jI what)]) S dX0_differential_25 rfl hl (by decide) rfl (fun ls hl => ?_)
      refine j_iload_n S dX0_differential_26 rfl (lv_at hl 3 rfl) ?_
      refine j_if_eq (tgt := 36) S dX0_differential_27 (by decide) (iv_i r2_ (by decide +kernel)) (fun c27 => ?_) (fun c27 => ?_)
      · have r4_ : 0 ≤ what ∧ what ≤ 0 := by omega
        refine j_iload_n S dX0_differential_36 rfl (lv_at hl 0 rfl) ?_
        exact hret i22 u22 _ _ 37 _ (fun q => by cases q) (by rcases q22 with ⟨j, h1, h2, h3, h4, h5⟩ | ⟨h1, h2⟩; exact Or.inr (Or.inr ⟨by omega, j, _, _, _, _, h1, h2, h3, h4, by have := h2.1; unfold dsel; rw [if_pos (by omega), h5]⟩); exact Or.inr (Or.inl ⟨by omega, h1, h2⟩)) hP hD hS dX0_differential_37
      · have r5_ : 1 ≤ what ∧ what ≤ 6 := by omega
        refine j_iload_n S dX0_differential_30 rfl (lv_at hl 0 rfl) ?_
        refine j_bipush S dX0_differential_31 (by decide) ?_
        refine j_icmp_ne (tgt := 38) S dX0_differential_33 (by decide) (iv_i r3_ (by decide +kernel)) (iv_i (iv_n (-6)) (by decide +kernel)) (fun c33 => ?_) (fun c33 => ?_)
        · have r6_ : (-5) ≤ i22 ∧ i22 ≤ 1000 := by omega
          have r7_ : 2 ≤ i22 ∧ i22 ≤ 1000 := by rcases q22 with ⟨j, -, hg, -, -, e⟩ | ⟨-, e⟩; have := hg.1; omega; exact absurd e c33
          refine j_iload_n S dX0_differential_38 rfl (lv_at hl 3 rfl) ?_
          refine j_iconst S dX0_differential_39 ?_
          refine j_icmp_ne (tgt := 49) S dX0_differential_40 (by decide) (iv_i r5_ (by decide +kernel)) (iv_i (iv_n 1) (by decide +kernel)) (fun c40 => ?_) (fun c40 => ?_)
          · have r8_ : 2 ≤ what ∧ what ≤ 6 := by omega
            refine j_iload_n S dX0_differential_49 rfl (lv_at hl 3 rfl) ?_
            refine j_bipush S dX0_differential_50 (by decide) ?_
            refine j_icmp_ne (tgt := 66) S dX0_differential_52 (by decide) (iv_i r8_ (by decide +kernel)) (iv_i (iv_n 6) (by decide +kernel)) (fun c52 => ?_) (fun c52 => ?_)
            · have r9_ : 2 ≤ what ∧ what ≤ 5 := by omega
              refine lv_aload_n S.1 S.2.1 dX0_differential_66 rfl (lv_at hl 1 rfl) ?_
              refine j_get (v := .ref a3) S hin hK hP rfl rfl 3 (by decide) (List.mem_of_getElem? (i := 1) rfl) rfl dX0_differential_67 ?_
              refine j_iload_n S dX0_differential_70 rfl (lv_at hl 3 rfl) ?_
              refine j_iconst S dX0_differential_71 ?_
              refine j_isub S dX0_differential_72 ?_
              refine j_iald S hK hP 4 0 rfl rfl (iv_ix (n := 4) (iv_sub (lo := 0) (hi := 3) r9_ (iv_n 2) (by decide +kernel)) (by decide +kernel)) dX0_differential_73 ?_
              exact hret (u22 (what - 2)) u22 _ _ 74 _ (fun q => by cases q) (by rcases q22 with ⟨j, h1, h2, h3, h4, h5⟩ | ⟨h1, h2⟩; exact Or.inr (Or.inr ⟨by omega, j, _, _, _, _, h1, h2, h3, h4, by unfold dsel; rw [if_neg (by omega), if_neg (by omega), if_neg (by omega)]; exact sel_eq (by omega)⟩); exact absurd h2 c33) hP hD hS dX0_differential_74
            · have r10_ : 6 ≤ what ∧ what ≤ 6 := by omega
              refine j_iload_n S dX0_differential_55 rfl (lv_at hl 0 rfl) ?_
              refine j_iload_n S dX0_differential_56 rfl (lv_at hl 2 rfl) ?_
              refine j_icmp_le (tgt := 64) S dX0_differential_57 (by decide) (iv_i r7_ (by decide +kernel)) (iv_i r1_ (by decide +kernel)) (fun c57 => ?_) (fun c57 => ?_)
              · refine j_iconst S dX0_differential_64 ?_
                exact hret 0 u22 _ _ 65 _ (fun q => by cases q) (by rcases q22 with ⟨j, h1, h2, h3, h4, h5⟩ | ⟨h1, h2⟩; exact Or.inr (Or.inr ⟨by omega, j, _, _, _, _, h1, h2, h3, h4, by unfold dsel; rw [if_neg (by omega), if_neg (by omega), if_pos (by omega), ← h5, if_neg (by omega)]⟩); exact absurd h2 c33) hP hD hS dX0_differential_65
              · have r11_ : 2 ≤ n ∧ n ≤ 999 := by omega
                have r12_ : 3 ≤ i22 ∧ i22 ≤ 1000 := by omega
                refine j_iconst S dX0_differential_60 ?_
                refine j_goto (tgt := 65) S dX0_differential_61 (by decide) ?_
                exact hret 1 u22 _ _ 65 _ (fun q => by cases q) (by rcases q22 with ⟨j, h1, h2, h3, h4, h5⟩ | ⟨h1, h2⟩; exact Or.inr (Or.inr ⟨by omega, j, _, _, _, _, h1, h2, h3, h4, by unfold dsel; rw [if_neg (by omega), if_neg (by omega), if_pos (by omega), ← h5, if_pos (by omega)]⟩); exact absurd h2 c33) hP hD hS dX0_differential_65
          · have r13_ : 1 ≤ what ∧ what ≤ 1 := by omega
            refine lv_aload_n S.1 S.2.1 dX0_differential_43 rfl (lv_at hl 1 rfl) ?_
            refine j_iload_n S dX0_differential_44 rfl (lv_at hl 0 rfl) ?_
            refine j_cvi (As := [jI i22]) (ci := 0) S (c_X0_plainCircle l D h a0 a1 a2 a3 cA H T E u22 cc gc w d v hok i22 (iv_w r7_ (by decide +kernel))) (cwV 1 S.2.2.2.2 gX0_differential_X0_plainCircle rfl rfl rfl ⟨rfl, hdX0_plainCircle⟩ ⟨Nat.le_of_ble_eq_true rfl, Nat.le_of_ble_eq_true rfl⟩) hK hP rfl rfl rfl [] rfl rfl hl.1 (Nat.le_of_ble_eq_true rfl) ⟨Nat.zero_le _, Nat.zero_le _⟩ dX0_differential_45 (fun i45 q45 => ?_)
            subst q45
            have r14_ : (-6) ≤ (sp_pl w H i22 cc) ∧ (sp_pl w H i22 cc) ≤ 7 := sp_pl_iv hcc
            exact hret (sp_pl w H i22 cc) u22 _ _ 48 _ (fun q => by cases q) (by rcases q22 with ⟨j, h1, h2, h3, h4, h5⟩ | ⟨h1, h2⟩; exact Or.inr (Or.inr ⟨by omega, j, _, _, _, _, h1, h2, h3, h4, by unfold dsel; rw [if_neg (by omega), if_pos (by omega), ← h5]⟩); exact absurd h2 c33) hP hD hS dX0_differential_48
        · have r15_ : (-6) ≤ i22 ∧ i22 ≤ (-6) := by omega
          refine j_iload_n S dX0_differential_36 rfl (lv_at hl 0 rfl) ?_
          exact hret i22 u22 _ _ 37 _ (fun q => by cases q) (by rcases q22 with ⟨j, h1, h2, h3, h4, h5⟩ | ⟨h1, h2⟩; exact Or.inr (Or.inr ⟨by omega, j, _, _, _, _, h1, h2, h3, h4, by have := h2.1; unfold dsel; rw [if_pos (by omega), h5]⟩); exact Or.inr (Or.inl ⟨by omega, h1, h2⟩)) hP hD hS dX0_differential_37
    · refine j_bipush S dX0_differential_17 (by decide) ?_
      exact hret (-2) F _ _ 19 _ (fun q => by cases q) (Or.inl ⟨by omega, rfl⟩) hP hD hS dX0_differential_19
end
section
abbrev rmX1_put : Room := { frames := 0, cells := 0, slots := 0, locals := 0 }
theorem hdX1_put : yX1_put.cls ≠ "java/lang/invoke/MethodHandle" ∧ yX1_put.cls ≠ "java/lang/invoke/VarHandle" ∧ (parseMethodDescriptor yX1_put.desc).map (fun d => d.parameters.length) = some 4 := by decide +kernel
set_option maxHeartbeats 4000000 in
set_option maxRecDepth 100000 in
theorem c_X1_put (l : Launch) (D : va_G) (h a0 a1 a2 a3 : Nat) (cA : ClassId) (H T E F : Int → Int) (cc gc w d v : Int) (sz : Nat) (hok : SOK H T E cc gc w d v) (g1 : Int) (g2 : Int) (g3 : Int) (g4 : Int) (hg1 : inI g1) (hg2 : inI g2) (hg3 : inI g3) (hg4 : inI g4) : MMV l yX1_put wsX1_put rmX1_put [.ref h, jI g1, jI g2, jI g3, jI g4] D cA (MW h a0 a1 a2 a3 cA H T E F cc gc w d v) (fun u : Int → Int => MW h a0 a1 a2 a3 cA H T E u cc gc w d v) sz (fun u => u 0 = g1 ∧ u 1 = g2 ∧ u 2 = g3 ∧ u 3 = g4) := by
  refine MMV_of (cc := cX1_put) (maxL := 5) (by decide) rfl (Nat.le_of_ble_eq_true rfl) ?_
  intro pP eE sS mM aA bL mT cC QQ ls A S hret hP hK hD hS hA hl
  obtain ⟨hcc, hgc, hw, hd, hv, hH, hT, hE⟩ := id hok
  have hin : ∀ w ∈ wsX10, w ∈ wsX1_put := fun w hw => List.mem_cons_of_mem _ (List.mem_append_right _ hw)
  have hl : lv_has ls 5 [(0, .ref h), (1, jI g1), (2, jI g2), (3, jI g3), (4, jI g4)] := hl
  refine lv_aload_n S.1 S.2.1 dX1_put_0 rfl (lv_at hl 0 rfl) ?_
  refine j_get (v := .ref a3) S hin hK hP rfl rfl 8 (by decide) (List.mem_of_getElem? (i := 1) rfl) rfl dX1_put_1 ?_
  refine j_iconst S dX1_put_4 ?_
  refine j_iload_n S dX1_put_5 rfl (lv_at hl 1 rfl) ?_
  refine j_iast (ws1 := (MW h a0 a1 a2 a3 cA H T E (jU F 0 g1) cc gc w d v)) S hK hP hD hS 4 0 rfl rfl (iv_ix (n := 4) (iv_n 0) (by decide +kernel)) rfl dX1_put_6 (fun Hp lc hP hD hS => ?_)
  refine lv_aload_n S.1 S.2.1 dX1_put_7 rfl (lv_at hl 0 rfl) ?_
  refine j_get (v := .ref a3) S hin hK hP rfl rfl 8 (by decide) (List.mem_of_getElem? (i := 1) rfl) rfl dX1_put_8 ?_
  refine j_iconst S dX1_put_11 ?_
  refine j_iload_n S dX1_put_12 rfl (lv_at hl 2 rfl) ?_
  refine j_iast (ws1 := (MW h a0 a1 a2 a3 cA H T E (jU (jU F 0 g1) 1 g2) cc gc w d v)) S hK hP hD hS 4 0 rfl rfl (iv_ix (n := 4) (iv_n 1) (by decide +kernel)) rfl dX1_put_13 (fun Hp lc hP hD hS => ?_)
  refine lv_aload_n S.1 S.2.1 dX1_put_14 rfl (lv_at hl 0 rfl) ?_
  refine j_get (v := .ref a3) S hin hK hP rfl rfl 8 (by decide) (List.mem_of_getElem? (i := 1) rfl) rfl dX1_put_15 ?_
  refine j_iconst S dX1_put_18 ?_
  refine j_iload_n S dX1_put_19 rfl (lv_at hl 3 rfl) ?_
  refine j_iast (ws1 := (MW h a0 a1 a2 a3 cA H T E (jU (jU (jU F 0 g1) 1 g2) 2 g3) cc gc w d v)) S hK hP hD hS 4 0 rfl rfl (iv_ix (n := 4) (iv_n 2) (by decide +kernel)) rfl dX1_put_20 (fun Hp lc hP hD hS => ?_)
  refine lv_aload_n S.1 S.2.1 dX1_put_21 rfl (lv_at hl 0 rfl) ?_
  refine j_get (v := .ref a3) S hin hK hP rfl rfl 8 (by decide) (List.mem_of_getElem? (i := 1) rfl) rfl dX1_put_22 ?_
  refine j_iconst S dX1_put_25 ?_
  refine j_iload S dX1_put_26 (lv_at hl 4 rfl) ?_
  refine j_iast (ws1 := (MW h a0 a1 a2 a3 cA H T E (jU (jU (jU (jU F 0 g1) 1 g2) 2 g3) 3 g4) cc gc w d v)) S hK hP hD hS 4 0 rfl rfl (iv_ix (n := 4) (iv_n 3) (by decide +kernel)) rfl dX1_put_28 (fun Hp lc hP hD hS => ?_)
  exact hret (jU (jU (jU (jU F 0 g1) 1 g2) 2 g3) 3 g4) _ _ 29 _ ⟨by simp [jU], by simp [jU], by simp [jU], by simp [jU]⟩ hP hD hS dX1_put_29
abbrev rmX1_isTrain : Room := { frames := 1, cells := 0, slots := 0, locals := 24 }
theorem hdX1_isTrain : yX1_isTrain.cls ≠ "java/lang/invoke/MethodHandle" ∧ yX1_isTrain.cls ≠ "java/lang/invoke/VarHandle" ∧ (parseMethodDescriptor yX1_isTrain.desc).map (fun d => d.parameters.length) = some 2 := by decide +kernel
set_option maxHeartbeats 4000000 in
set_option maxRecDepth 100000 in
theorem c_X1_isTrain (l : Launch) (D : va_G) (h a0 a1 a2 a3 : Nat) (cA : ClassId) (H T E F : Int → Int) (cc gc w d v : Int) (sz : Nat) (hok : SOK H T E cc gc w d v) (p : Int) (q : Int) (hp : 1 ≤ p ∧ p ≤ 1000000) (hq : 1 ≤ q ∧ q ≤ 1000000) : MMI l yX1_isTrain wsX1_isTrain rmX1_isTrain [.ref h, jL p, jL q] D cA (MW h a0 a1 a2 a3 cA H T E F cc gc w d v) (fun u : Int → Int => MW h a0 a1 a2 a3 cA H T E u cc gc w d v) sz (fun rR u => (rR = 1 ∧ Tr gc T p q (u 0) (u 1) (u 2) (u 3)) ∨ (rR = 0 ∧ NoTr gc T p q)) := by
  refine MMI_of (cc := cX1_isTrain) (maxL := 12) (Or.inr rfl) (by decide) rfl (Nat.le_of_ble_eq_true rfl) ?_
  intro pP eE sS mM aA bL mT cC QQ ls A S hret hP hK hD hS hA hl
  obtain ⟨hcc, hgc, hw, hd, hv, hH, hT, hE⟩ := id hok
  have hin : ∀ w ∈ wsX10, w ∈ wsX1_isTrain := fun w hw => List.mem_cons_of_mem _ (List.mem_append_right _ hw)
  have hl : lv_has ls 12 [(0, .ref h), (1, jL p), (3, jL q)] := hl
  refine j_iconst S dX1_isTrain_0 ?_
  refine j_istore (lv' := [(5, jI 0), (0, .ref h), (1, jL p), (3, jL q)]) S dX1_isTrain_1 hl (by decide) rfl (fun ls hl => ?_)
  have loop3 : ∀ (N : Nat) (x1 : Int) (ls : Array Slot), (0 ≤ x1 ∧ x1 ≤ 10) → (x1 ≤ gc) → (∀ a b, 0 ≤ a → a < x1 → 0 ≤ b → b < gc → ¬ Q2 T p q a b) → gc - x1 < (N : Int) → lv_has ls 12 [(5, jI x1), (0, .ref h), (1, jL p), (3, jL q)] → W pP l eE rmX1_isTrain sS mM aA bL mT cC sS.heap [] 0 0 QQ (F0 mM 3 ls []) := by
    intro N
    induction N with
    | zero =>
      intro x1 ls hx1 hx1c hz hN
      exact absurd hN (by omega)
    | succ N ih3 =>
      intro x1 ls hx1 hx1c hz hN hl
      refine j_iload S dX1_isTrain_3 (lv_at hl 0 rfl) ?_
      refine lv_aload_n S.1 S.2.1 dX1_isTrain_5 rfl (lv_at hl 1 rfl) ?_
      refine j_get (v := jI gc) S hin hK hP rfl rfl 3 (by decide) (List.mem_of_getElem? (i := 1) rfl) rfl dX1_isTrain_6 ?_
      refine j_icmp_ge (tgt := 81) S dX1_isTrain_9 (by decide) (iv_i hx1 (by decide +kernel)) (iv_i hgc (by decide +kernel)) (fun c9 => ?_) (fun c9 => ?_)
      · refine j_iconst S dX1_isTrain_81 ?_
        refine j_istore (lv' := [(5, jI 0), (0, .ref h), (1, jL p), (3, jL q)]) S dX1_isTrain_82 hl (by decide) rfl (fun ls hl => ?_)
        have loop84 : ∀ (N : Nat) (k : Int) (ls : Array Slot), (0 ≤ k ∧ k ≤ 10000) → (∀ a b c d, 0 ≤ a → a < gc → 0 ≤ b → b < gc → 0 ≤ c → c < gc → 0 ≤ d → d < gc → 1000 * a + 100 * b + 10 * c + d < k → ¬ Q4 T p q a b c d) → 10000 - k < (N : Int) → lv_has ls 12 [(5, jI k), (0, .ref h), (1, jL p), (3, jL q)] → W pP l eE rmX1_isTrain sS mM aA bL mT cC sS.heap [] 0 0 QQ (F0 mM 84 ls []) := by
          intro N
          induction N with
          | zero =>
            intro k ls hk hz4 hN
            exact absurd hN (by omega)
          | succ N ih84 =>
            intro k ls hk hz4 hN hl
            refine j_iload S dX1_isTrain_84 (lv_at hl 0 rfl) ?_
            refine j_sipush S dX1_isTrain_86 (by decide) ?_
            refine j_icmp_ge (tgt := 291) S dX1_isTrain_89 (by decide) (iv_i hk (by decide +kernel)) (iv_i (iv_n 10000) (by decide +kernel)) (fun c89 => ?_) (fun c89 => ?_)
            · have r1_ : 10000 ≤ k ∧ k ≤ 10000 := by omega
              refine j_iconst S dX1_isTrain_291 ?_
              exact hret 0 F _ _ 292 _ (fun _ => Or.inl rfl) (Or.inr ⟨rfl, (fun a b a1 a2 b1 b2 => hz a b a1 (by omega) b1 b2), (fun a b c d a1 a2 b1 b2 e1 e2 f1 f2 => hz4 a b c d a1 a2 b1 b2 e1 e2 f1 f2 (by omega))⟩) hP hD hS dX1_isTrain_292
            · have r2_ : 0 ≤ k ∧ k ≤ 9999 := by omega
              refine j_iload S dX1_isTrain_92 (lv_at hl 0 rfl) ?_
              refine j_sipush S dX1_isTrain_94 (by decide) ?_
              refine j_idivp S dX1_isTrain_97 (iv_i r2_ (by decide +kernel)) (iv_pi (iv_n 1000) (by decide +kernel)) (iv_nn r2_ (by decide +kernel)) ?_
              refine j_istore (lv' := [(6, jI (k / 1000)), (5, jI k), (0, .ref h), (1, jL p), (3, jL q)]) S dX1_isTrain_98 hl (by decide) rfl (fun ls hl => ?_)
              refine j_iload S dX1_isTrain_100 (lv_at hl 1 rfl) ?_
              refine j_bipush S dX1_isTrain_102 (by decide) ?_
              refine j_idivp S dX1_isTrain_104 (iv_i r2_ (by decide +kernel)) (iv_pi (iv_n 100) (by decide +kernel)) (iv_nn r2_ (by decide +kernel)) ?_
              refine j_bipush S dX1_isTrain_105 (by decide) ?_
              refine j_iremp S dX1_isTrain_107 (iv_i (iv_div (lo := 0) (hi := 9999) r2_ (by have := (iv_n 100); omega) (by decide +kernel)) (by decide +kernel)) (iv_pi (iv_n 10) (by decide +kernel)) (iv_nn (iv_div (lo := 0) (hi := 9999) r2_ (by have := (iv_n 100); omega) (by decide +kernel)) (by decide +kernel)) ?_
              refine j_istore (lv' := [(7, jI ((k / 100) % 10)), (6, jI (k / 1000)), (5, jI k), (0, .ref h), (1, jL p), (3, jL q)]) S dX1_isTrain_108 hl (by decide) rfl (fun ls hl => ?_)
              refine j_iload S dX1_isTrain_110 (lv_at hl 2 rfl) ?_
              refine j_bipush S dX1_isTrain_112 (by decide) ?_
              refine j_idivp S dX1_isTrain_114 (iv_i r2_ (by decide +kernel)) (iv_pi (iv_n 10) (by decide +kernel)) (iv_nn r2_ (by decide +kernel)) ?_
              refine j_bipush S dX1_isTrain_115 (by decide) ?_
              refine j_iremp S dX1_isTrain_117 (iv_i (iv_div (lo := 0) (hi := 9999) r2_ (by have := (iv_n 10); omega) (by decide +kernel)) (by decide +kernel)) (iv_pi (iv_n 10) (by decide +kernel)) (iv_nn (iv_div (lo := 0) (hi := 9999) r2_ (by have := (iv_n 10); omega) (by decide +kernel)) (by decide +kernel)) ?_
              refine j_istore (lv' := [(8, jI ((k / 10) % 10)), (7, jI ((k / 100) % 10)), (6, jI (k / 1000)), (5, jI k), (0, .ref h), (1, jL p), (3, jL q)]) S dX1_isTrain_118 hl (by decide) rfl (fun ls hl => ?_)
              refine j_iload S dX1_isTrain_120 (lv_at hl 3 rfl) ?_
              refine j_bipush S dX1_isTrain_122 (by decide) ?_
              refine j_iremp S dX1_isTrain_124 (iv_i r2_ (by decide +kernel)) (iv_pi (iv_n 10) (by decide +kernel)) (iv_nn r2_ (by decide +kernel)) ?_
              refine j_istore (lv' := [(9, jI (k % 10)), (8, jI ((k / 10) % 10)), (7, jI ((k / 100) % 10)), (6, jI (k / 1000)), (5, jI k), (0, .ref h), (1, jL p), (3, jL q)]) S dX1_isTrain_125 hl (by decide) rfl (fun ls hl => ?_)
              have cut127 : ∀ (x6 x7 x8 x9 : Int) (ls : Array Slot), (k = 1000 * x6 + 100 * x7 + 10 * x8 + x9) → (0 ≤ x6 ∧ x6 ≤ 9) → (0 ≤ x7 ∧ x7 ≤ 9) → (0 ≤ x8 ∧ x8 ≤ 9) → (0 ≤ x9 ∧ x9 ≤ 9) → lv_has ls 12 [(9, jI x9), (8, jI x8), (7, jI x7), (6, jI x6), (5, jI k), (0, .ref h), (1, jL p), (3, jL q)] → W pP l eE rmX1_isTrain sS mM aA bL mT cC sS.heap [] 0 0 QQ (F0 mM 127 ls []) := by
                intro x6 x7 x8 x9 ls hdg hx6 hx7 hx8 hx9 hl
                have cut174 : ∀ (z : Int) (ls : Array Slot), ((z = 1 ∧ (x6 ≠ x7 ∧ x6 ≠ x8 ∧ x6 ≠ x9 ∧ x7 ≠ x8 ∧ x7 ≠ x9 ∧ x8 ≠ x9)) ∨ (z = 0 ∧ ¬ (x6 ≠ x7 ∧ x6 ≠ x8 ∧ x6 ≠ x9 ∧ x7 ≠ x8 ∧ x7 ≠ x9 ∧ x8 ≠ x9))) → (0 ≤ z ∧ z ≤ 1) → lv_has ls 12 [(9, jI x9), (8, jI x8), (7, jI x7), (6, jI x6), (5, jI k), (0, .ref h), (1, jL p), (3, jL q)] → W pP l eE rmX1_isTrain sS mM aA bL mT cC sS.heap [] 0 0 QQ (F0 mM 174 ls [jI z]) := by
                  intro z ls hz174 hzi hl
                  refine j_istore (lv' := [(10, jI z), (9, jI x9), (8, jI x8), (7, jI x7), (6, jI x6), (5, jI k), (0, .ref h), (1, jL p), (3, jL q)]) S dX1_isTrain_174 hl (by decide) rfl (fun ls hl => ?_)
                  have cut217 : ∀ (y : Int) (ls : Array Slot), ((y = 1 ∧ (x6 < gc ∧ x7 < gc ∧ x8 < gc ∧ x9 < gc)) ∨ (y = 0 ∧ ¬ (x6 < gc ∧ x7 < gc ∧ x8 < gc ∧ x9 < gc))) → (0 ≤ y ∧ y ≤ 1) → lv_has ls 12 [(10, jI z), (9, jI x9), (8, jI x8), (7, jI x7), (6, jI x6), (5, jI k), (0, .ref h), (1, jL p), (3, jL q)] → W pP l eE rmX1_isTrain sS mM aA bL mT cC sS.heap [] 0 0 QQ (F0 mM 217 ls [jI y]) := by
                    intro y ls hy217 hyi hl
                    refine j_istore (lv' := [(11, jI y), (10, jI z), (9, jI x9), (8, jI x8), (7, jI x7), (6, jI x6), (5, jI k), (0, .ref h), (1, jL p), (3, jL q)]) S dX1_isTrain_217 hl (by decide) rfl (fun ls hl => ?_)
                    refine j_iload S dX1_isTrain_219 (lv_at hl 1 rfl) ?_
                    refine j_if_eq (tgt := 285) S dX1_isTrain_221 (by decide) (iv_i hzi (by decide +kernel)) (fun c221 => ?_) (fun c221 => ?_)
                    · have r3_ : 0 ≤ z ∧ z ≤ 0 := by omega
                      refine j_iinc (k := 6) (y := (k + 1)) (lv' := [(5, jI (k + 1)), (11, jI y), (10, jI z), (9, jI x9), (8, jI x8), (7, jI x7), (6, jI x6), (0, .ref h), (1, jL p), (3, jL q)]) S dX1_isTrain_285 hl rfl rfl (by decide) rfl (fun ls hl => ?_)
                      refine j_goto (tgt := 84) S dX1_isTrain_288 (by decide) ?_
                      exact ih84 (k + 1) _ (by omega) (m4_step (by omega) hdg hx6 hx7 hx8 hx9 hz4 (fun z9 => by rcases hz174 with hz174 | hz174; omega; exact hz174.2 z9.2.1)) (by omega) (lv_sub hl [0, 7, 8, 9] rfl)
                    · have r4_ : 1 ≤ z ∧ z ≤ 1 := by omega
                      refine j_iload S dX1_isTrain_224 (lv_at hl 0 rfl) ?_
                      refine j_if_eq (tgt := 285) S dX1_isTrain_226 (by decide) (iv_i hyi (by decide +kernel)) (fun c226 => ?_) (fun c226 => ?_)
                      · have r5_ : 0 ≤ y ∧ y ≤ 0 := by omega
                        refine j_iinc (k := 6) (y := (k + 1)) (lv' := [(5, jI (k + 1)), (11, jI y), (10, jI z), (9, jI x9), (8, jI x8), (7, jI x7), (6, jI x6), (0, .ref h), (1, jL p), (3, jL q)]) S dX1_isTrain_285 hl rfl rfl (by decide) rfl (fun ls hl => ?_)
                        refine j_goto (tgt := 84) S dX1_isTrain_288 (by decide) ?_
                        exact ih84 (k + 1) _ (by omega) (m4_step (by omega) hdg hx6 hx7 hx8 hx9 hz4 (fun z9 => by rcases hy217 with hy217 | hy217; omega; exact hy217.2 z9.1)) (by omega) (lv_sub hl [0, 7, 8, 9] rfl)
                      · have r6_ : 1 ≤ y ∧ y ≤ 1 := by omega
                        refine lv_aload_n S.1 S.2.1 dX1_isTrain_229 rfl (lv_at hl 7 rfl) ?_
                        refine j_get (v := .ref a1) S hin hK hP rfl rfl 4 (by decide) (List.mem_of_getElem? (i := 2) rfl) rfl dX1_isTrain_230 ?_
                        refine j_iload S dX1_isTrain_233 (lv_at hl 5 rfl) ?_
                        refine j_iald S hK hP 2 0 rfl rfl (iv_ix (n := 10) hx6 (by decide +kernel)) dX1_isTrain_235 ?_
                        have r7_ := hT x6 (by omega) (by omega)
                        refine j_i2l S dX1_isTrain_236 (iv_i r7_ (by decide +kernel)) ?_
                        refine lv_aload_n S.1 S.2.1 dX1_isTrain_237 rfl (lv_at hl 7 rfl) ?_
                        refine j_get (v := .ref a1) S hin hK hP rfl rfl 4 (by decide) (List.mem_of_getElem? (i := 2) rfl) rfl dX1_isTrain_238 ?_
                        refine j_iload S dX1_isTrain_241 (lv_at hl 3 rfl) ?_
                        refine j_iald S hK hP 2 0 rfl rfl (iv_ix (n := 10) hx8 (by decide +kernel)) dX1_isTrain_243 ?_
                        have r8_ := hT x8 (by omega) (by omega)
                        refine j_i2l S dX1_isTrain_244 (iv_i r8_ (by decide +kernel)) ?_
                        refine j_lmul S dX1_isTrain_245 ?_
                        refine j_lload_n S dX1_isTrain_246 rfl (lv_at hl 9 rfl) ?_
                        refine j_lmul S dX1_isTrain_247 ?_
                        refine lv_aload_n S.1 S.2.1 dX1_isTrain_248 rfl (lv_at hl 7 rfl) ?_
                        refine j_get (v := .ref a1) S hin hK hP rfl rfl 4 (by decide) (List.mem_of_getElem? (i := 2) rfl) rfl dX1_isTrain_249 ?_
                        refine j_iload S dX1_isTrain_252 (lv_at hl 4 rfl) ?_
                        refine j_iald S hK hP 2 0 rfl rfl (iv_ix (n := 10) hx7 (by decide +kernel)) dX1_isTrain_254 ?_
                        have r9_ := hT x7 (by omega) (by omega)
                        refine j_i2l S dX1_isTrain_255 (iv_i r9_ (by decide +kernel)) ?_
                        refine lv_aload_n S.1 S.2.1 dX1_isTrain_256 rfl (lv_at hl 7 rfl) ?_
                        refine j_get (v := .ref a1) S hin hK hP rfl rfl 4 (by decide) (List.mem_of_getElem? (i := 2) rfl) rfl dX1_isTrain_257 ?_
                        refine j_iload S dX1_isTrain_260 (lv_at hl 2 rfl) ?_
                        refine j_iald S hK hP 2 0 rfl rfl (iv_ix (n := 10) hx9 (by decide +kernel)) dX1_isTrain_262 ?_
                        have r10_ := hT x9 (by omega) (by omega)
                        refine j_i2l S dX1_isTrain_263 (iv_i r10_ (by decide +kernel)) ?_
                        refine j_lmul S dX1_isTrain_264 ?_
                        refine j_lload_n S dX1_isTrain_265 rfl (lv_at hl 8 rfl) ?_
                        refine j_lmul S dX1_isTrain_266 ?_
                        refine j_lcmp_ne (pc1 := 268) (tgt := 285) S rfl dX1_isTrain_267 dX1_isTrain_268 (by decide) (iv_l (iv_mulp (lo := 144) (hi := 14400000000) (iv_mulp (lo := 144) (hi := 14400) r7_ r8_ (by decide +kernel)) hq (by decide +kernel)) (by decide +kernel)) (iv_l (iv_mulp (lo := 144) (hi := 14400000000) (iv_mulp (lo := 144) (hi := 14400) r9_ r10_ (by decide +kernel)) hp (by decide +kernel)) (by decide +kernel)) (fun c267 => ?_) (fun c267 => ?_)
                        · refine j_iinc (k := 6) (y := (k + 1)) (lv' := [(5, jI (k + 1)), (11, jI y), (10, jI z), (9, jI x9), (8, jI x8), (7, jI x7), (6, jI x6), (0, .ref h), (1, jL p), (3, jL q)]) S dX1_isTrain_285 hl rfl rfl (by decide) rfl (fun ls hl => ?_)
                          refine j_goto (tgt := 84) S dX1_isTrain_288 (by decide) ?_
                          exact ih84 (k + 1) _ (by omega) (m4_step (by omega) hdg hx6 hx7 hx8 hx9 hz4 (fun z9 => c267 z9.2.2)) (by omega) (lv_sub hl [0, 7, 8, 9] rfl)
                        · refine lv_aload_n S.1 S.2.1 dX1_isTrain_271 rfl (lv_at hl 7 rfl) ?_
                          refine j_iload S dX1_isTrain_272 (lv_at hl 5 rfl) ?_
                          refine j_iload S dX1_isTrain_274 (lv_at hl 4 rfl) ?_
                          refine j_iload S dX1_isTrain_276 (lv_at hl 3 rfl) ?_
                          refine j_iload S dX1_isTrain_278 (lv_at hl 2 rfl) ?_
                          refine j_cvv [0, 1, 2, 3, 4] [] (wr := []) (As := [jI x6, jI x7, jI x8, jI x9]) (ci := 1) S (c_X1_put l D h a0 a1 a2 a3 cA H T E F cc gc w d v _ hok x6 x7 x8 x9 (iv_w hx6 (by decide +kernel)) (iv_w hx7 (by decide +kernel)) (iv_w hx8 (by decide +kernel)) (iv_w hx9 (by decide +kernel))) (cwV 4 S.2.2.2.2 gX1_isTrain_X1_put rfl rfl rfl ⟨rfl, hdX1_put⟩ ⟨Nat.le_of_ble_eq_true rfl, Nat.le_of_ble_eq_true rfl⟩) hK hP hD hS hA rfl rfl rfl rfl (by decide) rfl rfl rfl [] rfl rfl hl.1 (Nat.le_of_ble_eq_true rfl) ⟨Nat.zero_le _, Nat.zero_le _⟩ dX1_isTrain_280 (fun u280 Hp lc q280 hP hD hS => ?_)
                          have hP : va_P D vwCl (MW h a0 a1 a2 a3 cA H T E u280 cc gc w d v) Hp := hP
                          have hD : va_D A (MW h a0 a1 a2 a3 cA H T E u280 cc gc w d v) := hD
                          refine j_iconst S dX1_isTrain_283 ?_
                          exact hret 1 u280 _ _ 284 _ (fun _ => Or.inr rfl) (Or.inl ⟨rfl, Or.inr ⟨(fun a b a1 a2 b1 b2 => hz a b a1 (by omega) b1 b2), by rw [q280.1, q280.2.1, q280.2.2.1, q280.2.2.2]; rcases hz174 with hz174 | hz174; exact ⟨by omega, by omega, by omega, by omega, ⟨hz174.2, c267⟩, fun a b c d a1 a2 b1 b2 e1 e2 f1 f2 hlt => hz4 a b c d a1 a2 b1 b2 e1 e2 f1 f2 (by omega)⟩; exact absurd hz174.1 c221⟩⟩) hP hD hS dX1_isTrain_284
                  refine j_iload S dX1_isTrain_176 (lv_at hl 4 rfl) ?_
                  refine lv_aload_n S.1 S.2.1 dX1_isTrain_178 rfl (lv_at hl 6 rfl) ?_
                  refine j_get (v := jI gc) S hin hK hP rfl rfl 3 (by decide) (List.mem_of_getElem? (i := 1) rfl) rfl dX1_isTrain_179 ?_
                  refine j_icmp_ge (tgt := 216) S dX1_isTrain_182 (by decide) (iv_i hx6 (by decide +kernel)) (iv_i hgc (by decide +kernel)) (fun c182 => ?_) (fun c182 => ?_)
                  · have r11_ : 0 ≤ gc ∧ gc ≤ 9 := by omega
                    refine j_iconst S dX1_isTrain_216 ?_
                    exact cut217 0 _ (Or.inr ⟨rfl, by omega⟩) (by omega) (lv_sub hl [0, 1, 2, 3, 4, 5, 6, 7, 8] rfl)
                  · have r12_ : 1 ≤ gc ∧ gc ≤ 10 := by omega
                    refine j_iload S dX1_isTrain_185 (lv_at hl 3 rfl) ?_
                    refine lv_aload_n S.1 S.2.1 dX1_isTrain_187 rfl (lv_at hl 6 rfl) ?_
                    refine j_get (v := jI gc) S hin hK hP rfl rfl 3 (by decide) (List.mem_of_getElem? (i := 1) rfl) rfl dX1_isTrain_188 ?_
                    refine j_icmp_ge (tgt := 216) S dX1_isTrain_191 (by decide) (iv_i hx7 (by decide +kernel)) (iv_i r12_ (by decide +kernel)) (fun c191 => ?_) (fun c191 => ?_)
                    · have r13_ : 1 ≤ gc ∧ gc ≤ 9 := by omega
                      have r14_ : 1 ≤ x7 ∧ x7 ≤ 9 := by omega
                      refine j_iconst S dX1_isTrain_216 ?_
                      exact cut217 0 _ (Or.inr ⟨rfl, by omega⟩) (by omega) (lv_sub hl [0, 1, 2, 3, 4, 5, 6, 7, 8] rfl)
                    · refine j_iload S dX1_isTrain_194 (lv_at hl 2 rfl) ?_
                      refine lv_aload_n S.1 S.2.1 dX1_isTrain_196 rfl (lv_at hl 6 rfl) ?_
                      refine j_get (v := jI gc) S hin hK hP rfl rfl 3 (by decide) (List.mem_of_getElem? (i := 1) rfl) rfl dX1_isTrain_197 ?_
                      refine j_icmp_ge (tgt := 216) S dX1_isTrain_200 (by decide) (iv_i hx8 (by decide +kernel)) (iv_i r12_ (by decide +kernel)) (fun c200 => ?_) (fun c200 => ?_)
                      · have r15_ : 1 ≤ gc ∧ gc ≤ 9 := by omega
                        have r16_ : 1 ≤ x8 ∧ x8 ≤ 9 := by omega
                        refine j_iconst S dX1_isTrain_216 ?_
                        exact cut217 0 _ (Or.inr ⟨rfl, by omega⟩) (by omega) (lv_sub hl [0, 1, 2, 3, 4, 5, 6, 7, 8] rfl)
                      · refine j_iload S dX1_isTrain_203 (lv_at hl 1 rfl) ?_
                        refine lv_aload_n S.1 S.2.1 dX1_isTrain_205 rfl (lv_at hl 6 rfl) ?_
                        refine j_get (v := jI gc) S hin hK hP rfl rfl 3 (by decide) (List.mem_of_getElem? (i := 1) rfl) rfl dX1_isTrain_206 ?_
                        refine j_icmp_ge (tgt := 216) S dX1_isTrain_209 (by decide) (iv_i hx9 (by decide +kernel)) (iv_i r12_ (by decide +kernel)) (fun c209 => ?_) (fun c209 => ?_)
                        · have r17_ : 1 ≤ gc ∧ gc ≤ 9 := by omega
                          have r18_ : 1 ≤ x9 ∧ x9 ≤ 9 := by omega
                          refine j_iconst S dX1_isTrain_216 ?_
                          exact cut217 0 _ (Or.inr ⟨rfl, by omega⟩) (by omega) (lv_sub hl [0, 1, 2, 3, 4, 5, 6, 7, 8] rfl)
                        · refine j_iconst S dX1_isTrain_212 ?_
                          refine j_goto (tgt := 217) S dX1_isTrain_213 (by decide) ?_
                          exact cut217 1 _ (Or.inl ⟨rfl, by omega⟩) (by omega) (lv_sub hl [0, 1, 2, 3, 4, 5, 6, 7, 8] rfl)
                refine j_iload S dX1_isTrain_127 (lv_at hl 3 rfl) ?_
                refine j_iload S dX1_isTrain_129 (lv_at hl 2 rfl) ?_
                refine j_icmp_eq (tgt := 173) S dX1_isTrain_131 (by decide) (iv_i hx6 (by decide +kernel)) (iv_i hx7 (by decide +kernel)) (fun c131 => ?_) (fun c131 => ?_)
                · refine j_iconst S dX1_isTrain_173 ?_
                  exact cut174 0 _ (Or.inr ⟨rfl, by omega⟩) (by omega) (lv_sub hl [0, 1, 2, 3, 4, 5, 6, 7] rfl)
                · refine j_iload S dX1_isTrain_134 (lv_at hl 3 rfl) ?_
                  refine j_iload S dX1_isTrain_136 (lv_at hl 1 rfl) ?_
                  refine j_icmp_eq (tgt := 173) S dX1_isTrain_138 (by decide) (iv_i hx6 (by decide +kernel)) (iv_i hx8 (by decide +kernel)) (fun c138 => ?_) (fun c138 => ?_)
                  · refine j_iconst S dX1_isTrain_173 ?_
                    exact cut174 0 _ (Or.inr ⟨rfl, by omega⟩) (by omega) (lv_sub hl [0, 1, 2, 3, 4, 5, 6, 7] rfl)
                  · refine j_iload S dX1_isTrain_141 (lv_at hl 3 rfl) ?_
                    refine j_iload S dX1_isTrain_143 (lv_at hl 0 rfl) ?_
                    refine j_icmp_eq (tgt := 173) S dX1_isTrain_145 (by decide) (iv_i hx6 (by decide +kernel)) (iv_i hx9 (by decide +kernel)) (fun c145 => ?_) (fun c145 => ?_)
                    · refine j_iconst S dX1_isTrain_173 ?_
                      exact cut174 0 _ (Or.inr ⟨rfl, by omega⟩) (by omega) (lv_sub hl [0, 1, 2, 3, 4, 5, 6, 7] rfl)
                    · refine j_iload S dX1_isTrain_148 (lv_at hl 2 rfl) ?_
                      refine j_iload S dX1_isTrain_150 (lv_at hl 1 rfl) ?_
                      refine j_icmp_eq (tgt := 173) S dX1_isTrain_152 (by decide) (iv_i hx7 (by decide +kernel)) (iv_i hx8 (by decide +kernel)) (fun c152 => ?_) (fun c152 => ?_)
                      · refine j_iconst S dX1_isTrain_173 ?_
                        exact cut174 0 _ (Or.inr ⟨rfl, by omega⟩) (by omega) (lv_sub hl [0, 1, 2, 3, 4, 5, 6, 7] rfl)
                      · refine j_iload S dX1_isTrain_155 (lv_at hl 2 rfl) ?_
                        refine j_iload S dX1_isTrain_157 (lv_at hl 0 rfl) ?_
                        refine j_icmp_eq (tgt := 173) S dX1_isTrain_159 (by decide) (iv_i hx7 (by decide +kernel)) (iv_i hx9 (by decide +kernel)) (fun c159 => ?_) (fun c159 => ?_)
                        · refine j_iconst S dX1_isTrain_173 ?_
                          exact cut174 0 _ (Or.inr ⟨rfl, by omega⟩) (by omega) (lv_sub hl [0, 1, 2, 3, 4, 5, 6, 7] rfl)
                        · refine j_iload S dX1_isTrain_162 (lv_at hl 1 rfl) ?_
                          refine j_iload S dX1_isTrain_164 (lv_at hl 0 rfl) ?_
                          refine j_icmp_eq (tgt := 173) S dX1_isTrain_166 (by decide) (iv_i hx8 (by decide +kernel)) (iv_i hx9 (by decide +kernel)) (fun c166 => ?_) (fun c166 => ?_)
                          · refine j_iconst S dX1_isTrain_173 ?_
                            exact cut174 0 _ (Or.inr ⟨rfl, by omega⟩) (by omega) (lv_sub hl [0, 1, 2, 3, 4, 5, 6, 7] rfl)
                          · refine j_iconst S dX1_isTrain_169 ?_
                            refine j_goto (tgt := 174) S dX1_isTrain_170 (by decide) ?_
                            exact cut174 1 _ (Or.inl ⟨rfl, by omega⟩) (by omega) (lv_sub hl [0, 1, 2, 3, 4, 5, 6, 7] rfl)
              exact cut127 (k / 1000) ((k / 100) % 10) ((k / 10) % 10) (k % 10) _ (by omega) (by omega) (by omega) (by omega) (by omega) (lv_sub hl [0, 1, 2, 3, 4, 5, 6, 7] rfl)
        exact loop84 10001 0 _ (by omega) (fun a b c d a1 a2 b1 b2 e1 e2 f1 f2 hlt => absurd hlt (by omega)) (by omega) (lv_sub hl [0, 1, 2, 3] rfl)
      · have r19_ : 0 ≤ x1 ∧ x1 ≤ 9 := by omega
        have r20_ : 1 ≤ gc ∧ gc ≤ 10 := by omega
        refine j_iconst S dX1_isTrain_12 ?_
        refine j_istore (lv' := [(6, jI 0), (5, jI x1), (0, .ref h), (1, jL p), (3, jL q)]) S dX1_isTrain_13 hl (by decide) rfl (fun ls hl => ?_)
        have loop15 : ∀ (N : Nat) (x2 : Int) (ls : Array Slot), (0 ≤ x2 ∧ x2 ≤ 10) → (x2 ≤ gc) → (∀ b, 0 ≤ b → b < x2 → ¬ Q2 T p q x1 b) → gc - x2 < (N : Int) → lv_has ls 12 [(6, jI x2), (5, jI x1), (0, .ref h), (1, jL p), (3, jL q)] → W pP l eE rmX1_isTrain sS mM aA bL mT cC sS.heap [] 0 0 QQ (F0 mM 15 ls []) := by
          intro N
          induction N with
          | zero =>
            intro x2 ls hx2 hx2c hz2 hN
            exact absurd hN (by omega)
          | succ N ih15 =>
            intro x2 ls hx2 hx2c hz2 hN hl
            refine j_iload S dX1_isTrain_15 (lv_at hl 0 rfl) ?_
            refine lv_aload_n S.1 S.2.1 dX1_isTrain_17 rfl (lv_at hl 2 rfl) ?_
            refine j_get (v := jI gc) S hin hK hP rfl rfl 3 (by decide) (List.mem_of_getElem? (i := 1) rfl) rfl dX1_isTrain_18 ?_
            refine j_icmp_ge (tgt := 75) S dX1_isTrain_21 (by decide) (iv_i hx2 (by decide +kernel)) (iv_i r20_ (by decide +kernel)) (fun c21 => ?_) (fun c21 => ?_)
            · have r21_ : 1 ≤ x2 ∧ x2 ≤ 10 := by omega
              refine j_iinc (k := 1) (y := (x1 + 1)) (lv' := [(5, jI (x1 + 1)), (6, jI x2), (0, .ref h), (1, jL p), (3, jL q)]) S dX1_isTrain_75 hl rfl rfl (by decide) rfl (fun ls hl => ?_)
              refine j_goto (tgt := 3) S dX1_isTrain_78 (by decide) ?_
              exact ih3 (x1 + 1) _ (by omega) (by omega) (fun a b a1 a2 b1 b2 => by by_cases e : a = x1; rw [e]; exact hz2 b b1 (by omega); exact hz a b a1 (by omega) b1 b2) (by omega) (lv_sub hl [0, 2, 3, 4] rfl)
            · have r22_ : 0 ≤ x2 ∧ x2 ≤ 9 := by omega
              refine j_iload S dX1_isTrain_24 (lv_at hl 1 rfl) ?_
              refine j_iload S dX1_isTrain_26 (lv_at hl 0 rfl) ?_
              refine j_icmp_eq (tgt := 69) S dX1_isTrain_28 (by decide) (iv_i r19_ (by decide +kernel)) (iv_i r22_ (by decide +kernel)) (fun c28 => ?_) (fun c28 => ?_)
              · refine j_iinc (k := 0) (y := (x2 + 1)) (lv' := [(6, jI (x2 + 1)), (5, jI x1), (0, .ref h), (1, jL p), (3, jL q)]) S dX1_isTrain_69 hl rfl rfl (by decide) rfl (fun ls hl => ?_)
                refine j_goto (tgt := 15) S dX1_isTrain_72 (by decide) ?_
                exact ih15 (x2 + 1) _ (by omega) (by omega) (fun b b1 b2 => by by_cases e : b = x2; rw [e]; exact (fun z9 => z9.1 c28); exact hz2 b b1 (by omega)) (by omega) (lv_sub hl [0, 1, 2, 3, 4] rfl)
              · refine lv_aload_n S.1 S.2.1 dX1_isTrain_31 rfl (lv_at hl 2 rfl) ?_
                refine j_get (v := .ref a1) S hin hK hP rfl rfl 4 (by decide) (List.mem_of_getElem? (i := 2) rfl) rfl dX1_isTrain_32 ?_
                refine j_iload S dX1_isTrain_35 (lv_at hl 1 rfl) ?_
                refine j_iald S hK hP 2 0 rfl rfl (iv_ix (n := 10) r19_ (by decide +kernel)) dX1_isTrain_37 ?_
                have r23_ := hT x1 (by omega) (by omega)
                refine j_i2l S dX1_isTrain_38 (iv_i r23_ (by decide +kernel)) ?_
                refine j_lload_n S dX1_isTrain_39 rfl (lv_at hl 4 rfl) ?_
                refine j_lmul S dX1_isTrain_40 ?_
                refine lv_aload_n S.1 S.2.1 dX1_isTrain_41 rfl (lv_at hl 2 rfl) ?_
                refine j_get (v := .ref a1) S hin hK hP rfl rfl 4 (by decide) (List.mem_of_getElem? (i := 2) rfl) rfl dX1_isTrain_42 ?_
                refine j_iload S dX1_isTrain_45 (lv_at hl 0 rfl) ?_
                refine j_iald S hK hP 2 0 rfl rfl (iv_ix (n := 10) r22_ (by decide +kernel)) dX1_isTrain_47 ?_
                have r24_ := hT x2 (by omega) (by omega)
                refine j_i2l S dX1_isTrain_48 (iv_i r24_ (by decide +kernel)) ?_
                refine j_lload_n S dX1_isTrain_49 rfl (lv_at hl 3 rfl) ?_
                refine j_lmul S dX1_isTrain_50 ?_
                refine j_lcmp_ne (pc1 := 52) (tgt := 69) S rfl dX1_isTrain_51 dX1_isTrain_52 (by decide) (iv_l (iv_mulp (lo := 12) (hi := 120000000) r23_ hq (by decide +kernel)) (by decide +kernel)) (iv_l (iv_mulp (lo := 12) (hi := 120000000) r24_ hp (by decide +kernel)) (by decide +kernel)) (fun c51 => ?_) (fun c51 => ?_)
                · refine j_iinc (k := 0) (y := (x2 + 1)) (lv' := [(6, jI (x2 + 1)), (5, jI x1), (0, .ref h), (1, jL p), (3, jL q)]) S dX1_isTrain_69 hl rfl rfl (by decide) rfl (fun ls hl => ?_)
                  refine j_goto (tgt := 15) S dX1_isTrain_72 (by decide) ?_
                  exact ih15 (x2 + 1) _ (by omega) (by omega) (fun b b1 b2 => by by_cases e : b = x2; rw [e]; exact (fun z9 => c51 z9.2); exact hz2 b b1 (by omega)) (by omega) (lv_sub hl [0, 1, 2, 3, 4] rfl)
                · refine lv_aload_n S.1 S.2.1 dX1_isTrain_55 rfl (lv_at hl 2 rfl) ?_
                  refine j_iload S dX1_isTrain_56 (lv_at hl 1 rfl) ?_
                  refine j_iload S dX1_isTrain_58 (lv_at hl 0 rfl) ?_
                  refine j_bipush S dX1_isTrain_60 (by decide) ?_
                  refine j_bipush S dX1_isTrain_62 (by decide) ?_
                  refine j_cvv [0, 1, 2, 3, 4] [] (wr := []) (As := [jI x1, jI x2, jI (-6), jI (-6)]) (ci := 1) S (c_X1_put l D h a0 a1 a2 a3 cA H T E F cc gc w d v _ hok x1 x2 (-6) (-6) (iv_w r19_ (by decide +kernel)) (iv_w r22_ (by decide +kernel)) (iv_w (iv_n (-6)) (by decide +kernel)) (iv_w (iv_n (-6)) (by decide +kernel))) (cwV 4 S.2.2.2.2 gX1_isTrain_X1_put rfl rfl rfl ⟨rfl, hdX1_put⟩ ⟨Nat.le_of_ble_eq_true rfl, Nat.le_of_ble_eq_true rfl⟩) hK hP hD hS hA rfl rfl rfl rfl (by decide) rfl rfl rfl [] rfl rfl hl.1 (Nat.le_of_ble_eq_true rfl) ⟨Nat.zero_le _, Nat.zero_le _⟩ dX1_isTrain_64 (fun u64 Hp lc q64 hP hD hS => ?_)
                  have hP : va_P D vwCl (MW h a0 a1 a2 a3 cA H T E u64 cc gc w d v) Hp := hP
                  have hD : va_D A (MW h a0 a1 a2 a3 cA H T E u64 cc gc w d v) := hD
                  refine j_iconst S dX1_isTrain_67 ?_
                  exact hret 1 u64 _ _ 68 _ (fun _ => Or.inr rfl) (Or.inl ⟨rfl, Or.inl ⟨by rw [q64.1, q64.2.1]; exact ⟨by omega, by omega, ⟨c28, c51⟩, (fun a b a1 a2 b1 b2 hlt => by by_cases e : a < x1; exact hz a b a1 e b1 b2; rw [show a = x1 from by omega]; exact hz2 b b1 (by omega))⟩, q64.2.2.1, q64.2.2.2⟩⟩) hP hD hS dX1_isTrain_68
        exact loop15 11 0 _ (by omega) (by omega) (fun b a1 a2 => absurd a2 (by omega)) (by omega) (lv_sub hl [0, 1, 2, 3, 4] rfl)
  exact loop3 11 0 _ (by omega) (by omega) (fun a b a1 a2 => absurd a2 (by omega)) (by omega) (lv_sub hl [0, 1, 2, 3] rfl)
abbrev rmX1_train : Room := { frames := 2, cells := 0, slots := 0, locals := 55 }
theorem hdX1_train : yX1_train.cls ≠ "java/lang/invoke/MethodHandle" ∧ yX1_train.cls ≠ "java/lang/invoke/VarHandle" ∧ (parseMethodDescriptor yX1_train.desc).map (fun d => d.parameters.length) = some 3 := by decide +kernel
set_option maxHeartbeats 4000000 in
set_option maxRecDepth 100000 in
theorem c_X1_train (l : Launch) (D : va_G) (h a0 a1 a2 a3 : Nat) (cA : ClassId) (H T E F : Int → Int) (cc gc w d v : Int) (sz : Nat) (hok : SOK H T E cc gc w d v) (p : Int) (q : Int) (what : Int) (hp : inI p) (hq : inI q) (hwhat : inI what) : MMI l yX1_train wsX1_train rmX1_train [.ref h, jI p, jI q, jI what] D cA (MW h a0 a1 a2 a3 cA H T E F cc gc w d v) (fun u : Int → Int => MW h a0 a1 a2 a3 cA H T E u cc gc w d v) sz (fun rR u => P_train gc T p q what rR) := by
  refine MMI_of (cc := cX1_train) (maxL := 4) (Or.inl rfl) (by decide) rfl (Nat.le_of_ble_eq_true rfl) ?_
  intro pP eE sS mM aA bL mT cC QQ ls A S hret hP hK hD hS hA hl
  obtain ⟨hcc, hgc, hw, hd, hv, hH, hT, hE⟩ := id hok
  have hin : ∀ w ∈ wsX10, w ∈ wsX1_train := fun w hw => List.mem_cons_of_mem _ (List.mem_append_right _ hw)
  have hl : lv_has ls 4 [(0, .ref h), (1, jI p), (2, jI q), (3, jI what)] := hl
  refine j_iload_n S dX1_train_0 rfl (lv_at hl 1 rfl) ?_
  refine j_i2l S dX1_train_1 (iv_i hp (by decide +kernel)) ?_
  refine j_lconst (a := 1) S dX1_train_2 rfl ?_
  refine j_ldc2 (n := 1000000) S (S.2.2.2.2 _ (List.mem_of_getElem? (i := 1) rfl)) (by decide) dX1_train_3 ?_
  refine j_csi (As := [jL p, jL 1, jL 1000000]) S (c_X1_in l p 1 1000000 (iv_w hp (by decide +kernel)) (iv_w (iv_n 1) (by decide +kernel)) (iv_w (iv_n 1000000) (by decide +kernel))) (va_cwS 3 S.2.2.2.2 gX1_train_X1_in rfl rfl rfl hdX1_in ⟨Nat.le_of_ble_eq_true rfl, Nat.le_of_ble_eq_true rfl⟩) [] rfl rfl hl.1 (Nat.le_of_ble_eq_true rfl) ⟨Nat.zero_le _, Nat.zero_le _⟩ dX1_train_6 (fun i6 q6 => ?_)
  subst q6
  refine j_ifb_eq (tgt := 36) S dX1_train_9 (by decide) (fun c9 => ?_) (fun c9 => ?_)
  · refine j_bipush S dX1_train_36 (by decide) ?_
    exact hret (-2) F _ _ 38 _ (fun q => by cases q) (Or.inl ⟨by omega, rfl⟩) hP hD hS dX1_train_38
  · have r1_ : 1 ≤ p ∧ p ≤ 1000000 := by omega
    refine j_iload_n S dX1_train_12 rfl (lv_at hl 2 rfl) ?_
    refine j_i2l S dX1_train_13 (iv_i hq (by decide +kernel)) ?_
    refine j_lconst (a := 1) S dX1_train_14 rfl ?_
    refine j_ldc2 (n := 1000000) S (S.2.2.2.2 _ (List.mem_of_getElem? (i := 1) rfl)) (by decide) dX1_train_15 ?_
    refine j_csi (As := [jL q, jL 1, jL 1000000]) S (c_X1_in l q 1 1000000 (iv_w hq (by decide +kernel)) (iv_w (iv_n 1) (by decide +kernel)) (iv_w (iv_n 1000000) (by decide +kernel))) (va_cwS 3 S.2.2.2.2 gX1_train_X1_in rfl rfl rfl hdX1_in ⟨Nat.le_of_ble_eq_true rfl, Nat.le_of_ble_eq_true rfl⟩) [] rfl rfl hl.1 (Nat.le_of_ble_eq_true rfl) ⟨Nat.zero_le _, Nat.zero_le _⟩ dX1_train_18 (fun i18 q18 => ?_)
    subst q18
    refine j_ifb_eq (tgt := 36) S dX1_train_21 (by decide) (fun c21 => ?_) (fun c21 => ?_)
    · refine j_bipush S dX1_train_36 (by decide) ?_
      exact hret (-2) F _ _ 38 _ (fun q => by cases q) (Or.inl ⟨by omega, rfl⟩) hP hD hS dX1_train_38
    · have r2_ : 1 ≤ q ∧ q ≤ 1000000 := by omega
      refine j_iload_n S dX1_train_24 rfl (lv_at hl 3 rfl) ?_
      refine j_i2l S dX1_train_25 (iv_i hwhat (by decide +kernel)) ?_
      refine j_lconst (a := 0) S dX1_train_26 rfl ?_
      refine j_ldc2 (n := 3) S (S.2.2.2.2 _ (List.mem_of_getElem? (i := 2) rfl)) (by decide) dX1_train_27 ?_
      refine j_csi (As := [jL what, jL 0, jL 3]) S (c_X1_in l what 0 3 (iv_w hwhat (by decide +kernel)) (iv_w (iv_n 0) (by decide +kernel)) (iv_w (iv_n 3) (by decide +kernel))) (va_cwS 3 S.2.2.2.2 gX1_train_X1_in rfl rfl rfl hdX1_in ⟨Nat.le_of_ble_eq_true rfl, Nat.le_of_ble_eq_true rfl⟩) [] rfl rfl hl.1 (Nat.le_of_ble_eq_true rfl) ⟨Nat.zero_le _, Nat.zero_le _⟩ dX1_train_30 (fun i30 q30 => ?_)
      subst q30
      refine j_ifb_ne (tgt := 39) S dX1_train_33 (by decide) (fun c33 => ?_) (fun c33 => ?_)
      · have r3_ : 0 ≤ what ∧ what ≤ 3 := by omega
        refine lv_aload_n S.1 S.2.1 dX1_train_39 rfl (lv_at hl 0 rfl) ?_
        refine j_iload_n S dX1_train_40 rfl (lv_at hl 1 rfl) ?_
        refine j_i2l S dX1_train_41 (iv_i r1_ (by decide +kernel)) ?_
        refine j_iload_n S dX1_train_42 rfl (lv_at hl 2 rfl) ?_
        refine j_i2l S dX1_train_43 (iv_i r2_ (by decide +kernel)) ?_
        refine j_cvm [0, 1, 2, 3, 4] [] (wr := []) (As := [jL p, jL q]) (ci := 1) S (c_X1_isTrain l D h a0 a1 a2 a3 cA H T E F cc gc w d v _ hok p q (iv_w r1_ (by decide +kernel)) (iv_w r2_ (by decide +kernel))) (cwV 2 S.2.2.2.2 gX1_train_X1_isTrain rfl rfl rfl ⟨rfl, hdX1_isTrain⟩ ⟨Nat.le_of_ble_eq_true rfl, Nat.le_of_ble_eq_true rfl⟩) hK hP hD hS hA rfl rfl rfl rfl (by decide) rfl rfl rfl [] rfl rfl hl.1 (Nat.le_of_ble_eq_true rfl) ⟨Nat.zero_le _, Nat.zero_le _⟩ dX1_train_44 (fun i44 u44 Hp lc q44 hP hD hS => ?_)
        have hP : va_P D vwCl (MW h a0 a1 a2 a3 cA H T E u44 cc gc w d v) Hp := hP
        have hD : va_D A (MW h a0 a1 a2 a3 cA H T E u44 cc gc w d v) := hD
        have r4_ : 0 ≤ i44 ∧ i44 ≤ 1 := by rcases q44 with qq | qq <;> (have := qq.1; omega)
        refine j_if_eq (tgt := 59) S dX1_train_47 (by decide) (iv_i r4_ (by decide +kernel)) (fun c47 => ?_) (fun c47 => ?_)
        · have r5_ : 0 ≤ i44 ∧ i44 ≤ 0 := by omega
          refine j_bipush S dX1_train_59 (by decide) ?_
          exact hret (-6) u44 _ _ 61 _ (fun q => by cases q) (by rcases q44 with qq | qq; exact absurd qq.1 (by omega); exact Or.inr (Or.inl ⟨by omega, qq.2, rfl⟩)) hP hD hS dX1_train_61
        · have r6_ : 1 ≤ i44 ∧ i44 ≤ 1 := by omega
          refine lv_aload_n S.1 S.2.1 dX1_train_50 rfl (lv_at hl 0 rfl) ?_
          refine j_get (v := .ref a3) S hin hK hP rfl rfl 8 (by decide) (List.mem_of_getElem? (i := 3) rfl) rfl dX1_train_51 ?_
          refine j_iload_n S dX1_train_54 rfl (lv_at hl 3 rfl) ?_
          refine j_iald S hK hP 4 0 rfl rfl (iv_ix (n := 4) r3_ (by decide +kernel)) dX1_train_55 ?_
          refine j_goto (tgt := 61) S dX1_train_56 (by decide) ?_
          exact hret (u44 what) u44 _ _ 61 _ (fun q => by cases q) (by rcases q44 with qq | qq; exact Or.inr (Or.inr ⟨by omega, _, _, _, _, qq.2, sel_eq (by omega)⟩); exact absurd qq.1 c47) hP hD hS dX1_train_61
      · refine j_bipush S dX1_train_36 (by decide) ?_
        exact hret (-2) F _ _ 38 _ (fun q => by cases q) (Or.inl ⟨by omega, rfl⟩) hP hD hS dX1_train_38
abbrev rmX1_differential : Room := { frames := 2, cells := 0, slots := 0, locals := 55 }
theorem hdX1_differential : yX1_differential.cls ≠ "java/lang/invoke/MethodHandle" ∧ yX1_differential.cls ≠ "java/lang/invoke/VarHandle" ∧ (parseMethodDescriptor yX1_differential.desc).map (fun d => d.parameters.length) = some 2 := by decide +kernel
set_option maxHeartbeats 4000000 in
set_option maxRecDepth 100000 in
theorem c_X1_differential (l : Launch) (D : va_G) (h a0 a1 a2 a3 : Nat) (cA : ClassId) (H T E F : Int → Int) (cc gc w d v : Int) (sz : Nat) (hok : SOK H T E cc gc w d v) (n : Int) (what : Int) (hn : inI n) (hwhat : inI what) : MMI l yX1_differential wsX1_differential rmX1_differential [.ref h, jI n, jI what] D cA (MW h a0 a1 a2 a3 cA H T E F cc gc w d v) (fun u : Int → Int => MW h a0 a1 a2 a3 cA H T E u cc gc w d v) sz (fun rR u => P_diff w cc H gc T n what rR) := by
  refine MMI_of (cc := cX1_differential) (maxL := 6) (Or.inl rfl) (by decide) rfl (Nat.le_of_ble_eq_true rfl) ?_
  intro pP eE sS mM aA bL mT cC QQ ls A S hret hP hK hD hS hA hl
  obtain ⟨hcc, hgc, hw, hd, hv, hH, hT, hE⟩ := id hok
  have hin : ∀ w ∈ wsX10, w ∈ wsX1_differential := fun w hw => List.mem_cons_of_mem _ (List.mem_append_right _ hw)
  have hl : lv_has ls 6 [(0, .ref h), (1, jI n), (2, jI what)] := hl
  refine j_iload_n S dX1_differential_0 rfl (lv_at hl 1 rfl) ?_
  refine j_csi (As := [jI n]) S (c_X1_isParts l n (iv_w hn (by decide +kernel))) (va_cwS 1 S.2.2.2.2 gX1_differential_X1_isParts rfl rfl rfl hdX1_isParts ⟨Nat.le_of_ble_eq_true rfl, Nat.le_of_ble_eq_true rfl⟩) [] rfl rfl hl.1 (Nat.le_of_ble_eq_true rfl) ⟨Nat.zero_le _, Nat.zero_le _⟩ dX1_differential_1 (fun i1 q1 => ?_)
  subst q1
  refine j_ifb_eq (tgt := 19) S dX1_differential_4 (by decide) (fun c4 => ?_) (fun c4 => ?_)
  · refine j_bipush S dX1_differential_19 (by decide) ?_
    exact hret (-2) F _ _ 21 _ (fun q => by cases q) (Or.inl ⟨by omega, rfl⟩) hP hD hS dX1_differential_21
  · have r1_ : 2 ≤ n ∧ n ≤ 1000 := by omega
    refine j_iload_n S dX1_differential_7 rfl (lv_at hl 2 rfl) ?_
    refine j_i2l S dX1_differential_8 (iv_i hwhat (by decide +kernel)) ?_
    refine j_lconst (a := 0) S dX1_differential_9 rfl ?_
    refine j_ldc2 (n := 6) S (S.2.2.2.2 _ (List.mem_of_getElem? (i := 1) rfl)) (by decide) dX1_differential_10 ?_
    refine j_csi (As := [jL what, jL 0, jL 6]) S (c_X1_in l what 0 6 (iv_w hwhat (by decide +kernel)) (iv_w (iv_n 0) (by decide +kernel)) (iv_w (iv_n 6) (by decide +kernel))) (va_cwS 3 S.2.2.2.2 gX1_differential_X1_in rfl rfl rfl hdX1_in ⟨Nat.le_of_ble_eq_true rfl, Nat.le_of_ble_eq_true rfl⟩) [] rfl rfl hl.1 (Nat.le_of_ble_eq_true rfl) ⟨Nat.zero_le _, Nat.zero_le _⟩ dX1_differential_13 (fun i13 q13 => ?_)
    subst q13
    refine j_ifb_ne (tgt := 22) S dX1_differential_16 (by decide) (fun c16 => ?_) (fun c16 => ?_)
    · have r2_ : 0 ≤ what ∧ what ≤ 6 := by omega
      refine j_iconst S dX1_differential_22 ?_
      refine j_istore_n (lv' := [(3, jI 2), (0, .ref h), (1, jI n), (2, jI what)]) S dX1_differential_23 rfl hl (by decide) rfl (fun ls hl => ?_)
      have loop24 : ∀ (N : Nat) (F : Int → Int) (Hp : Heap) (lc : List Loc) (hP : va_P D vwCl (MW h a0 a1 a2 a3 cA H T E F cc gc w d v) Hp) (hD : va_D A (MW h a0 a1 a2 a3 cA H T E F cc gc w d v)) (hS : va_S A sS.heap Hp lc) (k : Int) (ls : Array Slot), (2 ≤ k ∧ k ≤ 22) → (∀ j, 2 ≤ j → j < k → ¬ Gd w cc H gc T n j) → 22 - k < (N : Int) → lv_has ls 6 [(3, jI k), (0, .ref h), (1, jI n), (2, jI what)] → W pP l eE rmX1_differential sS mM aA bL mT cC Hp lc 0 0 QQ (F0 mM 24 ls []) := by
        intro N
        induction N with
        | zero =>
          intro F Hp lc hP hD hS k ls hk hz hN
          exact absurd hN (by omega)
        | succ N ih24 =>
          intro F Hp lc hP hD hS k ls hk hz hN hl
          refine j_iload_n S dX1_differential_24 rfl (lv_at hl 0 rfl) ?_
          refine j_bipush S dX1_differential_25 (by decide) ?_
          refine j_icmp_ge (tgt := 148) S dX1_differential_27 (by decide) (iv_i hk (by decide +kernel)) (iv_i (iv_n 22) (by decide +kernel)) (fun c27 => ?_) (fun c27 => ?_)
          · have r3_ : 22 ≤ k ∧ k ≤ 22 := by omega
            refine j_bipush S dX1_differential_148 (by decide) ?_
            exact hret (-6) F _ _ 150 _ (fun q => by cases q) (Or.inr (Or.inl ⟨by omega, (fun j a b => hz j a (by omega)), rfl⟩)) hP hD hS dX1_differential_150
          · have r4_ : 2 ≤ k ∧ k ≤ 21 := by omega
            refine j_iload_n S dX1_differential_30 rfl (lv_at hl 0 rfl) ?_
            refine j_iconst S dX1_differential_31 ?_
            refine j_idivp S dX1_differential_32 (iv_i r4_ (by decide +kernel)) (iv_pi (iv_n 2) (by decide +kernel)) (iv_nn r4_ (by decide +kernel)) ?_
            have r5_ : 1 ≤ (k / 2) ∧ (k / 2) ≤ 10 := by omega
            refine j_istore (lv' := [(4, jI (k / 2)), (3, jI k), (0, .ref h), (1, jI n), (2, jI what)]) S dX1_differential_33 hl (by decide) rfl (fun ls hl => ?_)
            have cut52 : ∀ (mm : Int) (ls : Array Slot), (mm = mk n k) → (-10 ≤ mm ∧ mm ≤ 1010) → lv_has ls 6 [(4, jI (k / 2)), (3, jI k), (0, .ref h), (1, jI n), (2, jI what)] → W pP l eE rmX1_differential sS mM aA bL mT cC Hp lc 0 0 QQ (F0 mM 52 ls [jI mm]) := by
              intro mm ls hmm hmi hl
              refine j_istore (lv' := [(5, jI mm), (4, jI (k / 2)), (3, jI k), (0, .ref h), (1, jI n), (2, jI what)]) S dX1_differential_52 hl (by decide) rfl (fun ls hl => ?_)
              refine j_iload S dX1_differential_54 (lv_at hl 0 rfl) ?_
              refine j_csi (As := [jI mm]) S (c_X1_isParts l mm (iv_w hmi (by decide +kernel))) (va_cwS 1 S.2.2.2.2 gX1_differential_X1_isParts rfl rfl rfl hdX1_isParts ⟨Nat.le_of_ble_eq_true rfl, Nat.le_of_ble_eq_true rfl⟩) [] rfl rfl hl.1 (Nat.le_of_ble_eq_true rfl) ⟨Nat.zero_le _, Nat.zero_le _⟩ dX1_differential_56 (fun i56 q56 => ?_)
              subst q56
              refine j_ifb_eq (tgt := 142) S dX1_differential_59 (by decide) (fun c59 => ?_) (fun c59 => ?_)
              · refine j_iinc (k := 2) (y := (k + 1)) (lv' := [(3, jI (k + 1)), (5, jI mm), (4, jI (k / 2)), (0, .ref h), (1, jI n), (2, jI what)]) S dX1_differential_142 hl rfl rfl (by decide) rfl (fun ls hl => ?_)
                refine j_goto (tgt := 24) S dX1_differential_145 (by decide) ?_
                exact ih24 F Hp lc hP hD hS (k + 1) _ (by omega) (fun j a b => by by_cases e : j = k; rw [e]; exact (fun z9 => by have z8 := z9.1; rw [← hmm] at z8; omega); exact hz j a (by omega)) (by omega) (lv_sub hl [0, 3, 4, 5] rfl)
              · have r6_ : 2 ≤ mm ∧ mm ≤ 1000 := by omega
                refine lv_aload_n S.1 S.2.1 dX1_differential_62 rfl (lv_at hl 3 rfl) ?_
                refine j_iload S dX1_differential_63 (lv_at hl 0 rfl) ?_
                refine j_cvi (As := [jI mm]) (ci := 1) S (c_X1_plainOf l D h a0 a1 a2 a3 cA H T E F cc gc w d v hok mm (iv_w r6_ (by decide +kernel))) (cwV 1 S.2.2.2.2 gX1_differential_X1_plainOf rfl rfl rfl ⟨rfl, hdX1_plainOf⟩ ⟨Nat.le_of_ble_eq_true rfl, Nat.le_of_ble_eq_true rfl⟩) hK hP rfl rfl rfl [] rfl rfl hl.1 (Nat.le_of_ble_eq_true rfl) ⟨Nat.zero_le _, Nat.zero_le _⟩ dX1_differential_65 (fun i65 q65 => ?_)
                subst q65
                have r7_ : (-6) ≤ (sp_pl w H mm cc) ∧ (sp_pl w H mm cc) ≤ 7 := sp_pl_iv hcc
                have e65 := @sp_pl_rng w mm cc H hcc.1
                refine j_if_lt (tgt := 142) S dX1_differential_68 (by decide) (iv_i r7_ (by decide +kernel)) (fun c68 => ?_) (fun c68 => ?_)
                · have r8_ : (-6) ≤ (sp_pl w H mm cc) ∧ (sp_pl w H mm cc) ≤ (-1) := by omega
                  refine j_iinc (k := 2) (y := (k + 1)) (lv' := [(3, jI (k + 1)), (5, jI mm), (4, jI (k / 2)), (0, .ref h), (1, jI n), (2, jI what)]) S dX1_differential_142 hl rfl rfl (by decide) rfl (fun ls hl => ?_)
                  refine j_goto (tgt := 24) S dX1_differential_145 (by decide) ?_
                  exact ih24 F Hp lc hP hD hS (k + 1) _ (by omega) (fun j a b => by by_cases e : j = k; rw [e]; exact (fun z9 => by have z8 := z9.2.1; rw [← hmm] at z8; omega); exact hz j a (by omega)) (by omega) (lv_sub hl [0, 3, 4, 5] rfl)
                · have r9_ : 0 ≤ (sp_pl w H mm cc) ∧ (sp_pl w H mm cc) ≤ 7 := by omega
                  refine lv_aload_n S.1 S.2.1 dX1_differential_71 rfl (lv_at hl 3 rfl) ?_
                  refine j_iload S dX1_differential_72 (lv_at hl 1 rfl) ?_
                  refine j_i2l S dX1_differential_74 (iv_i r5_ (by decide +kernel)) ?_
                  refine lv_aload_n S.1 S.2.1 dX1_differential_75 rfl (lv_at hl 3 rfl) ?_
                  refine j_get (v := jI w) S hin hK hP rfl rfl 0 (by decide) (List.mem_of_getElem? (i := 2) rfl) rfl dX1_differential_76 ?_
                  refine j_i2l S dX1_differential_79 (iv_i hw (by decide +kernel)) ?_
                  refine j_lmul S dX1_differential_80 ?_
                  refine j_iload S dX1_differential_81 (lv_at hl 0 rfl) ?_
                  refine j_i2l S dX1_differential_83 (iv_i r6_ (by decide +kernel)) ?_
                  refine j_cvm [0, 1, 2, 3, 4] [] (wr := []) (As := [jL ((k / 2) * w), jL mm]) (ci := 1) S (c_X1_isTrain l D h a0 a1 a2 a3 cA H T E F cc gc w d v _ hok ((k / 2) * w) mm (iv_w (iv_mulp (lo := 10) (hi := 2000) r5_ hw (by decide +kernel)) (by decide +kernel)) (iv_w r6_ (by decide +kernel))) (cwV 2 S.2.2.2.2 gX1_differential_X1_isTrain rfl rfl rfl ⟨rfl, hdX1_isTrain⟩ ⟨Nat.le_of_ble_eq_true rfl, Nat.le_of_ble_eq_true rfl⟩) hK hP hD hS hA rfl rfl rfl rfl (by decide) rfl rfl rfl [] rfl rfl hl.1 (Nat.le_of_ble_eq_true rfl) ⟨Nat.zero_le _, Nat.zero_le _⟩ dX1_differential_84 (fun i84 u84 Hp lc q84 hP hD hS => ?_)
                  have hP : va_P D vwCl (MW h a0 a1 a2 a3 cA H T E u84 cc gc w d v) Hp := hP
                  have hD : va_D A (MW h a0 a1 a2 a3 cA H T E u84 cc gc w d v) := hD
                  have r10_ : 0 ≤ i84 ∧ i84 ≤ 1 := by rcases q84 with qq | qq <;> (have := qq.1; omega)
                  refine j_if_eq (tgt := 142) S dX1_differential_87 (by decide) (iv_i r10_ (by decide +kernel)) (fun c87 => ?_) (fun c87 => ?_)
                  · have r11_ : 0 ≤ i84 ∧ i84 ≤ 0 := by omega
                    refine j_iinc (k := 2) (y := (k + 1)) (lv' := [(3, jI (k + 1)), (5, jI mm), (4, jI (k / 2)), (0, .ref h), (1, jI n), (2, jI what)]) S dX1_differential_142 hl rfl rfl (by decide) rfl (fun ls hl => ?_)
                    refine j_goto (tgt := 24) S dX1_differential_145 (by decide) ?_
                    exact ih24 u84 Hp lc hP hD hS (k + 1) _ (by omega) (fun j a b => by by_cases e : j = k; rw [e]; exact (fun z9 => by have z8 := z9.2.2; rw [← hmm] at z8; rcases q84 with qq | qq; exact absurd qq.1 (by omega); exact z8 qq.2); exact hz j a (by omega)) (by omega) (lv_sub hl [0, 3, 4, 5] rfl)
                  · have r12_ : 1 ≤ i84 ∧ i84 ≤ 1 := by omega
                    refine j_iload_n S dX1_differential_90 rfl (lv_at hl 5 rfl) ?_
                    refine j_if_ne (tgt := 99) S dX1_differential_91 (by decide) (iv_i r2_ (by decide +kernel)) (fun c91 => ?_) (fun c91 => ?_)
                    · have r13_ : 1 ≤ what ∧ what ≤ 6 := by omega
                      refine j_iload_n S dX1_differential_99 rfl (lv_at hl 5 rfl) ?_
                      refine j_iconst S dX1_differential_100 ?_
                      refine j_icmp_ne (tgt := 113) S dX1_differential_101 (by decide) (iv_i r13_ (by decide +kernel)) (iv_i (iv_n 1) (by decide +kernel)) (fun c101 => ?_) (fun c101 => ?_)
                      · have r14_ : 2 ≤ what ∧ what ≤ 6 := by omega
                        refine j_iload_n S dX1_differential_113 rfl (lv_at hl 5 rfl) ?_
                        refine j_bipush S dX1_differential_114 (by decide) ?_
                        refine j_icmp_ne (tgt := 133) S dX1_differential_116 (by decide) (iv_i r14_ (by decide +kernel)) (iv_i (iv_n 6) (by decide +kernel)) (fun c116 => ?_) (fun c116 => ?_)
                        · have r15_ : 2 ≤ what ∧ what ≤ 5 := by omega
                          refine lv_aload_n S.1 S.2.1 dX1_differential_133 rfl (lv_at hl 3 rfl) ?_
                          refine j_get (v := .ref a3) S hin hK hP rfl rfl 8 (by decide) (List.mem_of_getElem? (i := 3) rfl) rfl dX1_differential_134 ?_
                          refine j_iload_n S dX1_differential_137 rfl (lv_at hl 5 rfl) ?_
                          refine j_iconst S dX1_differential_138 ?_
                          refine j_isub S dX1_differential_139 ?_
                          refine j_iald S hK hP 4 0 rfl rfl (iv_ix (n := 4) (iv_sub (lo := 0) (hi := 3) r15_ (iv_n 2) (by decide +kernel)) (by decide +kernel)) dX1_differential_140 ?_
                          exact hret (u84 (what - 2)) u84 _ _ 141 _ (fun q => by cases q) (by rcases q84 with qq | qq; exact Or.inr (Or.inr ⟨by omega, k, u84 0, u84 1, u84 2, u84 3, by omega, (by unfold Gd; rw [← hmm]; exact ⟨by omega, by omega, Tr_no qq.2⟩), hz, (by rw [← hmm]; exact qq.2), by unfold dsel; rw [if_neg (by omega), if_neg (by omega), if_neg (by omega)]; exact sel_eq (by omega)⟩); exact absurd qq.1 c87) hP hD hS dX1_differential_141
                        · have r16_ : 6 ≤ what ∧ what ≤ 6 := by omega
                          refine j_iload S dX1_differential_119 (lv_at hl 0 rfl) ?_
                          refine j_iload_n S dX1_differential_121 rfl (lv_at hl 4 rfl) ?_
                          refine j_icmp_le (tgt := 129) S dX1_differential_122 (by decide) (iv_i r6_ (by decide +kernel)) (iv_i r1_ (by decide +kernel)) (fun c122 => ?_) (fun c122 => ?_)
                          · refine j_iconst S dX1_differential_129 ?_
                            refine j_goto (tgt := 141) S dX1_differential_130 (by decide) ?_
                            exact hret 0 u84 _ _ 141 _ (fun q => by cases q) (by rcases q84 with qq | qq; exact Or.inr (Or.inr ⟨by omega, k, u84 0, u84 1, u84 2, u84 3, by omega, (by unfold Gd; rw [← hmm]; exact ⟨by omega, by omega, Tr_no qq.2⟩), hz, (by rw [← hmm]; exact qq.2), by unfold dsel; rw [if_neg (by omega), if_neg (by omega), if_pos (by omega), ← hmm, if_neg (by omega)]⟩); exact absurd qq.1 c87) hP hD hS dX1_differential_141
                          · have r17_ : 2 ≤ n ∧ n ≤ 999 := by omega
                            have r18_ : 3 ≤ mm ∧ mm ≤ 1000 := by omega
                            refine j_iconst S dX1_differential_125 ?_
                            refine j_goto (tgt := 141) S dX1_differential_126 (by decide) ?_
                            exact hret 1 u84 _ _ 141 _ (fun q => by cases q) (by rcases q84 with qq | qq; exact Or.inr (Or.inr ⟨by omega, k, u84 0, u84 1, u84 2, u84 3, by omega, (by unfold Gd; rw [← hmm]; exact ⟨by omega, by omega, Tr_no qq.2⟩), hz, (by rw [← hmm]; exact qq.2), by unfold dsel; rw [if_neg (by omega), if_neg (by omega), if_pos (by omega), ← hmm, if_pos (by omega)]⟩); exact absurd qq.1 c87) hP hD hS dX1_differential_141
                      · have r19_ : 1 ≤ what ∧ what ≤ 1 := by omega
                        refine lv_aload_n S.1 S.2.1 dX1_differential_104 rfl (lv_at hl 3 rfl) ?_
                        refine j_iload S dX1_differential_105 (lv_at hl 0 rfl) ?_
                        refine j_cvi (As := [jI mm]) (ci := 1) S (c_X1_plainOf l D h a0 a1 a2 a3 cA H T E u84 cc gc w d v hok mm (iv_w r6_ (by decide +kernel))) (cwV 1 S.2.2.2.2 gX1_differential_X1_plainOf rfl rfl rfl ⟨rfl, hdX1_plainOf⟩ ⟨Nat.le_of_ble_eq_true rfl, Nat.le_of_ble_eq_true rfl⟩) hK hP rfl rfl rfl [] rfl rfl hl.1 (Nat.le_of_ble_eq_true rfl) ⟨Nat.zero_le _, Nat.zero_le _⟩ dX1_differential_107 (fun i107 q107 => ?_)
                        subst q107
                        refine j_goto (tgt := 141) S dX1_differential_110 (by decide) ?_
                        exact hret (sp_pl w H mm cc) u84 _ _ 141 _ (fun q => by cases q) (by rcases q84 with qq | qq; exact Or.inr (Or.inr ⟨by omega, k, u84 0, u84 1, u84 2, u84 3, by omega, (by unfold Gd; rw [← hmm]; exact ⟨by omega, by omega, Tr_no qq.2⟩), hz, (by rw [← hmm]; exact qq.2), by unfold dsel; rw [if_neg (by omega), if_pos (by omega), ← hmm]⟩); exact absurd qq.1 c87) hP hD hS dX1_differential_141
                    · have r20_ : 0 ≤ what ∧ what ≤ 0 := by omega
                      refine j_iload S dX1_differential_94 (lv_at hl 0 rfl) ?_
                      refine j_goto (tgt := 141) S dX1_differential_96 (by decide) ?_
                      exact hret mm u84 _ _ 141 _ (fun q => by cases q) (by rcases q84 with qq | qq; exact Or.inr (Or.inr ⟨by omega, k, u84 0, u84 1, u84 2, u84 3, by omega, (by unfold Gd; rw [← hmm]; exact ⟨by omega, by omega, Tr_no qq.2⟩), hz, (by rw [← hmm]; exact qq.2), by unfold dsel; rw [if_pos (by omega)]; exact hmm⟩); exact absurd qq.1 c87) hP hD hS dX1_differential_141
            refine j_iload_n S dX1_differential_35 rfl (lv_at hl 1 rfl) ?_
            refine j_iconst S dX1_differential_36 ?_
            refine j_iremp S dX1_differential_37 (iv_i r4_ (by decide +kernel)) (iv_pi (iv_n 2) (by decide +kernel)) (iv_nn r4_ (by decide +kernel)) ?_
            refine j_if_ne (tgt := 48) S dX1_differential_38 (by decide) (iv_i (iv_mod (lo := 0) (hi := 1) (iv_n 2) (by decide +kernel)) (by decide +kernel)) (fun c38 => ?_) (fun c38 => ?_)
            · refine j_iload_n S dX1_differential_48 rfl (lv_at hl 3 rfl) ?_
              refine j_iload S dX1_differential_49 (lv_at hl 0 rfl) ?_
              refine j_iadd S dX1_differential_51 ?_
              exact cut52 (n + (k / 2)) _ (by unfold mk; rw [if_neg (by omega)]) (by omega) (lv_sub hl [0, 1, 2, 3, 4] rfl)
            · refine j_iload_n S dX1_differential_41 rfl (lv_at hl 3 rfl) ?_
              refine j_iload S dX1_differential_42 (lv_at hl 0 rfl) ?_
              refine j_isub S dX1_differential_44 ?_
              refine j_goto (tgt := 52) S dX1_differential_45 (by decide) ?_
              exact cut52 (n - (k / 2)) _ (by unfold mk; rw [if_pos (by omega)]) (by omega) (lv_sub hl [0, 1, 2, 3, 4] rfl)
      exact loop24 21 F sS.heap [] hP hD hS 2 _ (by omega) (fun j a1 a2 => absurd a2 (by omega)) (by omega) (lv_sub hl [0, 1, 2, 3] rfl)
    · refine j_bipush S dX1_differential_19 (by decide) ?_
      exact hret (-2) F _ _ 21 _ (fun q => by cases q) (Or.inl ⟨by omega, rfl⟩) hP hD hS dX1_differential_21
end
