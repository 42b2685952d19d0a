section
-- ===== PART A: goes FIRST, ahead of the names: the tables' words, and 'selects' of the private methods out of them =====
/-- a private method of a class that the tables say can be made, by its rows of tables_1 -/
def lw_okq (q : MethodName × Nat) : Prop := (q.1.cls ≠ "java/lang/invoke/MethodHandle" ∧ q.1.cls ≠ "java/lang/invoke/VarHandle") ∧ Cond.instantiable q.1.cls q.2 ∈ tables_1 ∧ Cond.privateMethod q.1 ∈ tables_1 ∧ Cond.instanceMethod q.1 ∈ tables_1
theorem lw_p0 : lw_okq (⟨"DividingHead", "hasCircleOf", "(I)Z"⟩, 9) := ⟨⟨by decide +kernel, by decide +kernel⟩, List.mem_of_getElem? (i := 5) (by decide +kernel), List.mem_of_getElem? (i := 53) (by decide +kernel), List.mem_of_getElem? (i := 54) (by decide +kernel)⟩
theorem lw_p1 : lw_okq (⟨"DividingHead", "holesAt", "(I)I"⟩, 9) := ⟨⟨by decide +kernel, by decide +kernel⟩, List.mem_of_getElem? (i := 5) (by decide +kernel), List.mem_of_getElem? (i := 61) (by decide +kernel), List.mem_of_getElem? (i := 62) (by decide +kernel)⟩
theorem lw_p2 : lw_okq (⟨"DividingHead", "plainCircle", "(I)I"⟩, 9) := ⟨⟨by decide +kernel, by decide +kernel⟩, List.mem_of_getElem? (i := 5) (by decide +kernel), List.mem_of_getElem? (i := 80) (by decide +kernel), List.mem_of_getElem? (i := 81) (by decide +kernel)⟩
theorem lw_p3 : lw_okq (⟨"DividingHead", "secondStep", "(III)I"⟩, 9) := ⟨⟨by decide +kernel, by decide +kernel⟩, List.mem_of_getElem? (i := 5) (by decide +kernel), List.mem_of_getElem? (i := 92) (by decide +kernel), List.mem_of_getElem? (i := 93) (by decide +kernel)⟩
theorem lw_p4 : lw_okq (⟨"DividingHead", "firstStep", "(IIII)I"⟩, 9) := ⟨⟨by decide +kernel, by decide +kernel⟩, List.mem_of_getElem? (i := 5) (by decide +kernel), List.mem_of_getElem? (i := 96) (by decide +kernel), List.mem_of_getElem? (i := 97) (by decide +kernel)⟩
theorem lw_p5 : lw_okq (⟨"DividingHead", "compoundTerm", "(IIIII)I"⟩, 9) := ⟨⟨by decide +kernel, by decide +kernel⟩, List.mem_of_getElem? (i := 5) (by decide +kernel), List.mem_of_getElem? (i := 100) (by decide +kernel), List.mem_of_getElem? (i := 101) (by decide +kernel)⟩
theorem lw_p6 : lw_okq (⟨"DividingHead", "partsBeside", "(I)I"⟩, 9) := ⟨⟨by decide +kernel, by decide +kernel⟩, List.mem_of_getElem? (i := 5) (by decide +kernel), List.mem_of_getElem? (i := 109) (by decide +kernel), List.mem_of_getElem? (i := 110) (by decide +kernel)⟩
theorem lw_p7 : lw_okq (⟨"DividingHead", "standsIn", "(II)Z"⟩, 9) := ⟨⟨by decide +kernel, by decide +kernel⟩, List.mem_of_getElem? (i := 5) (by decide +kernel), List.mem_of_getElem? (i := 113) (by decide +kernel), List.mem_of_getElem? (i := 114) (by decide +kernel)⟩
theorem lw_p8 : lw_okq (⟨"DividingHead", "findTrain", "(JJ)Z"⟩, 9) := ⟨⟨by decide +kernel, by decide +kernel⟩, List.mem_of_getElem? (i := 5) (by decide +kernel), List.mem_of_getElem? (i := 120) (by decide +kernel), List.mem_of_getElem? (i := 121) (by decide +kernel)⟩
theorem lw_p9 : lw_okq (⟨"DividingHead", "findTwoGears", "(JJ)Z"⟩, 9) := ⟨⟨by decide +kernel, by decide +kernel⟩, List.mem_of_getElem? (i := 5) (by decide +kernel), List.mem_of_getElem? (i := 124) (by decide +kernel), List.mem_of_getElem? (i := 125) (by decide +kernel)⟩
theorem lw_p10 : lw_okq (⟨"DividingHead", "gearWith", "(JIII)I"⟩, 9) := ⟨⟨by decide +kernel, by decide +kernel⟩, List.mem_of_getElem? (i := 5) (by decide +kernel), List.mem_of_getElem? (i := 128) (by decide +kernel), List.mem_of_getElem? (i := 129) (by decide +kernel)⟩
theorem lw_p11 : lw_okq (⟨"DividingHead", "keepTrain", "(IIII)Z"⟩, 9) := ⟨⟨by decide +kernel, by decide +kernel⟩, List.mem_of_getElem? (i := 5) (by decide +kernel), List.mem_of_getElem? (i := 132) (by decide +kernel), List.mem_of_getElem? (i := 133) (by decide +kernel)⟩
theorem lw_p12 : lw_okq (⟨"DividingHead", "findFourGears", "(JJ)Z"⟩, 9) := ⟨⟨by decide +kernel, by decide +kernel⟩, List.mem_of_getElem? (i := 5) (by decide +kernel), List.mem_of_getElem? (i := 136) (by decide +kernel), List.mem_of_getElem? (i := 137) (by decide +kernel)⟩
theorem lw_p13 : lw_okq (⟨"DividingHead", "findSecondPair", "(IIJJ)Z"⟩, 9) := ⟨⟨by decide +kernel, by decide +kernel⟩, List.mem_of_getElem? (i := 5) (by decide +kernel), List.mem_of_getElem? (i := 140) (by decide +kernel), List.mem_of_getElem? (i := 141) (by decide +kernel)⟩
theorem lw_p14 : lw_okq (⟨"DividingHead", "nearestHole", "(III)I"⟩, 9) := ⟨⟨by decide +kernel, by decide +kernel⟩, List.mem_of_getElem? (i := 5) (by decide +kernel), List.mem_of_getElem? (i := 156) (by decide +kernel), List.mem_of_getElem? (i := 157) (by decide +kernel)⟩
theorem lw_p15 : lw_okq (⟨"DividingHead", "missUpper", "(III)I"⟩, 9) := ⟨⟨by decide +kernel, by decide +kernel⟩, List.mem_of_getElem? (i := 5) (by decide +kernel), List.mem_of_getElem? (i := 169) (by decide +kernel), List.mem_of_getElem? (i := 170) (by decide +kernel)⟩
def lw_privs_1 : List (MethodName × Nat) := [(⟨"DividingHead", "hasCircleOf", "(I)Z"⟩, 9), (⟨"DividingHead", "holesAt", "(I)I"⟩, 9), (⟨"DividingHead", "plainCircle", "(I)I"⟩, 9), (⟨"DividingHead", "secondStep", "(III)I"⟩, 9), (⟨"DividingHead", "firstStep", "(IIII)I"⟩, 9), (⟨"DividingHead", "compoundTerm", "(IIIII)I"⟩, 9), (⟨"DividingHead", "partsBeside", "(I)I"⟩, 9), (⟨"DividingHead", "standsIn", "(II)Z"⟩, 9), (⟨"DividingHead", "findTrain", "(JJ)Z"⟩, 9), (⟨"DividingHead", "findTwoGears", "(JJ)Z"⟩, 9), (⟨"DividingHead", "gearWith", "(JIII)I"⟩, 9), (⟨"DividingHead", "keepTrain", "(IIII)Z"⟩, 9), (⟨"DividingHead", "findFourGears", "(JJ)Z"⟩, 9), (⟨"DividingHead", "findSecondPair", "(IIJJ)Z"⟩, 9), (⟨"DividingHead", "nearestHole", "(III)I"⟩, 9), (⟨"DividingHead", "missUpper", "(III)I"⟩, 9)]
theorem lw_r1 : ∀ q ∈ lw_privs_1, lw_okq q := List.forall_mem_cons.mpr ⟨lw_p0, List.forall_mem_cons.mpr ⟨lw_p1, List.forall_mem_cons.mpr ⟨lw_p2, List.forall_mem_cons.mpr ⟨lw_p3, List.forall_mem_cons.mpr ⟨lw_p4, List.forall_mem_cons.mpr ⟨lw_p5, List.forall_mem_cons.mpr ⟨lw_p6, List.forall_mem_cons.mpr ⟨lw_p7, List.forall_mem_cons.mpr ⟨lw_p8, List.forall_mem_cons.mpr ⟨lw_p9, List.forall_mem_cons.mpr ⟨lw_p10, List.forall_mem_cons.mpr ⟨lw_p11, List.forall_mem_cons.mpr ⟨lw_p12, List.forall_mem_cons.mpr ⟨lw_p13, List.forall_mem_cons.mpr ⟨lw_p14, List.forall_mem_cons.mpr ⟨lw_p15, fun _ h => absurd h List.not_mem_nil⟩⟩⟩⟩⟩⟩⟩⟩⟩⟩⟩⟩⟩⟩⟩⟩
theorem lw_p16 : lw_okq (⟨"DividingHead", "exactCuts", "(II)I"⟩, 9) := ⟨⟨by decide +kernel, by decide +kernel⟩, List.mem_of_getElem? (i := 5) (by decide +kernel), List.mem_of_getElem? (i := 186) (by decide +kernel), List.mem_of_getElem? (i := 187) (by decide +kernel)⟩
theorem lw_p17 : lw_okq (⟨"DividingHead", "worstUpper", "(II)I"⟩, 9) := ⟨⟨by decide +kernel, by decide +kernel⟩, List.mem_of_getElem? (i := 5) (by decide +kernel), List.mem_of_getElem? (i := 190) (by decide +kernel), List.mem_of_getElem? (i := 191) (by decide +kernel)⟩
theorem lw_p18 : lw_okq (⟨"DividingHead", "errorUpper", "(III)I"⟩, 9) := ⟨⟨by decide +kernel, by decide +kernel⟩, List.mem_of_getElem? (i := 5) (by decide +kernel), List.mem_of_getElem? (i := 213) (by decide +kernel), List.mem_of_getElem? (i := 214) (by decide +kernel)⟩
theorem lw_p19 : lw_okq (⟨"DividingHead", "mainMark", "(JJ)J"⟩, 9) := ⟨⟨by decide +kernel, by decide +kernel⟩, List.mem_of_getElem? (i := 5) (by decide +kernel), List.mem_of_getElem? (i := 245) (by decide +kernel), List.mem_of_getElem? (i := 246) (by decide +kernel)⟩
theorem lw_p20 : lw_okq (⟨"DividingHead", "vernierLine", "(JJ)J"⟩, 9) := ⟨⟨by decide +kernel, by decide +kernel⟩, List.mem_of_getElem? (i := 5) (by decide +kernel), List.mem_of_getElem? (i := 249) (by decide +kernel), List.mem_of_getElem? (i := 250) (by decide +kernel)⟩
theorem lw_p21 : lw_okq (⟨"DividingHead", "readParts", "(JJ)J"⟩, 9) := ⟨⟨by decide +kernel, by decide +kernel⟩, List.mem_of_getElem? (i := 5) (by decide +kernel), List.mem_of_getElem? (i := 253) (by decide +kernel), List.mem_of_getElem? (i := 254) (by decide +kernel)⟩
theorem lw_p22 : lw_okq (⟨"DividingHeadModel", "isCircle", "(I)Z"⟩, 9) := ⟨⟨by decide +kernel, by decide +kernel⟩, List.mem_of_getElem? (i := 270) (by decide +kernel), List.mem_of_getElem? (i := 323) (by decide +kernel), List.mem_of_getElem? (i := 324) (by decide +kernel)⟩
theorem lw_p23 : lw_okq (⟨"DividingHeadModel", "isGear", "(I)Z"⟩, 9) := ⟨⟨by decide +kernel, by decide +kernel⟩, List.mem_of_getElem? (i := 270) (by decide +kernel), List.mem_of_getElem? (i := 336) (by decide +kernel), List.mem_of_getElem? (i := 337) (by decide +kernel)⟩
theorem lw_p24 : lw_okq (⟨"DividingHeadModel", "plainOf", "(I)I"⟩, 9) := ⟨⟨by decide +kernel, by decide +kernel⟩, List.mem_of_getElem? (i := 270) (by decide +kernel), List.mem_of_getElem? (i := 349) (by decide +kernel), List.mem_of_getElem? (i := 350) (by decide +kernel)⟩
theorem lw_p25 : lw_okq (⟨"DividingHeadModel", "stepBeside", "(IIII)I"⟩, 9) := ⟨⟨by decide +kernel, by decide +kernel⟩, List.mem_of_getElem? (i := 270) (by decide +kernel), List.mem_of_getElem? (i := 359) (by decide +kernel), List.mem_of_getElem? (i := 360) (by decide +kernel)⟩
theorem lw_p26 : lw_okq (⟨"DividingHeadModel", "isTrain", "(JJ)Z"⟩, 9) := ⟨⟨by decide +kernel, by decide +kernel⟩, List.mem_of_getElem? (i := 270) (by decide +kernel), List.mem_of_getElem? (i := 369) (by decide +kernel), List.mem_of_getElem? (i := 370) (by decide +kernel)⟩
theorem lw_p27 : lw_okq (⟨"DividingHeadModel", "put", "(IIII)V"⟩, 9) := ⟨⟨by decide +kernel, by decide +kernel⟩, List.mem_of_getElem? (i := 270) (by decide +kernel), List.mem_of_getElem? (i := 373) (by decide +kernel), List.mem_of_getElem? (i := 374) (by decide +kernel)⟩
theorem lw_p28 : lw_okq (⟨"DividingHeadModel", "holeOf", "(III)J"⟩, 9) := ⟨⟨by decide +kernel, by decide +kernel⟩, List.mem_of_getElem? (i := 270) (by decide +kernel), List.mem_of_getElem? (i := 389) (by decide +kernel), List.mem_of_getElem? (i := 390) (by decide +kernel)⟩
theorem lw_p29 : lw_okq (⟨"DividingHeadModel", "missOf", "(III)J"⟩, 9) := ⟨⟨by decide +kernel, by decide +kernel⟩, List.mem_of_getElem? (i := 270) (by decide +kernel), List.mem_of_getElem? (i := 398) (by decide +kernel), List.mem_of_getElem? (i := 399) (by decide +kernel)⟩
theorem lw_p30 : lw_okq (⟨"DividingHeadModel", "exact", "(II)I"⟩, 9) := ⟨⟨by decide +kernel, by decide +kernel⟩, List.mem_of_getElem? (i := 270) (by decide +kernel), List.mem_of_getElem? (i := 412) (by decide +kernel), List.mem_of_getElem? (i := 413) (by decide +kernel)⟩
theorem lw_p31 : lw_okq (⟨"DividingHeadModel", "worstOf", "(II)J"⟩, 9) := ⟨⟨by decide +kernel, by decide +kernel⟩, List.mem_of_getElem? (i := 270) (by decide +kernel), List.mem_of_getElem? (i := 416) (by decide +kernel), List.mem_of_getElem? (i := 417) (by decide +kernel)⟩
def lw_privs_2 : List (MethodName × Nat) := [(⟨"DividingHead", "exactCuts", "(II)I"⟩, 9), (⟨"DividingHead", "worstUpper", "(II)I"⟩, 9), (⟨"DividingHead", "errorUpper", "(III)I"⟩, 9), (⟨"DividingHead", "mainMark", "(JJ)J"⟩, 9), (⟨"DividingHead", "vernierLine", "(JJ)J"⟩, 9), (⟨"DividingHead", "readParts", "(JJ)J"⟩, 9), (⟨"DividingHeadModel", "isCircle", "(I)Z"⟩, 9), (⟨"DividingHeadModel", "isGear", "(I)Z"⟩, 9), (⟨"DividingHeadModel", "plainOf", "(I)I"⟩, 9), (⟨"DividingHeadModel", "stepBeside", "(IIII)I"⟩, 9), (⟨"DividingHeadModel", "isTrain", "(JJ)Z"⟩, 9), (⟨"DividingHeadModel", "put", "(IIII)V"⟩, 9), (⟨"DividingHeadModel", "holeOf", "(III)J"⟩, 9), (⟨"DividingHeadModel", "missOf", "(III)J"⟩, 9), (⟨"DividingHeadModel", "exact", "(II)I"⟩, 9), (⟨"DividingHeadModel", "worstOf", "(II)J"⟩, 9)]
theorem lw_r2 : ∀ q ∈ lw_privs_2, lw_okq q := List.forall_mem_cons.mpr ⟨lw_p16, List.forall_mem_cons.mpr ⟨lw_p17, List.forall_mem_cons.mpr ⟨lw_p18, List.forall_mem_cons.mpr ⟨lw_p19, List.forall_mem_cons.mpr ⟨lw_p20, List.forall_mem_cons.mpr ⟨lw_p21, List.forall_mem_cons.mpr ⟨lw_p22, List.forall_mem_cons.mpr ⟨lw_p23, List.forall_mem_cons.mpr ⟨lw_p24, List.forall_mem_cons.mpr ⟨lw_p25, List.forall_mem_cons.mpr ⟨lw_p26, List.forall_mem_cons.mpr ⟨lw_p27, List.forall_mem_cons.mpr ⟨lw_p28, List.forall_mem_cons.mpr ⟨lw_p29, List.forall_mem_cons.mpr ⟨lw_p30, List.forall_mem_cons.mpr ⟨lw_p31, fun _ h => absurd h List.not_mem_nil⟩⟩⟩⟩⟩⟩⟩⟩⟩⟩⟩⟩⟩⟩⟩⟩
theorem lw_p32 : lw_okq (⟨"DividingHeadModel", "errorAt", "(III)J"⟩, 9) := ⟨⟨by decide +kernel, by decide +kernel⟩, List.mem_of_getElem? (i := 270) (by decide +kernel), List.mem_of_getElem? (i := 440) (by decide +kernel), List.mem_of_getElem? (i := 441) (by decide +kernel)⟩
theorem lw_p33 : lw_okq (⟨"DividingHeadModel", "mainOf", "(JJ)J"⟩, 9) := ⟨⟨by decide +kernel, by decide +kernel⟩, List.mem_of_getElem? (i := 270) (by decide +kernel), List.mem_of_getElem? (i := 466) (by decide +kernel), List.mem_of_getElem? (i := 467) (by decide +kernel)⟩
theorem lw_p34 : lw_okq (⟨"DividingHeadModel", "lineOf", "(JJ)J"⟩, 9) := ⟨⟨by decide +kernel, by decide +kernel⟩, List.mem_of_getElem? (i := 270) (by decide +kernel), List.mem_of_getElem? (i := 470) (by decide +kernel), List.mem_of_getElem? (i := 471) (by decide +kernel)⟩
theorem lw_p35 : lw_okq (⟨"DividingHeadModel", "readOf", "(JJ)J"⟩, 9) := ⟨⟨by decide +kernel, by decide +kernel⟩, List.mem_of_getElem? (i := 270) (by decide +kernel), List.mem_of_getElem? (i := 474) (by decide +kernel), List.mem_of_getElem? (i := 475) (by decide +kernel)⟩
def lw_privs_3 : List (MethodName × Nat) := [(⟨"DividingHeadModel", "errorAt", "(III)J"⟩, 9), (⟨"DividingHeadModel", "mainOf", "(JJ)J"⟩, 9), (⟨"DividingHeadModel", "lineOf", "(JJ)J"⟩, 9), (⟨"DividingHeadModel", "readOf", "(JJ)J"⟩, 9)]
theorem lw_r3 : ∀ q ∈ lw_privs_3, lw_okq q := List.forall_mem_cons.mpr ⟨lw_p32, List.forall_mem_cons.mpr ⟨lw_p33, List.forall_mem_cons.mpr ⟨lw_p34, List.forall_mem_cons.mpr ⟨lw_p35, fun _ h => absurd h List.not_mem_nil⟩⟩⟩⟩
def lw_privs : List (MethodName × Nat) := lw_privs_1 ++ (lw_privs_2 ++ (lw_privs_3))
def lw_tbl : List Cond := k2_sels lw_privs ++ tables_1
theorem lw_privs_ok : ∀ q ∈ lw_privs, lw_okq q := by
  show ∀ q ∈ lw_privs_1 ++ (lw_privs_2 ++ (lw_privs_3)), lw_okq q
  exact List.forall_mem_append.mpr ⟨lw_r1, List.forall_mem_append.mpr ⟨lw_r2, lw_r3⟩⟩
-- ===== end of PART A; then your names; then what follows =====
end
section
/-! ===== BEGIN words of one list among another's, by their places ===== -/
theorem goodIn_r {big : List Cond} (ws : List Cond) (ps : List Nat) (hp : ws = ps.filterMap (fun i => big[i]?)) (h : ws.all goodWord = true) : GoodIn big ws := by
  intro w hw
  have h1 := List.all_eq_true.mp h w hw
  rw [hp] at hw
  obtain ⟨i, -, hi⟩ := List.mem_filterMap.mp hw
  have hm : w ∈ big := by first | exact List.mem_of_getElem? hi | exact List.getElem?_mem hi
  exact ⟨hm, good_of_word h1⟩
theorem goodIn_app {big a b : List Cond} (ha : GoodIn big a) (hb : GoodIn big b) : GoodIn big (a ++ b) := fun w h => (List.mem_append.mp h).elim (ha w) (hb w)
theorem goodIn_ca {big a b : List Cond} {c : Cond} (ha : GoodIn big (c :: a)) (hb : GoodIn big b) : GoodIn big (c :: (a ++ b)) := fun w h => (List.mem_cons.mp h).elim (fun e => ha w (List.mem_cons.mpr (Or.inl e))) (fun h => (List.mem_append.mp h).elim (fun h => ha w (List.mem_cons.mpr (Or.inr h))) (hb w))
theorem goodIn_sub {big ws : List Cond} (hm : ∀ w ∈ ws, w ∈ big) (h : ws.all goodWord = true) : GoodIn big ws := fun w hw => ⟨hm w hw, good_of_word (List.all_eq_true.mp h w hw)⟩
/-! ===== END ===== -/

/-! ===== BEGIN printed: names, fields, word lists, decode rows ===== -/
def RX0 : String := "DividingHead"
def TX0 : u_T := fun k => match k with
  | 0 => ("DividingHead", "circleHoles", "[I", true)
  | 1 => ("DividingHead", "gearTeeth", "[I", true)
  | 2 => ("DividingHead", "wormErrors", "[I", true)
  | 3 => ("DividingHead", "trainGears", "[I", true)
  | 4 => ("DividingHead", "circleCount", "I", false)
  | 5 => ("DividingHead", "gearCount", "I", false)
  | 6 => ("DividingHead", "wheelTeeth", "I", false)
  | 7 => ("DividingHead", "circleMarks", "I", false)
  | _ => ("DividingHead", "vernierParts", "I", false)
def tyX0 : Nat → FieldType := fun k => match k with
  | 0 => .array .int
  | 1 => .array .int
  | 2 => .array .int
  | 3 => .array .int
  | 4 => .int
  | 5 => .int
  | 6 => .int
  | 7 => .int
  | _ => .int
abbrev wsX00 : List Cond := u_ws RX0 TX0 9
theorem nmX0 : ∀ a, a < 9 → ∀ b, b < 9 → a ≠ b → (TX0 a).2.1 ≠ (TX0 b).2.1 := by decide +kernel
theorem tyX0_ok : ∀ k, k < 9 → parseFieldDescriptor (TX0 k).2.2.1 = some (tyX0 k) := by decide +kernel
abbrev cX0_init : ByteArray := prog_1_method_1_code
def yX0_init : MethodName := ⟨RX0, "<init>", "()V"⟩
abbrev cX0_wheel : ByteArray := prog_1_method_2_code
def yX0_wheel : MethodName := ⟨RX0, "wheel", "(I)I"⟩
abbrev cX0_circle : ByteArray := prog_1_method_3_code
def yX0_circle : MethodName := ⟨RX0, "circle", "(I)I"⟩
abbrev cX0_holes : ByteArray := prog_1_method_4_code
def yX0_holes : MethodName := ⟨RX0, "holes", "(I)I"⟩
abbrev cX0_gear : ByteArray := prog_1_method_5_code
def yX0_gear : MethodName := ⟨RX0, "gear", "(I)I"⟩
abbrev cX0_teeth : ByteArray := prog_1_method_6_code
def yX0_teeth : MethodName := ⟨RX0, "teeth", "(I)I"⟩
abbrev cX0_plain : ByteArray := prog_1_method_7_code
def yX0_plain : MethodName := ⟨RX0, "plain", "(II)I"⟩
abbrev cX0_compound : ByteArray := prog_1_method_8_code
def yX0_compound : MethodName := ⟨RX0, "compound", "(II)I"⟩
abbrev cX0_differential : ByteArray := prog_1_method_9_code
def yX0_differential : MethodName := ⟨RX0, "differential", "(II)I"⟩
abbrev cX0_train : ByteArray := prog_1_method_10_code
def yX0_train : MethodName := ⟨RX0, "train", "(III)I"⟩
abbrev cX0_hole : ByteArray := prog_1_method_11_code
def yX0_hole : MethodName := ⟨RX0, "hole", "(III)I"⟩
abbrev cX0_miss : ByteArray := prog_1_method_12_code
def yX0_miss : MethodName := ⟨RX0, "miss", "(IIII)I"⟩
abbrev cX0_worst : ByteArray := prog_1_method_13_code
def yX0_worst : MethodName := ⟨RX0, "worst", "(III)I"⟩
abbrev cX0_best : ByteArray := prog_1_method_14_code
def yX0_best : MethodName := ⟨RX0, "best", "(I)I"⟩
abbrev cX0_error : ByteArray := prog_1_method_15_code
def yX0_error : MethodName := ⟨RX0, "error", "(II)I"⟩
abbrev cX0_spoilt : ByteArray := prog_1_method_16_code
def yX0_spoilt : MethodName := ⟨RX0, "spoilt", "(IIII)I"⟩
abbrev cX0_extreme : ByteArray := prog_1_method_17_code
def yX0_extreme : MethodName := ⟨RX0, "extreme", "(IIII)I"⟩
abbrev cX0_near : ByteArray := prog_1_method_18_code
def yX0_near : MethodName := ⟨RX0, "near", "(IIII)I"⟩
abbrev cX0_vernier : ByteArray := prog_1_method_19_code
def yX0_vernier : MethodName := ⟨RX0, "vernier", "(II)I"⟩
abbrev cX0_read : ByteArray := prog_1_method_20_code
def yX0_read : MethodName := ⟨RX0, "read", "(III)I"⟩
abbrev cX0_two : ByteArray := prog_1_method_21_code
def yX0_two : MethodName := ⟨RX0, "two", "(IIII)I"⟩
abbrev cX0_told : ByteArray := prog_1_method_22_code
def yX0_told : MethodName := ⟨RX0, "told", "(I)I"⟩
abbrev cX0_isOutside : ByteArray := prog_1_method_23_code
def yX0_isOutside : MethodName := ⟨RX0, "isOutside", "(III)Z"⟩
abbrev cX0_isNoNumberOfParts : ByteArray := prog_1_method_24_code
def yX0_isNoNumberOfParts : MethodName := ⟨RX0, "isNoNumberOfParts", "(I)Z"⟩
abbrev cX0_isNoShare : ByteArray := prog_1_method_25_code
def yX0_isNoShare : MethodName := ⟨RX0, "isNoShare", "(II)Z"⟩
abbrev cX0_isNoPlace : ByteArray := prog_1_method_26_code
def yX0_isNoPlace : MethodName := ⟨RX0, "isNoPlace", "(II)Z"⟩
abbrev cX0_isNoStep : ByteArray := prog_1_method_27_code
def yX0_isNoStep : MethodName := ⟨RX0, "isNoStep", "(I)Z"⟩
abbrev cX0_holesAt : ByteArray := prog_1_method_28_code
def yX0_holesAt : MethodName := ⟨RX0, "holesAt", "(I)I"⟩
abbrev cX0_hasCircleOf : ByteArray := prog_1_method_29_code
def yX0_hasCircleOf : MethodName := ⟨RX0, "hasCircleOf", "(I)Z"⟩
abbrev cX0_plainCircle : ByteArray := prog_1_method_30_code
def yX0_plainCircle : MethodName := ⟨RX0, "plainCircle", "(I)I"⟩
abbrev cX0_secondStep : ByteArray := prog_1_method_31_code
def yX0_secondStep : MethodName := ⟨RX0, "secondStep", "(III)I"⟩
abbrev cX0_firstStep : ByteArray := prog_1_method_32_code
def yX0_firstStep : MethodName := ⟨RX0, "firstStep", "(IIII)I"⟩
abbrev cX0_compoundTerm : ByteArray := prog_1_method_33_code
def yX0_compoundTerm : MethodName := ⟨RX0, "compoundTerm", "(IIIII)I"⟩
abbrev cX0_partsBeside : ByteArray := prog_1_method_34_code
def yX0_partsBeside : MethodName := ⟨RX0, "partsBeside", "(I)I"⟩
abbrev cX0_standsIn : ByteArray := prog_1_method_35_code
def yX0_standsIn : MethodName := ⟨RX0, "standsIn", "(II)Z"⟩
abbrev cX0_findTrain : ByteArray := prog_1_method_36_code
def yX0_findTrain : MethodName := ⟨RX0, "findTrain", "(JJ)Z"⟩
abbrev cX0_findTwoGears : ByteArray := prog_1_method_37_code
def yX0_findTwoGears : MethodName := ⟨RX0, "findTwoGears", "(JJ)Z"⟩
abbrev cX0_findFourGears : ByteArray := prog_1_method_38_code
def yX0_findFourGears : MethodName := ⟨RX0, "findFourGears", "(JJ)Z"⟩
abbrev cX0_findSecondPair : ByteArray := prog_1_method_39_code
def yX0_findSecondPair : MethodName := ⟨RX0, "findSecondPair", "(IIJJ)Z"⟩
abbrev cX0_gearWith : ByteArray := prog_1_method_40_code
def yX0_gearWith : MethodName := ⟨RX0, "gearWith", "(JIII)I"⟩
abbrev cX0_keepTrain : ByteArray := prog_1_method_41_code
def yX0_keepTrain : MethodName := ⟨RX0, "keepTrain", "(IIII)Z"⟩
abbrev cX0_nearestHole : ByteArray := prog_1_method_42_code
def yX0_nearestHole : MethodName := ⟨RX0, "nearestHole", "(III)I"⟩
abbrev cX0_missUpper : ByteArray := prog_1_method_43_code
def yX0_missUpper : MethodName := ⟨RX0, "missUpper", "(III)I"⟩
abbrev cX0_worstUpper : ByteArray := prog_1_method_44_code
def yX0_worstUpper : MethodName := ⟨RX0, "worstUpper", "(II)I"⟩
abbrev cX0_exactCuts : ByteArray := prog_1_method_45_code
def yX0_exactCuts : MethodName := ⟨RX0, "exactCuts", "(II)I"⟩
abbrev cX0_errorUpper : ByteArray := prog_1_method_46_code
def yX0_errorUpper : MethodName := ⟨RX0, "errorUpper", "(III)I"⟩
abbrev cX0_nearestLower : ByteArray := prog_1_method_47_code
def yX0_nearestLower : MethodName := ⟨RX0, "nearestLower", "(III)I"⟩
abbrev cX0_gapUpper : ByteArray := prog_1_method_48_code
def yX0_gapUpper : MethodName := ⟨RX0, "gapUpper", "(III)J"⟩
abbrev cX0_mainMark : ByteArray := prog_1_method_49_code
def yX0_mainMark : MethodName := ⟨RX0, "mainMark", "(JJ)J"⟩
abbrev cX0_vernierLine : ByteArray := prog_1_method_50_code
def yX0_vernierLine : MethodName := ⟨RX0, "vernierLine", "(JJ)J"⟩
abbrev cX0_readParts : ByteArray := prog_1_method_51_code
def yX0_readParts : MethodName := ⟨RX0, "readParts", "(JJ)J"⟩
abbrev cX0_nearestOrLesser : ByteArray := prog_1_method_52_code
def yX0_nearestOrLesser : MethodName := ⟨RX0, "nearestOrLesser", "(JJ)J"⟩
abbrev cX0_nearestOrGreater : ByteArray := prog_1_method_53_code
def yX0_nearestOrGreater : MethodName := ⟨RX0, "nearestOrGreater", "(JJ)J"⟩
abbrev cX0_exactQuotient : ByteArray := prog_1_method_54_code
def yX0_exactQuotient : MethodName := ⟨RX0, "exactQuotient", "(JJ)J"⟩
abbrev cX0_lowestTerm : ByteArray := prog_1_method_55_code
def yX0_lowestTerm : MethodName := ⟨RX0, "lowestTerm", "(JJI)I"⟩
abbrev cX0_commonMeasure : ByteArray := prog_1_method_56_code
def yX0_commonMeasure : MethodName := ⟨RX0, "commonMeasure", "(JJ)J"⟩
def RX1 : String := "DividingHeadModel"
def TX1 : u_T := fun k => match k with
  | 0 => ("DividingHeadModel", "wheel", "I", false)
  | 1 => ("DividingHeadModel", "circles", "I", false)
  | 2 => ("DividingHeadModel", "holes", "[I", true)
  | 3 => ("DividingHeadModel", "gears", "I", false)
  | 4 => ("DividingHeadModel", "teeth", "[I", true)
  | 5 => ("DividingHeadModel", "error", "[I", true)
  | 6 => ("DividingHeadModel", "marks", "I", false)
  | 7 => ("DividingHeadModel", "parts", "I", false)
  | _ => ("DividingHeadModel", "found", "[I", true)
def tyX1 : Nat → FieldType := fun k => match k with
  | 0 => .int
  | 1 => .int
  | 2 => .array .int
  | 3 => .int
  | 4 => .array .int
  | 5 => .array .int
  | 6 => .int
  | 7 => .int
  | _ => .array .int
abbrev wsX10 : List Cond := u_ws RX1 TX1 9
theorem nmX1 : ∀ a, a < 9 → ∀ b, b < 9 → a ≠ b → (TX1 a).2.1 ≠ (TX1 b).2.1 := by decide +kernel
theorem tyX1_ok : ∀ k, k < 9 → parseFieldDescriptor (TX1 k).2.2.1 = some (tyX1 k) := by decide +kernel
abbrev cX1_init : ByteArray := prog_3_method_1_code
def yX1_init : MethodName := ⟨RX1, "<init>", "()V"⟩
abbrev cX1_in : ByteArray := prog_3_method_2_code
def yX1_in : MethodName := ⟨RX1, "in", "(JJJ)Z"⟩
abbrev cX1_common : ByteArray := prog_3_method_3_code
def yX1_common : MethodName := ⟨RX1, "common", "(JJ)J"⟩
abbrev cX1_term : ByteArray := prog_3_method_4_code
def yX1_term : MethodName := ⟨RX1, "term", "(JJI)I"⟩
abbrev cX1_isParts : ByteArray := prog_3_method_5_code
def yX1_isParts : MethodName := ⟨RX1, "isParts", "(I)Z"⟩
abbrev cX1_isCircle : ByteArray := prog_3_method_6_code
def yX1_isCircle : MethodName := ⟨RX1, "isCircle", "(I)Z"⟩
abbrev cX1_isGear : ByteArray := prog_3_method_7_code
def yX1_isGear : MethodName := ⟨RX1, "isGear", "(I)Z"⟩
abbrev cX1_wheel : ByteArray := prog_3_method_8_code
def yX1_wheel : MethodName := ⟨RX1, "wheel", "(I)I"⟩
abbrev cX1_circle : ByteArray := prog_3_method_9_code
def yX1_circle : MethodName := ⟨RX1, "circle", "(I)I"⟩
abbrev cX1_holes : ByteArray := prog_3_method_10_code
def yX1_holes : MethodName := ⟨RX1, "holes", "(I)I"⟩
abbrev cX1_gear : ByteArray := prog_3_method_11_code
def yX1_gear : MethodName := ⟨RX1, "gear", "(I)I"⟩
abbrev cX1_teeth : ByteArray := prog_3_method_12_code
def yX1_teeth : MethodName := ⟨RX1, "teeth", "(I)I"⟩
abbrev cX1_plainOf : ByteArray := prog_3_method_13_code
def yX1_plainOf : MethodName := ⟨RX1, "plainOf", "(I)I"⟩
abbrev cX1_plain : ByteArray := prog_3_method_14_code
def yX1_plain : MethodName := ⟨RX1, "plain", "(II)I"⟩
abbrev cX1_stepBeside : ByteArray := prog_3_method_15_code
def yX1_stepBeside : MethodName := ⟨RX1, "stepBeside", "(IIII)I"⟩
abbrev cX1_compound : ByteArray := prog_3_method_16_code
def yX1_compound : MethodName := ⟨RX1, "compound", "(II)I"⟩
abbrev cX1_isTrain : ByteArray := prog_3_method_17_code
def yX1_isTrain : MethodName := ⟨RX1, "isTrain", "(JJ)Z"⟩
abbrev cX1_put : ByteArray := prog_3_method_18_code
def yX1_put : MethodName := ⟨RX1, "put", "(IIII)V"⟩
abbrev cX1_train : ByteArray := prog_3_method_19_code
def yX1_train : MethodName := ⟨RX1, "train", "(III)I"⟩
abbrev cX1_differential : ByteArray := prog_3_method_20_code
def yX1_differential : MethodName := ⟨RX1, "differential", "(II)I"⟩
abbrev cX1_holeOf : ByteArray := prog_3_method_21_code
def yX1_holeOf : MethodName := ⟨RX1, "holeOf", "(III)J"⟩
abbrev cX1_isCut : ByteArray := prog_3_method_22_code
def yX1_isCut : MethodName := ⟨RX1, "isCut", "(II)Z"⟩
abbrev cX1_hole : ByteArray := prog_3_method_23_code
def yX1_hole : MethodName := ⟨RX1, "hole", "(III)I"⟩
abbrev cX1_missOf : ByteArray := prog_3_method_24_code
def yX1_missOf : MethodName := ⟨RX1, "missOf", "(III)J"⟩
abbrev cX1_miss : ByteArray := prog_3_method_25_code
def yX1_miss : MethodName := ⟨RX1, "miss", "(IIII)I"⟩
abbrev cX1_worstOf : ByteArray := prog_3_method_26_code
def yX1_worstOf : MethodName := ⟨RX1, "worstOf", "(II)J"⟩
abbrev cX1_exact : ByteArray := prog_3_method_27_code
def yX1_exact : MethodName := ⟨RX1, "exact", "(II)I"⟩
abbrev cX1_worst : ByteArray := prog_3_method_28_code
def yX1_worst : MethodName := ⟨RX1, "worst", "(III)I"⟩
abbrev cX1_best : ByteArray := prog_3_method_29_code
def yX1_best : MethodName := ⟨RX1, "best", "(I)I"⟩
abbrev cX1_error : ByteArray := prog_3_method_30_code
def yX1_error : MethodName := ⟨RX1, "error", "(II)I"⟩
abbrev cX1_errorAt : ByteArray := prog_3_method_31_code
def yX1_errorAt : MethodName := ⟨RX1, "errorAt", "(III)J"⟩
abbrev cX1_isSteps : ByteArray := prog_3_method_32_code
def yX1_isSteps : MethodName := ⟨RX1, "isSteps", "(I)Z"⟩
abbrev cX1_spoilt : ByteArray := prog_3_method_33_code
def yX1_spoilt : MethodName := ⟨RX1, "spoilt", "(IIII)I"⟩
abbrev cX1_extreme : ByteArray := prog_3_method_34_code
def yX1_extreme : MethodName := ⟨RX1, "extreme", "(IIII)I"⟩
abbrev cX1_near : ByteArray := prog_3_method_35_code
def yX1_near : MethodName := ⟨RX1, "near", "(IIII)I"⟩
abbrev cX1_vernier : ByteArray := prog_3_method_36_code
def yX1_vernier : MethodName := ⟨RX1, "vernier", "(II)I"⟩
abbrev cX1_mainOf : ByteArray := prog_3_method_37_code
def yX1_mainOf : MethodName := ⟨RX1, "mainOf", "(JJ)J"⟩
abbrev cX1_lineOf : ByteArray := prog_3_method_38_code
def yX1_lineOf : MethodName := ⟨RX1, "lineOf", "(JJ)J"⟩
abbrev cX1_readOf : ByteArray := prog_3_method_39_code
def yX1_readOf : MethodName := ⟨RX1, "readOf", "(JJ)J"⟩
abbrev cX1_isPlace : ByteArray := prog_3_method_40_code
def yX1_isPlace : MethodName := ⟨RX1, "isPlace", "(II)Z"⟩
abbrev cX1_read : ByteArray := prog_3_method_41_code
def yX1_read : MethodName := ⟨RX1, "read", "(III)I"⟩
abbrev cX1_two : ByteArray := prog_3_method_42_code
def yX1_two : MethodName := ⟨RX1, "two", "(IIII)I"⟩
abbrev cX1_told : ByteArray := prog_3_method_43_code
def yX1_told : MethodName := ⟨RX1, "told", "(I)I"⟩
def RJ9 : String := "java/lang/Math"
def TJ9 : u_T := fun k => match k with
  | _ => ("", "", "", false)
def tyJ9 : Nat → FieldType := fun k => match k with
  | _ => .int
abbrev wsJ90 : List Cond := u_ws RJ9 TJ9 0
theorem nmJ9 : ∀ a, a < 0 → ∀ b, b < 0 → a ≠ b → (TJ9 a).2.1 ≠ (TJ9 b).2.1 := by decide +kernel
theorem tyJ9_ok : ∀ k, k < 0 → parseFieldDescriptor (TJ9 k).2.2.1 = some (tyJ9 k) := by decide +kernel
abbrev cJ9_floorMod_f86c9 : ByteArray := prog_4_method_52_code
def yJ9_floorMod_f86c9 : MethodName := ⟨RJ9, "floorMod", "(JJ)J"⟩
abbrev cJ9_abs_0f7a4 : ByteArray := prog_4_method_59_code
def yJ9_abs_0f7a4 : MethodName := ⟨RJ9, "abs", "(I)I"⟩
abbrev cJ9_abs_067f4 : ByteArray := prog_4_method_61_code
def yJ9_abs_067f4 : MethodName := ⟨RJ9, "abs", "(J)J"⟩
abbrev cJ9_max_7cf53 : ByteArray := prog_4_method_65_code
def yJ9_max_7cf53 : MethodName := ⟨RJ9, "max", "(II)I"⟩
def RL : String := "DividingHeadLaw"
abbrev cL_law : ByteArray := code
def yL_law : MethodName := ⟨RL, "law", "([I)Z"⟩
def wsX0_init : List Cond := .code yX0_init cX0_init 1 none :: ([.methodLink RX0 1 objectInit, .instanceMethod objectInit, .code objectInit ⟨#[0xb1]⟩ 1 none, .arrayClass .int, .fieldLink RX0 9 "DividingHead" "circleHoles" "[I", .fieldLink RX0 13 "DividingHead" "gearTeeth" "[I", .fieldLink RX0 16 "DividingHead" "wormErrors" "[I", .fieldLink RX0 19 "DividingHead" "trainGears" "[I", .fieldLink RX0 22 "DividingHead" "wheelTeeth" "I", .fieldLink RX0 26 "DividingHead" "circleMarks" "I", .fieldLink RX0 29 "DividingHead" "vernierParts" "I"] ++ wsX00)
def wsX0_isOutside : List Cond := .code yX0_isOutside cX0_isOutside 3 (some .boolean) :: ([])
def wsX0_wheel : List Cond := .code yX0_wheel cX0_wheel 3 (some .int) :: ([.fieldLink RX0 22 "DividingHead" "wheelTeeth" "I", .methodLink RX0 32 yX0_isOutside, .static yX0_isOutside, .initialized RX0, .code yX0_isOutside cX0_isOutside 3 (some .boolean)] ++ wsX00)
def wsX0_hasCircleOf : List Cond := .code yX0_hasCircleOf cX0_hasCircleOf 3 (some .boolean) :: ([.fieldLink RX0 36 "DividingHead" "circleCount" "I", .fieldLink RX0 9 "DividingHead" "circleHoles" "[I"] ++ wsX00)
def wsX0_circle : List Cond := .code yX0_circle cX0_circle 2 (some .int) :: ([.fieldLink RX0 36 "DividingHead" "circleCount" "I", .fieldLink RX0 9 "DividingHead" "circleHoles" "[I", .methodLink RX0 32 yX0_isOutside, .static yX0_isOutside, .initialized RX0, .code yX0_isOutside cX0_isOutside 3 (some .boolean), .methodLink RX0 39 yX0_hasCircleOf, .instanceMethod yX0_hasCircleOf, .selects RX0 yX0_hasCircleOf yX0_hasCircleOf, .code yX0_hasCircleOf cX0_hasCircleOf 3 (some .boolean)] ++ wsX00)
def wsX0_holesAt : List Cond := .code yX0_holesAt cX0_holesAt 2 (some .int) :: ([.fieldLink RX0 36 "DividingHead" "circleCount" "I", .fieldLink RX0 9 "DividingHead" "circleHoles" "[I"] ++ wsX00)
def wsX0_holes : List Cond := .code yX0_holes cX0_holes 3 (some .int) :: ([.methodLink RX0 43 yX0_holesAt, .instanceMethod yX0_holesAt, .selects RX0 yX0_holesAt yX0_holesAt, .initialized RX0, .code yX0_holesAt cX0_holesAt 2 (some .int), .fieldLink RX0 36 "DividingHead" "circleCount" "I", .fieldLink RX0 9 "DividingHead" "circleHoles" "[I"] ++ wsX00)
def wsX0_gear : List Cond := .code yX0_gear cX0_gear 2 (some .int) :: ([.fieldLink RX0 47 "DividingHead" "gearCount" "I", .fieldLink RX0 13 "DividingHead" "gearTeeth" "[I", .methodLink RX0 32 yX0_isOutside, .static yX0_isOutside, .initialized RX0, .code yX0_isOutside cX0_isOutside 3 (some .boolean)] ++ wsX00)
def wsX0_teeth : List Cond := .code yX0_teeth cX0_teeth 2 (some .int) :: ([.fieldLink RX0 47 "DividingHead" "gearCount" "I", .fieldLink RX0 13 "DividingHead" "gearTeeth" "[I"] ++ wsX00)
def wsX0_isNoNumberOfParts : List Cond := .code yX0_isNoNumberOfParts cX0_isNoNumberOfParts 1 (some .boolean) :: ([.methodLink RX0 32 yX0_isOutside, .static yX0_isOutside, .initialized RX0, .code yX0_isOutside cX0_isOutside 3 (some .boolean)])
def wsX0_exactQuotient : List Cond := .code yX0_exactQuotient cX0_exactQuotient 4 (some .long) :: ([])
def wsX0_plainCircle : List Cond := .code yX0_plainCircle cX0_plainCircle 5 (some .int) :: ([.fieldLink RX0 36 "DividingHead" "circleCount" "I", .fieldLink RX0 22 "DividingHead" "wheelTeeth" "I", .fieldLink RX0 9 "DividingHead" "circleHoles" "[I", .methodLink RX0 133 yX0_exactQuotient, .static yX0_exactQuotient, .initialized RX0, .code yX0_exactQuotient cX0_exactQuotient 4 (some .long)] ++ wsX00)
def wsX0_plain : List Cond := .code yX0_plain cX0_plain 4 (some .int) :: ([.fieldLink RX0 22 "DividingHead" "wheelTeeth" "I", .methodLink RX0 50 yX0_isNoNumberOfParts, .static yX0_isNoNumberOfParts, .initialized RX0, .code yX0_isNoNumberOfParts cX0_isNoNumberOfParts 1 (some .boolean), .methodLink RX0 32 yX0_isOutside, .static yX0_isOutside, .code yX0_isOutside cX0_isOutside 3 (some .boolean), .methodLink RX0 53 yX0_plainCircle, .instanceMethod yX0_plainCircle, .selects RX0 yX0_plainCircle yX0_plainCircle, .code yX0_plainCircle cX0_plainCircle 5 (some .int), .fieldLink RX0 36 "DividingHead" "circleCount" "I", .fieldLink RX0 9 "DividingHead" "circleHoles" "[I", .methodLink RX0 133 yX0_exactQuotient, .static yX0_exactQuotient, .code yX0_exactQuotient cX0_exactQuotient 4 (some .long), .methodLink RX0 43 yX0_holesAt, .instanceMethod yX0_holesAt, .selects RX0 yX0_holesAt yX0_holesAt, .code yX0_holesAt cX0_holesAt 2 (some .int)] ++ wsX00)
def wsX0_firstStep : List Cond := .code yX0_firstStep cX0_firstStep 6 (some .int) :: ([.fieldLink RX0 22 "DividingHead" "wheelTeeth" "I", .methodLink RX0 133 yX0_exactQuotient, .static yX0_exactQuotient, .initialized RX0, .code yX0_exactQuotient cX0_exactQuotient 4 (some .long)] ++ wsX00)
def wsX0_secondStep : List Cond := .code yX0_secondStep cX0_secondStep 5 (some .int) :: ([.methodLink RX0 136 yX0_firstStep, .instanceMethod yX0_firstStep, .selects RX0 yX0_firstStep yX0_firstStep, .initialized RX0, .code yX0_firstStep cX0_firstStep 6 (some .int), .fieldLink RX0 22 "DividingHead" "wheelTeeth" "I", .methodLink RX0 133 yX0_exactQuotient, .static yX0_exactQuotient, .code yX0_exactQuotient cX0_exactQuotient 4 (some .long)] ++ wsX00)
def wsX0_compoundTerm : List Cond := .code yX0_compoundTerm cX0_compoundTerm 6 (some .int) :: ([.fieldLink RX0 9 "DividingHead" "circleHoles" "[I", .methodLink RX0 136 yX0_firstStep, .instanceMethod yX0_firstStep, .selects RX0 yX0_firstStep yX0_firstStep, .initialized RX0, .code yX0_firstStep cX0_firstStep 6 (some .int), .fieldLink RX0 22 "DividingHead" "wheelTeeth" "I", .methodLink RX0 133 yX0_exactQuotient, .static yX0_exactQuotient, .code yX0_exactQuotient cX0_exactQuotient 4 (some .long)] ++ wsX00)
def wsX0_compound_r1 : List Cond := [Cond.constant RX0 56 (-1000000002), Cond.fieldLink RX0 36 "DividingHead" "circleCount" "I", Cond.fieldLink RX0 9 "DividingHead" "circleHoles" "[I", Cond.constant RX0 65 (-1000000005), Cond.methodLink RX0 50 yX0_isNoNumberOfParts, Cond.static yX0_isNoNumberOfParts, Cond.initialized RX0, Cond.code yX0_isNoNumberOfParts cX0_isNoNumberOfParts 1 (some .boolean), Cond.methodLink RX0 32 yX0_isOutside, Cond.static yX0_isOutside, Cond.code yX0_isOutside cX0_isOutside 3 (some .boolean), Cond.methodLink RX0 57 yX0_secondStep, Cond.instanceMethod yX0_secondStep, Cond.selects RX0 yX0_secondStep yX0_secondStep, Cond.code yX0_secondStep cX0_secondStep 5 (some .int), Cond.methodLink RX0 136 yX0_firstStep, Cond.instanceMethod yX0_firstStep, Cond.selects RX0 yX0_firstStep yX0_firstStep, Cond.code yX0_firstStep cX0_firstStep 6 (some .int), Cond.fieldLink RX0 22 "DividingHead" "wheelTeeth" "I", Cond.methodLink RX0 133 yX0_exactQuotient, Cond.static yX0_exactQuotient, Cond.code yX0_exactQuotient cX0_exactQuotient 4 (some .long), Cond.methodLink RX0 61 yX0_compoundTerm]
def wsX0_compound_r2 : List Cond := [Cond.instanceMethod yX0_compoundTerm, Cond.selects RX0 yX0_compoundTerm yX0_compoundTerm, Cond.code yX0_compoundTerm cX0_compoundTerm 6 (some .int)]
def wsX0_compound : List Cond := .code yX0_compound cX0_compound 6 (some .int) :: ((wsX0_compound_r1 ++ wsX0_compound_r2) ++ wsX00)
def wsX0_gearWith : List Cond := .code yX0_gearWith cX0_gearWith 7 (some .int) :: ([.fieldLink RX0 47 "DividingHead" "gearCount" "I", .fieldLink RX0 13 "DividingHead" "gearTeeth" "[I"] ++ wsX00)
def wsX0_keepTrain : List Cond := .code yX0_keepTrain cX0_keepTrain 5 (some .boolean) :: ([.fieldLink RX0 19 "DividingHead" "trainGears" "[I"] ++ wsX00)
def wsX0_findTwoGears : List Cond := .code yX0_findTwoGears cX0_findTwoGears 7 (some .boolean) :: ([.fieldLink RX0 47 "DividingHead" "gearCount" "I", .fieldLink RX0 13 "DividingHead" "gearTeeth" "[I", .methodLink RX0 133 yX0_exactQuotient, .static yX0_exactQuotient, .initialized RX0, .code yX0_exactQuotient cX0_exactQuotient 4 (some .long), .methodLink RX0 152 yX0_gearWith, .instanceMethod yX0_gearWith, .selects RX0 yX0_gearWith yX0_gearWith, .code yX0_gearWith cX0_gearWith 7 (some .int), .methodLink RX0 156 yX0_keepTrain, .instanceMethod yX0_keepTrain, .selects RX0 yX0_keepTrain yX0_keepTrain, .code yX0_keepTrain cX0_keepTrain 5 (some .boolean), .fieldLink RX0 19 "DividingHead" "trainGears" "[I"] ++ wsX00)
def wsX0_findSecondPair : List Cond := .code yX0_findSecondPair cX0_findSecondPair 11 (some .boolean) :: ([.fieldLink RX0 47 "DividingHead" "gearCount" "I", .fieldLink RX0 13 "DividingHead" "gearTeeth" "[I", .methodLink RX0 133 yX0_exactQuotient, .static yX0_exactQuotient, .initialized RX0, .code yX0_exactQuotient cX0_exactQuotient 4 (some .long), .methodLink RX0 152 yX0_gearWith, .instanceMethod yX0_gearWith, .selects RX0 yX0_gearWith yX0_gearWith, .code yX0_gearWith cX0_gearWith 7 (some .int), .methodLink RX0 156 yX0_keepTrain, .instanceMethod yX0_keepTrain, .selects RX0 yX0_keepTrain yX0_keepTrain, .code yX0_keepTrain cX0_keepTrain 5 (some .boolean), .fieldLink RX0 19 "DividingHead" "trainGears" "[I"] ++ wsX00)
def wsX0_findFourGears : List Cond := .code yX0_findFourGears cX0_findFourGears 7 (some .boolean) :: ([.fieldLink RX0 47 "DividingHead" "gearCount" "I", .methodLink RX0 160 yX0_findSecondPair, .instanceMethod yX0_findSecondPair, .selects RX0 yX0_findSecondPair yX0_findSecondPair, .initialized RX0, .code yX0_findSecondPair cX0_findSecondPair 11 (some .boolean), .fieldLink RX0 13 "DividingHead" "gearTeeth" "[I", .methodLink RX0 133 yX0_exactQuotient, .static yX0_exactQuotient, .code yX0_exactQuotient cX0_exactQuotient 4 (some .long), .methodLink RX0 152 yX0_gearWith, .instanceMethod yX0_gearWith, .selects RX0 yX0_gearWith yX0_gearWith, .code yX0_gearWith cX0_gearWith 7 (some .int), .methodLink RX0 156 yX0_keepTrain, .instanceMethod yX0_keepTrain, .selects RX0 yX0_keepTrain yX0_keepTrain, .code yX0_keepTrain cX0_keepTrain 5 (some .boolean), .fieldLink RX0 19 "DividingHead" "trainGears" "[I"] ++ wsX00)
def wsX0_findTrain_r1 : List Cond := [Cond.methodLink RX0 146 yX0_findTwoGears, Cond.instanceMethod yX0_findTwoGears, Cond.selects RX0 yX0_findTwoGears yX0_findTwoGears, Cond.initialized RX0, Cond.code yX0_findTwoGears cX0_findTwoGears 7 (some .boolean), Cond.fieldLink RX0 47 "DividingHead" "gearCount" "I", Cond.fieldLink RX0 13 "DividingHead" "gearTeeth" "[I", Cond.methodLink RX0 133 yX0_exactQuotient, Cond.static yX0_exactQuotient, Cond.code yX0_exactQuotient cX0_exactQuotient 4 (some .long), Cond.methodLink RX0 152 yX0_gearWith, Cond.instanceMethod yX0_gearWith, Cond.selects RX0 yX0_gearWith yX0_gearWith, Cond.code yX0_gearWith cX0_gearWith 7 (some .int), Cond.methodLink RX0 156 yX0_keepTrain, Cond.instanceMethod yX0_keepTrain, Cond.selects RX0 yX0_keepTrain yX0_keepTrain, Cond.code yX0_keepTrain cX0_keepTrain 5 (some .boolean), Cond.fieldLink RX0 19 "DividingHead" "trainGears" "[I", Cond.methodLink RX0 149 yX0_findFourGears, Cond.instanceMethod yX0_findFourGears, Cond.selects RX0 yX0_findFourGears yX0_findFourGears, Cond.code yX0_findFourGears cX0_findFourGears 7 (some .boolean), Cond.methodLink RX0 160 yX0_findSecondPair]
def wsX0_findTrain_r2 : List Cond := [Cond.instanceMethod yX0_findSecondPair, Cond.selects RX0 yX0_findSecondPair yX0_findSecondPair, Cond.code yX0_findSecondPair cX0_findSecondPair 11 (some .boolean)]
def wsX0_findTrain : List Cond := .code yX0_findTrain cX0_findTrain 5 (some .boolean) :: ((wsX0_findTrain_r1 ++ wsX0_findTrain_r2) ++ wsX00)
def wsX0_standsIn_r1 : List Cond := [Cond.methodLink RX0 143 Lib.Math.abs.name, Cond.static Lib.Math.abs.name, Cond.initialized "java/lang/Math", Cond.code Lib.Math.abs.name Lib.Math.abs.code 1 (some .int), Cond.fieldLink RX0 22 "DividingHead" "wheelTeeth" "I", Cond.methodLink RX0 50 yX0_isNoNumberOfParts, Cond.static yX0_isNoNumberOfParts, Cond.initialized RX0, Cond.code yX0_isNoNumberOfParts cX0_isNoNumberOfParts 1 (some .boolean), Cond.methodLink RX0 32 yX0_isOutside, Cond.static yX0_isOutside, Cond.code yX0_isOutside cX0_isOutside 3 (some .boolean), Cond.methodLink RX0 53 yX0_plainCircle, Cond.instanceMethod yX0_plainCircle, Cond.selects RX0 yX0_plainCircle yX0_plainCircle, Cond.code yX0_plainCircle cX0_plainCircle 5 (some .int), Cond.fieldLink RX0 36 "DividingHead" "circleCount" "I", Cond.fieldLink RX0 9 "DividingHead" "circleHoles" "[I", Cond.methodLink RX0 133 yX0_exactQuotient, Cond.static yX0_exactQuotient, Cond.code yX0_exactQuotient cX0_exactQuotient 4 (some .long), Cond.methodLink RX0 73 yX0_findTrain, Cond.instanceMethod yX0_findTrain, Cond.selects RX0 yX0_findTrain yX0_findTrain]
def wsX0_standsIn_r2 : List Cond := [Cond.code yX0_findTrain cX0_findTrain 5 (some .boolean), Cond.methodLink RX0 146 yX0_findTwoGears, Cond.instanceMethod yX0_findTwoGears, Cond.selects RX0 yX0_findTwoGears yX0_findTwoGears, Cond.code yX0_findTwoGears cX0_findTwoGears 7 (some .boolean), Cond.fieldLink RX0 47 "DividingHead" "gearCount" "I", Cond.fieldLink RX0 13 "DividingHead" "gearTeeth" "[I", Cond.methodLink RX0 152 yX0_gearWith, Cond.instanceMethod yX0_gearWith, Cond.selects RX0 yX0_gearWith yX0_gearWith, Cond.code yX0_gearWith cX0_gearWith 7 (some .int), Cond.methodLink RX0 156 yX0_keepTrain, Cond.instanceMethod yX0_keepTrain, Cond.selects RX0 yX0_keepTrain yX0_keepTrain, Cond.code yX0_keepTrain cX0_keepTrain 5 (some .boolean), Cond.fieldLink RX0 19 "DividingHead" "trainGears" "[I", Cond.methodLink RX0 149 yX0_findFourGears, Cond.instanceMethod yX0_findFourGears, Cond.selects RX0 yX0_findFourGears yX0_findFourGears, Cond.code yX0_findFourGears cX0_findFourGears 7 (some .boolean), Cond.methodLink RX0 160 yX0_findSecondPair, Cond.instanceMethod yX0_findSecondPair, Cond.selects RX0 yX0_findSecondPair yX0_findSecondPair, Cond.code yX0_findSecondPair cX0_findSecondPair 11 (some .boolean)]
def wsX0_standsIn : List Cond := .code yX0_standsIn cX0_standsIn 3 (some .boolean) :: ((wsX0_standsIn_r1 ++ wsX0_standsIn_r2) ++ wsX00)
def wsX0_partsBeside_r1 : List Cond := [Cond.methodLink RX0 140 yX0_standsIn, Cond.instanceMethod yX0_standsIn, Cond.selects RX0 yX0_standsIn yX0_standsIn, Cond.initialized RX0, Cond.code yX0_standsIn cX0_standsIn 3 (some .boolean), Cond.methodLink RX0 143 Lib.Math.abs.name, Cond.static Lib.Math.abs.name, Cond.initialized "java/lang/Math", Cond.code Lib.Math.abs.name Lib.Math.abs.code 1 (some .int), Cond.fieldLink RX0 22 "DividingHead" "wheelTeeth" "I", Cond.methodLink RX0 50 yX0_isNoNumberOfParts, Cond.static yX0_isNoNumberOfParts, Cond.code yX0_isNoNumberOfParts cX0_isNoNumberOfParts 1 (some .boolean), Cond.methodLink RX0 32 yX0_isOutside, Cond.static yX0_isOutside, Cond.code yX0_isOutside cX0_isOutside 3 (some .boolean), Cond.methodLink RX0 53 yX0_plainCircle, Cond.instanceMethod yX0_plainCircle, Cond.selects RX0 yX0_plainCircle yX0_plainCircle, Cond.code yX0_plainCircle cX0_plainCircle 5 (some .int), Cond.fieldLink RX0 36 "DividingHead" "circleCount" "I", Cond.fieldLink RX0 9 "DividingHead" "circleHoles" "[I", Cond.methodLink RX0 133 yX0_exactQuotient, Cond.static yX0_exactQuotient]
def wsX0_partsBeside_r2 : List Cond := [Cond.code yX0_exactQuotient cX0_exactQuotient 4 (some .long), Cond.methodLink RX0 73 yX0_findTrain, Cond.instanceMethod yX0_findTrain, Cond.selects RX0 yX0_findTrain yX0_findTrain, Cond.code yX0_findTrain cX0_findTrain 5 (some .boolean), Cond.methodLink RX0 146 yX0_findTwoGears, Cond.instanceMethod yX0_findTwoGears, Cond.selects RX0 yX0_findTwoGears yX0_findTwoGears, Cond.code yX0_findTwoGears cX0_findTwoGears 7 (some .boolean), Cond.fieldLink RX0 47 "DividingHead" "gearCount" "I", Cond.fieldLink RX0 13 "DividingHead" "gearTeeth" "[I", Cond.methodLink RX0 152 yX0_gearWith, Cond.instanceMethod yX0_gearWith, Cond.selects RX0 yX0_gearWith yX0_gearWith, Cond.code yX0_gearWith cX0_gearWith 7 (some .int), Cond.methodLink RX0 156 yX0_keepTrain, Cond.instanceMethod yX0_keepTrain, Cond.selects RX0 yX0_keepTrain yX0_keepTrain, Cond.code yX0_keepTrain cX0_keepTrain 5 (some .boolean), Cond.fieldLink RX0 19 "DividingHead" "trainGears" "[I", Cond.methodLink RX0 149 yX0_findFourGears, Cond.instanceMethod yX0_findFourGears, Cond.selects RX0 yX0_findFourGears yX0_findFourGears, Cond.code yX0_findFourGears cX0_findFourGears 7 (some .boolean)]
def wsX0_partsBeside_r3 : List Cond := [Cond.methodLink RX0 160 yX0_findSecondPair, Cond.instanceMethod yX0_findSecondPair, Cond.selects RX0 yX0_findSecondPair yX0_findSecondPair, Cond.code yX0_findSecondPair cX0_findSecondPair 11 (some .boolean)]
def wsX0_partsBeside : List Cond := .code yX0_partsBeside cX0_partsBeside 3 (some .int) :: ((wsX0_partsBeside_r1 ++ (wsX0_partsBeside_r2 ++ wsX0_partsBeside_r3)) ++ wsX00)
def wsX0_differential_r1 : List Cond := [Cond.fieldLink RX0 19 "DividingHead" "trainGears" "[I", Cond.methodLink RX0 50 yX0_isNoNumberOfParts, Cond.static yX0_isNoNumberOfParts, Cond.initialized RX0, Cond.code yX0_isNoNumberOfParts cX0_isNoNumberOfParts 1 (some .boolean), Cond.methodLink RX0 32 yX0_isOutside, Cond.static yX0_isOutside, Cond.code yX0_isOutside cX0_isOutside 3 (some .boolean), Cond.methodLink RX0 66 yX0_partsBeside, Cond.instanceMethod yX0_partsBeside, Cond.selects RX0 yX0_partsBeside yX0_partsBeside, Cond.code yX0_partsBeside cX0_partsBeside 3 (some .int), Cond.methodLink RX0 140 yX0_standsIn, Cond.instanceMethod yX0_standsIn, Cond.selects RX0 yX0_standsIn yX0_standsIn, Cond.code yX0_standsIn cX0_standsIn 3 (some .boolean), Cond.methodLink RX0 143 Lib.Math.abs.name, Cond.static Lib.Math.abs.name, Cond.initialized "java/lang/Math", Cond.code Lib.Math.abs.name Lib.Math.abs.code 1 (some .int), Cond.fieldLink RX0 22 "DividingHead" "wheelTeeth" "I", Cond.methodLink RX0 53 yX0_plainCircle, Cond.instanceMethod yX0_plainCircle, Cond.selects RX0 yX0_plainCircle yX0_plainCircle]
def wsX0_differential_r2 : List Cond := [Cond.code yX0_plainCircle cX0_plainCircle 5 (some .int), Cond.fieldLink RX0 36 "DividingHead" "circleCount" "I", Cond.fieldLink RX0 9 "DividingHead" "circleHoles" "[I", Cond.methodLink RX0 133 yX0_exactQuotient, Cond.static yX0_exactQuotient, Cond.code yX0_exactQuotient cX0_exactQuotient 4 (some .long), Cond.methodLink RX0 73 yX0_findTrain, Cond.instanceMethod yX0_findTrain, Cond.selects RX0 yX0_findTrain yX0_findTrain, Cond.code yX0_findTrain cX0_findTrain 5 (some .boolean), Cond.methodLink RX0 146 yX0_findTwoGears, Cond.instanceMethod yX0_findTwoGears, Cond.selects RX0 yX0_findTwoGears yX0_findTwoGears, Cond.code yX0_findTwoGears cX0_findTwoGears 7 (some .boolean), Cond.fieldLink RX0 47 "DividingHead" "gearCount" "I", Cond.fieldLink RX0 13 "DividingHead" "gearTeeth" "[I", Cond.methodLink RX0 152 yX0_gearWith, Cond.instanceMethod yX0_gearWith, Cond.selects RX0 yX0_gearWith yX0_gearWith, Cond.code yX0_gearWith cX0_gearWith 7 (some .int), Cond.methodLink RX0 156 yX0_keepTrain, Cond.instanceMethod yX0_keepTrain, Cond.selects RX0 yX0_keepTrain yX0_keepTrain, Cond.code yX0_keepTrain cX0_keepTrain 5 (some .boolean)]
def wsX0_differential_r3 : List Cond := [Cond.methodLink RX0 149 yX0_findFourGears, Cond.instanceMethod yX0_findFourGears, Cond.selects RX0 yX0_findFourGears yX0_findFourGears, Cond.code yX0_findFourGears cX0_findFourGears 7 (some .boolean), Cond.methodLink RX0 160 yX0_findSecondPair, Cond.instanceMethod yX0_findSecondPair, Cond.selects RX0 yX0_findSecondPair yX0_findSecondPair, Cond.code yX0_findSecondPair cX0_findSecondPair 11 (some .boolean)]
def wsX0_differential : List Cond := .code yX0_differential cX0_differential 4 (some .int) :: ((wsX0_differential_r1 ++ (wsX0_differential_r2 ++ wsX0_differential_r3)) ++ wsX00)
def wsX0_isNoShare : List Cond := .code yX0_isNoShare cX0_isNoShare 2 (some .boolean) :: ([.constant RX0 131 (1000000), .methodLink RX0 32 yX0_isOutside, .static yX0_isOutside, .initialized RX0, .code yX0_isOutside cX0_isOutside 3 (some .boolean)])
def wsX0_train_r1 : List Cond := [Cond.fieldLink RX0 19 "DividingHead" "trainGears" "[I", Cond.methodLink RX0 69 yX0_isNoShare, Cond.static yX0_isNoShare, Cond.initialized RX0, Cond.code yX0_isNoShare cX0_isNoShare 2 (some .boolean), Cond.constant RX0 131 (1000000), Cond.methodLink RX0 32 yX0_isOutside, Cond.static yX0_isOutside, Cond.code yX0_isOutside cX0_isOutside 3 (some .boolean), Cond.methodLink RX0 73 yX0_findTrain, Cond.instanceMethod yX0_findTrain, Cond.selects RX0 yX0_findTrain yX0_findTrain, Cond.code yX0_findTrain cX0_findTrain 5 (some .boolean), Cond.methodLink RX0 146 yX0_findTwoGears, Cond.instanceMethod yX0_findTwoGears, Cond.selects RX0 yX0_findTwoGears yX0_findTwoGears, Cond.code yX0_findTwoGears cX0_findTwoGears 7 (some .boolean), Cond.fieldLink RX0 47 "DividingHead" "gearCount" "I", Cond.fieldLink RX0 13 "DividingHead" "gearTeeth" "[I", Cond.methodLink RX0 133 yX0_exactQuotient, Cond.static yX0_exactQuotient, Cond.code yX0_exactQuotient cX0_exactQuotient 4 (some .long), Cond.methodLink RX0 152 yX0_gearWith, Cond.instanceMethod yX0_gearWith]
def wsX0_train_r2 : List Cond := [Cond.selects RX0 yX0_gearWith yX0_gearWith, Cond.code yX0_gearWith cX0_gearWith 7 (some .int), Cond.methodLink RX0 156 yX0_keepTrain, Cond.instanceMethod yX0_keepTrain, Cond.selects RX0 yX0_keepTrain yX0_keepTrain, Cond.code yX0_keepTrain cX0_keepTrain 5 (some .boolean), Cond.methodLink RX0 149 yX0_findFourGears, Cond.instanceMethod yX0_findFourGears, Cond.selects RX0 yX0_findFourGears yX0_findFourGears, Cond.code yX0_findFourGears cX0_findFourGears 7 (some .boolean), Cond.methodLink RX0 160 yX0_findSecondPair, Cond.instanceMethod yX0_findSecondPair, Cond.selects RX0 yX0_findSecondPair yX0_findSecondPair, Cond.code yX0_findSecondPair cX0_findSecondPair 11 (some .boolean)]
def wsX0_train : List Cond := .code yX0_train cX0_train 4 (some .int) :: ((wsX0_train_r1 ++ wsX0_train_r2) ++ wsX00)
def wsX0_nearestOrGreater : List Cond := .code yX0_nearestOrGreater cX0_nearestOrGreater 4 (some .long) :: ([.constantLong RX0 127 (2)])
def wsX0_nearestHole : List Cond := .code yX0_nearestHole cX0_nearestHole 4 (some .int) :: ([.fieldLink RX0 22 "DividingHead" "wheelTeeth" "I", .methodLink RX0 164 yX0_nearestOrGreater, .static yX0_nearestOrGreater, .initialized RX0, .code yX0_nearestOrGreater cX0_nearestOrGreater 4 (some .long), .constantLong RX0 127 (2)] ++ wsX00)
def wsX0_hole : List Cond := .code yX0_hole cX0_hole 5 (some .int) :: ([.methodLink RX0 43 yX0_holesAt, .instanceMethod yX0_holesAt, .selects RX0 yX0_holesAt yX0_holesAt, .initialized RX0, .code yX0_holesAt cX0_holesAt 2 (some .int), .fieldLink RX0 36 "DividingHead" "circleCount" "I", .fieldLink RX0 9 "DividingHead" "circleHoles" "[I", .methodLink RX0 50 yX0_isNoNumberOfParts, .static yX0_isNoNumberOfParts, .code yX0_isNoNumberOfParts cX0_isNoNumberOfParts 1 (some .boolean), .methodLink RX0 32 yX0_isOutside, .static yX0_isOutside, .code yX0_isOutside cX0_isOutside 3 (some .boolean), .methodLink RX0 77 yX0_nearestHole, .instanceMethod yX0_nearestHole, .selects RX0 yX0_nearestHole yX0_nearestHole, .code yX0_nearestHole cX0_nearestHole 4 (some .int), .fieldLink RX0 22 "DividingHead" "wheelTeeth" "I", .methodLink RX0 164 yX0_nearestOrGreater, .static yX0_nearestOrGreater, .code yX0_nearestOrGreater cX0_nearestOrGreater 4 (some .long), .constantLong RX0 127 (2)] ++ wsX00)
def wsX0_missUpper : List Cond := .code yX0_missUpper cX0_missUpper 4 (some .int) :: ([.fieldLink RX0 22 "DividingHead" "wheelTeeth" "I", .methodLink RX0 77 yX0_nearestHole, .instanceMethod yX0_nearestHole, .selects RX0 yX0_nearestHole yX0_nearestHole, .initialized RX0, .code yX0_nearestHole cX0_nearestHole 4 (some .int), .methodLink RX0 164 yX0_nearestOrGreater, .static yX0_nearestOrGreater, .code yX0_nearestOrGreater cX0_nearestOrGreater 4 (some .long), .constantLong RX0 127 (2)] ++ wsX00)
def wsX0_commonMeasure : List Cond := .code yX0_commonMeasure cX0_commonMeasure 7 (some .long) :: ([])
def wsX0_lowestTerm : List Cond := .code yX0_lowestTerm cX0_lowestTerm 9 (some .int) :: ([.methodLink RX0 174 Lib.MathLoose.abs_long.x, .static Lib.MathLoose.abs_long.x, .initialized "java/lang/Math", .code Lib.MathLoose.abs_long.x Lib.MathLoose.abs_long.code 2 (some .long), .methodLink RX0 177 yX0_commonMeasure, .static yX0_commonMeasure, .initialized RX0, .code yX0_commonMeasure cX0_commonMeasure 7 (some .long)])
def wsX0_miss_r1 : List Cond := [Cond.constant RX0 80 (-1000000001), Cond.constant RX0 56 (-1000000002), Cond.methodLink RX0 43 yX0_holesAt, Cond.instanceMethod yX0_holesAt, Cond.selects RX0 yX0_holesAt yX0_holesAt, Cond.initialized RX0, Cond.code yX0_holesAt cX0_holesAt 2 (some .int), Cond.fieldLink RX0 36 "DividingHead" "circleCount" "I", Cond.fieldLink RX0 9 "DividingHead" "circleHoles" "[I", Cond.methodLink RX0 50 yX0_isNoNumberOfParts, Cond.static yX0_isNoNumberOfParts, Cond.code yX0_isNoNumberOfParts cX0_isNoNumberOfParts 1 (some .boolean), Cond.methodLink RX0 32 yX0_isOutside, Cond.static yX0_isOutside, Cond.code yX0_isOutside cX0_isOutside 3 (some .boolean), Cond.methodLink RX0 81 yX0_missUpper, Cond.instanceMethod yX0_missUpper, Cond.selects RX0 yX0_missUpper yX0_missUpper, Cond.code yX0_missUpper cX0_missUpper 4 (some .int), Cond.fieldLink RX0 22 "DividingHead" "wheelTeeth" "I", Cond.methodLink RX0 77 yX0_nearestHole, Cond.instanceMethod yX0_nearestHole, Cond.selects RX0 yX0_nearestHole yX0_nearestHole, Cond.code yX0_nearestHole cX0_nearestHole 4 (some .int)]
def wsX0_miss_r2 : List Cond := [Cond.methodLink RX0 164 yX0_nearestOrGreater, Cond.static yX0_nearestOrGreater, Cond.code yX0_nearestOrGreater cX0_nearestOrGreater 4 (some .long), Cond.constantLong RX0 127 (2), Cond.methodLink RX0 84 yX0_lowestTerm, Cond.static yX0_lowestTerm, Cond.code yX0_lowestTerm cX0_lowestTerm 9 (some .int), Cond.methodLink RX0 174 Lib.MathLoose.abs_long.x, Cond.static Lib.MathLoose.abs_long.x, Cond.initialized "java/lang/Math", Cond.code Lib.MathLoose.abs_long.x Lib.MathLoose.abs_long.code 2 (some .long), Cond.methodLink RX0 177 yX0_commonMeasure, Cond.static yX0_commonMeasure, Cond.code yX0_commonMeasure cX0_commonMeasure 7 (some .long)]
def wsX0_miss : List Cond := .code yX0_miss cX0_miss 6 (some .int) :: ((wsX0_miss_r1 ++ wsX0_miss_r2) ++ wsX00)
def wsX0_exactCuts : List Cond := .code yX0_exactCuts cX0_exactCuts 5 (some .int) :: ([.methodLink RX0 81 yX0_missUpper, .instanceMethod yX0_missUpper, .selects RX0 yX0_missUpper yX0_missUpper, .initialized RX0, .code yX0_missUpper cX0_missUpper 4 (some .int), .fieldLink RX0 22 "DividingHead" "wheelTeeth" "I", .methodLink RX0 77 yX0_nearestHole, .instanceMethod yX0_nearestHole, .selects RX0 yX0_nearestHole yX0_nearestHole, .code yX0_nearestHole cX0_nearestHole 4 (some .int), .methodLink RX0 164 yX0_nearestOrGreater, .static yX0_nearestOrGreater, .code yX0_nearestOrGreater cX0_nearestOrGreater 4 (some .long), .constantLong RX0 127 (2)] ++ wsX00)
def wsX0_worstUpper : List Cond := .code yX0_worstUpper cX0_worstUpper 5 (some .int) :: ([.methodLink RX0 143 Lib.Math.abs.name, .static Lib.Math.abs.name, .initialized "java/lang/Math", .code Lib.Math.abs.name Lib.Math.abs.code 1 (some .int), .methodLink RX0 167 Lib.Math.max.name, .static Lib.Math.max.name, .code Lib.Math.max.name Lib.Math.max.code 2 (some .int), .methodLink RX0 81 yX0_missUpper, .instanceMethod yX0_missUpper, .selects RX0 yX0_missUpper yX0_missUpper, .initialized RX0, .code yX0_missUpper cX0_missUpper 4 (some .int), .fieldLink RX0 22 "DividingHead" "wheelTeeth" "I", .methodLink RX0 77 yX0_nearestHole, .instanceMethod yX0_nearestHole, .selects RX0 yX0_nearestHole yX0_nearestHole, .code yX0_nearestHole cX0_nearestHole 4 (some .int), .methodLink RX0 164 yX0_nearestOrGreater, .static yX0_nearestOrGreater, .code yX0_nearestOrGreater cX0_nearestOrGreater 4 (some .long), .constantLong RX0 127 (2)] ++ wsX00)
def wsX0_worst_r1 : List Cond := [Cond.methodLink RX0 43 yX0_holesAt, Cond.instanceMethod yX0_holesAt, Cond.selects RX0 yX0_holesAt yX0_holesAt, Cond.initialized RX0, Cond.code yX0_holesAt cX0_holesAt 2 (some .int), Cond.fieldLink RX0 36 "DividingHead" "circleCount" "I", Cond.fieldLink RX0 9 "DividingHead" "circleHoles" "[I", Cond.methodLink RX0 50 yX0_isNoNumberOfParts, Cond.static yX0_isNoNumberOfParts, Cond.code yX0_isNoNumberOfParts cX0_isNoNumberOfParts 1 (some .boolean), Cond.methodLink RX0 32 yX0_isOutside, Cond.static yX0_isOutside, Cond.code yX0_isOutside cX0_isOutside 3 (some .boolean), Cond.methodLink RX0 88 yX0_exactCuts, Cond.instanceMethod yX0_exactCuts, Cond.selects RX0 yX0_exactCuts yX0_exactCuts, Cond.code yX0_exactCuts cX0_exactCuts 5 (some .int), Cond.methodLink RX0 81 yX0_missUpper, Cond.instanceMethod yX0_missUpper, Cond.selects RX0 yX0_missUpper yX0_missUpper, Cond.code yX0_missUpper cX0_missUpper 4 (some .int), Cond.fieldLink RX0 22 "DividingHead" "wheelTeeth" "I", Cond.methodLink RX0 77 yX0_nearestHole, Cond.instanceMethod yX0_nearestHole]
def wsX0_worst_r2 : List Cond := [Cond.selects RX0 yX0_nearestHole yX0_nearestHole, Cond.code yX0_nearestHole cX0_nearestHole 4 (some .int), Cond.methodLink RX0 164 yX0_nearestOrGreater, Cond.static yX0_nearestOrGreater, Cond.code yX0_nearestOrGreater cX0_nearestOrGreater 4 (some .long), Cond.constantLong RX0 127 (2), Cond.methodLink RX0 92 yX0_worstUpper, Cond.instanceMethod yX0_worstUpper, Cond.selects RX0 yX0_worstUpper yX0_worstUpper, Cond.code yX0_worstUpper cX0_worstUpper 5 (some .int), Cond.methodLink RX0 143 Lib.Math.abs.name, Cond.static Lib.Math.abs.name, Cond.initialized "java/lang/Math", Cond.code Lib.Math.abs.name Lib.Math.abs.code 1 (some .int), Cond.methodLink RX0 167 Lib.Math.max.name, Cond.static Lib.Math.max.name, Cond.code Lib.Math.max.name Lib.Math.max.code 2 (some .int), Cond.methodLink RX0 84 yX0_lowestTerm, Cond.static yX0_lowestTerm, Cond.code yX0_lowestTerm cX0_lowestTerm 9 (some .int), Cond.methodLink RX0 174 Lib.MathLoose.abs_long.x, Cond.static Lib.MathLoose.abs_long.x, Cond.code Lib.MathLoose.abs_long.x Lib.MathLoose.abs_long.code 2 (some .long), Cond.methodLink RX0 177 yX0_commonMeasure]
def wsX0_worst_r3 : List Cond := [Cond.static yX0_commonMeasure, Cond.code yX0_commonMeasure cX0_commonMeasure 7 (some .long)]
def wsX0_worst : List Cond := .code yX0_worst cX0_worst 5 (some .int) :: ((wsX0_worst_r1 ++ (wsX0_worst_r2 ++ wsX0_worst_r3)) ++ wsX00)
def wsX0_best_r1 : List Cond := [Cond.fieldLink RX0 36 "DividingHead" "circleCount" "I", Cond.fieldLink RX0 9 "DividingHead" "circleHoles" "[I", Cond.methodLink RX0 50 yX0_isNoNumberOfParts, Cond.static yX0_isNoNumberOfParts, Cond.initialized RX0, Cond.code yX0_isNoNumberOfParts cX0_isNoNumberOfParts 1 (some .boolean), Cond.methodLink RX0 32 yX0_isOutside, Cond.static yX0_isOutside, Cond.code yX0_isOutside cX0_isOutside 3 (some .boolean), Cond.methodLink RX0 92 yX0_worstUpper, Cond.instanceMethod yX0_worstUpper, Cond.selects RX0 yX0_worstUpper yX0_worstUpper, Cond.code yX0_worstUpper cX0_worstUpper 5 (some .int), Cond.methodLink RX0 143 Lib.Math.abs.name, Cond.static Lib.Math.abs.name, Cond.initialized "java/lang/Math", Cond.code Lib.Math.abs.name Lib.Math.abs.code 1 (some .int), Cond.methodLink RX0 167 Lib.Math.max.name, Cond.static Lib.Math.max.name, Cond.code Lib.Math.max.name Lib.Math.max.code 2 (some .int), Cond.methodLink RX0 81 yX0_missUpper, Cond.instanceMethod yX0_missUpper, Cond.selects RX0 yX0_missUpper yX0_missUpper, Cond.code yX0_missUpper cX0_missUpper 4 (some .int)]
def wsX0_best_r2 : List Cond := [Cond.fieldLink RX0 22 "DividingHead" "wheelTeeth" "I", Cond.methodLink RX0 77 yX0_nearestHole, Cond.instanceMethod yX0_nearestHole, Cond.selects RX0 yX0_nearestHole yX0_nearestHole, Cond.code yX0_nearestHole cX0_nearestHole 4 (some .int), Cond.methodLink RX0 164 yX0_nearestOrGreater, Cond.static yX0_nearestOrGreater, Cond.code yX0_nearestOrGreater cX0_nearestOrGreater 4 (some .long), Cond.constantLong RX0 127 (2)]
def wsX0_best : List Cond := .code yX0_best cX0_best 6 (some .int) :: ((wsX0_best_r1 ++ wsX0_best_r2) ++ wsX00)
def wsX0_error : List Cond := .code yX0_error cX0_error 4 (some .int) :: ([.fieldLink RX0 16 "DividingHead" "wormErrors" "[I", .methodLink RX0 32 yX0_isOutside, .static yX0_isOutside, .initialized RX0, .code yX0_isOutside cX0_isOutside 3 (some .boolean)] ++ wsX00)
def wsX0_isNoStep : List Cond := .code yX0_isNoStep cX0_isNoStep 1 (some .boolean) :: ([.constant RX0 132 (100000), .methodLink RX0 32 yX0_isOutside, .static yX0_isOutside, .initialized RX0, .code yX0_isOutside cX0_isOutside 3 (some .boolean)])
def wsX0_errorUpper : List Cond := .code yX0_errorUpper cX0_errorUpper 7 (some .int) :: ([.fieldLink RX0 16 "DividingHead" "wormErrors" "[I"] ++ wsX00)
def wsX0_spoilt_r1 : List Cond := [Cond.constant RX0 80 (-1000000001), Cond.constant RX0 56 (-1000000002), Cond.methodLink RX0 43 yX0_holesAt, Cond.instanceMethod yX0_holesAt, Cond.selects RX0 yX0_holesAt yX0_holesAt, Cond.initialized RX0, Cond.code yX0_holesAt cX0_holesAt 2 (some .int), Cond.fieldLink RX0 36 "DividingHead" "circleCount" "I", Cond.fieldLink RX0 9 "DividingHead" "circleHoles" "[I", Cond.methodLink RX0 95 yX0_isNoStep, Cond.static yX0_isNoStep, Cond.code yX0_isNoStep cX0_isNoStep 1 (some .boolean), Cond.constant RX0 132 (100000), Cond.methodLink RX0 32 yX0_isOutside, Cond.static yX0_isOutside, Cond.code yX0_isOutside cX0_isOutside 3 (some .boolean), Cond.methodLink RX0 98 yX0_errorUpper, Cond.instanceMethod yX0_errorUpper, Cond.selects RX0 yX0_errorUpper yX0_errorUpper, Cond.code yX0_errorUpper cX0_errorUpper 7 (some .int), Cond.fieldLink RX0 16 "DividingHead" "wormErrors" "[I", Cond.methodLink RX0 84 yX0_lowestTerm, Cond.static yX0_lowestTerm, Cond.code yX0_lowestTerm cX0_lowestTerm 9 (some .int)]
def wsX0_spoilt_r2 : List Cond := [Cond.methodLink RX0 174 Lib.MathLoose.abs_long.x, Cond.static Lib.MathLoose.abs_long.x, Cond.initialized "java/lang/Math", Cond.code Lib.MathLoose.abs_long.x Lib.MathLoose.abs_long.code 2 (some .long), Cond.methodLink RX0 177 yX0_commonMeasure, Cond.static yX0_commonMeasure, Cond.code yX0_commonMeasure cX0_commonMeasure 7 (some .long)]
def wsX0_spoilt : List Cond := .code yX0_spoilt cX0_spoilt 6 (some .int) :: ((wsX0_spoilt_r1 ++ wsX0_spoilt_r2) ++ wsX00)
def wsX0_extreme : List Cond := .code yX0_extreme cX0_extreme 10 (some .int) :: ([.methodLink RX0 43 yX0_holesAt, .instanceMethod yX0_holesAt, .selects RX0 yX0_holesAt yX0_holesAt, .initialized RX0, .code yX0_holesAt cX0_holesAt 2 (some .int), .fieldLink RX0 36 "DividingHead" "circleCount" "I", .fieldLink RX0 9 "DividingHead" "circleHoles" "[I", .methodLink RX0 95 yX0_isNoStep, .static yX0_isNoStep, .code yX0_isNoStep cX0_isNoStep 1 (some .boolean), .constant RX0 132 (100000), .methodLink RX0 32 yX0_isOutside, .static yX0_isOutside, .code yX0_isOutside cX0_isOutside 3 (some .boolean), .methodLink RX0 98 yX0_errorUpper, .instanceMethod yX0_errorUpper, .selects RX0 yX0_errorUpper yX0_errorUpper, .code yX0_errorUpper cX0_errorUpper 7 (some .int), .fieldLink RX0 16 "DividingHead" "wormErrors" "[I"] ++ wsX00)
def wsX0_nearestOrLesser : List Cond := .code yX0_nearestOrLesser cX0_nearestOrLesser 4 (some .long) :: ([.constantLong RX0 127 (2)])
def wsX0_gapUpper : List Cond := .code yX0_gapUpper cX0_gapUpper 5 (some .long) :: ([.methodLink RX0 174 Lib.MathLoose.abs_long.x, .static Lib.MathLoose.abs_long.x, .initialized "java/lang/Math", .code Lib.MathLoose.abs_long.x Lib.MathLoose.abs_long.code 2 (some .long), .methodLink RX0 104 yX0_nearestOrLesser, .static yX0_nearestOrLesser, .initialized RX0, .code yX0_nearestOrLesser cX0_nearestOrLesser 4 (some .long), .constantLong RX0 127 (2)])
def wsX0_nearestLower : List Cond := .code yX0_nearestLower cX0_nearestLower 9 (some .int) :: ([.methodLink RX0 170 yX0_gapUpper, .static yX0_gapUpper, .initialized RX0, .code yX0_gapUpper cX0_gapUpper 5 (some .long), .methodLink RX0 174 Lib.MathLoose.abs_long.x, .static Lib.MathLoose.abs_long.x, .initialized "java/lang/Math", .code Lib.MathLoose.abs_long.x Lib.MathLoose.abs_long.code 2 (some .long), .methodLink RX0 104 yX0_nearestOrLesser, .static yX0_nearestOrLesser, .code yX0_nearestOrLesser cX0_nearestOrLesser 4 (some .long), .constantLong RX0 127 (2)])
def wsX0_near : List Cond := .code yX0_near cX0_near 6 (some .int) :: ([.methodLink RX0 69 yX0_isNoShare, .static yX0_isNoShare, .initialized RX0, .code yX0_isNoShare cX0_isNoShare 2 (some .boolean), .constant RX0 131 (1000000), .methodLink RX0 32 yX0_isOutside, .static yX0_isOutside, .code yX0_isOutside cX0_isOutside 3 (some .boolean), .methodLink RX0 101 yX0_nearestLower, .static yX0_nearestLower, .code yX0_nearestLower cX0_nearestLower 9 (some .int), .methodLink RX0 170 yX0_gapUpper, .static yX0_gapUpper, .code yX0_gapUpper cX0_gapUpper 5 (some .long), .methodLink RX0 174 Lib.MathLoose.abs_long.x, .static Lib.MathLoose.abs_long.x, .initialized "java/lang/Math", .code Lib.MathLoose.abs_long.x Lib.MathLoose.abs_long.code 2 (some .long), .methodLink RX0 104 yX0_nearestOrLesser, .static yX0_nearestOrLesser, .code yX0_nearestOrLesser cX0_nearestOrLesser 4 (some .long), .constantLong RX0 127 (2)])
def wsX0_vernier : List Cond := .code yX0_vernier cX0_vernier 3 (some .int) :: ([.fieldLink RX0 26 "DividingHead" "circleMarks" "I", .fieldLink RX0 29 "DividingHead" "vernierParts" "I", .methodLink RX0 32 yX0_isOutside, .static yX0_isOutside, .initialized RX0, .code yX0_isOutside cX0_isOutside 3 (some .boolean)] ++ wsX00)
def wsX0_isNoPlace : List Cond := .code yX0_isNoPlace cX0_isNoPlace 2 (some .boolean) :: ([.constant RX0 131 (1000000), .methodLink RX0 32 yX0_isOutside, .static yX0_isOutside, .initialized RX0, .code yX0_isOutside cX0_isOutside 3 (some .boolean)])
def wsX0_mainMark : List Cond := .code yX0_mainMark cX0_mainMark 5 (some .long) :: ([.fieldLink RX0 26 "DividingHead" "circleMarks" "I"] ++ wsX00)
def wsX0_vernierLine : List Cond := .code yX0_vernierLine cX0_vernierLine 7 (some .long) :: ([.fieldLink RX0 26 "DividingHead" "circleMarks" "I", .fieldLink RX0 29 "DividingHead" "vernierParts" "I", .methodLink RX0 111 yX0_mainMark, .instanceMethod yX0_mainMark, .selects RX0 yX0_mainMark yX0_mainMark, .initialized RX0, .code yX0_mainMark cX0_mainMark 5 (some .long), .methodLink RX0 104 yX0_nearestOrLesser, .static yX0_nearestOrLesser, .code yX0_nearestOrLesser cX0_nearestOrLesser 4 (some .long), .constantLong RX0 127 (2)] ++ wsX00)
def wsX0_readParts : List Cond := .code yX0_readParts cX0_readParts 5 (some .long) :: ([.fieldLink RX0 29 "DividingHead" "vernierParts" "I", .methodLink RX0 111 yX0_mainMark, .instanceMethod yX0_mainMark, .selects RX0 yX0_mainMark yX0_mainMark, .initialized RX0, .code yX0_mainMark cX0_mainMark 5 (some .long), .fieldLink RX0 26 "DividingHead" "circleMarks" "I", .methodLink RX0 114 yX0_vernierLine, .instanceMethod yX0_vernierLine, .selects RX0 yX0_vernierLine yX0_vernierLine, .code yX0_vernierLine cX0_vernierLine 7 (some .long), .methodLink RX0 104 yX0_nearestOrLesser, .static yX0_nearestOrLesser, .code yX0_nearestOrLesser cX0_nearestOrLesser 4 (some .long), .constantLong RX0 127 (2)] ++ wsX00)
def wsX0_read_r1 : List Cond := [Cond.methodLink RX0 108 yX0_isNoPlace, Cond.static yX0_isNoPlace, Cond.initialized RX0, Cond.code yX0_isNoPlace cX0_isNoPlace 2 (some .boolean), Cond.constant RX0 131 (1000000), Cond.methodLink RX0 32 yX0_isOutside, Cond.static yX0_isOutside, Cond.code yX0_isOutside cX0_isOutside 3 (some .boolean), Cond.methodLink RX0 111 yX0_mainMark, Cond.instanceMethod yX0_mainMark, Cond.selects RX0 yX0_mainMark yX0_mainMark, Cond.code yX0_mainMark cX0_mainMark 5 (some .long), Cond.fieldLink RX0 26 "DividingHead" "circleMarks" "I", Cond.methodLink RX0 114 yX0_vernierLine, Cond.instanceMethod yX0_vernierLine, Cond.selects RX0 yX0_vernierLine yX0_vernierLine, Cond.code yX0_vernierLine cX0_vernierLine 7 (some .long), Cond.fieldLink RX0 29 "DividingHead" "vernierParts" "I", Cond.methodLink RX0 104 yX0_nearestOrLesser, Cond.static yX0_nearestOrLesser, Cond.code yX0_nearestOrLesser cX0_nearestOrLesser 4 (some .long), Cond.constantLong RX0 127 (2), Cond.methodLink RX0 117 yX0_readParts, Cond.instanceMethod yX0_readParts]
def wsX0_read_r2 : List Cond := [Cond.selects RX0 yX0_readParts yX0_readParts, Cond.code yX0_readParts cX0_readParts 5 (some .long)]
def wsX0_read : List Cond := .code yX0_read cX0_read 4 (some .int) :: ((wsX0_read_r1 ++ wsX0_read_r2) ++ wsX00)
def wsJ9_floorMod_f86c9 : List Cond := .code yJ9_floorMod_f86c9 cJ9_floorMod_f86c9 6 (some .long) :: ([])
def wsX0_two_r1 : List Cond := [Cond.constant RX0 56 (-1000000002), Cond.constantLong RX0 120 (1000000), Cond.constantLong RX0 127 (2), Cond.fieldLink RX0 26 "DividingHead" "circleMarks" "I", Cond.fieldLink RX0 29 "DividingHead" "vernierParts" "I", Cond.constantLong RX0 129 (4), Cond.methodLink RX0 108 yX0_isNoPlace, Cond.static yX0_isNoPlace, Cond.initialized RX0, Cond.code yX0_isNoPlace cX0_isNoPlace 2 (some .boolean), Cond.constant RX0 131 (1000000), Cond.methodLink RX0 32 yX0_isOutside, Cond.static yX0_isOutside, Cond.code yX0_isOutside cX0_isOutside 3 (some .boolean), Cond.methodLink RX0 122 yJ9_floorMod_f86c9, Cond.static yJ9_floorMod_f86c9, Cond.initialized RJ9, Cond.code yJ9_floorMod_f86c9 cJ9_floorMod_f86c9 6 (some .long), Cond.methodLink RX0 117 yX0_readParts, Cond.instanceMethod yX0_readParts, Cond.selects RX0 yX0_readParts yX0_readParts, Cond.code yX0_readParts cX0_readParts 5 (some .long), Cond.methodLink RX0 111 yX0_mainMark, Cond.instanceMethod yX0_mainMark]
def wsX0_two_r2 : List Cond := [Cond.selects RX0 yX0_mainMark yX0_mainMark, Cond.code yX0_mainMark cX0_mainMark 5 (some .long), Cond.methodLink RX0 114 yX0_vernierLine, Cond.instanceMethod yX0_vernierLine, Cond.selects RX0 yX0_vernierLine yX0_vernierLine, Cond.code yX0_vernierLine cX0_vernierLine 7 (some .long), Cond.methodLink RX0 104 yX0_nearestOrLesser, Cond.static yX0_nearestOrLesser, Cond.code yX0_nearestOrLesser cX0_nearestOrLesser 4 (some .long), Cond.methodLink RX0 84 yX0_lowestTerm, Cond.static yX0_lowestTerm, Cond.code yX0_lowestTerm cX0_lowestTerm 9 (some .int), Cond.methodLink RX0 174 Lib.MathLoose.abs_long.x, Cond.static Lib.MathLoose.abs_long.x, Cond.initialized "java/lang/Math", Cond.code Lib.MathLoose.abs_long.x Lib.MathLoose.abs_long.code 2 (some .long), Cond.methodLink RX0 177 yX0_commonMeasure, Cond.static yX0_commonMeasure, Cond.code yX0_commonMeasure cX0_commonMeasure 7 (some .long)]
def wsX0_two : List Cond := .code yX0_two cX0_two 19 (some .int) :: ((wsX0_two_r1 ++ wsX0_two_r2) ++ wsX00)
def wsX0_told : List Cond := .code yX0_told cX0_told 2 (some .int) :: ([.fieldLink RX0 22 "DividingHead" "wheelTeeth" "I", .fieldLink RX0 36 "DividingHead" "circleCount" "I", .fieldLink RX0 47 "DividingHead" "gearCount" "I", .fieldLink RX0 26 "DividingHead" "circleMarks" "I", .fieldLink RX0 29 "DividingHead" "vernierParts" "I"] ++ wsX00)
def wsX1_init : List Cond := .code yX1_init cX1_init 1 none :: ([.methodLink RX1 1 objectInit, .instanceMethod objectInit, .code objectInit ⟨#[0xb1]⟩ 1 none, .fieldLink RX1 7 "DividingHeadModel" "wheel" "I", .arrayClass .int, .fieldLink RX1 13 "DividingHeadModel" "holes" "[I", .fieldLink RX1 17 "DividingHeadModel" "teeth" "[I", .fieldLink RX1 20 "DividingHeadModel" "error" "[I", .fieldLink RX1 23 "DividingHeadModel" "marks" "I", .fieldLink RX1 26 "DividingHeadModel" "parts" "I", .fieldLink RX1 29 "DividingHeadModel" "found" "[I"] ++ wsX10)
def wsX1_in : List Cond := .code yX1_in cX1_in 6 (some .boolean) :: ([])
def wsX1_common : List Cond := .code yX1_common cX1_common 10 (some .long) :: ([])
def wsX1_term : List Cond := .code yX1_term cX1_term 7 (some .int) :: ([.methodLink RX1 32 yX1_common, .static yX1_common, .initialized RX1, .code yX1_common cX1_common 10 (some .long)])
def wsX1_isParts : List Cond := .code yX1_isParts cX1_isParts 1 (some .boolean) :: ([.constantLong RX1 36 (2), .constantLong RX1 38 (1000), .methodLink RX1 40 yX1_in, .static yX1_in, .initialized RX1, .code yX1_in cX1_in 6 (some .boolean)])
def wsX1_isCircle : List Cond := .code yX1_isCircle cX1_isCircle 2 (some .boolean) :: ([.fieldLink RX1 44 "DividingHeadModel" "circles" "I", .methodLink RX1 40 yX1_in, .static yX1_in, .initialized RX1, .code yX1_in cX1_in 6 (some .boolean)] ++ wsX10)
def wsX1_isGear : List Cond := .code yX1_isGear cX1_isGear 2 (some .boolean) :: ([.fieldLink RX1 47 "DividingHeadModel" "gears" "I", .methodLink RX1 40 yX1_in, .static yX1_in, .initialized RX1, .code yX1_in cX1_in 6 (some .boolean)] ++ wsX10)
def wsX1_wheel : List Cond := .code yX1_wheel cX1_wheel 3 (some .int) :: ([.constantLong RX1 50 (10), .constantLong RX1 52 (200), .fieldLink RX1 7 "DividingHeadModel" "wheel" "I", .methodLink RX1 40 yX1_in, .static yX1_in, .initialized RX1, .code yX1_in cX1_in 6 (some .boolean)] ++ wsX10)
def wsX1_circle : List Cond := .code yX1_circle cX1_circle 3 (some .int) :: ([.constantLong RX1 54 (5), .constantLong RX1 56 (120), .fieldLink RX1 44 "DividingHeadModel" "circles" "I", .fieldLink RX1 13 "DividingHeadModel" "holes" "[I", .methodLink RX1 40 yX1_in, .static yX1_in, .initialized RX1, .code yX1_in cX1_in 6 (some .boolean)] ++ wsX10)
def wsX1_holes : List Cond := .code yX1_holes cX1_holes 2 (some .int) :: ([.fieldLink RX1 13 "DividingHeadModel" "holes" "[I", .methodLink RX1 58 yX1_isCircle, .instanceMethod yX1_isCircle, .selects RX1 yX1_isCircle yX1_isCircle, .initialized RX1, .code yX1_isCircle cX1_isCircle 2 (some .boolean), .fieldLink RX1 44 "DividingHeadModel" "circles" "I", .methodLink RX1 40 yX1_in, .static yX1_in, .code yX1_in cX1_in 6 (some .boolean)] ++ wsX10)
def wsX1_gear : List Cond := .code yX1_gear cX1_gear 2 (some .int) :: ([.constantLong RX1 62 (12), .constantLong RX1 56 (120), .fieldLink RX1 47 "DividingHeadModel" "gears" "I", .fieldLink RX1 17 "DividingHeadModel" "teeth" "[I", .methodLink RX1 40 yX1_in, .static yX1_in, .initialized RX1, .code yX1_in cX1_in 6 (some .boolean)] ++ wsX10)
def wsX1_teeth : List Cond := .code yX1_teeth cX1_teeth 2 (some .int) :: ([.fieldLink RX1 17 "DividingHeadModel" "teeth" "[I", .methodLink RX1 64 yX1_isGear, .instanceMethod yX1_isGear, .selects RX1 yX1_isGear yX1_isGear, .initialized RX1, .code yX1_isGear cX1_isGear 2 (some .boolean), .fieldLink RX1 47 "DividingHeadModel" "gears" "I", .methodLink RX1 40 yX1_in, .static yX1_in, .code yX1_in cX1_in 6 (some .boolean)] ++ wsX10)
def wsX1_plainOf : List Cond := .code yX1_plainOf cX1_plainOf 5 (some .int) :: ([.fieldLink RX1 44 "DividingHeadModel" "circles" "I", .fieldLink RX1 7 "DividingHeadModel" "wheel" "I", .fieldLink RX1 13 "DividingHeadModel" "holes" "[I"] ++ wsX10)
def wsX1_plain : List Cond := .code yX1_plain cX1_plain 4 (some .int) :: ([.constantLong RX1 36 (2), .fieldLink RX1 7 "DividingHeadModel" "wheel" "I", .fieldLink RX1 13 "DividingHeadModel" "holes" "[I", .methodLink RX1 67 yX1_isParts, .static yX1_isParts, .initialized RX1, .code yX1_isParts cX1_isParts 1 (some .boolean), .constantLong RX1 38 (1000), .methodLink RX1 40 yX1_in, .static yX1_in, .code yX1_in cX1_in 6 (some .boolean), .methodLink RX1 70 yX1_plainOf, .instanceMethod yX1_plainOf, .selects RX1 yX1_plainOf yX1_plainOf, .code yX1_plainOf cX1_plainOf 5 (some .int), .fieldLink RX1 44 "DividingHeadModel" "circles" "I"] ++ wsX10)
def wsX1_stepBeside : List Cond := .code yX1_stepBeside cX1_stepBeside 9 (some .int) :: ([.fieldLink RX1 13 "DividingHeadModel" "holes" "[I", .fieldLink RX1 7 "DividingHeadModel" "wheel" "I"] ++ wsX10)
def wsX1_compound : List Cond := .code yX1_compound cX1_compound 8 (some .int) :: ([.constantLong RX1 74 (3), .constant RX1 76 (-1000000002), .fieldLink RX1 44 "DividingHeadModel" "circles" "I", .fieldLink RX1 13 "DividingHeadModel" "holes" "[I", .constant RX1 81 (-1000000005), .methodLink RX1 67 yX1_isParts, .static yX1_isParts, .initialized RX1, .code yX1_isParts cX1_isParts 1 (some .boolean), .constantLong RX1 36 (2), .constantLong RX1 38 (1000), .methodLink RX1 40 yX1_in, .static yX1_in, .code yX1_in cX1_in 6 (some .boolean), .methodLink RX1 77 yX1_stepBeside, .instanceMethod yX1_stepBeside, .selects RX1 yX1_stepBeside yX1_stepBeside, .code yX1_stepBeside cX1_stepBeside 9 (some .int), .fieldLink RX1 7 "DividingHeadModel" "wheel" "I"] ++ wsX10)
def wsX1_put : List Cond := .code yX1_put cX1_put 5 none :: ([.fieldLink RX1 29 "DividingHeadModel" "found" "[I"] ++ wsX10)
def wsX1_isTrain : List Cond := .code yX1_isTrain cX1_isTrain 12 (some .boolean) :: ([.fieldLink RX1 47 "DividingHeadModel" "gears" "I", .fieldLink RX1 17 "DividingHeadModel" "teeth" "[I", .methodLink RX1 82 yX1_put, .instanceMethod yX1_put, .selects RX1 yX1_put yX1_put, .initialized RX1, .code yX1_put cX1_put 5 none, .fieldLink RX1 29 "DividingHeadModel" "found" "[I"] ++ wsX10)
def wsX1_train : List Cond := .code yX1_train cX1_train 4 (some .int) :: ([.constantLong RX1 86 (1000000), .constantLong RX1 74 (3), .fieldLink RX1 29 "DividingHeadModel" "found" "[I", .methodLink RX1 40 yX1_in, .static yX1_in, .initialized RX1, .code yX1_in cX1_in 6 (some .boolean), .methodLink RX1 88 yX1_isTrain, .instanceMethod yX1_isTrain, .selects RX1 yX1_isTrain yX1_isTrain, .code yX1_isTrain cX1_isTrain 12 (some .boolean), .fieldLink RX1 47 "DividingHeadModel" "gears" "I", .fieldLink RX1 17 "DividingHeadModel" "teeth" "[I", .methodLink RX1 82 yX1_put, .instanceMethod yX1_put, .selects RX1 yX1_put yX1_put, .code yX1_put cX1_put 5 none] ++ wsX10)
def wsX1_differential_r1 : List Cond := [Cond.constantLong RX1 92 (6), Cond.fieldLink RX1 7 "DividingHeadModel" "wheel" "I", Cond.fieldLink RX1 29 "DividingHeadModel" "found" "[I", Cond.methodLink RX1 67 yX1_isParts, Cond.static yX1_isParts, Cond.initialized RX1, Cond.code yX1_isParts cX1_isParts 1 (some .boolean), Cond.constantLong RX1 36 (2), Cond.constantLong RX1 38 (1000), Cond.methodLink RX1 40 yX1_in, Cond.static yX1_in, Cond.code yX1_in cX1_in 6 (some .boolean), Cond.methodLink RX1 70 yX1_plainOf, Cond.instanceMethod yX1_plainOf, Cond.selects RX1 yX1_plainOf yX1_plainOf, Cond.code yX1_plainOf cX1_plainOf 5 (some .int), Cond.fieldLink RX1 44 "DividingHeadModel" "circles" "I", Cond.fieldLink RX1 13 "DividingHeadModel" "holes" "[I", Cond.methodLink RX1 88 yX1_isTrain, Cond.instanceMethod yX1_isTrain, Cond.selects RX1 yX1_isTrain yX1_isTrain, Cond.code yX1_isTrain cX1_isTrain 12 (some .boolean), Cond.fieldLink RX1 47 "DividingHeadModel" "gears" "I", Cond.fieldLink RX1 17 "DividingHeadModel" "teeth" "[I"]
def wsX1_differential_r2 : List Cond := [Cond.methodLink RX1 82 yX1_put, Cond.instanceMethod yX1_put, Cond.selects RX1 yX1_put yX1_put, Cond.code yX1_put cX1_put 5 none]
def wsX1_differential : List Cond := .code yX1_differential cX1_differential 6 (some .int) :: ((wsX1_differential_r1 ++ wsX1_differential_r2) ++ wsX10)
def wsX1_holeOf : List Cond := .code yX1_holeOf cX1_holeOf 4 (some .long) :: ([.constantLong RX1 36 (2), .fieldLink RX1 7 "DividingHeadModel" "wheel" "I", .fieldLink RX1 13 "DividingHeadModel" "holes" "[I"] ++ wsX10)
def wsX1_isCut : List Cond := .code yX1_isCut cX1_isCut 2 (some .boolean) :: ([.methodLink RX1 67 yX1_isParts, .static yX1_isParts, .initialized RX1, .code yX1_isParts cX1_isParts 1 (some .boolean), .constantLong RX1 36 (2), .constantLong RX1 38 (1000), .methodLink RX1 40 yX1_in, .static yX1_in, .code yX1_in cX1_in 6 (some .boolean)])
def wsX1_hole : List Cond := .code yX1_hole cX1_hole 4 (some .int) :: ([.methodLink RX1 58 yX1_isCircle, .instanceMethod yX1_isCircle, .selects RX1 yX1_isCircle yX1_isCircle, .initialized RX1, .code yX1_isCircle cX1_isCircle 2 (some .boolean), .fieldLink RX1 44 "DividingHeadModel" "circles" "I", .methodLink RX1 40 yX1_in, .static yX1_in, .code yX1_in cX1_in 6 (some .boolean), .methodLink RX1 94 yX1_isCut, .static yX1_isCut, .code yX1_isCut cX1_isCut 2 (some .boolean), .methodLink RX1 67 yX1_isParts, .static yX1_isParts, .code yX1_isParts cX1_isParts 1 (some .boolean), .constantLong RX1 36 (2), .constantLong RX1 38 (1000), .methodLink RX1 98 yX1_holeOf, .instanceMethod yX1_holeOf, .selects RX1 yX1_holeOf yX1_holeOf, .code yX1_holeOf cX1_holeOf 4 (some .long), .fieldLink RX1 7 "DividingHeadModel" "wheel" "I", .fieldLink RX1 13 "DividingHeadModel" "holes" "[I"] ++ wsX10)
def wsX1_missOf : List Cond := .code yX1_missOf cX1_missOf 4 (some .long) :: ([.fieldLink RX1 7 "DividingHeadModel" "wheel" "I", .fieldLink RX1 13 "DividingHeadModel" "holes" "[I", .methodLink RX1 98 yX1_holeOf, .instanceMethod yX1_holeOf, .selects RX1 yX1_holeOf yX1_holeOf, .initialized RX1, .code yX1_holeOf cX1_holeOf 4 (some .long), .constantLong RX1 36 (2)] ++ wsX10)
def wsX1_miss_r1 : List Cond := [Cond.constant RX1 102 (-1000000001), Cond.constant RX1 76 (-1000000002), Cond.methodLink RX1 58 yX1_isCircle, Cond.instanceMethod yX1_isCircle, Cond.selects RX1 yX1_isCircle yX1_isCircle, Cond.initialized RX1, Cond.code yX1_isCircle cX1_isCircle 2 (some .boolean), Cond.fieldLink RX1 44 "DividingHeadModel" "circles" "I", Cond.methodLink RX1 40 yX1_in, Cond.static yX1_in, Cond.code yX1_in cX1_in 6 (some .boolean), Cond.methodLink RX1 94 yX1_isCut, Cond.static yX1_isCut, Cond.code yX1_isCut cX1_isCut 2 (some .boolean), Cond.methodLink RX1 67 yX1_isParts, Cond.static yX1_isParts, Cond.code yX1_isParts cX1_isParts 1 (some .boolean), Cond.constantLong RX1 36 (2), Cond.constantLong RX1 38 (1000), Cond.methodLink RX1 103 yX1_missOf, Cond.instanceMethod yX1_missOf, Cond.selects RX1 yX1_missOf yX1_missOf, Cond.code yX1_missOf cX1_missOf 4 (some .long), Cond.fieldLink RX1 7 "DividingHeadModel" "wheel" "I"]
def wsX1_miss_r2 : List Cond := [Cond.fieldLink RX1 13 "DividingHeadModel" "holes" "[I", Cond.methodLink RX1 98 yX1_holeOf, Cond.instanceMethod yX1_holeOf, Cond.selects RX1 yX1_holeOf yX1_holeOf, Cond.code yX1_holeOf cX1_holeOf 4 (some .long), Cond.methodLink RX1 106 yX1_term, Cond.static yX1_term, Cond.code yX1_term cX1_term 7 (some .int), Cond.methodLink RX1 32 yX1_common, Cond.static yX1_common, Cond.code yX1_common cX1_common 10 (some .long)]
def wsX1_miss : List Cond := .code yX1_miss cX1_miss 5 (some .int) :: ((wsX1_miss_r1 ++ wsX1_miss_r2) ++ wsX10)
def wsX1_worstOf : List Cond := .code yX1_worstOf cX1_worstOf 8 (some .long) :: ([.methodLink RX1 103 yX1_missOf, .instanceMethod yX1_missOf, .selects RX1 yX1_missOf yX1_missOf, .initialized RX1, .code yX1_missOf cX1_missOf 4 (some .long), .fieldLink RX1 7 "DividingHeadModel" "wheel" "I", .fieldLink RX1 13 "DividingHeadModel" "holes" "[I", .methodLink RX1 98 yX1_holeOf, .instanceMethod yX1_holeOf, .selects RX1 yX1_holeOf yX1_holeOf, .code yX1_holeOf cX1_holeOf 4 (some .long), .constantLong RX1 36 (2)] ++ wsX10)
def wsX1_exact : List Cond := .code yX1_exact cX1_exact 5 (some .int) :: ([.methodLink RX1 103 yX1_missOf, .instanceMethod yX1_missOf, .selects RX1 yX1_missOf yX1_missOf, .initialized RX1, .code yX1_missOf cX1_missOf 4 (some .long), .fieldLink RX1 7 "DividingHeadModel" "wheel" "I", .fieldLink RX1 13 "DividingHeadModel" "holes" "[I", .methodLink RX1 98 yX1_holeOf, .instanceMethod yX1_holeOf, .selects RX1 yX1_holeOf yX1_holeOf, .code yX1_holeOf cX1_holeOf 4 (some .long), .constantLong RX1 36 (2)] ++ wsX10)
def wsX1_worst_r1 : List Cond := [Cond.constantLong RX1 36 (2), Cond.methodLink RX1 58 yX1_isCircle, Cond.instanceMethod yX1_isCircle, Cond.selects RX1 yX1_isCircle yX1_isCircle, Cond.initialized RX1, Cond.code yX1_isCircle cX1_isCircle 2 (some .boolean), Cond.fieldLink RX1 44 "DividingHeadModel" "circles" "I", Cond.methodLink RX1 40 yX1_in, Cond.static yX1_in, Cond.code yX1_in cX1_in 6 (some .boolean), Cond.methodLink RX1 67 yX1_isParts, Cond.static yX1_isParts, Cond.code yX1_isParts cX1_isParts 1 (some .boolean), Cond.constantLong RX1 38 (1000), Cond.methodLink RX1 110 yX1_exact, Cond.instanceMethod yX1_exact, Cond.selects RX1 yX1_exact yX1_exact, Cond.code yX1_exact cX1_exact 5 (some .int), Cond.methodLink RX1 103 yX1_missOf, Cond.instanceMethod yX1_missOf, Cond.selects RX1 yX1_missOf yX1_missOf, Cond.code yX1_missOf cX1_missOf 4 (some .long), Cond.fieldLink RX1 7 "DividingHeadModel" "wheel" "I", Cond.fieldLink RX1 13 "DividingHeadModel" "holes" "[I"]
def wsX1_worst_r2 : List Cond := [Cond.methodLink RX1 98 yX1_holeOf, Cond.instanceMethod yX1_holeOf, Cond.selects RX1 yX1_holeOf yX1_holeOf, Cond.code yX1_holeOf cX1_holeOf 4 (some .long), Cond.methodLink RX1 114 yX1_worstOf, Cond.instanceMethod yX1_worstOf, Cond.selects RX1 yX1_worstOf yX1_worstOf, Cond.code yX1_worstOf cX1_worstOf 8 (some .long), Cond.methodLink RX1 106 yX1_term, Cond.static yX1_term, Cond.code yX1_term cX1_term 7 (some .int), Cond.methodLink RX1 32 yX1_common, Cond.static yX1_common, Cond.code yX1_common cX1_common 10 (some .long)]
def wsX1_worst : List Cond := .code yX1_worst cX1_worst 4 (some .int) :: ((wsX1_worst_r1 ++ wsX1_worst_r2) ++ wsX10)
def wsX1_best : List Cond := .code yX1_best cX1_best 4 (some .int) :: ([.fieldLink RX1 44 "DividingHeadModel" "circles" "I", .fieldLink RX1 13 "DividingHeadModel" "holes" "[I", .methodLink RX1 67 yX1_isParts, .static yX1_isParts, .initialized RX1, .code yX1_isParts cX1_isParts 1 (some .boolean), .constantLong RX1 36 (2), .constantLong RX1 38 (1000), .methodLink RX1 40 yX1_in, .static yX1_in, .code yX1_in cX1_in 6 (some .boolean), .methodLink RX1 114 yX1_worstOf, .instanceMethod yX1_worstOf, .selects RX1 yX1_worstOf yX1_worstOf, .code yX1_worstOf cX1_worstOf 8 (some .long), .methodLink RX1 103 yX1_missOf, .instanceMethod yX1_missOf, .selects RX1 yX1_missOf yX1_missOf, .code yX1_missOf cX1_missOf 4 (some .long), .fieldLink RX1 7 "DividingHeadModel" "wheel" "I", .methodLink RX1 98 yX1_holeOf, .instanceMethod yX1_holeOf, .selects RX1 yX1_holeOf yX1_holeOf, .code yX1_holeOf cX1_holeOf 4 (some .long)] ++ wsX10)
def wsX1_error : List Cond := .code yX1_error cX1_error 4 (some .int) :: ([.constantLong RX1 118 (7), .constantLong RX1 120 (-100), .constantLong RX1 122 (100), .fieldLink RX1 20 "DividingHeadModel" "error" "[I", .methodLink RX1 40 yX1_in, .static yX1_in, .initialized RX1, .code yX1_in cX1_in 6 (some .boolean)] ++ wsX10)
def wsX1_errorAt : List Cond := .code yX1_errorAt cX1_errorAt 9 (some .long) :: ([.constantLong RX1 124 (8), .fieldLink RX1 13 "DividingHeadModel" "holes" "[I", .fieldLink RX1 20 "DividingHeadModel" "error" "[I"] ++ wsX10)
def wsX1_isSteps : List Cond := .code yX1_isSteps cX1_isSteps 1 (some .boolean) :: ([.constantLong RX1 126 (100000), .methodLink RX1 40 yX1_in, .static yX1_in, .initialized RX1, .code yX1_in cX1_in 6 (some .boolean)])
def wsX1_spoilt_r1 : List Cond := [Cond.constant RX1 102 (-1000000001), Cond.constantLong RX1 131 (10000), Cond.constant RX1 76 (-1000000002), Cond.fieldLink RX1 13 "DividingHeadModel" "holes" "[I", Cond.methodLink RX1 58 yX1_isCircle, Cond.instanceMethod yX1_isCircle, Cond.selects RX1 yX1_isCircle yX1_isCircle, Cond.initialized RX1, Cond.code yX1_isCircle cX1_isCircle 2 (some .boolean), Cond.fieldLink RX1 44 "DividingHeadModel" "circles" "I", Cond.methodLink RX1 40 yX1_in, Cond.static yX1_in, Cond.code yX1_in cX1_in 6 (some .boolean), Cond.methodLink RX1 128 yX1_isSteps, Cond.static yX1_isSteps, Cond.code yX1_isSteps cX1_isSteps 1 (some .boolean), Cond.constantLong RX1 126 (100000), Cond.methodLink RX1 133 yX1_errorAt, Cond.instanceMethod yX1_errorAt, Cond.selects RX1 yX1_errorAt yX1_errorAt, Cond.code yX1_errorAt cX1_errorAt 9 (some .long), Cond.constantLong RX1 124 (8), Cond.fieldLink RX1 20 "DividingHeadModel" "error" "[I", Cond.methodLink RX1 106 yX1_term]
def wsX1_spoilt_r2 : List Cond := [Cond.static yX1_term, Cond.code yX1_term cX1_term 7 (some .int), Cond.methodLink RX1 32 yX1_common, Cond.static yX1_common, Cond.code yX1_common cX1_common 10 (some .long)]
def wsX1_spoilt : List Cond := .code yX1_spoilt cX1_spoilt 5 (some .int) :: ((wsX1_spoilt_r1 ++ wsX1_spoilt_r2) ++ wsX10)
def wsX1_extreme : List Cond := .code yX1_extreme cX1_extreme 11 (some .int) :: ([.constantLong RX1 38 (1000), .methodLink RX1 58 yX1_isCircle, .instanceMethod yX1_isCircle, .selects RX1 yX1_isCircle yX1_isCircle, .initialized RX1, .code yX1_isCircle cX1_isCircle 2 (some .boolean), .fieldLink RX1 44 "DividingHeadModel" "circles" "I", .methodLink RX1 40 yX1_in, .static yX1_in, .code yX1_in cX1_in 6 (some .boolean), .methodLink RX1 128 yX1_isSteps, .static yX1_isSteps, .code yX1_isSteps cX1_isSteps 1 (some .boolean), .constantLong RX1 126 (100000), .methodLink RX1 133 yX1_errorAt, .instanceMethod yX1_errorAt, .selects RX1 yX1_errorAt yX1_errorAt, .code yX1_errorAt cX1_errorAt 9 (some .long), .constantLong RX1 124 (8), .fieldLink RX1 13 "DividingHeadModel" "holes" "[I", .fieldLink RX1 20 "DividingHeadModel" "error" "[I"] ++ wsX10)
def wsX1_near : List Cond := .code yX1_near cX1_near 17 (some .int) :: ([.constantLong RX1 86 (1000000), .constantLong RX1 131 (10000), .methodLink RX1 40 yX1_in, .static yX1_in, .initialized RX1, .code yX1_in cX1_in 6 (some .boolean)])
def wsX1_vernier : List Cond := .code yX1_vernier cX1_vernier 3 (some .int) :: ([.constantLong RX1 36 (2), .constantLong RX1 136 (720), .constantLong RX1 138 (60), .fieldLink RX1 23 "DividingHeadModel" "marks" "I", .fieldLink RX1 26 "DividingHeadModel" "parts" "I", .methodLink RX1 40 yX1_in, .static yX1_in, .initialized RX1, .code yX1_in cX1_in 6 (some .boolean)] ++ wsX10)
def wsX1_mainOf : List Cond := .code yX1_mainOf cX1_mainOf 5 (some .long) :: ([.fieldLink RX1 23 "DividingHeadModel" "marks" "I"] ++ wsX10)
def wsX1_lineOf : List Cond := .code yX1_lineOf cX1_lineOf 7 (some .long) :: ([.fieldLink RX1 23 "DividingHeadModel" "marks" "I", .constantLong RX1 36 (2), .fieldLink RX1 26 "DividingHeadModel" "parts" "I"] ++ wsX10)
def wsX1_readOf : List Cond := .code yX1_readOf cX1_readOf 5 (some .long) :: ([.fieldLink RX1 26 "DividingHeadModel" "parts" "I", .methodLink RX1 140 yX1_mainOf, .instanceMethod yX1_mainOf, .selects RX1 yX1_mainOf yX1_mainOf, .initialized RX1, .code yX1_mainOf cX1_mainOf 5 (some .long), .fieldLink RX1 23 "DividingHeadModel" "marks" "I", .methodLink RX1 143 yX1_lineOf, .instanceMethod yX1_lineOf, .selects RX1 yX1_lineOf yX1_lineOf, .code yX1_lineOf cX1_lineOf 7 (some .long), .constantLong RX1 36 (2)] ++ wsX10)
def wsX1_isPlace : List Cond := .code yX1_isPlace cX1_isPlace 2 (some .boolean) :: ([.constantLong RX1 86 (1000000), .methodLink RX1 40 yX1_in, .static yX1_in, .initialized RX1, .code yX1_in cX1_in 6 (some .boolean)])
def wsX1_read : List Cond := .code yX1_read cX1_read 4 (some .int) :: ([.constantLong RX1 36 (2), .methodLink RX1 146 yX1_isPlace, .static yX1_isPlace, .initialized RX1, .code yX1_isPlace cX1_isPlace 2 (some .boolean), .constantLong RX1 86 (1000000), .methodLink RX1 40 yX1_in, .static yX1_in, .code yX1_in cX1_in 6 (some .boolean), .methodLink RX1 140 yX1_mainOf, .instanceMethod yX1_mainOf, .selects RX1 yX1_mainOf yX1_mainOf, .code yX1_mainOf cX1_mainOf 5 (some .long), .fieldLink RX1 23 "DividingHeadModel" "marks" "I", .methodLink RX1 143 yX1_lineOf, .instanceMethod yX1_lineOf, .selects RX1 yX1_lineOf yX1_lineOf, .code yX1_lineOf cX1_lineOf 7 (some .long), .fieldLink RX1 26 "DividingHeadModel" "parts" "I", .methodLink RX1 149 yX1_readOf, .instanceMethod yX1_readOf, .selects RX1 yX1_readOf yX1_readOf, .code yX1_readOf cX1_readOf 5 (some .long)] ++ wsX10)
def wsX1_two_r1 : List Cond := [Cond.constantLong RX1 152 (-1000), Cond.constantLong RX1 38 (1000), Cond.constant RX1 76 (-1000000002), Cond.constantLong RX1 154 (2000000), Cond.constantLong RX1 36 (2), Cond.constantLong RX1 86 (1000000), Cond.fieldLink RX1 23 "DividingHeadModel" "marks" "I", Cond.fieldLink RX1 26 "DividingHeadModel" "parts" "I", Cond.constantLong RX1 156 (4), Cond.methodLink RX1 146 yX1_isPlace, Cond.static yX1_isPlace, Cond.initialized RX1, Cond.code yX1_isPlace cX1_isPlace 2 (some .boolean), Cond.methodLink RX1 40 yX1_in, Cond.static yX1_in, Cond.code yX1_in cX1_in 6 (some .boolean), Cond.methodLink RX1 149 yX1_readOf, Cond.instanceMethod yX1_readOf, Cond.selects RX1 yX1_readOf yX1_readOf, Cond.code yX1_readOf cX1_readOf 5 (some .long), Cond.methodLink RX1 140 yX1_mainOf, Cond.instanceMethod yX1_mainOf, Cond.selects RX1 yX1_mainOf yX1_mainOf, Cond.code yX1_mainOf cX1_mainOf 5 (some .long)]
def wsX1_two_r2 : List Cond := [Cond.methodLink RX1 143 yX1_lineOf, Cond.instanceMethod yX1_lineOf, Cond.selects RX1 yX1_lineOf yX1_lineOf, Cond.code yX1_lineOf cX1_lineOf 7 (some .long), Cond.methodLink RX1 106 yX1_term, Cond.static yX1_term, Cond.code yX1_term cX1_term 7 (some .int), Cond.methodLink RX1 32 yX1_common, Cond.static yX1_common, Cond.code yX1_common cX1_common 10 (some .long)]
def wsX1_two : List Cond := .code yX1_two cX1_two 17 (some .int) :: ((wsX1_two_r1 ++ wsX1_two_r2) ++ wsX10)
def wsX1_told : List Cond := .code yX1_told cX1_told 2 (some .int) :: ([.fieldLink RX1 7 "DividingHeadModel" "wheel" "I", .fieldLink RX1 44 "DividingHeadModel" "circles" "I", .fieldLink RX1 47 "DividingHeadModel" "gears" "I", .fieldLink RX1 23 "DividingHeadModel" "marks" "I", .fieldLink RX1 26 "DividingHeadModel" "parts" "I"] ++ wsX10)
def wsJ9_abs_0f7a4 : List Cond := .code yJ9_abs_0f7a4 cJ9_abs_0f7a4 1 (some .int) :: ([])
def wsJ9_abs_067f4 : List Cond := .code yJ9_abs_067f4 cJ9_abs_067f4 2 (some .long) :: ([])
def wsJ9_max_7cf53 : List Cond := .code yJ9_max_7cf53 cJ9_max_7cf53 2 (some .int) :: ([])
def wsL_law_r1 : List Cond := [Cond.classLink RL 7 RX0, Cond.instantiable RX0 9, Cond.initialized RX0, Cond.classLink RL 10 RX1, Cond.instantiable RX1 9, Cond.initialized RX1, Cond.methodLink RL 9 yX0_init, Cond.instanceMethod yX0_init, Cond.code yX0_init cX0_init 1 none, Cond.methodLink RX0 1 objectInit, Cond.instanceMethod objectInit, Cond.code objectInit ⟨#[0xb1]⟩ 1 none, Cond.arrayClass .int, Cond.fieldLink RX0 9 "DividingHead" "circleHoles" "[I", Cond.fieldLink RX0 13 "DividingHead" "gearTeeth" "[I", Cond.fieldLink RX0 16 "DividingHead" "wormErrors" "[I", Cond.fieldLink RX0 19 "DividingHead" "trainGears" "[I", Cond.fieldLink RX0 22 "DividingHead" "wheelTeeth" "I", Cond.fieldLink RX0 26 "DividingHead" "circleMarks" "I", Cond.fieldLink RX0 29 "DividingHead" "vernierParts" "I", Cond.methodLink RL 12 yX1_init, Cond.instanceMethod yX1_init, Cond.code yX1_init cX1_init 1 none, Cond.methodLink RX1 1 objectInit]
def wsL_law_r2 : List Cond := [Cond.fieldLink RX1 7 "DividingHeadModel" "wheel" "I", Cond.fieldLink RX1 13 "DividingHeadModel" "holes" "[I", Cond.fieldLink RX1 17 "DividingHeadModel" "teeth" "[I", Cond.fieldLink RX1 20 "DividingHeadModel" "error" "[I", Cond.fieldLink RX1 23 "DividingHeadModel" "marks" "I", Cond.fieldLink RX1 26 "DividingHeadModel" "parts" "I", Cond.fieldLink RX1 29 "DividingHeadModel" "found" "[I", Cond.methodLink RL 13 yX0_wheel, Cond.instanceMethod yX0_wheel, Cond.selects RX0 yX0_wheel yX0_wheel, Cond.code yX0_wheel cX0_wheel 3 (some .int), Cond.methodLink RX0 32 yX0_isOutside, Cond.static yX0_isOutside, Cond.code yX0_isOutside cX0_isOutside 3 (some .boolean), Cond.methodLink RL 17 yX1_wheel, Cond.instanceMethod yX1_wheel, Cond.selects RX1 yX1_wheel yX1_wheel, Cond.code yX1_wheel cX1_wheel 3 (some .int), Cond.constantLong RX1 50 (10), Cond.constantLong RX1 52 (200), Cond.methodLink RX1 40 yX1_in, Cond.static yX1_in, Cond.code yX1_in cX1_in 6 (some .boolean), Cond.methodLink RL 18 yX0_circle]
def wsL_law_r3 : List Cond := [Cond.instanceMethod yX0_circle, Cond.selects RX0 yX0_circle yX0_circle, Cond.code yX0_circle cX0_circle 2 (some .int), Cond.fieldLink RX0 36 "DividingHead" "circleCount" "I", Cond.methodLink RX0 39 yX0_hasCircleOf, Cond.instanceMethod yX0_hasCircleOf, Cond.selects RX0 yX0_hasCircleOf yX0_hasCircleOf, Cond.code yX0_hasCircleOf cX0_hasCircleOf 3 (some .boolean), Cond.methodLink RL 21 yX1_circle, Cond.instanceMethod yX1_circle, Cond.selects RX1 yX1_circle yX1_circle, Cond.code yX1_circle cX1_circle 3 (some .int), Cond.constantLong RX1 54 (5), Cond.constantLong RX1 56 (120), Cond.fieldLink RX1 44 "DividingHeadModel" "circles" "I", Cond.methodLink RL 22 yX0_holes, Cond.instanceMethod yX0_holes, Cond.selects RX0 yX0_holes yX0_holes, Cond.code yX0_holes cX0_holes 3 (some .int), Cond.methodLink RX0 43 yX0_holesAt, Cond.instanceMethod yX0_holesAt, Cond.selects RX0 yX0_holesAt yX0_holesAt, Cond.code yX0_holesAt cX0_holesAt 2 (some .int), Cond.methodLink RL 25 yX1_holes]
def wsL_law_r4 : List Cond := [Cond.instanceMethod yX1_holes, Cond.selects RX1 yX1_holes yX1_holes, Cond.code yX1_holes cX1_holes 2 (some .int), Cond.methodLink RX1 58 yX1_isCircle, Cond.instanceMethod yX1_isCircle, Cond.selects RX1 yX1_isCircle yX1_isCircle, Cond.code yX1_isCircle cX1_isCircle 2 (some .boolean), Cond.methodLink RL 26 yX0_gear, Cond.instanceMethod yX0_gear, Cond.selects RX0 yX0_gear yX0_gear, Cond.code yX0_gear cX0_gear 2 (some .int), Cond.fieldLink RX0 47 "DividingHead" "gearCount" "I", Cond.methodLink RL 29 yX1_gear, Cond.instanceMethod yX1_gear, Cond.selects RX1 yX1_gear yX1_gear, Cond.code yX1_gear cX1_gear 2 (some .int), Cond.constantLong RX1 62 (12), Cond.fieldLink RX1 47 "DividingHeadModel" "gears" "I", Cond.methodLink RL 30 yX0_teeth, Cond.instanceMethod yX0_teeth, Cond.selects RX0 yX0_teeth yX0_teeth, Cond.code yX0_teeth cX0_teeth 2 (some .int), Cond.methodLink RL 33 yX1_teeth, Cond.instanceMethod yX1_teeth]
def wsL_law_r5 : List Cond := [Cond.selects RX1 yX1_teeth yX1_teeth, Cond.code yX1_teeth cX1_teeth 2 (some .int), Cond.methodLink RX1 64 yX1_isGear, Cond.instanceMethod yX1_isGear, Cond.selects RX1 yX1_isGear yX1_isGear, Cond.code yX1_isGear cX1_isGear 2 (some .boolean), Cond.methodLink RL 34 yX0_plain, Cond.instanceMethod yX0_plain, Cond.selects RX0 yX0_plain yX0_plain, Cond.code yX0_plain cX0_plain 4 (some .int), Cond.methodLink RX0 50 yX0_isNoNumberOfParts, Cond.static yX0_isNoNumberOfParts, Cond.code yX0_isNoNumberOfParts cX0_isNoNumberOfParts 1 (some .boolean), Cond.methodLink RX0 53 yX0_plainCircle, Cond.instanceMethod yX0_plainCircle, Cond.selects RX0 yX0_plainCircle yX0_plainCircle, Cond.code yX0_plainCircle cX0_plainCircle 5 (some .int), Cond.methodLink RX0 133 yX0_exactQuotient, Cond.static yX0_exactQuotient, Cond.code yX0_exactQuotient cX0_exactQuotient 4 (some .long), Cond.methodLink RL 38 yX1_plain, Cond.instanceMethod yX1_plain, Cond.selects RX1 yX1_plain yX1_plain, Cond.code yX1_plain cX1_plain 4 (some .int)]
def wsL_law_r6 : List Cond := [Cond.constantLong RX1 36 (2), Cond.methodLink RX1 67 yX1_isParts, Cond.static yX1_isParts, Cond.code yX1_isParts cX1_isParts 1 (some .boolean), Cond.constantLong RX1 38 (1000), Cond.methodLink RX1 70 yX1_plainOf, Cond.instanceMethod yX1_plainOf, Cond.selects RX1 yX1_plainOf yX1_plainOf, Cond.code yX1_plainOf cX1_plainOf 5 (some .int), Cond.methodLink RL 39 yX0_compound, Cond.instanceMethod yX0_compound, Cond.selects RX0 yX0_compound yX0_compound, Cond.code yX0_compound cX0_compound 6 (some .int), Cond.constant RX0 56 (-1000000002), Cond.constant RX0 65 (-1000000005), Cond.methodLink RX0 57 yX0_secondStep, Cond.instanceMethod yX0_secondStep, Cond.selects RX0 yX0_secondStep yX0_secondStep, Cond.code yX0_secondStep cX0_secondStep 5 (some .int), Cond.methodLink RX0 136 yX0_firstStep, Cond.instanceMethod yX0_firstStep, Cond.selects RX0 yX0_firstStep yX0_firstStep, Cond.code yX0_firstStep cX0_firstStep 6 (some .int), Cond.methodLink RX0 61 yX0_compoundTerm]
def wsL_law_r7 : List Cond := [Cond.instanceMethod yX0_compoundTerm, Cond.selects RX0 yX0_compoundTerm yX0_compoundTerm, Cond.code yX0_compoundTerm cX0_compoundTerm 6 (some .int), Cond.methodLink RL 42 yX1_compound, Cond.instanceMethod yX1_compound, Cond.selects RX1 yX1_compound yX1_compound, Cond.code yX1_compound cX1_compound 8 (some .int), Cond.constantLong RX1 74 (3), Cond.constant RX1 76 (-1000000002), Cond.constant RX1 81 (-1000000005), Cond.methodLink RX1 77 yX1_stepBeside, Cond.instanceMethod yX1_stepBeside, Cond.selects RX1 yX1_stepBeside yX1_stepBeside, Cond.code yX1_stepBeside cX1_stepBeside 9 (some .int), Cond.methodLink RL 43 yX0_differential, Cond.instanceMethod yX0_differential, Cond.selects RX0 yX0_differential yX0_differential, Cond.code yX0_differential cX0_differential 4 (some .int), Cond.methodLink RX0 66 yX0_partsBeside, Cond.instanceMethod yX0_partsBeside, Cond.selects RX0 yX0_partsBeside yX0_partsBeside, Cond.code yX0_partsBeside cX0_partsBeside 3 (some .int), Cond.methodLink RX0 140 yX0_standsIn, Cond.instanceMethod yX0_standsIn]
def wsL_law_r8 : List Cond := [Cond.selects RX0 yX0_standsIn yX0_standsIn, Cond.code yX0_standsIn cX0_standsIn 3 (some .boolean), Cond.methodLink RX0 143 Lib.Math.abs.name, Cond.static Lib.Math.abs.name, Cond.initialized "java/lang/Math", Cond.code Lib.Math.abs.name Lib.Math.abs.code 1 (some .int), Cond.methodLink RX0 73 yX0_findTrain, Cond.instanceMethod yX0_findTrain, Cond.selects RX0 yX0_findTrain yX0_findTrain, Cond.code yX0_findTrain cX0_findTrain 5 (some .boolean), Cond.methodLink RX0 146 yX0_findTwoGears, Cond.instanceMethod yX0_findTwoGears, Cond.selects RX0 yX0_findTwoGears yX0_findTwoGears, Cond.code yX0_findTwoGears cX0_findTwoGears 7 (some .boolean), Cond.methodLink RX0 152 yX0_gearWith, Cond.instanceMethod yX0_gearWith, Cond.selects RX0 yX0_gearWith yX0_gearWith, Cond.code yX0_gearWith cX0_gearWith 7 (some .int), Cond.methodLink RX0 156 yX0_keepTrain, Cond.instanceMethod yX0_keepTrain, Cond.selects RX0 yX0_keepTrain yX0_keepTrain, Cond.code yX0_keepTrain cX0_keepTrain 5 (some .boolean), Cond.methodLink RX0 149 yX0_findFourGears, Cond.instanceMethod yX0_findFourGears]
def wsL_law_r9 : List Cond := [Cond.selects RX0 yX0_findFourGears yX0_findFourGears, Cond.code yX0_findFourGears cX0_findFourGears 7 (some .boolean), Cond.methodLink RX0 160 yX0_findSecondPair, Cond.instanceMethod yX0_findSecondPair, Cond.selects RX0 yX0_findSecondPair yX0_findSecondPair, Cond.code yX0_findSecondPair cX0_findSecondPair 11 (some .boolean), Cond.methodLink RL 46 yX1_differential, Cond.instanceMethod yX1_differential, Cond.selects RX1 yX1_differential yX1_differential, Cond.code yX1_differential cX1_differential 6 (some .int), Cond.constantLong RX1 92 (6), Cond.methodLink RX1 88 yX1_isTrain, Cond.instanceMethod yX1_isTrain, Cond.selects RX1 yX1_isTrain yX1_isTrain, Cond.code yX1_isTrain cX1_isTrain 12 (some .boolean), Cond.methodLink RX1 82 yX1_put, Cond.instanceMethod yX1_put, Cond.selects RX1 yX1_put yX1_put, Cond.code yX1_put cX1_put 5 none, Cond.methodLink RL 47 yX0_train, Cond.instanceMethod yX0_train, Cond.selects RX0 yX0_train yX0_train, Cond.code yX0_train cX0_train 4 (some .int), Cond.methodLink RX0 69 yX0_isNoShare]
def wsL_law_r10 : List Cond := [Cond.static yX0_isNoShare, Cond.code yX0_isNoShare cX0_isNoShare 2 (some .boolean), Cond.constant RX0 131 (1000000), Cond.methodLink RL 51 yX1_train, Cond.instanceMethod yX1_train, Cond.selects RX1 yX1_train yX1_train, Cond.code yX1_train cX1_train 4 (some .int), Cond.constantLong RX1 86 (1000000), Cond.methodLink RL 52 yX0_hole, Cond.instanceMethod yX0_hole, Cond.selects RX0 yX0_hole yX0_hole, Cond.code yX0_hole cX0_hole 5 (some .int), Cond.methodLink RX0 77 yX0_nearestHole, Cond.instanceMethod yX0_nearestHole, Cond.selects RX0 yX0_nearestHole yX0_nearestHole, Cond.code yX0_nearestHole cX0_nearestHole 4 (some .int), Cond.methodLink RX0 164 yX0_nearestOrGreater, Cond.static yX0_nearestOrGreater, Cond.code yX0_nearestOrGreater cX0_nearestOrGreater 4 (some .long), Cond.constantLong RX0 127 (2), Cond.methodLink RL 55 yX1_hole, Cond.instanceMethod yX1_hole, Cond.selects RX1 yX1_hole yX1_hole, Cond.code yX1_hole cX1_hole 4 (some .int)]
def wsL_law_r11 : List Cond := [Cond.methodLink RX1 94 yX1_isCut, Cond.static yX1_isCut, Cond.code yX1_isCut cX1_isCut 2 (some .boolean), Cond.methodLink RX1 98 yX1_holeOf, Cond.instanceMethod yX1_holeOf, Cond.selects RX1 yX1_holeOf yX1_holeOf, Cond.code yX1_holeOf cX1_holeOf 4 (some .long), Cond.methodLink RL 56 yX0_miss, Cond.instanceMethod yX0_miss, Cond.selects RX0 yX0_miss yX0_miss, Cond.code yX0_miss cX0_miss 6 (some .int), Cond.constant RX0 80 (-1000000001), Cond.methodLink RX0 81 yX0_missUpper, Cond.instanceMethod yX0_missUpper, Cond.selects RX0 yX0_missUpper yX0_missUpper, Cond.code yX0_missUpper cX0_missUpper 4 (some .int), Cond.methodLink RX0 84 yX0_lowestTerm, Cond.static yX0_lowestTerm, Cond.code yX0_lowestTerm cX0_lowestTerm 9 (some .int), Cond.methodLink RX0 174 Lib.MathLoose.abs_long.x, Cond.static Lib.MathLoose.abs_long.x, Cond.code Lib.MathLoose.abs_long.x Lib.MathLoose.abs_long.code 2 (some .long), Cond.methodLink RX0 177 yX0_commonMeasure, Cond.static yX0_commonMeasure]
def wsL_law_r12 : List Cond := [Cond.code yX0_commonMeasure cX0_commonMeasure 7 (some .long), Cond.methodLink RL 60 yX1_miss, Cond.instanceMethod yX1_miss, Cond.selects RX1 yX1_miss yX1_miss, Cond.code yX1_miss cX1_miss 5 (some .int), Cond.constant RX1 102 (-1000000001), Cond.methodLink RX1 103 yX1_missOf, Cond.instanceMethod yX1_missOf, Cond.selects RX1 yX1_missOf yX1_missOf, Cond.code yX1_missOf cX1_missOf 4 (some .long), Cond.methodLink RX1 106 yX1_term, Cond.static yX1_term, Cond.code yX1_term cX1_term 7 (some .int), Cond.methodLink RX1 32 yX1_common, Cond.static yX1_common, Cond.code yX1_common cX1_common 10 (some .long), Cond.methodLink RL 61 yX0_worst, Cond.instanceMethod yX0_worst, Cond.selects RX0 yX0_worst yX0_worst, Cond.code yX0_worst cX0_worst 5 (some .int), Cond.methodLink RX0 88 yX0_exactCuts, Cond.instanceMethod yX0_exactCuts, Cond.selects RX0 yX0_exactCuts yX0_exactCuts, Cond.code yX0_exactCuts cX0_exactCuts 5 (some .int)]
def wsL_law_r13 : List Cond := [Cond.methodLink RX0 92 yX0_worstUpper, Cond.instanceMethod yX0_worstUpper, Cond.selects RX0 yX0_worstUpper yX0_worstUpper, Cond.code yX0_worstUpper cX0_worstUpper 5 (some .int), Cond.methodLink RX0 167 Lib.Math.max.name, Cond.static Lib.Math.max.name, Cond.code Lib.Math.max.name Lib.Math.max.code 2 (some .int), Cond.methodLink RL 64 yX1_worst, Cond.instanceMethod yX1_worst, Cond.selects RX1 yX1_worst yX1_worst, Cond.code yX1_worst cX1_worst 4 (some .int), Cond.methodLink RX1 110 yX1_exact, Cond.instanceMethod yX1_exact, Cond.selects RX1 yX1_exact yX1_exact, Cond.code yX1_exact cX1_exact 5 (some .int), Cond.methodLink RX1 114 yX1_worstOf, Cond.instanceMethod yX1_worstOf, Cond.selects RX1 yX1_worstOf yX1_worstOf, Cond.code yX1_worstOf cX1_worstOf 8 (some .long), Cond.methodLink RL 65 yX0_best, Cond.instanceMethod yX0_best, Cond.selects RX0 yX0_best yX0_best, Cond.code yX0_best cX0_best 6 (some .int), Cond.methodLink RL 68 yX1_best]
def wsL_law_r14 : List Cond := [Cond.instanceMethod yX1_best, Cond.selects RX1 yX1_best yX1_best, Cond.code yX1_best cX1_best 4 (some .int), Cond.methodLink RL 69 yX0_error, Cond.instanceMethod yX0_error, Cond.selects RX0 yX0_error yX0_error, Cond.code yX0_error cX0_error 4 (some .int), Cond.methodLink RL 72 yX1_error, Cond.instanceMethod yX1_error, Cond.selects RX1 yX1_error yX1_error, Cond.code yX1_error cX1_error 4 (some .int), Cond.constantLong RX1 118 (7), Cond.constantLong RX1 120 (-100), Cond.constantLong RX1 122 (100), Cond.methodLink RL 73 yX0_spoilt, Cond.instanceMethod yX0_spoilt, Cond.selects RX0 yX0_spoilt yX0_spoilt, Cond.code yX0_spoilt cX0_spoilt 6 (some .int), Cond.methodLink RX0 95 yX0_isNoStep, Cond.static yX0_isNoStep, Cond.code yX0_isNoStep cX0_isNoStep 1 (some .boolean), Cond.constant RX0 132 (100000), Cond.methodLink RX0 98 yX0_errorUpper, Cond.instanceMethod yX0_errorUpper]
def wsL_law_r15 : List Cond := [Cond.selects RX0 yX0_errorUpper yX0_errorUpper, Cond.code yX0_errorUpper cX0_errorUpper 7 (some .int), Cond.methodLink RL 76 yX1_spoilt, Cond.instanceMethod yX1_spoilt, Cond.selects RX1 yX1_spoilt yX1_spoilt, Cond.code yX1_spoilt cX1_spoilt 5 (some .int), Cond.constantLong RX1 131 (10000), Cond.methodLink RX1 128 yX1_isSteps, Cond.static yX1_isSteps, Cond.code yX1_isSteps cX1_isSteps 1 (some .boolean), Cond.constantLong RX1 126 (100000), Cond.methodLink RX1 133 yX1_errorAt, Cond.instanceMethod yX1_errorAt, Cond.selects RX1 yX1_errorAt yX1_errorAt, Cond.code yX1_errorAt cX1_errorAt 9 (some .long), Cond.constantLong RX1 124 (8), Cond.methodLink RL 77 yX0_extreme, Cond.instanceMethod yX0_extreme, Cond.selects RX0 yX0_extreme yX0_extreme, Cond.code yX0_extreme cX0_extreme 10 (some .int), Cond.methodLink RL 80 yX1_extreme, Cond.instanceMethod yX1_extreme, Cond.selects RX1 yX1_extreme yX1_extreme, Cond.code yX1_extreme cX1_extreme 11 (some .int)]
def wsL_law_r16 : List Cond := [Cond.methodLink RL 81 yX0_near, Cond.instanceMethod yX0_near, Cond.selects RX0 yX0_near yX0_near, Cond.code yX0_near cX0_near 6 (some .int), Cond.methodLink RX0 101 yX0_nearestLower, Cond.static yX0_nearestLower, Cond.code yX0_nearestLower cX0_nearestLower 9 (some .int), Cond.methodLink RX0 170 yX0_gapUpper, Cond.static yX0_gapUpper, Cond.code yX0_gapUpper cX0_gapUpper 5 (some .long), Cond.methodLink RX0 104 yX0_nearestOrLesser, Cond.static yX0_nearestOrLesser, Cond.code yX0_nearestOrLesser cX0_nearestOrLesser 4 (some .long), Cond.methodLink RL 84 yX1_near, Cond.instanceMethod yX1_near, Cond.selects RX1 yX1_near yX1_near, Cond.code yX1_near cX1_near 17 (some .int), Cond.methodLink RL 85 yX0_vernier, Cond.instanceMethod yX0_vernier, Cond.selects RX0 yX0_vernier yX0_vernier, Cond.code yX0_vernier cX0_vernier 3 (some .int), Cond.methodLink RL 88 yX1_vernier, Cond.instanceMethod yX1_vernier, Cond.selects RX1 yX1_vernier yX1_vernier]
def wsL_law_r17 : List Cond := [Cond.code yX1_vernier cX1_vernier 3 (some .int), Cond.constantLong RX1 136 (720), Cond.constantLong RX1 138 (60), Cond.methodLink RL 89 yX0_read, Cond.instanceMethod yX0_read, Cond.selects RX0 yX0_read yX0_read, Cond.code yX0_read cX0_read 4 (some .int), Cond.methodLink RX0 108 yX0_isNoPlace, Cond.static yX0_isNoPlace, Cond.code yX0_isNoPlace cX0_isNoPlace 2 (some .boolean), Cond.methodLink RX0 111 yX0_mainMark, Cond.instanceMethod yX0_mainMark, Cond.selects RX0 yX0_mainMark yX0_mainMark, Cond.code yX0_mainMark cX0_mainMark 5 (some .long), Cond.methodLink RX0 114 yX0_vernierLine, Cond.instanceMethod yX0_vernierLine, Cond.selects RX0 yX0_vernierLine yX0_vernierLine, Cond.code yX0_vernierLine cX0_vernierLine 7 (some .long), Cond.methodLink RX0 117 yX0_readParts, Cond.instanceMethod yX0_readParts, Cond.selects RX0 yX0_readParts yX0_readParts, Cond.code yX0_readParts cX0_readParts 5 (some .long), Cond.methodLink RL 92 yX1_read, Cond.instanceMethod yX1_read]
def wsL_law_r18 : List Cond := [Cond.selects RX1 yX1_read yX1_read, Cond.code yX1_read cX1_read 4 (some .int), Cond.methodLink RX1 146 yX1_isPlace, Cond.static yX1_isPlace, Cond.code yX1_isPlace cX1_isPlace 2 (some .boolean), Cond.methodLink RX1 140 yX1_mainOf, Cond.instanceMethod yX1_mainOf, Cond.selects RX1 yX1_mainOf yX1_mainOf, Cond.code yX1_mainOf cX1_mainOf 5 (some .long), Cond.methodLink RX1 143 yX1_lineOf, Cond.instanceMethod yX1_lineOf, Cond.selects RX1 yX1_lineOf yX1_lineOf, Cond.code yX1_lineOf cX1_lineOf 7 (some .long), Cond.methodLink RX1 149 yX1_readOf, Cond.instanceMethod yX1_readOf, Cond.selects RX1 yX1_readOf yX1_readOf, Cond.code yX1_readOf cX1_readOf 5 (some .long), Cond.methodLink RL 93 yX0_two, Cond.instanceMethod yX0_two, Cond.selects RX0 yX0_two yX0_two, Cond.code yX0_two cX0_two 19 (some .int), Cond.constantLong RX0 120 (1000000), Cond.constantLong RX0 129 (4), Cond.methodLink RX0 122 yJ9_floorMod_f86c9]
def wsL_law_r19 : List Cond := [Cond.static yJ9_floorMod_f86c9, Cond.initialized RJ9, Cond.code yJ9_floorMod_f86c9 cJ9_floorMod_f86c9 6 (some .long), Cond.methodLink RL 96 yX1_two, Cond.instanceMethod yX1_two, Cond.selects RX1 yX1_two yX1_two, Cond.code yX1_two cX1_two 17 (some .int), Cond.constantLong RX1 152 (-1000), Cond.constantLong RX1 154 (2000000), Cond.constantLong RX1 156 (4), Cond.methodLink RL 97 yX0_told, Cond.instanceMethod yX0_told, Cond.selects RX0 yX0_told yX0_told, Cond.code yX0_told cX0_told 2 (some .int), Cond.methodLink RL 100 yX1_told, Cond.instanceMethod yX1_told, Cond.selects RX1 yX1_told yX1_told, Cond.code yX1_told cX1_told 2 (some .int)]
def wsL_law : List Cond := (wsL_law_r1 ++ (wsL_law_r2 ++ (wsL_law_r3 ++ (wsL_law_r4 ++ (wsL_law_r5 ++ (wsL_law_r6 ++ (wsL_law_r7 ++ (wsL_law_r8 ++ (wsL_law_r9 ++ (wsL_law_r10 ++ (wsL_law_r11 ++ (wsL_law_r12 ++ (wsL_law_r13 ++ (wsL_law_r14 ++ (wsL_law_r15 ++ (wsL_law_r16 ++ (wsL_law_r17 ++ (wsL_law_r18 ++ wsL_law_r19)))))))))))))))))) ++ wsX00 ++ wsX10 ++ ([] : List Cond)
abbrev vwCl : List vw_C := [(RX0, TX0, 9), (RX1, TX1, 9)]
end
section
/-! numbers: an int on the machine is shown as the Int that it stands for -/
abbrev inI (a : Int) : Prop := -2147483648 ≤ a ∧ a ≤ 2147483647
abbrev inL (a : Int) : Prop := -9223372036854775808 ≤ a ∧ a ≤ 9223372036854775807
def jI (a : Int) : Value := .int (Int32.ofInt a)
def jL (a : Int) : Value := .long (Int64.ofInt a)
def jF (H : Int → Int) : Nat → Int32 := fun k => Int32.ofInt (H (k : Int))
noncomputable def bI (P : Prop) : Int := @ite _ P (Classical.propDecidable P) 1 0
theorem bI_t {P : Prop} (h : P) : (1 : Int) = bI P := by
  unfold bI
  exact (@if_pos P (Classical.propDecidable P) h _ _ _).symm
theorem bI_f {P : Prop} (h : ¬ P) : (0 : Int) = bI P := by
  unfold bI
  exact (@if_neg P (Classical.propDecidable P) h _ _ _).symm
theorem bI_c {P : Prop} : (bI P = 1 ∧ P) ∨ (bI P = 0 ∧ ¬ P) := by
  by_cases h : P
  · exact Or.inl ⟨(bI_t h).symm, h⟩
  · exact Or.inr ⟨(bI_f h).symm, h⟩
theorem bI_x {P Q : Prop} (h : P ↔ Q) : bI P = bI Q := by rw [propext h]
theorem tI {a : Int} (h : inI a) : (Int32.ofInt a).toInt = a := Int32.toInt_ofInt_of_le (by omega) (by omega)
theorem tL {a : Int} (h : inL a) : (Int64.ofInt a).toInt = a := Int64.toInt_ofInt_of_le (by omega) (by omega)
theorem inI_toInt (x : Int32) : inI x.toInt := by
  have h1 := x.le_toInt
  have h2 := x.toInt_lt
  omega
theorem jI_toInt (x : Int32) : Value.int x = jI x.toInt := by
  unfold jI
  rw [Int32.ofInt_toInt]
theorem oI_inj {a b : Int} (ha : inI a) (hb : inI b) : Int32.ofInt a = Int32.ofInt b ↔ a = b := by
  rw [← Int32.toInt_inj, tI ha, tI hb]
theorem oI_lt {a b : Int} (ha : inI a) (hb : inI b) : Int32.ofInt a < Int32.ofInt b ↔ a < b := by
  rw [Int32.lt_iff_toInt_lt, tI ha, tI hb]
theorem oI_le {a b : Int} (ha : inI a) (hb : inI b) : Int32.ofInt a ≤ Int32.ofInt b ↔ a ≤ b := by
  rw [Int32.le_iff_toInt_le, tI ha, tI hb]
theorem oI_zero : (0 : Int32) = Int32.ofInt 0 := by decide
theorem in0 : inI 0 := by decide
theorem oL_inj {a b : Int} (ha : inL a) (hb : inL b) : Int64.ofInt a = Int64.ofInt b ↔ a = b := by
  rw [← Int64.toInt_inj, tL ha, tL hb]
theorem oL_lt {a b : Int} (ha : inL a) (hb : inL b) : Int64.ofInt a < Int64.ofInt b ↔ a < b := by
  rw [Int64.lt_iff_toInt_lt, tL ha, tL hb]
theorem oI_div {a b : Int} (ha : inI a) (hb : 0 < b ∧ b ≤ 2147483647) : Int32.ofInt a / Int32.ofInt b = Int32.ofInt (a.tdiv b) := by
  have hb2 : inI b := by omega
  rw [← Int32.toInt_inj, Int32.toInt_div_of_ne_right, tI ha, tI hb2, tI]
  · have h1 := Int.natAbs_tdiv_le_natAbs a b
    by_cases h : a = -2147483648
    · subst h
      by_cases h9 : b = 1
      · subst h9
        decide
      · have h3 : Int.tdiv (-2147483648) b = -(Int.tdiv 2147483648 b) := Int.neg_tdiv ..
        have h4 := Int.tdiv_eq_ediv_of_nonneg (a := 2147483648) (b := b) (by decide)
        have h5 : (2147483648 : Int) / b ≤ 2147483648 / 2 := by
          refine Int.ediv_le_of_le_mul (by omega) ?_
          have : (2147483648 : Int) / 2 = 1073741824 := by decide
          omega
        have h6 : 0 ≤ (2147483648 : Int) / b := Int.ediv_nonneg (by decide) (by omega)
        have : (2147483648 : Int) / 2 = 1073741824 := by decide
        omega
    · omega
  · intro h
    have h2 := congrArg Int32.toInt h
    rw [tI hb2] at h2
    have h3 : (-1 : Int32).toInt = -1 := by decide
    omega
theorem oL_div {a b : Int} (ha : inL a) (hb : 0 < b ∧ b ≤ 9223372036854775807) (ha2 : -9223372036854775808 < a) : Int64.ofInt a / Int64.ofInt b = Int64.ofInt (a.tdiv b) := by
  have hb2 : inL b := by omega
  rw [← Int64.toInt_inj, Int64.toInt_div_of_ne_right, tL ha, tL hb2, tL]
  · have h1 := Int.natAbs_tdiv_le_natAbs a b
    omega
  · intro h
    have h2 := congrArg Int64.toInt h
    rw [tL hb2] at h2
    have h3 : (-1 : Int64).toInt = -1 := by decide
    omega
theorem oI_ne {b : Int} (hb : 0 < b ∧ b ≤ 2147483647) : ¬ Int32.ofInt b = 0 := by
  rw [oI_zero, oI_inj (by omega) in0]
  omega
theorem oL_ne {b : Int} (hb : 0 < b ∧ b ≤ 9223372036854775807) : ¬ Int64.ofInt b = 0 := by
  have h : (0 : Int64) = Int64.ofInt 0 := by decide
  rw [h, oL_inj (by omega) (by decide)]
  omega
theorem oI_rem {a b : Int} (ha : inI a) (hb : 0 < b ∧ b ≤ 2147483647) : Int32.ofInt a - Int32.ofInt a / Int32.ofInt b * Int32.ofInt b = Int32.ofInt (a.tmod b) := by
  rw [oI_div ha hb, ← Int32.ofInt_mul, ← Int32.ofInt_sub, Int.tmod_def, Int.mul_comm b]
theorem oL_rem {a b : Int} (ha : inL a) (hb : 0 < b ∧ b ≤ 9223372036854775807) (ha2 : -9223372036854775808 < a) : Int64.ofInt a - Int64.ofInt a / Int64.ofInt b * Int64.ofInt b = Int64.ofInt (a.tmod b) := by
  rw [oL_div ha hb ha2, ← Int64.ofInt_mul, ← Int64.ofInt_sub, Int.tmod_def, Int.mul_comm b]
theorem o_i2l {a : Int} (ha : inI a) : (Int32.ofInt a).toInt64 = Int64.ofInt a := by
  rw [← Int64.toInt_inj, Int32.toInt_toInt64, tI ha, tL (by omega)]
theorem o_nat {a : Int} (ha : inI a) : (Int32.ofInt a).toNatClampNeg = a.toNat := Int32.toNatClampNeg_ofInt_of_le (by omega) (by omega)
theorem o_in {a : Int} {n : Nat} (h : 0 ≤ a ∧ a < (n : Int)) (ha : inI a) : vp_in (Int32.ofInt a) n := by
  unfold vp_in
  rw [o_nat ha, oI_zero, oI_lt ha in0]
  omega
theorem jF_at {H : Int → Int} {a : Int} (h : 0 ≤ a) (ha : inI a) : jF H (Int32.ofInt a).toNatClampNeg = Int32.ofInt (H a) := by
  rw [o_nat ha]
  unfold jF
  rw [Int.toNat_of_nonneg h]
def jU (H : Int → Int) (k x : Int) : Int → Int := fun j => if j = k then x else H j
theorem jU_self (H : Int → Int) (k x : Int) : jU H k x k = x := by simp [jU]
theorem jU_ne (H : Int → Int) {k j : Int} (x : Int) (h : j ≠ k) : jU H k x j = H j := by simp [jU, h]
theorem jF_up {H : Int → Int} {a x : Int} (h : 0 ≤ a) (ha : inI a) : upd (jF H) (Int32.ofInt a).toNatClampNeg (Int32.ofInt x) = jF (jU H a x) := by
  rw [o_nat ha]
  funext q
  unfold upd jF jU
  by_cases hq : q = a.toNat
  · rw [if_pos hq, if_pos (by omega)]
  · rw [if_neg hq, if_neg (by omega)]
/-! intervals -/
theorem iv_add {a b la ua lb ub lo hi : Int} (ha : la ≤ a ∧ a ≤ ua) (hb : lb ≤ b ∧ b ≤ ub) (h : (decide (lo ≤ la + lb) && decide (ua + ub ≤ hi)) = true) : lo ≤ a + b ∧ a + b ≤ hi := by
  simp only [Bool.and_eq_true, decide_eq_true_eq] at h
  omega
theorem iv_sub {a b la ua lb ub lo hi : Int} (ha : la ≤ a ∧ a ≤ ua) (hb : lb ≤ b ∧ b ≤ ub) (h : (decide (lo ≤ la - ub) && decide (ua - lb ≤ hi)) = true) : lo ≤ a - b ∧ a - b ≤ hi := by
  simp only [Bool.and_eq_true, decide_eq_true_eq] at h
  omega
theorem iv_neg {a la ua lo hi : Int} (ha : la ≤ a ∧ a ≤ ua) (h : (decide (lo ≤ -ua) && decide (-la ≤ hi)) = true) : lo ≤ -a ∧ -a ≤ hi := by
  simp only [Bool.and_eq_true, decide_eq_true_eq] at h
  omega
theorem iv_mulp {a b la ua lb ub lo hi : Int} (ha : la ≤ a ∧ a ≤ ua) (hb : lb ≤ b ∧ b ≤ ub) (h : (decide (0 ≤ la) && (decide (0 ≤ lb) && (decide (lo ≤ la * lb) && decide (ua * ub ≤ hi)))) = true) : lo ≤ a * b ∧ a * b ≤ hi := by
  simp only [Bool.and_eq_true, decide_eq_true_eq] at h
  have h1 : la * lb ≤ a * b := Int.mul_le_mul ha.1 hb.1 h.2.1 (by omega)
  have h2 : a * b ≤ ua * ub := Int.mul_le_mul ha.2 hb.2 (by omega) (by omega)
  omega
theorem mul_lo {a b A B : Int} (ha : -A ≤ a ∧ a ≤ A) (hb : -B ≤ b ∧ b ≤ B) : -(A * B) ≤ a * b ∧ a * b ≤ A * B := by
  have hA : 0 ≤ A := by omega
  have hB : 0 ≤ B := by omega
  have h1 : a.natAbs ≤ A.natAbs := by omega
  have h2 : b.natAbs ≤ B.natAbs := by omega
  have h3 : (a * b).natAbs ≤ (A * B).natAbs := by
    rw [Int.natAbs_mul, Int.natAbs_mul]
    exact Nat.mul_le_mul h1 h2
  have h4 : 0 ≤ A * B := Int.mul_nonneg hA hB
  omega
theorem iv_mul {a b la ua lb ub lo hi : Int} (A B : Int) (ha : la ≤ a ∧ a ≤ ua) (hb : lb ≤ b ∧ b ≤ ub) (h : (decide (-A ≤ la) && (decide (ua ≤ A) && (decide (-B ≤ lb) && (decide (ub ≤ B) && (decide (lo ≤ -(A * B)) && decide (A * B ≤ hi)))))) = true) : lo ≤ a * b ∧ a * b ≤ hi := by
  simp only [Bool.and_eq_true, decide_eq_true_eq] at h
  have h1 := mul_lo (a := a) (b := b) (A := A) (B := B) (by omega) (by omega)
  omega
theorem iv_div {a b la ua lo hi : Int} (ha : la ≤ a ∧ a ≤ ua) (hb : 0 < b) (h : (decide (0 ≤ la) && (decide (lo ≤ 0) && decide (ua ≤ hi))) = true) : lo ≤ a / b ∧ a / b ≤ hi := by
  simp only [Bool.and_eq_true, decide_eq_true_eq] at h
  have h1 : 0 ≤ a / b := Int.ediv_nonneg (by omega) (by omega)
  have h2 : a / b ≤ a := Int.ediv_le_self b (by omega)
  omega
theorem iv_mod {a b lb ub lo hi : Int} (hb : lb ≤ b ∧ b ≤ ub) (h : (decide (0 < lb) && (decide (lo ≤ 0) && decide (ub - 1 ≤ hi))) = true) : lo ≤ a % b ∧ a % b ≤ hi := by
  simp only [Bool.and_eq_true, decide_eq_true_eq] at h
  have h1 := Int.emod_nonneg a (b := b) (by omega)
  have h2 := Int.emod_lt_of_pos a (b := b) (by omega)
  omega
theorem iv_tdiv {a b la ua lo hi : Int} (ha : la ≤ a ∧ a ≤ ua) (h : (decide (lo ≤ la) && (decide (lo ≤ -ua) && (decide (ua ≤ hi) && decide (-la ≤ hi)))) = true) : lo ≤ a.tdiv b ∧ a.tdiv b ≤ hi := by
  simp only [Bool.and_eq_true, decide_eq_true_eq] at h
  have h1 := Int.natAbs_tdiv_le_natAbs a b
  omega
theorem iv_tmod {a b lb ub lo hi : Int} (hb : lb ≤ b ∧ b ≤ ub) (h : (decide (0 < lb) && (decide (lo ≤ -(ub - 1)) && decide (ub - 1 ≤ hi))) = true) : lo ≤ a.tmod b ∧ a.tmod b ≤ hi := by
  simp only [Bool.and_eq_true, decide_eq_true_eq] at h
  have h1 := Int.tmod_lt_of_pos a (b := b) (by omega)
  have h2 := Int.tmod_lt_of_pos (-a) (b := b) (by omega)
  rw [Int.neg_tmod] at h2
  omega
theorem iv_i {a lo hi : Int} (ha : lo ≤ a ∧ a ≤ hi) (h : (decide (-2147483648 ≤ lo) && decide (hi ≤ 2147483647)) = true) : inI a := by
  simp only [Bool.and_eq_true, decide_eq_true_eq] at h
  omega
theorem iv_l {a lo hi : Int} (ha : lo ≤ a ∧ a ≤ hi) (h : (decide (-9223372036854775808 ≤ lo) && decide (hi ≤ 9223372036854775807)) = true) : inL a := by
  simp only [Bool.and_eq_true, decide_eq_true_eq] at h
  omega
theorem iv_pi {a lo hi : Int} (ha : lo ≤ a ∧ a ≤ hi) (h : (decide (0 < lo) && decide (hi ≤ 2147483647)) = true) : 0 < a ∧ a ≤ 2147483647 := by
  simp only [Bool.and_eq_true, decide_eq_true_eq] at h
  omega
theorem iv_pl {a lo hi : Int} (ha : lo ≤ a ∧ a ≤ hi) (h : (decide (0 < lo) && decide (hi ≤ 9223372036854775807)) = true) : 0 < a ∧ a ≤ 9223372036854775807 := by
  simp only [Bool.and_eq_true, decide_eq_true_eq] at h
  omega
theorem iv_ix {a lo hi : Int} {n : Nat} (ha : lo ≤ a ∧ a ≤ hi) (h : (decide (0 ≤ lo) && (decide (hi < (n : Int)) && decide (hi ≤ 2147483647))) = true) : 0 ≤ a ∧ a < (n : Int) ∧ inI a := by
  simp only [Bool.and_eq_true, decide_eq_true_eq] at h
  omega
theorem iv_nn {a lo hi : Int} (ha : lo ≤ a ∧ a ≤ hi) (h : decide (0 ≤ lo) = true) : 0 ≤ a := by
  simp only [decide_eq_true_eq] at h
  omega
theorem iv_gt {a lo hi : Int} (ha : lo ≤ a ∧ a ≤ hi) (h : decide (-9223372036854775808 < lo) = true) : -9223372036854775808 < a := by
  simp only [decide_eq_true_eq] at h
  omega
theorem iv_w {a la ua lo hi : Int} (ha : la ≤ a ∧ a ≤ ua) (h : (decide (lo ≤ la) && decide (ua ≤ hi)) = true) : lo ≤ a ∧ a ≤ hi := by
  simp only [Bool.and_eq_true, decide_eq_true_eq] at h
  omega
/-! rows -/
section JR
variable {p : Program} {l : Launch} {e : Env} {R : Room} {s : State} {m : MethodId} {args : Array Value} {below : List Frame} {meth : Method} {c : Code} {H : Heap} {locs : List Loc} {cells slots : Nat} {Q : State → Prop}
variable {cc : ByteArray} {nL : Nat} {Ts : List Cond} {own : String} {pc : Nat} {ls : Array Slot} {rest : List Value}
theorem j_iconst (S : CallFix p m c cc nL s args Ts own) {n : Int} (hdg : decode cc pc = .ok (.iconst n, 1)) (k : W p l e R s m args below meth c H locs cells slots Q (F0 m (pc + 1) ls (jI n :: rest))) : W p l e R s m args below meth c H locs cells slots Q (F0 m pc ls rest) := lv_iconst S.1 S.2.1 hdg rfl k
theorem j_bipush (S : CallFix p m c cc nL s args Ts own) {n : Int} (hdg : decode cc pc = .ok (.bipush n, 2)) (hv : (Int8.ofInt n).toInt32 = Int32.ofInt n) (k : W p l e R s m args below meth c H locs cells slots Q (F0 m (pc + 2) ls (jI n :: rest))) : W p l e R s m args below meth c H locs cells slots Q (F0 m pc ls rest) := lv_bipush S.1 S.2.1 hdg hv k
theorem j_sipush (S : CallFix p m c cc nL s args Ts own) {n : Int} (hdg : decode cc pc = .ok (.sipush n, 3)) (hv : (Int16.ofInt n).toInt32 = Int32.ofInt n) (k : W p l e R s m args below meth c H locs cells slots Q (F0 m (pc + 3) ls (jI n :: rest))) : W p l e R s m args below meth c H locs cells slots Q (F0 m pc ls rest) := lv_sipush S.1 S.2.1 hdg hv k
theorem j_lconst (S : CallFix p m c cc nL s args Ts own) {n : Fin 2} {a : Int} (hdg : decode cc pc = .ok (.lconst n, 1)) (hv : Int64.ofNat (n : Nat) = Int64.ofInt a) (k : W p l e R s m args below meth c H locs cells slots Q (F0 m (pc + 1) ls (jL a :: rest))) : W p l e R s m args below meth c H locs cells slots Q (F0 m pc ls rest) := lv_lconst S.1 S.2.1 hdg hv k
theorem j_ldc (S : CallFix p m c cc nL s args Ts own) {index : Nat} {v : Int32} {n : Int} (hc : (Jvm.Cond.constant own index v).before args s = true) (hv : v = Int32.ofInt n) (hdg : decode cc pc = .ok (.ldc index, 2)) (k : W p l e R s m args below meth c H locs cells slots Q (F0 m (pc + 2) ls (jI n :: rest))) : W p l e R s m args below meth c H locs cells slots Q (F0 m pc ls rest) := by
  subst hv
  exact lv_ldc S.1 S.2.1 S.2.2.2.1 hc hdg k
theorem j_ldc2 (S : CallFix p m c cc nL s args Ts own) {index : Nat} {v : Int64} {n : Int} (hc : (Jvm.Cond.constantLong own index v).before args s = true) (hv : v = Int64.ofInt n) (hdg : decode cc pc = .ok (.ldc2_w index, 3)) (k : W p l e R s m args below meth c H locs cells slots Q (F0 m (pc + 3) ls (jL n :: rest))) : W p l e R s m args below meth c H locs cells slots Q (F0 m pc ls rest) := by
  subst hv
  exact lv_ldc2 S.1 S.2.1 S.2.2.2.1 hc hdg k
theorem j_iload_n (S : CallFix p m c cc nL s args Ts own) {k : Fin 4} {i : Nat} {x : Int} (hdg : decode cc pc = .ok (.iload_n k, 1)) (hi : (k : Nat) = i) (hl : ls[i]? = some (.val (jI x))) (kk : W p l e R s m args below meth c H locs cells slots Q (F0 m (pc + 1) ls (jI x :: rest))) : W p l e R s m args below meth c H locs cells slots Q (F0 m pc ls rest) := lv_iload_n S.1 S.2.1 hdg hi hl kk
theorem j_iload (S : CallFix p m c cc nL s args Ts own) {i : Nat} {x : Int} (hdg : decode cc pc = .ok (.iload i, 2)) (hl : ls[i]? = some (.val (jI x))) (kk : W p l e R s m args below meth c H locs cells slots Q (F0 m (pc + 2) ls (jI x :: rest))) : W p l e R s m args below meth c H locs cells slots Q (F0 m pc ls rest) := lv_iload S.1 S.2.1 hdg hl kk
theorem j_lload_n (S : CallFix p m c cc nL s args Ts own) {k : Fin 4} {i : Nat} {x : Int} (hdg : decode cc pc = .ok (.lload_n k, 1)) (hi : (k : Nat) = i) (hl : ls[i]? = some (.val (jL x))) (kk : W p l e R s m args below meth c H locs cells slots Q (F0 m (pc + 1) ls (jL x :: rest))) : W p l e R s m args below meth c H locs cells slots Q (F0 m pc ls rest) := lv_lload_n S.1 S.2.1 hdg hi hl kk
theorem j_lload (S : CallFix p m c cc nL s args Ts own) {i : Nat} {x : Int} (hdg : decode cc pc = .ok (.lload i, 2)) (hl : ls[i]? = some (.val (jL x))) (kk : W p l e R s m args below meth c H locs cells slots Q (F0 m (pc + 2) ls (jL x :: rest))) : W p l e R s m args below meth c H locs cells slots Q (F0 m pc ls rest) := lv_lload S.1 S.2.1 hdg hl kk
theorem j_istore_n (S : CallFix p m c cc nL s args Ts own) {k : Fin 4} {i : Nat} {x : Int} {lv lv' : List (Nat × Value)} (hdg : decode cc pc = .ok (.istore_n k, 1)) (hi : (k : Nat) = i) (h : lv_has ls nL lv) (hn : i < nL) (hl : (i, jI x) :: lv.filter (fun q => !(q.1 == i) && !(q.1 + 1 == i && q.2.category == 2)) = lv') (kk : ∀ ls' : Array Slot, lv_has ls' nL lv' → W p l e R s m args below meth c H locs cells slots Q (F0 m (pc + 1) ls' rest)) : W p l e R s m args below meth c H locs cells slots Q (F0 m pc ls (jI x :: rest)) := lv_istore_n S.1 S.2.1 hdg hi h hn hl kk
theorem j_istore (S : CallFix p m c cc nL s args Ts own) {i : Nat} {x : Int} {lv lv' : List (Nat × Value)} (hdg : decode cc pc = .ok (.istore i, 2)) (h : lv_has ls nL lv) (hn : i < nL) (hl : (i, jI x) :: lv.filter (fun q => !(q.1 == i) && !(q.1 + 1 == i && q.2.category == 2)) = lv') (kk : ∀ ls' : Array Slot, lv_has ls' nL lv' → W p l e R s m args below meth c H locs cells slots Q (F0 m (pc + 2) ls' rest)) : W p l e R s m args below meth c H locs cells slots Q (F0 m pc ls (jI x :: rest)) := lv_istore S.1 S.2.1 hdg h hn hl kk
theorem j_lstore_n (S : CallFix p m c cc nL s args Ts own) {k : Fin 4} {i : Nat} {x : Int} {lv lv' : List (Nat × Value)} (hdg : decode cc pc = .ok (.lstore_n k, 1)) (hi : (k : Nat) = i) (h : lv_has ls nL lv) (hn : i + 1 < nL) (hl : (i, jL x) :: lv.filter (fun q => !(q.1 == i) && (!(q.1 == i + 1) && !(q.1 + 1 == i && q.2.category == 2))) = lv') (kk : ∀ ls' : Array Slot, lv_has ls' nL lv' → W p l e R s m args below meth c H locs cells slots Q (F0 m (pc + 1) ls' rest)) : W p l e R s m args below meth c H locs cells slots Q (F0 m pc ls (jL x :: rest)) := lv_lstore_n S.1 S.2.1 hdg hi h hn hl kk
theorem j_lstore (S : CallFix p m c cc nL s args Ts own) {i : Nat} {x : Int} {lv lv' : List (Nat × Value)} (hdg : decode cc pc = .ok (.lstore i, 2)) (h : lv_has ls nL lv) (hn : i + 1 < nL) (hl : (i, jL x) :: lv.filter (fun q => !(q.1 == i) && (!(q.1 == i + 1) && !(q.1 + 1 == i && q.2.category == 2))) = lv') (kk : ∀ ls' : Array Slot, lv_has ls' nL lv' → W p l e R s m args below meth c H locs cells slots Q (F0 m (pc + 2) ls' rest)) : W p l e R s m args below meth c H locs cells slots Q (F0 m pc ls (jL x :: rest)) := lv_lstore S.1 S.2.1 hdg h hn hl kk
theorem j_iinc (S : CallFix p m c cc nL s args Ts own) {i k : Nat} {n x y : Int} {lv lv' : List (Nat × Value)} (hdg : decode cc pc = .ok (.iinc i n, 3)) (h : lv_has ls nL lv) (hk : lv[k]? = some (i, jI x)) (hy : x + n = y) (hn : i < nL) (hl : (i, jI y) :: lv.filter (fun q => !(q.1 == i) && !(q.1 + 1 == i && q.2.category == 2)) = lv') (kk : ∀ ls' : Array Slot, lv_has ls' nL lv' → W p l e R s m args below meth c H locs cells slots Q (F0 m (pc + 3) ls' rest)) : W p l e R s m args below meth c H locs cells slots Q (F0 m pc ls rest) := lv_iinc S.1 S.2.1 hdg h hk (by rw [← hy, Int32.ofInt_add]) hn hl kk
theorem j_iadd (S : CallFix p m c cc nL s args Ts own) {a b : Int} (hdg : decode cc pc = .ok (.iadd, 1)) (k : W p l e R s m args below meth c H locs cells slots Q (F0 m (pc + 1) ls (jI (a + b) :: rest))) : W p l e R s m args below meth c H locs cells slots Q (F0 m pc ls (jI b :: jI a :: rest)) := lv_iadd S.1 S.2.1 hdg (by rw [← Int32.ofInt_add]; exact k)
theorem j_ladd (S : CallFix p m c cc nL s args Ts own) {a b : Int} (hdg : decode cc pc = .ok (.ladd, 1)) (k : W p l e R s m args below meth c H locs cells slots Q (F0 m (pc + 1) ls (jL (a + b) :: rest))) : W p l e R s m args below meth c H locs cells slots Q (F0 m pc ls (jL b :: jL a :: rest)) := lv_ladd S.1 S.2.1 hdg (by rw [← Int64.ofInt_add]; exact k)
theorem j_isub (S : CallFix p m c cc nL s args Ts own) {a b : Int} (hdg : decode cc pc = .ok (.isub, 1)) (k : W p l e R s m args below meth c H locs cells slots Q (F0 m (pc + 1) ls (jI (a - b) :: rest))) : W p l e R s m args below meth c H locs cells slots Q (F0 m pc ls (jI b :: jI a :: rest)) := lv_isub S.1 S.2.1 hdg (by rw [← Int32.ofInt_sub]; exact k)
theorem j_lsub (S : CallFix p m c cc nL s args Ts own) {a b : Int} (hdg : decode cc pc = .ok (.lsub, 1)) (k : W p l e R s m args below meth c H locs cells slots Q (F0 m (pc + 1) ls (jL (a - b) :: rest))) : W p l e R s m args below meth c H locs cells slots Q (F0 m pc ls (jL b :: jL a :: rest)) := lv_lsub S.1 S.2.1 hdg (by rw [← Int64.ofInt_sub]; exact k)
theorem j_imul (S : CallFix p m c cc nL s args Ts own) {a b : Int} (hdg : decode cc pc = .ok (.imul, 1)) (k : W p l e R s m args below meth c H locs cells slots Q (F0 m (pc + 1) ls (jI (a * b) :: rest))) : W p l e R s m args below meth c H locs cells slots Q (F0 m pc ls (jI b :: jI a :: rest)) := lv_imul S.1 S.2.1 hdg (by rw [← Int32.ofInt_mul]; exact k)
theorem j_lmul (S : CallFix p m c cc nL s args Ts own) {a b : Int} (hdg : decode cc pc = .ok (.lmul, 1)) (k : W p l e R s m args below meth c H locs cells slots Q (F0 m (pc + 1) ls (jL (a * b) :: rest))) : W p l e R s m args below meth c H locs cells slots Q (F0 m pc ls (jL b :: jL a :: rest)) := lv_lmul S.1 S.2.1 hdg (by rw [← Int64.ofInt_mul]; exact k)
theorem j_ineg (S : CallFix p m c cc nL s args Ts own) {a : Int} (hdg : decode cc pc = .ok (.ineg, 1)) (k : W p l e R s m args below meth c H locs cells slots Q (F0 m (pc + 1) ls (jI (-a) :: rest))) : W p l e R s m args below meth c H locs cells slots Q (F0 m pc ls (jI a :: rest)) := lv_ineg S.1 S.2.1 hdg (by rw [← Int32.ofInt_neg]; exact k)
theorem j_lneg (S : CallFix p m c cc nL s args Ts own) {a : Int} (hdg : decode cc pc = .ok (.lneg, 1)) (k : W p l e R s m args below meth c H locs cells slots Q (F0 m (pc + 1) ls (jL (-a) :: rest))) : W p l e R s m args below meth c H locs cells slots Q (F0 m pc ls (jL a :: rest)) := lv_lneg S.1 S.2.1 hdg (by rw [← Int64.ofInt_neg]; exact k)
theorem j_idiv (S : CallFix p m c cc nL s args Ts own) {a b : Int} (hdg : decode cc pc = .ok (.idiv, 1)) (ha : inI a) (hb : 0 < b ∧ b ≤ 2147483647) (k : W p l e R s m args below meth c H locs cells slots Q (F0 m (pc + 1) ls (jI (a.tdiv b) :: rest))) : W p l e R s m args below meth c H locs cells slots Q (F0 m pc ls (jI b :: jI a :: rest)) := lv_idiv S.1 S.2.1 hdg (oI_ne hb) (by rw [oI_div ha hb]; exact k)
theorem j_idivp (S : CallFix p m c cc nL s args Ts own) {a b : Int} (hdg : decode cc pc = .ok (.idiv, 1)) (ha : inI a) (hb : 0 < b ∧ b ≤ 2147483647) (h0 : 0 ≤ a) (k : W p l e R s m args below meth c H locs cells slots Q (F0 m (pc + 1) ls (jI (a / b) :: rest))) : W p l e R s m args below meth c H locs cells slots Q (F0 m pc ls (jI b :: jI a :: rest)) := j_idiv S hdg ha hb (by rw [Int.tdiv_eq_ediv_of_nonneg h0]; exact k)
theorem j_irem (S : CallFix p m c cc nL s args Ts own) {a b : Int} (hdg : decode cc pc = .ok (.irem, 1)) (ha : inI a) (hb : 0 < b ∧ b ≤ 2147483647) (k : W p l e R s m args below meth c H locs cells slots Q (F0 m (pc + 1) ls (jI (a.tmod b) :: rest))) : W p l e R s m args below meth c H locs cells slots Q (F0 m pc ls (jI b :: jI a :: rest)) := lv_irem S.1 S.2.1 hdg (oI_ne hb) (by rw [oI_rem ha hb]; exact k)
theorem j_iremp (S : CallFix p m c cc nL s args Ts own) {a b : Int} (hdg : decode cc pc = .ok (.irem, 1)) (ha : inI a) (hb : 0 < b ∧ b ≤ 2147483647) (h0 : 0 ≤ a) (k : W p l e R s m args below meth c H locs cells slots Q (F0 m (pc + 1) ls (jI (a % b) :: rest))) : W p l e R s m args below meth c H locs cells slots Q (F0 m pc ls (jI b :: jI a :: rest)) := j_irem S hdg ha hb (by rw [Int.tmod_eq_emod_of_nonneg h0]; exact k)
theorem j_ldiv (S : CallFix p m c cc nL s args Ts own) {a b : Int} (hdg : decode cc pc = .ok (.ldiv, 1)) (ha : inL a) (hb : 0 < b ∧ b ≤ 9223372036854775807) (h2 : -9223372036854775808 < a) (k : W p l e R s m args below meth c H locs cells slots Q (F0 m (pc + 1) ls (jL (a.tdiv b) :: rest))) : W p l e R s m args below meth c H locs cells slots Q (F0 m pc ls (jL b :: jL a :: rest)) := lv_ldiv S.1 S.2.1 hdg (oL_ne hb) (by rw [oL_div ha hb h2]; exact k)
theorem j_ldivp (S : CallFix p m c cc nL s args Ts own) {a b : Int} (hdg : decode cc pc = .ok (.ldiv, 1)) (ha : inL a) (hb : 0 < b ∧ b ≤ 9223372036854775807) (h0 : 0 ≤ a) (k : W p l e R s m args below meth c H locs cells slots Q (F0 m (pc + 1) ls (jL (a / b) :: rest))) : W p l e R s m args below meth c H locs cells slots Q (F0 m pc ls (jL b :: jL a :: rest)) := j_ldiv S hdg ha hb (by omega) (by rw [Int.tdiv_eq_ediv_of_nonneg h0]; exact k)
theorem j_lrem (S : CallFix p m c cc nL s args Ts own) {a b : Int} (hdg : decode cc pc = .ok (.lrem, 1)) (ha : inL a) (hb : 0 < b ∧ b ≤ 9223372036854775807) (h2 : -9223372036854775808 < a) (k : W p l e R s m args below meth c H locs cells slots Q (F0 m (pc + 1) ls (jL (a.tmod b) :: rest))) : W p l e R s m args below meth c H locs cells slots Q (F0 m pc ls (jL b :: jL a :: rest)) := lv_lrem S.1 S.2.1 hdg (oL_ne hb) (by rw [oL_rem ha hb h2]; exact k)
theorem j_lremp (S : CallFix p m c cc nL s args Ts own) {a b : Int} (hdg : decode cc pc = .ok (.lrem, 1)) (ha : inL a) (hb : 0 < b ∧ b ≤ 9223372036854775807) (h0 : 0 ≤ a) (k : W p l e R s m args below meth c H locs cells slots Q (F0 m (pc + 1) ls (jL (a % b) :: rest))) : W p l e R s m args below meth c H locs cells slots Q (F0 m pc ls (jL b :: jL a :: rest)) := j_lrem S hdg ha hb (by omega) (by rw [Int.tmod_eq_emod_of_nonneg h0]; exact k)
theorem j_i2l (S : CallFix p m c cc nL s args Ts own) {a : Int} (hdg : decode cc pc = .ok (.i2l, 1)) (ha : inI a) (k : W p l e R s m args below meth c H locs cells slots Q (F0 m (pc + 1) ls (jL a :: rest))) : W p l e R s m args below meth c H locs cells slots Q (F0 m pc ls (jI a :: rest)) := lv_i2l S.1 S.2.1 hdg (o_i2l ha) k
theorem j_l2i (S : CallFix p m c cc nL s args Ts own) {a : Int} (hdg : decode cc pc = .ok (.l2i, 1)) (k : W p l e R s m args below meth c H locs cells slots Q (F0 m (pc + 1) ls (jI a :: rest))) : W p l e R s m args below meth c H locs cells slots Q (F0 m pc ls (jL a :: rest)) := lv_l2i S.1 S.2.1 hdg Int64.toInt32_ofInt k
theorem j_goto (S : CallFix p m c cc nL s args Ts own) {off : Int} {tgt : Nat} (hdg : decode cc pc = .ok (.goto off, 3)) (ht : (pc : Int) + off = (tgt : Int)) (k : W p l e R s m args below meth c H locs cells slots Q (F0 m tgt ls rest)) : W p l e R s m args below meth c H locs cells slots Q (F0 m pc ls rest) := lv_goto S.1 S.2.1 hdg ht k
theorem j_as {a b : Int} (h : a = b) (k : W p l e R s m args below meth c H locs cells slots Q (F0 m pc ls (jI b :: rest))) : W p l e R s m args below meth c H locs cells slots Q (F0 m pc ls (jI a :: rest)) := h ▸ k
theorem j_asl {a b : Int} (h : a = b) (k : W p l e R s m args below meth c H locs cells slots Q (F0 m pc ls (jL b :: rest))) : W p l e R s m args below meth c H locs cells slots Q (F0 m pc ls (jL a :: rest)) := h ▸ k
theorem j_icmp_eq (S : CallFix p m c cc nL s args Ts own) {a b off : Int} {tgt : Nat} (hdg : decode cc pc = .ok (.if_icmp .eq off, 3)) (ht : (pc : Int) + off = (tgt : Int)) (ha : inI a) (hb : inI b) (kt : a = b → W p l e R s m args below meth c H locs cells slots Q (F0 m tgt ls rest)) (kf : ¬ a = b → W p l e R s m args below meth c H locs cells slots Q (F0 m (pc + 3) ls rest)) : W p l e R s m args below meth c H locs cells slots Q (F0 m pc ls (jI b :: jI a :: rest)) := lv_icmp_eq S.1 S.2.1 hdg ht (fun h => kt ((oI_inj ha hb).mp h)) (fun h => kf (fun q => h ((oI_inj ha hb).mpr q)))
theorem j_if_eq (S : CallFix p m c cc nL s args Ts own) {a off : Int} {tgt : Nat} (hdg : decode cc pc = .ok (.ifCond .eq off, 3)) (ht : (pc : Int) + off = (tgt : Int)) (ha : inI a) (kt : a = 0 → W p l e R s m args below meth c H locs cells slots Q (F0 m tgt ls rest)) (kf : ¬ a = 0 → W p l e R s m args below meth c H locs cells slots Q (F0 m (pc + 3) ls rest)) : W p l e R s m args below meth c H locs cells slots Q (F0 m pc ls (jI a :: rest)) := by
  have hb : inI 0 := in0
  refine lv_if_eq S.1 S.2.1 hdg ht ?_ ?_ <;> rw [oI_zero]
  · exact (fun h => kt ((oI_inj ha hb).mp h))
  · exact (fun h => kf (fun q => h ((oI_inj ha hb).mpr q)))
theorem j_icmp_ne (S : CallFix p m c cc nL s args Ts own) {a b off : Int} {tgt : Nat} (hdg : decode cc pc = .ok (.if_icmp .ne off, 3)) (ht : (pc : Int) + off = (tgt : Int)) (ha : inI a) (hb : inI b) (kt : ¬ a = b → W p l e R s m args below meth c H locs cells slots Q (F0 m tgt ls rest)) (kf : a = b → W p l e R s m args below meth c H locs cells slots Q (F0 m (pc + 3) ls rest)) : W p l e R s m args below meth c H locs cells slots Q (F0 m pc ls (jI b :: jI a :: rest)) := lv_icmp_ne S.1 S.2.1 hdg ht (fun h => kt (fun q => h ((oI_inj ha hb).mpr q))) (fun h => kf ((oI_inj ha hb).mp h))
theorem j_if_ne (S : CallFix p m c cc nL s args Ts own) {a off : Int} {tgt : Nat} (hdg : decode cc pc = .ok (.ifCond .ne off, 3)) (ht : (pc : Int) + off = (tgt : Int)) (ha : inI a) (kt : ¬ a = 0 → W p l e R s m args below meth c H locs cells slots Q (F0 m tgt ls rest)) (kf : a = 0 → W p l e R s m args below meth c H locs cells slots Q (F0 m (pc + 3) ls rest)) : W p l e R s m args below meth c H locs cells slots Q (F0 m pc ls (jI a :: rest)) := by
  have hb : inI 0 := in0
  refine lv_if_ne S.1 S.2.1 hdg ht ?_ ?_ <;> rw [oI_zero]
  · exact (fun h => kt (fun q => h ((oI_inj ha hb).mpr q)))
  · exact (fun h => kf ((oI_inj ha hb).mp h))
theorem j_icmp_lt (S : CallFix p m c cc nL s args Ts own) {a b off : Int} {tgt : Nat} (hdg : decode cc pc = .ok (.if_icmp .lt off, 3)) (ht : (pc : Int) + off = (tgt : Int)) (ha : inI a) (hb : inI b) (kt : a < b → W p l e R s m args below meth c H locs cells slots Q (F0 m tgt ls rest)) (kf : b ≤ a → W p l e R s m args below meth c H locs cells slots Q (F0 m (pc + 3) ls rest)) : W p l e R s m args below meth c H locs cells slots Q (F0 m pc ls (jI b :: jI a :: rest)) := lv_icmp_lt S.1 S.2.1 hdg ht (fun h => kt ((oI_lt ha hb).mp h)) (fun h => kf (Int.not_lt.mp (fun q => h ((oI_lt ha hb).mpr q))))
theorem j_if_lt (S : CallFix p m c cc nL s args Ts own) {a off : Int} {tgt : Nat} (hdg : decode cc pc = .ok (.ifCond .lt off, 3)) (ht : (pc : Int) + off = (tgt : Int)) (ha : inI a) (kt : a < 0 → W p l e R s m args below meth c H locs cells slots Q (F0 m tgt ls rest)) (kf : 0 ≤ a → W p l e R s m args below meth c H locs cells slots Q (F0 m (pc + 3) ls rest)) : W p l e R s m args below meth c H locs cells slots Q (F0 m pc ls (jI a :: rest)) := by
  have hb : inI 0 := in0
  refine lv_if_lt S.1 S.2.1 hdg ht ?_ ?_ <;> rw [oI_zero]
  · exact (fun h => kt ((oI_lt ha hb).mp h))
  · exact (fun h => kf (Int.not_lt.mp (fun q => h ((oI_lt ha hb).mpr q))))
theorem j_icmp_ge (S : CallFix p m c cc nL s args Ts own) {a b off : Int} {tgt : Nat} (hdg : decode cc pc = .ok (.if_icmp .ge off, 3)) (ht : (pc : Int) + off = (tgt : Int)) (ha : inI a) (hb : inI b) (kt : b ≤ a → W p l e R s m args below meth c H locs cells slots Q (F0 m tgt ls rest)) (kf : a < b → W p l e R s m args below meth c H locs cells slots Q (F0 m (pc + 3) ls rest)) : W p l e R s m args below meth c H locs cells slots Q (F0 m pc ls (jI b :: jI a :: rest)) := lv_icmp_ge S.1 S.2.1 hdg ht (fun h => kt ((oI_le hb ha).mp h)) (fun h => kf (Int.not_le.mp (fun q => h ((oI_le hb ha).mpr q))))
theorem j_if_ge (S : CallFix p m c cc nL s args Ts own) {a off : Int} {tgt : Nat} (hdg : decode cc pc = .ok (.ifCond .ge off, 3)) (ht : (pc : Int) + off = (tgt : Int)) (ha : inI a) (kt : 0 ≤ a → W p l e R s m args below meth c H locs cells slots Q (F0 m tgt ls rest)) (kf : a < 0 → W p l e R s m args below meth c H locs cells slots Q (F0 m (pc + 3) ls rest)) : W p l e R s m args below meth c H locs cells slots Q (F0 m pc ls (jI a :: rest)) := by
  have hb : inI 0 := in0
  refine lv_if_ge S.1 S.2.1 hdg ht ?_ ?_ <;> rw [oI_zero]
  · exact (fun h => kt ((oI_le hb ha).mp h))
  · exact (fun h => kf (Int.not_le.mp (fun q => h ((oI_le hb ha).mpr q))))
theorem j_icmp_gt (S : CallFix p m c cc nL s args Ts own) {a b off : Int} {tgt : Nat} (hdg : decode cc pc = .ok (.if_icmp .gt off, 3)) (ht : (pc : Int) + off = (tgt : Int)) (ha : inI a) (hb : inI b) (kt : b < a → W p l e R s m args below meth c H locs cells slots Q (F0 m tgt ls rest)) (kf : a ≤ b → W p l e R s m args below meth c H locs cells slots Q (F0 m (pc + 3) ls rest)) : W p l e R s m args below meth c H locs cells slots Q (F0 m pc ls (jI b :: jI a :: rest)) := lv_icmp_gt S.1 S.2.1 hdg ht (fun h => kt ((oI_lt hb ha).mp h)) (fun h => kf (Int.not_lt.mp (fun q => h ((oI_lt hb ha).mpr q))))
theorem j_if_gt (S : CallFix p m c cc nL s args Ts own) {a off : Int} {tgt : Nat} (hdg : decode cc pc = .ok (.ifCond .gt off, 3)) (ht : (pc : Int) + off = (tgt : Int)) (ha : inI a) (kt : 0 < a → W p l e R s m args below meth c H locs cells slots Q (F0 m tgt ls rest)) (kf : a ≤ 0 → W p l e R s m args below meth c H locs cells slots Q (F0 m (pc + 3) ls rest)) : W p l e R s m args below meth c H locs cells slots Q (F0 m pc ls (jI a :: rest)) := by
  have hb : inI 0 := in0
  refine lv_if_gt S.1 S.2.1 hdg ht ?_ ?_ <;> rw [oI_zero]
  · exact (fun h => kt ((oI_lt hb ha).mp h))
  · exact (fun h => kf (Int.not_lt.mp (fun q => h ((oI_lt hb ha).mpr q))))
theorem j_icmp_le (S : CallFix p m c cc nL s args Ts own) {a b off : Int} {tgt : Nat} (hdg : decode cc pc = .ok (.if_icmp .le off, 3)) (ht : (pc : Int) + off = (tgt : Int)) (ha : inI a) (hb : inI b) (kt : a ≤ b → W p l e R s m args below meth c H locs cells slots Q (F0 m tgt ls rest)) (kf : b < a → W p l e R s m args below meth c H locs cells slots Q (F0 m (pc + 3) ls rest)) : W p l e R s m args below meth c H locs cells slots Q (F0 m pc ls (jI b :: jI a :: rest)) := lv_icmp_le S.1 S.2.1 hdg ht (fun h => kt ((oI_le ha hb).mp h)) (fun h => kf (Int.not_le.mp (fun q => h ((oI_le ha hb).mpr q))))
theorem j_if_le (S : CallFix p m c cc nL s args Ts own) {a off : Int} {tgt : Nat} (hdg : decode cc pc = .ok (.ifCond .le off, 3)) (ht : (pc : Int) + off = (tgt : Int)) (ha : inI a) (kt : a ≤ 0 → W p l e R s m args below meth c H locs cells slots Q (F0 m tgt ls rest)) (kf : 0 < a → W p l e R s m args below meth c H locs cells slots Q (F0 m (pc + 3) ls rest)) : W p l e R s m args below meth c H locs cells slots Q (F0 m pc ls (jI a :: rest)) := by
  have hb : inI 0 := in0
  refine lv_if_le S.1 S.2.1 hdg ht ?_ ?_ <;> rw [oI_zero]
  · exact (fun h => kt ((oI_le ha hb).mp h))
  · exact (fun h => kf (Int.not_le.mp (fun q => h ((oI_le ha hb).mpr q))))
theorem j_ifb_eq (S : CallFix p m c cc nL s args Ts own) {P : Prop} {off : Int} {tgt : Nat} (hdg : decode cc pc = .ok (.ifCond .eq off, 3)) (ht : (pc : Int) + off = (tgt : Int)) (kt : ¬ P → W p l e R s m args below meth c H locs cells slots Q (F0 m tgt ls rest)) (kf : P → W p l e R s m args below meth c H locs cells slots Q (F0 m (pc + 3) ls rest)) : W p l e R s m args below meth c H locs cells slots Q (F0 m pc ls (jI (bI P) :: rest)) := by
  rcases @bI_c P with ⟨e, h⟩ | ⟨e, h⟩ <;> rw [e]
  · exact j_if_eq S hdg ht (by decide) (fun q => absurd q (by decide)) (fun _ => kf h)
  · exact j_if_eq S hdg ht (by decide) (fun _ => kt h) (fun q => absurd rfl q)
theorem j_ifb_ne (S : CallFix p m c cc nL s args Ts own) {P : Prop} {off : Int} {tgt : Nat} (hdg : decode cc pc = .ok (.ifCond .ne off, 3)) (ht : (pc : Int) + off = (tgt : Int)) (kt : P → W p l e R s m args below meth c H locs cells slots Q (F0 m tgt ls rest)) (kf : ¬ P → W p l e R s m args below meth c H locs cells slots Q (F0 m (pc + 3) ls rest)) : W p l e R s m args below meth c H locs cells slots Q (F0 m pc ls (jI (bI P) :: rest)) := by
  rcases @bI_c P with ⟨e, h⟩ | ⟨e, h⟩ <;> rw [e]
  · exact j_if_ne S hdg ht (by decide) (fun _ => kt h) (fun q => absurd q (by decide))
  · exact j_if_ne S hdg ht (by decide) (fun q => absurd rfl q) (fun _ => kf h)
theorem lc_gt {a b : Int} (ha : inL a) (hb : inL b) (h : b < a) : lg_cmp (Int64.ofInt a) (Int64.ofInt b) = Int32.ofInt 1 := by
  unfold lg_cmp
  rw [if_pos ((oL_lt hb ha).mpr h)]
  rfl
theorem lc_eq {a b : Int} (h : a = b) : lg_cmp (Int64.ofInt a) (Int64.ofInt b) = Int32.ofInt 0 := by
  subst h
  unfold lg_cmp
  rw [if_neg (by rw [gt_iff_lt, Int64.lt_iff_toInt_lt]; omega), if_pos rfl]
  rfl
theorem lc_lt {a b : Int} (ha : inL a) (hb : inL b) (h : a < b) : lg_cmp (Int64.ofInt a) (Int64.ofInt b) = Int32.ofInt (-1) := by
  unfold lg_cmp
  rw [if_neg (by rw [gt_iff_lt, oL_lt hb ha]; omega), if_neg (by rw [oL_inj ha hb]; omega)]
  rfl
theorem j_lcmp_eq (S : CallFix p m c cc nL s args Ts own) {a b off : Int} {tgt pc1 : Nat} (hpc : pc + 1 = pc1) (hdg : decode cc pc = .ok (.lcmp, 1)) (hdg2 : decode cc pc1 = .ok (.ifCond .eq off, 3)) (ht : (pc1 : Int) + off = (tgt : Int)) (ha : inL a) (hb : inL b) (kt : a = b → W p l e R s m args below meth c H locs cells slots Q (F0 m tgt ls rest)) (kf : ¬ a = b → W p l e R s m args below meth c H locs cells slots Q (F0 m (pc1 + 3) ls rest)) : W p l e R s m args below meth c H locs cells slots Q (F0 m pc ls (jL b :: jL a :: rest)) := by
  subst hpc
  refine W.lcmp S.1 S.2.1 hdg ?_
  rcases Int.lt_trichotomy a b with h | h | h
  · rw [lc_lt ha hb h]
    exact j_if_eq (a := -1) S hdg2 ht (by decide) (fun q => kt (by omega)) (fun q => kf (by omega))
  · rw [lc_eq h]
    exact j_if_eq (a := 0) S hdg2 ht (by decide) (fun q => kt (by omega)) (fun q => kf (by omega))
  · rw [lc_gt ha hb h]
    exact j_if_eq (a := 1) S hdg2 ht (by decide) (fun q => kt (by omega)) (fun q => kf (by omega))
theorem j_lcmp_ne (S : CallFix p m c cc nL s args Ts own) {a b off : Int} {tgt pc1 : Nat} (hpc : pc + 1 = pc1) (hdg : decode cc pc = .ok (.lcmp, 1)) (hdg2 : decode cc pc1 = .ok (.ifCond .ne off, 3)) (ht : (pc1 : Int) + off = (tgt : Int)) (ha : inL a) (hb : inL b) (kt : ¬ a = b → W p l e R s m args below meth c H locs cells slots Q (F0 m tgt ls rest)) (kf : a = b → W p l e R s m args below meth c H locs cells slots Q (F0 m (pc1 + 3) ls rest)) : W p l e R s m args below meth c H locs cells slots Q (F0 m pc ls (jL b :: jL a :: rest)) := by
  subst hpc
  refine W.lcmp S.1 S.2.1 hdg ?_
  rcases Int.lt_trichotomy a b with h | h | h
  · rw [lc_lt ha hb h]
    exact j_if_ne (a := -1) S hdg2 ht (by decide) (fun q => kt (by omega)) (fun q => kf (by omega))
  · rw [lc_eq h]
    exact j_if_ne (a := 0) S hdg2 ht (by decide) (fun q => kt (by omega)) (fun q => kf (by omega))
  · rw [lc_gt ha hb h]
    exact j_if_ne (a := 1) S hdg2 ht (by decide) (fun q => kt (by omega)) (fun q => kf (by omega))
theorem j_lcmp_lt (S : CallFix p m c cc nL s args Ts own) {a b off : Int} {tgt pc1 : Nat} (hpc : pc + 1 = pc1) (hdg : decode cc pc = .ok (.lcmp, 1)) (hdg2 : decode cc pc1 = .ok (.ifCond .lt off, 3)) (ht : (pc1 : Int) + off = (tgt : Int)) (ha : inL a) (hb : inL b) (kt : a < b → W p l e R s m args below meth c H locs cells slots Q (F0 m tgt ls rest)) (kf : b ≤ a → W p l e R s m args below meth c H locs cells slots Q (F0 m (pc1 + 3) ls rest)) : W p l e R s m args below meth c H locs cells slots Q (F0 m pc ls (jL b :: jL a :: rest)) := by
  subst hpc
  refine W.lcmp S.1 S.2.1 hdg ?_
  rcases Int.lt_trichotomy a b with h | h | h
  · rw [lc_lt ha hb h]
    exact j_if_lt (a := -1) S hdg2 ht (by decide) (fun q => kt (by omega)) (fun q => kf (by omega))
  · rw [lc_eq h]
    exact j_if_lt (a := 0) S hdg2 ht (by decide) (fun q => kt (by omega)) (fun q => kf (by omega))
  · rw [lc_gt ha hb h]
    exact j_if_lt (a := 1) S hdg2 ht (by decide) (fun q => kt (by omega)) (fun q => kf (by omega))
theorem j_lcmp_ge (S : CallFix p m c cc nL s args Ts own) {a b off : Int} {tgt pc1 : Nat} (hpc : pc + 1 = pc1) (hdg : decode cc pc = .ok (.lcmp, 1)) (hdg2 : decode cc pc1 = .ok (.ifCond .ge off, 3)) (ht : (pc1 : Int) + off = (tgt : Int)) (ha : inL a) (hb : inL b) (kt : b ≤ a → W p l e R s m args below meth c H locs cells slots Q (F0 m tgt ls rest)) (kf : a < b → W p l e R s m args below meth c H locs cells slots Q (F0 m (pc1 + 3) ls rest)) : W p l e R s m args below meth c H locs cells slots Q (F0 m pc ls (jL b :: jL a :: rest)) := by
  subst hpc
  refine W.lcmp S.1 S.2.1 hdg ?_
  rcases Int.lt_trichotomy a b with h | h | h
  · rw [lc_lt ha hb h]
    exact j_if_ge (a := -1) S hdg2 ht (by decide) (fun q => kt (by omega)) (fun q => kf (by omega))
  · rw [lc_eq h]
    exact j_if_ge (a := 0) S hdg2 ht (by decide) (fun q => kt (by omega)) (fun q => kf (by omega))
  · rw [lc_gt ha hb h]
    exact j_if_ge (a := 1) S hdg2 ht (by decide) (fun q => kt (by omega)) (fun q => kf (by omega))
theorem j_lcmp_gt (S : CallFix p m c cc nL s args Ts own) {a b off : Int} {tgt pc1 : Nat} (hpc : pc + 1 = pc1) (hdg : decode cc pc = .ok (.lcmp, 1)) (hdg2 : decode cc pc1 = .ok (.ifCond .gt off, 3)) (ht : (pc1 : Int) + off = (tgt : Int)) (ha : inL a) (hb : inL b) (kt : b < a → W p l e R s m args below meth c H locs cells slots Q (F0 m tgt ls rest)) (kf : a ≤ b → W p l e R s m args below meth c H locs cells slots Q (F0 m (pc1 + 3) ls rest)) : W p l e R s m args below meth c H locs cells slots Q (F0 m pc ls (jL b :: jL a :: rest)) := by
  subst hpc
  refine W.lcmp S.1 S.2.1 hdg ?_
  rcases Int.lt_trichotomy a b with h | h | h
  · rw [lc_lt ha hb h]
    exact j_if_gt (a := -1) S hdg2 ht (by decide) (fun q => kt (by omega)) (fun q => kf (by omega))
  · rw [lc_eq h]
    exact j_if_gt (a := 0) S hdg2 ht (by decide) (fun q => kt (by omega)) (fun q => kf (by omega))
  · rw [lc_gt ha hb h]
    exact j_if_gt (a := 1) S hdg2 ht (by decide) (fun q => kt (by omega)) (fun q => kf (by omega))
theorem j_lcmp_le (S : CallFix p m c cc nL s args Ts own) {a b off : Int} {tgt pc1 : Nat} (hpc : pc + 1 = pc1) (hdg : decode cc pc = .ok (.lcmp, 1)) (hdg2 : decode cc pc1 = .ok (.ifCond .le off, 3)) (ht : (pc1 : Int) + off = (tgt : Int)) (ha : inL a) (hb : inL b) (kt : a ≤ b → W p l e R s m args below meth c H locs cells slots Q (F0 m tgt ls rest)) (kf : b < a → W p l e R s m args below meth c H locs cells slots Q (F0 m (pc1 + 3) ls rest)) : W p l e R s m args below meth c H locs cells slots Q (F0 m pc ls (jL b :: jL a :: rest)) := by
  subst hpc
  refine W.lcmp S.1 S.2.1 hdg ?_
  rcases Int.lt_trichotomy a b with h | h | h
  · rw [lc_lt ha hb h]
    exact j_if_le (a := -1) S hdg2 ht (by decide) (fun q => kt (by omega)) (fun q => kf (by omega))
  · rw [lc_eq h]
    exact j_if_le (a := 0) S hdg2 ht (by decide) (fun q => kt (by omega)) (fun q => kf (by omega))
  · rw [lc_gt ha hb h]
    exact j_if_le (a := 1) S hdg2 ht (by decide) (fun q => kt (by omega)) (fun q => kf (by omega))
theorem j_iald (S : CallFix p m c cc nL s args Ts own) {D : va_G} {cl : List vw_C} {tys : List (ClassId × FieldType)} {ws : va_W} {a : Nat} (hK : va_K D cl tys s) (hP : va_P D cl ws H) (q0 t0 : Nat) {cA : ClassId} {n : Nat} {f : Int → Int} (ha : ws[q0]? = some (a, .inl (cA, n, .inl (jF f)))) (ht : tys[t0]? = some (cA, .int)) {i : Int} (hin : 0 ≤ i ∧ i < (n : Int) ∧ inI i) (hdg : decode cc pc = .ok (.iaload, 1)) (kk : W p l e R s m args below meth c H locs cells slots Q (F0 m (pc + 1) ls (jI (f i) :: rest))) : W p l e R s m args below meth c H locs cells slots Q (F0 m pc ls (jI i :: .ref a :: rest)) := by
  refine va_iald S.1 S.2.1 hK hP q0 t0 ha ht (o_in ⟨hin.1, hin.2.1⟩ hin.2.2) hdg ?_
  rw [jF_at hin.1 hin.2.2]
  exact kk
theorem j_iast (S : CallFix p m c cc nL s args Ts own) {D : va_G} {cl : List vw_C} {A : Nat → Prop} {tys : List (ClassId × FieldType)} {ws ws1 : va_W} {H0 : Heap} {a : Nat} (hK : va_K D cl tys s) (hP : va_P D cl ws H) (hD : va_D A ws) (hS : va_S A H0 H locs) (q0 t0 : Nat) {cA : ClassId} {n : Nat} {f : Int → Int} (ha : ws[q0]? = some (a, .inl (cA, n, .inl (jF f)))) (ht : tys[t0]? = some (cA, .int)) {i x : Int} (hin : 0 ≤ i ∧ i < (n : Int) ∧ inI i) (h1 : ws.set q0 (a, .inl (cA, n, .inl (jF (jU f i x)))) = ws1) (hdg : decode cc pc = .ok (.iastore, 1)) (kk : ∀ (H1 : Heap) (locs1 : List Loc), va_P D cl ws1 H1 → va_D A ws1 → va_S A H0 H1 locs1 → W p l e R s m args below meth c H1 locs1 cells slots Q (F0 m (pc + 1) ls rest)) : W p l e R s m args below meth c H locs cells slots Q (F0 m pc ls (jI x :: jI i :: .ref a :: rest)) := by
  subst h1
  refine va_iast S.1 S.2.1 hK hP hD hS q0 t0 ha ht (o_in ⟨hin.1, hin.2.1⟩ hin.2.2) hdg ?_
  rw [jF_up hin.1 hin.2.2]
  exact kk
end JR
end
section
/-! worlds and contracts -/
abbrev SOK (H T E : Int → Int) (cc gc w d v : Int) : Prop := (0 ≤ cc ∧ cc ≤ 8) ∧ (0 ≤ gc ∧ gc ≤ 10) ∧ (10 ≤ w ∧ w ≤ 200) ∧ (2 ≤ d ∧ d ≤ 720) ∧ (2 ≤ v ∧ v ≤ 60) ∧ (∀ j, 0 ≤ j → j < cc → 5 ≤ H j ∧ H j ≤ 120) ∧ (∀ j, 0 ≤ j → j < gc → 12 ≤ T j ∧ T j ≤ 120) ∧ (∀ j, 0 ≤ j → j < 8 → -100 ≤ E j ∧ E j ≤ 100)
abbrev XW (h a0 a1 a2 a3 : Nat) (cA : ClassId) (H T E F : Int → Int) (cc gc w d v : Int) : va_W := [(h, .inr (0, [.ref a0, .ref a1, .ref a2, .ref a3, jI cc, jI gc, jI w, jI d, jI v])), (a0, .inl (cA, 8, .inl (jF H))), (a1, .inl (cA, 10, .inl (jF T))), (a2, .inl (cA, 8, .inl (jF E))), (a3, .inl (cA, 4, .inl (jF F)))]
abbrev MW (h a0 a1 a2 a3 : Nat) (cA : ClassId) (H T E F : Int → Int) (cc gc w d v : Int) : va_W := [(h, .inr (1, [jI w, jI cc, .ref a0, jI gc, .ref a1, .ref a2, jI d, jI v, .ref a3])), (a0, .inl (cA, 8, .inl (jF H))), (a1, .inl (cA, 10, .inl (jF T))), (a2, .inl (cA, 8, .inl (jF E))), (a3, .inl (cA, 4, .inl (jF F)))]
def WB (D : va_G) (ws : va_W) (cA : ClassId) : State → Prop := fun U => va_P D vwCl ws U.heap ∧ va_K D vwCl [(cA, .int)] U
def W0 : State → Prop := fun _ => True
def QI (post : Int → Prop) : Array Value → State → Outcome → State → Prop := fun _ st oc t => ∃ i : Int, oc = .returned (some (jI i)) ∧ post i ∧ t.heap = st.heap
def QL (post : Int → Prop) : Array Value → State → Outcome → State → Prop := fun _ st oc t => ∃ i : Int, oc = .returned (some (jL i)) ∧ post i ∧ t.heap = st.heap
abbrev MI (l : Launch) (y : MethodName) (ws : List Cond) (rm : Room) (as : List Value) (B : State → Prop) (post : Int → Prop) : Prop := Met l y ws rm (va_Pc as B) (QI post) 0 0 (fun _ => False)
abbrev ML (l : Launch) (y : MethodName) (ws : List Cond) (rm : Room) (as : List Value) (B : State → Prop) (post : Int → Prop) : Prop := Met l y ws rm (va_Pc as B) (QL post) 0 0 (fun _ => False)
def WM (D : va_G) (ws : va_W) (cA : ClassId) (sz : Nat) : State → Prop := fun U => U.heap.size = sz ∧ va_P D vwCl ws U.heap ∧ va_K D vwCl [(cA, .int)] U ∧ va_D (fun _ => True) ws
def WA (D : va_G) (cA : ClassId) (A : Nat → Prop) (ws : va_W) (t : State) : Prop := va_P D vwCl ws t.heap ∧ va_K D vwCl [(cA, .int)] t ∧ va_D A ws
abbrev MMI {S : Type} (l : Launch) (y : MethodName) (ws : List Cond) (rm : Room) (as : List Value) (D : va_G) (cA : ClassId) (w0 : va_W) (Wd : S → va_W) (sz : Nat) (post : Int → S → Prop) : Prop := Met l y ws rm (va_Pc as (WM D w0 cA sz)) (va_Qi (fun r u => ∃ i : Int, r = Int32.ofInt i ∧ post i u) (fun u t => WA D cA (va_A w0 sz) (Wd u) t) (va_A w0 sz)) 0 0 (va_A w0 sz)
abbrev MMV {S : Type} (l : Launch) (y : MethodName) (ws : List Cond) (rm : Room) (as : List Value) (D : va_G) (cA : ClassId) (w0 : va_W) (Wd : S → va_W) (sz : Nat) (post : S → Prop) : Prop := Met l y ws rm (va_Pc as (WM D w0 cA sz)) (va_Qv post (fun u t => WA D cA (va_A w0 sz) (Wd u) t) (va_A w0 sz)) 0 0 (va_A w0 sz)
theorem MI_of {l : Launch} {y : MethodName} {ws ws' : List Cond} {rm : Room} {as : List Value} {B : State → Prop} {post : Int → Prop} {cc : ByteArray} {maxL : Nat} (hy : plainName y.cls = true) (hw : ws = Cond.code y cc maxL (some .int) :: ws') (hn : (lg_sl as).length ≤ maxL)
    (body : ∀ (p : Program) (e : Env) (s : State) (m : MethodId) (args : Array Value) (below : List Frame) (meth : Method) (c : Code) (Q : State → Prop) (ls : Array Slot), CallFix p m c cc maxL s args ws y.cls → (∀ (i : Int) (pc : Nat) (ls' : Array Slot), post i → decode cc pc = .ok (.ireturn, 1) → W p l e rm s m args below meth c s.heap [] 0 0 Q (F0 m pc ls' [jI i])) → B s → lv_has ls maxL (lv_args 0 as) → W p l e rm s m args below meth c s.heap [] 0 0 Q (F0 m 0 ls [])) : MI l y ws rm as B post := by
  refine Met.ofW (cc := cc) (maxL := maxL) (ret := some .int) hy hw ?_
  intro p e s m args below meth c s₁ B' hml hv
  obtain ⟨rfl, hB⟩ := hv
  have hlocks := B'.notSynchronized
  rw [lg_entry_eq]
  exact body p e s m _ below meth c _ _ ⟨B'.exec, B'.bytes, hml, findClass_of_methodNamed B'.named, atoms_spec (ws := ws) B'.pre⟩ (fun i pc ls' hp hd => W.iret B'.exec B'.bytes B'.returns (fun t ht hW => ⟨i, rfl, hp, ht⟩) (fun _ h => by cases h) hd) hB (lv_entry as hn)
theorem nar_b {i : Int} (h : i = 0 ∨ i = 1) : narrow .boolean (jI i) = jI i := by
  rcases h with rfl | rfl <;> rfl
theorem MZ_of {l : Launch} {y : MethodName} {ws ws' : List Cond} {rm : Room} {as : List Value} {B : State → Prop} {post : Int → Prop} {cc : ByteArray} {maxL : Nat} (hy : plainName y.cls = true) (hw : ws = Cond.code y cc maxL (some .boolean) :: ws') (hn : (lg_sl as).length ≤ maxL)
    (body : ∀ (p : Program) (e : Env) (s : State) (m : MethodId) (args : Array Value) (below : List Frame) (meth : Method) (c : Code) (Q : State → Prop) (ls : Array Slot), CallFix p m c cc maxL s args ws y.cls → (∀ (i : Int) (pc : Nat) (ls' : Array Slot), (i = 0 ∨ i = 1) → post i → decode cc pc = .ok (.ireturn, 1) → W p l e rm s m args below meth c s.heap [] 0 0 Q (F0 m pc ls' [jI i])) → B s → lv_has ls maxL (lv_args 0 as) → W p l e rm s m args below meth c s.heap [] 0 0 Q (F0 m 0 ls [])) : MI l y ws rm as B post := by
  refine Met.ofW (cc := cc) (maxL := maxL) (ret := some .boolean) hy hw ?_
  intro p e s m args below meth c s₁ B' hml hv
  obtain ⟨rfl, hB⟩ := hv
  have hlocks := B'.notSynchronized
  rw [lg_entry_eq]
  exact body p e s m _ below meth c _ _ ⟨B'.exec, B'.bytes, hml, findClass_of_methodNamed B'.named, atoms_spec (ws := ws) B'.pre⟩ (fun i pc ls' hb hp hd => W.zret B'.exec B'.bytes B'.returns (nar_b hb) (fun t ht hW => ⟨i, rfl, hp, ht⟩) (fun _ h => by cases h) hd) hB (lv_entry as hn)
theorem ML_of {l : Launch} {y : MethodName} {ws ws' : List Cond} {rm : Room} {as : List Value} {B : State → Prop} {post : Int → Prop} {cc : ByteArray} {maxL : Nat} (hy : plainName y.cls = true) (hw : ws = Cond.code y cc maxL (some .long) :: ws') (hn : (lg_sl as).length ≤ maxL)
    (body : ∀ (p : Program) (e : Env) (s : State) (m : MethodId) (args : Array Value) (below : List Frame) (meth : Method) (c : Code) (Q : State → Prop) (ls : Array Slot), CallFix p m c cc maxL s args ws y.cls → (∀ (i : Int) (pc : Nat) (ls' : Array Slot), post i → decode cc pc = .ok (.lreturn, 1) → W p l e rm s m args below meth c s.heap [] 0 0 Q (F0 m pc ls' [jL i])) → B s → lv_has ls maxL (lv_args 0 as) → W p l e rm s m args below meth c s.heap [] 0 0 Q (F0 m 0 ls [])) : ML l y ws rm as B post := by
  refine Met.ofW (cc := cc) (maxL := maxL) (ret := some .long) hy hw ?_
  intro p e s m args below meth c s₁ B' hml hv
  obtain ⟨rfl, hB⟩ := hv
  have hlocks := B'.notSynchronized
  rw [lg_entry_eq]
  exact body p e s m _ below meth c _ _ ⟨B'.exec, B'.bytes, hml, findClass_of_methodNamed B'.named, atoms_spec (ws := ws) B'.pre⟩ (fun i pc ls' hp hd => W.lret B'.exec B'.bytes B'.returns (fun t ht hW => ⟨i, rfl, hp, ht⟩) (fun _ h => by cases h) hd) hB (lv_entry as hn)
theorem MMI_of {S : Type} {l : Launch} {y : MethodName} {ws ws' : List Cond} {rm : Room} {as : List Value} {D : va_G} {cA : ClassId} {w0 : va_W} {Wd : S → va_W} {sz : Nat} {post : Int → S → Prop} {cc : ByteArray} {maxL : Nat} {ty : FieldType} (hty : ty = .int ∨ ty = .boolean) (hy : plainName y.cls = true) (hw : ws = Cond.code y cc maxL (some ty) :: ws') (hn : (lg_sl as).length ≤ maxL)
    (body : ∀ (p : Program) (e : Env) (s : State) (m : MethodId) (args : Array Value) (below : List Frame) (meth : Method) (c : Code) (Q : State → Prop) (ls : Array Slot) (A : Nat → Prop), CallFix p m c cc maxL s args ws y.cls → (∀ (i : Int) (u : S) (H1 : Heap) (locs1 : List Loc) (pc : Nat) (ls' : Array Slot), (ty = .boolean → (i = 0 ∨ i = 1)) → post i u → va_P D vwCl (Wd u) H1 → va_D A (Wd u) → va_S A s.heap H1 locs1 → decode cc pc = .ok (.ireturn, 1) → W p l e rm s m args below meth c H1 locs1 0 0 Q (F0 m pc ls' [jI i])) → va_P D vwCl w0 s.heap → va_K D vwCl [(cA, .int)] s → va_D A w0 → va_S A s.heap s.heap [] → (∀ q, s.heap.size ≤ q → A q) → lv_has ls maxL (lv_args 0 as) → W p l e rm s m args below meth c s.heap [] 0 0 Q (F0 m 0 ls [])) : MMI l y ws rm as D cA w0 Wd sz post := by
  refine Met.ofW (cc := cc) (maxL := maxL) (ret := some ty) hy hw ?_
  intro p e s m args below meth c s₁ B' hml hv
  obtain ⟨rfl, hsz, hP, hK, hD0⟩ := hv
  subst hsz
  have hlocks := B'.notSynchronized
  rw [lg_entry_eq]
  refine body p e s m _ below meth c _ _ (va_A w0 s.heap.size) ⟨B'.exec, B'.bytes, hml, findClass_of_methodNamed B'.named, atoms_spec (ws := ws) B'.pre⟩ (fun i u H1 locs1 pc ls' hb hp hP1 hD1 hS1 hd => ?_) hP hK hD0.self va_S.rf (fun q h => Or.inr h) (lv_entry as hn)
  have hq : ∀ t : State, t.heap = H1 → s.WarmedH t.vm → va_Qi (fun r u => ∃ i : Int, r = Int32.ofInt i ∧ post i u) (fun u t => WA D cA (va_A w0 s.heap.size) (Wd u) t) (va_A w0 s.heap.size) as.toArray s (.returned (some (.int (Int32.ofInt i)))) t := fun t ht hW => ⟨⟨_, u, rfl, ⟨i, rfl, hp⟩, by rw [ht]; exact hP1, va_K.moved hW.alike hK, hD1⟩, hS1.F ht⟩
  rcases hty with rfl | rfl
  · exact W.iret B'.exec B'.bytes B'.returns hq hS1.2.2 hd
  · exact W.zret B'.exec B'.bytes B'.returns (nar_b (hb rfl)) hq hS1.2.2 hd
theorem MMV_of {S : Type} {l : Launch} {y : MethodName} {ws ws' : List Cond} {rm : Room} {as : List Value} {D : va_G} {cA : ClassId} {w0 : va_W} {Wd : S → va_W} {sz : Nat} {post : S → Prop} {cc : ByteArray} {maxL : Nat} (hy : plainName y.cls = true) (hw : ws = Cond.code y cc maxL none :: ws') (hn : (lg_sl as).length ≤ maxL)
    (body : ∀ (p : Program) (e : Env) (s : State) (m : MethodId) (args : Array Value) (below : List Frame) (meth : Method) (c : Code) (Q : State → Prop) (ls : Array Slot) (A : Nat → Prop), CallFix p m c cc maxL s args ws y.cls → (∀ (u : S) (H1 : Heap) (locs1 : List Loc) (pc : Nat) (ls' : Array Slot), post u → va_P D vwCl (Wd u) H1 → va_D A (Wd u) → va_S A s.heap H1 locs1 → decode cc pc = .ok (.return_, 1) → W p l e rm s m args below meth c H1 locs1 0 0 Q (F0 m pc ls' [])) → va_P D vwCl w0 s.heap → va_K D vwCl [(cA, .int)] s → va_D A w0 → va_S A s.heap s.heap [] → (∀ q, s.heap.size ≤ q → A q) → lv_has ls maxL (lv_args 0 as) → W p l e rm s m args below meth c s.heap [] 0 0 Q (F0 m 0 ls [])) : MMV l y ws rm as D cA w0 Wd sz post := by
  refine Met.ofW (cc := cc) (maxL := maxL) (ret := none) hy hw ?_
  intro p e s m args below meth c s₁ B' hml hv
  obtain ⟨rfl, hsz, hP, hK, hD0⟩ := hv
  subst hsz
  have hlocks := B'.notSynchronized
  rw [lg_entry_eq]
  refine body p e s m _ below meth c _ _ (va_A w0 s.heap.size) ⟨B'.exec, B'.bytes, hml, findClass_of_methodNamed B'.named, atoms_spec (ws := ws) B'.pre⟩ (fun u H1 locs1 pc ls' hp hP1 hD1 hS1 hd => ?_) hP hK hD0.self va_S.rf (fun q h => Or.inr h) (lv_entry as hn)
  exact W.vret B'.exec B'.bytes B'.returns (fun t ht hW => ⟨⟨u, rfl, hp, by rw [ht]; exact hP1, va_K.moved hW.alike hK, hD1⟩, hS1.F ht⟩) hS1.2.2 hd
theorem WB_blind {D : va_G} {ws : va_W} {cA : ClassId} {as : List Value} : FrameBlind (va_Pc as (WB D ws cA)) := fun a U g mk q => ⟨q.1, q.2.1, va_K.moved (u := U) (U := U.calling g mk a) (Vm.Alike.refl U.vm) q.2.2⟩
theorem WM_blind {D : va_G} {ws : va_W} {cA : ClassId} {sz : Nat} {as : List Value} : FrameBlind (va_Pc as (WM D ws cA sz)) := fun a U g mk q => ⟨q.1, q.2.1, q.2.2.1, va_K.moved (u := U) (U := U.calling g mk a) (Vm.Alike.refl U.vm) q.2.2.2.1, q.2.2.2.2⟩
section JC
variable {p : Program} {l : Launch} {e : Env} {R : Room} {s : State} {m : MethodId} {args : Array Value} {below : List Frame} {meth : Method} {c : Code} {H : Heap} {locs : List Loc} {cells slots : Nat} {Q : State → Prop}
variable {cc bytes : ByteArray} {nL maxL n index : Nat} {Ts ws : List Cond} {own C : String} {pc : Nat} {ls : Array Slot} {st0 As : List Value} {y : MethodName} {rm : Room} {ret : Option FieldType} {post : Int → Prop} {b : Addr} {D : va_G} {wx : va_W} {cA : ClassId}
theorem j_get (S : CallFix p m c cc nL s args Ts own) {CT : String} {T : u_T} {N ci : Nat} {a : Nat} {rest : List Value} (hin : ∀ w ∈ u_ws CT T N, w ∈ Ts) (hK : va_K D vwCl [(cA, .int)] s) (hP : va_P D vwCl wx H) {fs : List Value} (he : wx[0]? = some (a, .inr (ci, fs))) (hc : vwCl[ci]? = some (CT, T, N)) (k : Nat) (hk : k < N) (hlink : (Cond.fieldLink own index (T k).1 (T k).2.1 (T k).2.2.1) ∈ Ts) {v : Value} (hv : fs[k]? = some v) (hdg : decode cc pc = .ok (.getfield index, 3)) (kk : W p l e R s m args below meth c H locs cells slots Q (F0 m (pc + 3) ls (v :: rest))) : W p l e R s m args below meth c H locs cells slots Q (F0 m pc ls (.ref a :: rest)) :=
  va_get S.1 S.2.1 S.2.2.2.2 hin S.2.2.2.1 hK hP 0 he hc k hk (S.2.2.2.2 _ hlink) (fun _ h => h) hv hdg kk
theorem j_put (S : CallFix p m c cc nL s args Ts own) {CT : String} {T : u_T} {N ci : Nat} {a : Nat} {A : Nat → Prop} {H0 : Heap} {rest : List Value} (hin : ∀ w ∈ u_ws CT T N, w ∈ Ts) (ty0 : Nat → FieldType) (hty : ∀ k, k < N → parseFieldDescriptor (T k).2.2.1 = some (ty0 k)) (hnm : ∀ a, a < N → ∀ b, b < N → a ≠ b → (T a).2.1 ≠ (T b).2.1) (hK : va_K D vwCl [(cA, .int)] s) (hP : va_P D vwCl wx H) (hD : va_D A wx) (hS : va_S A H0 H locs) {fs : List Value} {wx1 : va_W} {x : Int} (he : wx[0]? = some (a, .inr (ci, fs))) (hc : vwCl[ci]? = some (CT, T, N)) (k : Nat) (hk : k < N) (hlink : (Cond.fieldLink own index (T k).1 (T k).2.1 (T k).2.2.1) ∈ Ts) (hfin : (T k).2.2.2 = false) (hd : parseFieldDescriptor (T k).2.2.1 = some .int) (hl : k < fs.length) (h1 : wx.set 0 (a, .inr (ci, fs.set k (jI x))) = wx1) (hdg : decode cc pc = .ok (.putfield index, 3)) (kk : ∀ (H1 : Heap) (locs1 : List Loc), va_P D vwCl wx1 H1 → va_D A wx1 → va_S A H0 H1 locs1 → W p l e R s m args below meth c H1 locs1 cells slots Q (F0 m (pc + 3) ls rest)) : W p l e R s m args below meth c H locs cells slots Q (F0 m pc ls (jI x :: .ref a :: rest)) := by
  subst h1
  exact va_put S.1 S.2.1 S.2.2.2.2 hin ty0 hty hnm S.2.2.2.1 hK hP hD hS 0 he hc k hk (S.2.2.2.2 _ hlink) (fun _ h => h) hfin hd rfl rfl hl hdg kk
theorem j_csi (S : CallFix p m c cc nL s args Ts own) (hM : MI l y ws rm As W0 post) (cw : CallB R s args own index y bytes maxL ret ws rm 0 0 n ∧ (Cond.static y).before args s = true) (rest : List Value) (hst : st0 = As.reverse ++ rest) (hn : As.length = n) (hsz : ls.size = nL) (hW : (rest.map fun v => v.category).sum ≤ 8) (hf : cells ≤ R.cells ∧ slots ≤ R.slots) (hdg : decode cc pc = .ok (.invokestatic index, 3)) (kk : ∀ i : Int, post i → W p l e R s m args below meth c H locs cells slots Q (F0 m (pc + 3) ls (jI i :: rest))) : W p l e R s m args below meth c H locs cells slots Q (F0 m pc ls st0) := by
  have hr := W.runS (e := e) (H := H) (locs := locs) (below := below) (meth := meth) (g := F0 m pc ls st0) S hM cw ⟨fun _ _ _ _ q => ⟨q.1, trivial⟩, fun _ _ _ => ⟨rfl, trivial⟩⟩ rfl hn hsz hst (lv_room hW) hdg hf
  intro T hT X
  obtain ⟨v, st₀, t, T', L, h0, X', hL, e1, ⟨i, hv, hp, hh⟩, st⟩ := hr T hT X
  cases hv
  obtain ⟨t2, a1, b1⟩ := kk i hp T' (by rw [e1, hh, h0]) (Stand.forget X' (fun q h => (hL q h).elim))
  exact ⟨t2, st t2 a1, b1⟩
theorem j_csl (S : CallFix p m c cc nL s args Ts own) (hM : ML l y ws rm As W0 post) (cw : CallB R s args own index y bytes maxL ret ws rm 0 0 n ∧ (Cond.static y).before args s = true) (rest : List Value) (hst : st0 = As.reverse ++ rest) (hn : As.length = n) (hsz : ls.size = nL) (hW : (rest.map fun v => v.category).sum ≤ 8) (hf : cells ≤ R.cells ∧ slots ≤ R.slots) (hdg : decode cc pc = .ok (.invokestatic index, 3)) (kk : ∀ i : Int, post i → W p l e R s m args below meth c H locs cells slots Q (F0 m (pc + 3) ls (jL i :: rest))) : W p l e R s m args below meth c H locs cells slots Q (F0 m pc ls st0) := by
  have hr := W.runS (e := e) (H := H) (locs := locs) (below := below) (meth := meth) (g := F0 m pc ls st0) S hM cw ⟨fun _ _ _ _ q => ⟨q.1, trivial⟩, fun _ _ _ => ⟨rfl, trivial⟩⟩ rfl hn hsz hst (lv_room hW) hdg hf
  intro T hT X
  obtain ⟨v, st₀, t, T', L, h0, X', hL, e1, ⟨i, hv, hp, hh⟩, st⟩ := hr T hT X
  cases hv
  obtain ⟨t2, a1, b1⟩ := kk i hp T' (by rw [e1, hh, h0]) (Stand.forget X' (fun q h => (hL q h).elim))
  exact ⟨t2, st t2 a1, b1⟩
theorem j_cvi (S : CallFix p m c cc nL s args Ts own) (hM : MI l y ws rm (.ref b :: As) (WB D wx cA) post) (cw : CallW R s args own C index y bytes maxL ret ws rm 0 0 n) (hK : va_K D vwCl [(cA, .int)] s) (hP : va_P D vwCl wx H) {ci : Nat} {q : vw_C} {fs : List Value} (hc : vwCl[ci]? = some q) (hq : q.1 = C) (he : wx[0]? = some (b, .inr (ci, fs))) (rest : List Value) (hst : st0 = As.reverse ++ .ref b :: rest) (hn : As.length = n) (hsz : ls.size = nL) (hW : (rest.map fun v => v.category).sum ≤ 8) (hf : cells ≤ R.cells ∧ slots ≤ R.slots) (hdg : decode cc pc = .ok (.invokevirtual index, 3)) (kk : ∀ i : Int, post i → W p l e R s m args below meth c H locs cells slots Q (F0 m (pc + 3) ls (jI i :: rest))) : W p l e R s m args below meth c H locs cells slots Q (F0 m pc ls st0) := by
  subst hq
  have hr := W.runV (e := e) (H := H) (locs := locs) (below := below) (meth := meth) (g := F0 m pc ls st0) S hM cw ⟨WB_blind, va_recv hK hP hc he, fun U hU hW => ⟨rfl, by rw [hU]; exact hP, va_K.moved hW.alike hK⟩⟩ rfl hn hsz hst (lv_room hW) hdg hf
  intro T hT X
  obtain ⟨v, st₀, t, T', L, h0, X', hL, e1, ⟨i, hv, hp, hh⟩, st⟩ := hr T hT X
  cases hv
  obtain ⟨t2, a1, b1⟩ := kk i hp T' (by rw [e1, hh, h0]) (Stand.forget X' (fun q h => (hL q h).elim))
  exact ⟨t2, st t2 a1, b1⟩
theorem j_cvl (S : CallFix p m c cc nL s args Ts own) (hM : ML l y ws rm (.ref b :: As) (WB D wx cA) post) (cw : CallW R s args own C index y bytes maxL ret ws rm 0 0 n) (hK : va_K D vwCl [(cA, .int)] s) (hP : va_P D vwCl wx H) {ci : Nat} {q : vw_C} {fs : List Value} (hc : vwCl[ci]? = some q) (hq : q.1 = C) (he : wx[0]? = some (b, .inr (ci, fs))) (rest : List Value) (hst : st0 = As.reverse ++ .ref b :: rest) (hn : As.length = n) (hsz : ls.size = nL) (hW : (rest.map fun v => v.category).sum ≤ 8) (hf : cells ≤ R.cells ∧ slots ≤ R.slots) (hdg : decode cc pc = .ok (.invokevirtual index, 3)) (kk : ∀ i : Int, post i → W p l e R s m args below meth c H locs cells slots Q (F0 m (pc + 3) ls (jL i :: rest))) : W p l e R s m args below meth c H locs cells slots Q (F0 m pc ls st0) := by
  subst hq
  have hr := W.runV (e := e) (H := H) (locs := locs) (below := below) (meth := meth) (g := F0 m pc ls st0) S hM cw ⟨WB_blind, va_recv hK hP hc he, fun U hU hW => ⟨rfl, by rw [hU]; exact hP, va_K.moved hW.alike hK⟩⟩ rfl hn hsz hst (lv_room hW) hdg hf
  intro T hT X
  obtain ⟨v, st₀, t, T', L, h0, X', hL, e1, ⟨i, hv, hp, hh⟩, st⟩ := hr T hT X
  cases hv
  obtain ⟨t2, a1, b1⟩ := kk i hp T' (by rw [e1, hh, h0]) (Stand.forget X' (fun q h => (hL q h).elim))
  exact ⟨t2, st t2 a1, b1⟩
/-- a call that writes in its own world wc, which is a part of the caller's -/
theorem j_cvm {U : Type} {Wd : U → va_W} {post : Int → U → Prop} {wc wr : va_W} {A : Nat → Prop} {H0 : Heap} (isC isR : List Nat) (S : CallFix p m c cc nL s args Ts own) (hM : MMI l y ws rm (.ref b :: As) D cA wc Wd H.size post) (cw : CallW R s args own C index y bytes maxL ret ws rm 0 0 n) (hK : va_K D vwCl [(cA, .int)] s) (hP : va_P D vwCl wx H) (hD : va_D A wx) (hS : va_S A H0 H locs) (hA : ∀ q, H0.size ≤ q → A q) (hC : isC.map (fun i => wx[i]?) = wc.map some) (hR : isR.map (fun i => wx[i]?) = wr.map some) (hcn : va_nd isC = true) (hrn : va_nd isR = true) (hdis : ∀ i ∈ isR, i ∉ isC) {ci : Nat} {q : vw_C} {fs : List Value} (hc : vwCl[ci]? = some q) (hq : q.1 = C) (he : wc[0]? = some (b, .inr (ci, fs))) (rest : List Value) (hst : st0 = As.reverse ++ .ref b :: rest) (hn : As.length = n) (hsz : ls.size = nL) (hW : (rest.map fun v => v.category).sum ≤ 8) (hf : cells ≤ R.cells ∧ slots ≤ R.slots) (hdg : decode cc pc = .ok (.invokevirtual index, 3)) (kk : ∀ (i : Int) (u : U) (H1 : Heap) (locs1 : List Loc), post i u → va_P D vwCl (wr ++ Wd u) H1 → va_D A (wr ++ Wd u) → va_S A H0 H1 locs1 → W p l e R s m args below meth c H1 locs1 cells slots Q (F0 m (pc + 3) ls (jI i :: rest))) : W p l e R s m args below meth c H locs cells slots Q (F0 m pc ls st0) := by
  subst hq
  have hPc : va_P D vwCl wc H := hP.by (fun k => (isC[k]?).getD 0) (fun k q hk => by
    obtain ⟨i, h1, h2⟩ := va_in_of isC hC hk
    rw [h1]
    exact h2)
  have hDc : va_D A wc := hD.sub isC hcn hC
  have hFc := va_free (wc := wc) hD hS hA isC hC
  refine va_calli (va_runV (H := H) (locs := locs) (below := below) (meth := meth) (g := F0 m pc ls st0) (rest := rest) S hM cw ⟨WM_blind, va_recv hK hPc hc he, fun U hU hW => ⟨rfl, by rw [hU], by rw [hU]; exact hPc, va_K.moved hW.alike hK, hDc.weaken (fun _ _ _ _ => trivial)⟩⟩ rfl hn hsz hst (lv_room hW) hdg hf) hS (fun q _ h => hFc q h) hFc (fun r u t H1 locs1 ht hvm hw hB hz1 hk1 hS1 => ?_)
  obtain ⟨i, rfl, hp⟩ := hw
  obtain ⟨hP1, hK1, hD1⟩ := hB
  rw [ht] at hP1
  obtain ⟨hP2, hD2⟩ := va_join (wr := wr) (w1 := Wd u) hP hD isC isR hC hR hrn hdis hk1 hFc hP1 hD1
  exact kk i u H1 locs1 hp hP2 hD2 hS1
theorem j_cvv {U : Type} {Wd : U → va_W} {post : U → Prop} {wc wr : va_W} {A : Nat → Prop} {H0 : Heap} (isC isR : List Nat) (S : CallFix p m c cc nL s args Ts own) (hM : MMV l y ws rm (.ref b :: As) D cA wc Wd H.size post) (cw : CallW R s args own C index y bytes maxL ret ws rm 0 0 n) (hK : va_K D vwCl [(cA, .int)] s) (hP : va_P D vwCl wx H) (hD : va_D A wx) (hS : va_S A H0 H locs) (hA : ∀ q, H0.size ≤ q → A q) (hC : isC.map (fun i => wx[i]?) = wc.map some) (hR : isR.map (fun i => wx[i]?) = wr.map some) (hcn : va_nd isC = true) (hrn : va_nd isR = true) (hdis : ∀ i ∈ isR, i ∉ isC) {ci : Nat} {q : vw_C} {fs : List Value} (hc : vwCl[ci]? = some q) (hq : q.1 = C) (he : wc[0]? = some (b, .inr (ci, fs))) (rest : List Value) (hst : st0 = As.reverse ++ .ref b :: rest) (hn : As.length = n) (hsz : ls.size = nL) (hW : (rest.map fun v => v.category).sum ≤ 8) (hf : cells ≤ R.cells ∧ slots ≤ R.slots) (hdg : decode cc pc = .ok (.invokevirtual index, 3)) (kk : ∀ (u : U) (H1 : Heap) (locs1 : List Loc), post u → va_P D vwCl (wr ++ Wd u) H1 → va_D A (wr ++ Wd u) → va_S A H0 H1 locs1 → W p l e R s m args below meth c H1 locs1 cells slots Q (F0 m (pc + 3) ls rest)) : W p l e R s m args below meth c H locs cells slots Q (F0 m pc ls st0) := by
  subst hq
  have hPc : va_P D vwCl wc H := hP.by (fun k => (isC[k]?).getD 0) (fun k q hk => by
    obtain ⟨i, h1, h2⟩ := va_in_of isC hC hk
    rw [h1]
    exact h2)
  have hDc : va_D A wc := hD.sub isC hcn hC
  have hFc := va_free (wc := wc) hD hS hA isC hC
  refine va_callv (va_runV (H := H) (locs := locs) (below := below) (meth := meth) (g := F0 m pc ls st0) (rest := rest) S hM cw ⟨WM_blind, va_recv hK hPc hc he, fun U hU hW => ⟨rfl, by rw [hU], by rw [hU]; exact hPc, va_K.moved hW.alike hK, hDc.weaken (fun _ _ _ _ => trivial)⟩⟩ rfl hn hsz hst (lv_room hW) hdg hf) hS (fun q _ h => hFc q h) hFc (fun u t H1 locs1 ht hvm hw hB hz1 hk1 hS1 => ?_)
  obtain ⟨hP1, hK1, hD1⟩ := hB
  rw [ht] at hP1
  obtain ⟨hP2, hD2⟩ := va_join (wr := wr) (w1 := Wd u) hP hD isC isR hC hR hrn hdis hk1 hFc hP1 hD1
  exact kk u H1 locs1 hw hP2 hD2 hS1
/-- Math's own -/
theorem j_mabs (S : CallFix p m c cc nL s args Ts own) (hsz : ls.size = nL) (hlink : Cond.methodLink own index Lib.Math.abs.name ∈ Ts) (hstat : Cond.static Lib.Math.abs.name ∈ Ts) (hini : Cond.initialized "java/lang/Math" ∈ Ts) (hcode : Cond.code Lib.Math.abs.name Lib.Math.abs.code 1 (some .int) ∈ Ts) (hf : 1 ≤ R.frames) {rest : List Value} (hl : (rest.map fun v => v.category).sum + 13 ≤ R.locals) (hcs : cells ≤ R.cells ∧ slots ≤ R.slots) {a lo hi : Int} (ha : lo ≤ a ∧ a ≤ hi) (hb : (decide (-2147483647 ≤ lo) && decide (hi ≤ 2147483647)) = true) (hdg : decode cc pc = .ok (.invokestatic index, 3)) (kk : W p l e R s m args below meth c H locs cells slots Q (F0 m (pc + 3) ls (jI ((a.natAbs : Nat) : Int) :: rest))) : W p l e R s m args below meth c H locs cells slots Q (F0 m pc ls (jI a :: rest)) := by
  simp only [Bool.and_eq_true, decide_eq_true_eq] at hb
  refine va_mabs S.1 S.2.1 (by rw [S.2.2.1, hsz]) S.2.2.2.1 (S.2.2.2.2 _ hlink) (S.2.2.2.2 _ hstat) (S.2.2.2.2 _ hini) (S.2.2.2.2 _ hcode) hf hl hcs.1 hcs.2 hdg ?_
  have e : (if (0 : Int32) ≤ Int32.ofInt a then Int32.ofInt a else 0 - Int32.ofInt a) = Int32.ofInt ((a.natAbs : Nat) : Int) := by
    rw [oI_zero]
    by_cases h : 0 ≤ a
    · rw [if_pos ((oI_le in0 (by omega)).mpr h)]
      congr 1
      omega
    · rw [if_neg (fun q => h ((oI_le in0 (by omega)).mp q)), ← Int32.ofInt_sub]
      congr 1
      omega
  rw [e]
  exact kk
theorem j_mabsl (S : CallFix p m c cc nL s args Ts own) (hsz : ls.size = nL) (hlink : Cond.methodLink own index Lib.MathLoose.abs_long.x ∈ Ts) (hstat : Cond.static Lib.MathLoose.abs_long.x ∈ Ts) (hini : Cond.initialized "java/lang/Math" ∈ Ts) (hcode : Cond.code Lib.MathLoose.abs_long.x Lib.MathLoose.abs_long.code 2 (some .long) ∈ Ts) (hf : 1 ≤ R.frames) {rest : List Value} (hl : (rest.map fun v => v.category).sum + 13 ≤ R.locals) (hcs : cells ≤ R.cells ∧ slots ≤ R.slots) {a lo hi : Int} (ha : lo ≤ a ∧ a ≤ hi) (hb : (decide (-9223372036854775807 ≤ lo) && decide (hi ≤ 9223372036854775807)) = true) (hdg : decode cc pc = .ok (.invokestatic index, 3)) (kk : W p l e R s m args below meth c H locs cells slots Q (F0 m (pc + 3) ls (jL ((a.natAbs : Nat) : Int) :: rest))) : W p l e R s m args below meth c H locs cells slots Q (F0 m pc ls (jL a :: rest)) := by
  simp only [Bool.and_eq_true, decide_eq_true_eq] at hb
  refine va_mabs_long S.1 S.2.1 (by rw [S.2.2.1, hsz]) S.2.2.2.1 (S.2.2.2.2 _ hlink) (S.2.2.2.2 _ hstat) (S.2.2.2.2 _ hini) (S.2.2.2.2 _ hcode) hf hl hcs.1 hcs.2 hdg ?_
  have e : (if (0 : Int64) < Int64.ofInt a then Int64.ofInt a else -Int64.ofInt a) = Int64.ofInt ((a.natAbs : Nat) : Int) := by
    have hz : (0 : Int64) = Int64.ofInt 0 := by decide
    rw [hz]
    by_cases h : 0 < a
    · rw [if_pos ((oL_lt (by decide) (by omega)).mpr h)]
      congr 1
      omega
    · rw [if_neg (fun q => h ((oL_lt (by decide) (by omega)).mp q)), ← Int64.ofInt_neg]
      congr 1
      omega
  rw [e]
  exact kk
theorem j_mmax (S : CallFix p m c cc nL s args Ts own) (hsz : ls.size = nL) (hlink : Cond.methodLink own index Lib.Math.max.name ∈ Ts) (hstat : Cond.static Lib.Math.max.name ∈ Ts) (hini : Cond.initialized "java/lang/Math" ∈ Ts) (hcode : Cond.code Lib.Math.max.name Lib.Math.max.code 2 (some .int) ∈ Ts) (hf : 1 ≤ R.frames) {rest : List Value} (hl : (rest.map fun v => v.category).sum + 13 ≤ R.locals) (hcs : cells ≤ R.cells ∧ slots ≤ R.slots) {a b : Int} (ha : inI a) (hb : inI b) (hdg : decode cc pc = .ok (.invokestatic index, 3)) (kk : W p l e R s m args below meth c H locs cells slots Q (F0 m (pc + 3) ls (jI (max a b) :: rest))) : W p l e R s m args below meth c H locs cells slots Q (F0 m pc ls (jI b :: jI a :: rest)) := by
  refine va_mmax S.1 S.2.1 (by rw [S.2.2.1, hsz]) S.2.2.2.1 (S.2.2.2.2 _ hlink) (S.2.2.2.2 _ hstat) (S.2.2.2.2 _ hini) (S.2.2.2.2 _ hcode) hf hl hcs.1 hcs.2 hdg ?_
  have e : (if Int32.ofInt a < Int32.ofInt b then Int32.ofInt b else Int32.ofInt a) = Int32.ofInt (max a b) := by
    by_cases h : a < b
    · rw [if_pos ((oI_lt ha hb).mpr h)]
      congr 1
      omega
    · rw [if_neg (fun q => h ((oI_lt ha hb).mp q))]
      congr 1
      omega
  rw [e]
  exact kk
end JC
end
