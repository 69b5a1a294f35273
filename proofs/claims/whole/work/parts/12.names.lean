def RX0 : String := "TwistDesk$Curve"
def TX0 : u_T := fun k => match k with
  | 0 => ("TwistDesk$Curve", "prime", "I", true)
  | 1 => ("TwistDesk$Curve", "d", "I", true)
  | 2 => ("TwistDesk$Curve", "i", "I", true)
  | 3 => ("TwistDesk$Curve", "size", "I", true)
  | 4 => ("TwistDesk$Curve", "inverses", "[I", true)
  | 5 => ("TwistDesk$Curve", "roots", "[I", true)
  | 6 => ("TwistDesk$Curve", "factors", "[I", true)
  | 7 => ("TwistDesk$Curve", "steps", "[I", true)
  | 8 => ("TwistDesk$Curve", "halves", "[I", true)
  | 9 => ("TwistDesk$Curve", "halfCounts", "[I", true)
  | 10 => ("TwistDesk$Curve", "factorCount", "I", false)
  | _ => ("TwistDesk$Curve", "halvesKnown", "Z", false)
def tyX0 : Nat → FieldType := fun k => match k with
  | 0 => .int
  | 1 => .int
  | 2 => .int
  | 3 => .int
  | 4 => .array .int
  | 5 => .array .int
  | 6 => .array .int
  | 7 => .array .int
  | 8 => .array .int
  | 9 => .array .int
  | 10 => .int
  | _ => .boolean
abbrev wsX00 : List Cond := u_ws RX0 TX0 12
theorem nmX0 : ∀ a, a < 12 → ∀ b, b < 12 → a ≠ b → (TX0 a).2.1 ≠ (TX0 b).2.1 := by decide +kernel
theorem tyX0_ok : ∀ k, k < 12 → parseFieldDescriptor (TX0 k).2.2.1 = some (tyX0 k) := by decide +kernel
def RX1 : String := "TwistDesk"
def TX1 : u_T := fun k => match k with
  | 0 => ("TwistDesk", "curves", "[LTwistDesk$Curve;", true)
  | 1 => ("TwistDesk", "registers", "[I", true)
  | 2 => ("TwistDesk", "kind", "I", false)
  | _ => ("TwistDesk", "curve", "LTwistDesk$Curve;", false)
def tyX1 : Nat → FieldType := fun k => match k with
  | 0 => .array (.object "TwistDesk$Curve")
  | 1 => .array .int
  | 2 => .int
  | _ => .object "TwistDesk$Curve"
abbrev wsX10 : List Cond := u_ws RX1 TX1 4
theorem nmX1 : ∀ a, a < 4 → ∀ b, b < 4 → a ≠ b → (TX1 a).2.1 ≠ (TX1 b).2.1 := by decide +kernel
theorem tyX1_ok : ∀ k, k < 4 → parseFieldDescriptor (TX1 k).2.2.1 = some (tyX1 k) := by decide +kernel
def RX2 : String := "TwistDeskModel"
def TX2 : u_T := fun k => match k with
  | 0 => ("TwistDeskModel", "thrown", "I", false)
  | 1 => ("TwistDeskModel", "kind", "I", false)
  | 2 => ("TwistDeskModel", "p", "I", false)
  | 3 => ("TwistDeskModel", "d", "I", false)
  | 4 => ("TwistDeskModel", "i", "I", false)
  | 5 => ("TwistDeskModel", "rx", "[I", true)
  | 6 => ("TwistDeskModel", "ry", "[I", true)
  | 7 => ("TwistDeskModel", "root", "[I", true)
  | 8 => ("TwistDeskModel", "baseOf", "[I", true)
  | 9 => ("TwistDeskModel", "sx", "I", false)
  | _ => ("TwistDeskModel", "sy", "I", false)
def tyX2 : Nat → FieldType := fun k => match k with
  | 0 => .int
  | 1 => .int
  | 2 => .int
  | 3 => .int
  | 4 => .int
  | 5 => .array .int
  | 6 => .array .int
  | 7 => .array .int
  | 8 => .array .int
  | 9 => .int
  | _ => .int
abbrev wsX20 : List Cond := u_ws RX2 TX2 11
theorem nmX2 : ∀ a, a < 11 → ∀ b, b < 11 → a ≠ b → (TX2 a).2.1 ≠ (TX2 b).2.1 := by decide +kernel
theorem tyX2_ok : ∀ k, k < 11 → parseFieldDescriptor (TX2 k).2.2.1 = some (tyX2 k) := by decide +kernel
def RJ9 : String := "java/lang/Math"
def RJ7 : String := "java/util/Arrays"
def RL : String := "TwistDeskLaw"
abbrev vwCl : List vw_C := [(RX0, TX0, 12), (RX1, TX1, 4), (RX2, TX2, 11)]
abbrev cX1_init : ByteArray := prog_1_method_1_code
def yX1_init : MethodName := ⟨RX1, "<init>", "()V"⟩
abbrev cX1_begin : ByteArray := prog_1_method_2_code
def yX1_begin : MethodName := ⟨RX1, "begin", "(I)I"⟩
abbrev cX1_put : ByteArray := prog_1_method_3_code
def yX1_put : MethodName := ⟨RX1, "put", "(III)V"⟩
abbrev cX1_unpack : ByteArray := prog_1_method_4_code
def yX1_unpack : MethodName := ⟨RX1, "unpack", "(II)V"⟩
abbrev cX1_packed : ByteArray := prog_1_method_5_code
def yX1_packed : MethodName := ⟨RX1, "packed", "(I)I"⟩
abbrev cX1_get : ByteArray := prog_1_method_6_code
def yX1_get : MethodName := ⟨RX1, "get", "(IZ)I"⟩
abbrev cX1_join : ByteArray := prog_1_method_7_code
def yX1_join : MethodName := ⟨RX1, "join", "(IIIZ)I"⟩
abbrev cX1_times : ByteArray := prog_1_method_8_code
def yX1_times : MethodName := ⟨RX1, "times", "(IJI)I"⟩
abbrev cX1_both : ByteArray := prog_1_method_9_code
def yX1_both : MethodName := ⟨RX1, "both", "(IJIJI)I"⟩
abbrev cX1_order : ByteArray := prog_1_method_10_code
def yX1_order : MethodName := ⟨RX1, "order", "(I)I"⟩
abbrev cX1_points : ByteArray := prog_1_method_11_code
def yX1_points : MethodName := ⟨RX1, "points", "()I"⟩
abbrev cX1_base : ByteArray := prog_1_method_12_code
def yX1_base : MethodName := ⟨RX1, "base", "()I"⟩
abbrev cX1_log : ByteArray := prog_1_method_13_code
def yX1_log : MethodName := ⟨RX1, "log", "(II)I"⟩
abbrev cX1_half : ByteArray := prog_1_method_14_code
def yX1_half : MethodName := ⟨RX1, "half", "(II)I"⟩
abbrev cX1_sign : ByteArray := prog_1_method_15_code
def yX1_sign : MethodName := ⟨RX1, "sign", "(III)J"⟩
abbrev cX1_verify : ByteArray := prog_1_method_16_code
def yX1_verify : MethodName := ⟨RX1, "verify", "(IIIJ)Z"⟩
abbrev cX1_count : ByteArray := prog_1_method_17_code
def yX1_count : MethodName := ⟨RX1, "count", "(I)I"⟩
abbrev cX1_open : ByteArray := prog_1_method_18_code
def yX1_open : MethodName := ⟨RX1, "open", "(I)V"⟩
abbrev cX1_keep : ByteArray := prog_1_method_19_code
def yX1_keep : MethodName := ⟨RX1, "keep", "(II)I"⟩
abbrev cX1_registersInUse : ByteArray := prog_1_method_20_code
def yX1_registersInUse : MethodName := ⟨RX1, "registersInUse", "()I"⟩
abbrev cX1_nonce : ByteArray := prog_1_method_21_code
def yX1_nonce : MethodName := ⟨RX1, "nonce", "(IJ)J"⟩
abbrev cX1_hash : ByteArray := prog_1_method_22_code
def yX1_hash : MethodName := ⟨RX1, "hash", "(II)I"⟩
abbrev cX1_needRegister : ByteArray := prog_1_method_23_code
def yX1_needRegister : MethodName := ⟨RX1, "needRegister", "(I)V"⟩
abbrev cX1_needNumber : ByteArray := prog_1_method_24_code
def yX1_needNumber : MethodName := ⟨RX1, "needNumber", "(I)V"⟩
abbrev cX2_init : ByteArray := prog_4_method_1_code
def yX2_init : MethodName := ⟨RX2, "<init>", "()V"⟩
abbrev cX2_thrown : ByteArray := prog_4_method_2_code
def yX2_thrown : MethodName := ⟨RX2, "thrown", "()I"⟩
abbrev cX2_none : ByteArray := prog_4_method_4_code
def yX2_none : MethodName := ⟨RX2, "none", "(I)Z"⟩
abbrev cX2_set : ByteArray := prog_4_method_5_code
def yX2_set : MethodName := ⟨RX2, "set", "(I)V"⟩
abbrev cX2_begin : ByteArray := prog_4_method_6_code
def yX2_begin : MethodName := ⟨RX2, "begin", "(I)I"⟩
abbrev cX2_of : ByteArray := prog_4_method_7_code
def yX2_of : MethodName := ⟨RX2, "of", "(J)I"⟩
abbrev cX2_over : ByteArray := prog_4_method_8_code
def yX2_over : MethodName := ⟨RX2, "over", "(II)I"⟩
abbrev cX2_isPoint : ByteArray := prog_4_method_9_code
def yX2_isPoint : MethodName := ⟨RX2, "isPoint", "(II)Z"⟩
abbrev cX2_pack : ByteArray := prog_4_method_10_code
def yX2_pack : MethodName := ⟨RX2, "pack", "(II)I"⟩
abbrev cX2_xOf : ByteArray := prog_4_method_11_code
def yX2_xOf : MethodName := ⟨RX2, "xOf", "(I)I"⟩
abbrev cX2_sum : ByteArray := prog_4_method_12_code
def yX2_sum : MethodName := ⟨RX2, "sum", "(IIII)V"⟩
abbrev cX2_times : ByteArray := prog_4_method_13_code
def yX2_times : MethodName := ⟨RX2, "times", "(JII)V"⟩
abbrev cX2_orderOf : ByteArray := prog_4_method_14_code
def yX2_orderOf : MethodName := ⟨RX2, "orderOf", "(II)I"⟩
abbrev cX2_often : ByteArray := prog_4_method_15_code
def yX2_often : MethodName := ⟨RX2, "often", "(JII)V"⟩
abbrev cX2_keep : ByteArray := prog_4_method_16_code
def yX2_keep : MethodName := ⟨RX2, "keep", "(I)I"⟩
abbrev cX2_put : ByteArray := prog_4_method_17_code
def yX2_put : MethodName := ⟨RX2, "put", "(III)V"⟩
abbrev cX2_unpack : ByteArray := prog_4_method_18_code
def yX2_unpack : MethodName := ⟨RX2, "unpack", "(II)V"⟩
abbrev cX2_packed : ByteArray := prog_4_method_19_code
def yX2_packed : MethodName := ⟨RX2, "packed", "(I)I"⟩
abbrev cX2_get : ByteArray := prog_4_method_20_code
def yX2_get : MethodName := ⟨RX2, "get", "(IZ)I"⟩
abbrev cX2_join : ByteArray := prog_4_method_21_code
def yX2_join : MethodName := ⟨RX2, "join", "(IIIZ)I"⟩
abbrev cX2_times2 : ByteArray := prog_4_method_22_code
def yX2_times2 : MethodName := ⟨RX2, "times", "(IJI)I"⟩
abbrev cX2_both : ByteArray := prog_4_method_23_code
def yX2_both : MethodName := ⟨RX2, "both", "(IJIJI)I"⟩
abbrev cX2_order : ByteArray := prog_4_method_24_code
def yX2_order : MethodName := ⟨RX2, "order", "(I)I"⟩
abbrev cX2_all : ByteArray := prog_4_method_25_code
def yX2_all : MethodName := ⟨RX2, "all", "()I"⟩
abbrev cX2_points : ByteArray := prog_4_method_26_code
def yX2_points : MethodName := ⟨RX2, "points", "()I"⟩
abbrev cX2_quick : ByteArray := prog_4_method_27_code
def yX2_quick : MethodName := ⟨RX2, "quick", "(III)V"⟩
abbrev cX2_quickOrder : ByteArray := prog_4_method_28_code
def yX2_quickOrder : MethodName := ⟨RX2, "quickOrder", "(III)I"⟩
abbrev cX2_base : ByteArray := prog_4_method_29_code
def yX2_base : MethodName := ⟨RX2, "base", "()I"⟩
abbrev cX2_log : ByteArray := prog_4_method_30_code
def yX2_log : MethodName := ⟨RX2, "log", "(II)I"⟩
abbrev cX2_half : ByteArray := prog_4_method_31_code
def yX2_half : MethodName := ⟨RX2, "half", "(II)I"⟩
abbrev cX2_sign : ByteArray := prog_4_method_32_code
def yX2_sign : MethodName := ⟨RX2, "sign", "(III)J"⟩
abbrev cX2_verify : ByteArray := prog_4_method_33_code
def yX2_verify : MethodName := ⟨RX2, "verify", "(IIIJ)Z"⟩
abbrev cX2_count : ByteArray := prog_4_method_34_code
def yX2_count : MethodName := ⟨RX2, "count", "(I)I"⟩
abbrev cX0_init : ByteArray := prog_2_method_1_code
def yX0_init : MethodName := ⟨RX0, "<init>", "(I)V"⟩
abbrev cX0_point : ByteArray := prog_2_method_2_code
def yX0_point : MethodName := ⟨RX0, "point", "(II)I"⟩
abbrev cX0_xOf : ByteArray := prog_2_method_3_code
def yX0_xOf : MethodName := ⟨RX0, "xOf", "(I)I"⟩
abbrev cX0_yOf : ByteArray := prog_2_method_4_code
def yX0_yOf : MethodName := ⟨RX0, "yOf", "(I)I"⟩
abbrev cX0_compress : ByteArray := prog_2_method_5_code
def yX0_compress : MethodName := ⟨RX0, "compress", "(I)I"⟩
abbrev cX0_holds : ByteArray := prog_2_method_6_code
def yX0_holds : MethodName := ⟨RX0, "holds", "(II)Z"⟩
abbrev cX0_read : ByteArray := prog_2_method_7_code
def yX0_read : MethodName := ⟨RX0, "read", "(I)I"⟩
abbrev cX0_other : ByteArray := prog_2_method_8_code
def yX0_other : MethodName := ⟨RX0, "other", "(I)I"⟩
abbrev cX0_sum : ByteArray := prog_2_method_9_code
def yX0_sum : MethodName := ⟨RX0, "sum", "(II)I"⟩
abbrev cX0_multiple : ByteArray := prog_2_method_10_code
def yX0_multiple : MethodName := ⟨RX0, "multiple", "(JI)I"⟩
abbrev cX0_orderOf : ByteArray := prog_2_method_11_code
def yX0_orderOf : MethodName := ⟨RX0, "orderOf", "(I)I"⟩
abbrev cX0_leastOfGreatestOrder : ByteArray := prog_2_method_12_code
def yX0_leastOfGreatestOrder : MethodName := ⟨RX0, "leastOfGreatestOrder", "()I"⟩
abbrev cX0_stepsTo : ByteArray := prog_2_method_13_code
def yX0_stepsTo : MethodName := ⟨RX0, "stepsTo", "(II)I"⟩
abbrev cX0_howManyHalves : ByteArray := prog_2_method_14_code
def yX0_howManyHalves : MethodName := ⟨RX0, "howManyHalves", "(I)I"⟩
abbrev cX0_leastHalf : ByteArray := prog_2_method_15_code
def yX0_leastHalf : MethodName := ⟨RX0, "leastHalf", "(I)I"⟩
abbrev cX0_markSmallSteps : ByteArray := prog_2_method_16_code
def yX0_markSmallSteps : MethodName := ⟨RX0, "markSmallSteps", "(I)V"⟩
abbrev cX0_fillHalves : ByteArray := prog_2_method_17_code
def yX0_fillHalves : MethodName := ⟨RX0, "fillHalves", "()V"⟩
abbrev cX0_countHalf : ByteArray := prog_2_method_18_code
def yX0_countHalf : MethodName := ⟨RX0, "countHalf", "(I)V"⟩
abbrev cX0_place : ByteArray := prog_2_method_19_code
def yX0_place : MethodName := ⟨RX0, "place", "(I)I"⟩
abbrev cX0_rootFor : ByteArray := prog_2_method_20_code
def yX0_rootFor : MethodName := ⟨RX0, "rootFor", "(I)I"⟩
abbrev cX0_fillInverses : ByteArray := prog_2_method_21_code
def yX0_fillInverses : MethodName := ⟨RX0, "fillInverses", "()V"⟩
abbrev cX0_fillRoots : ByteArray := prog_2_method_22_code
def yX0_fillRoots : MethodName := ⟨RX0, "fillRoots", "()V"⟩
abbrev cX0_leastNonSquare : ByteArray := prog_2_method_23_code
def yX0_leastNonSquare : MethodName := ⟨RX0, "leastNonSquare", "()I"⟩
abbrev cX0_countPoints : ByteArray := prog_2_method_24_code
def yX0_countPoints : MethodName := ⟨RX0, "countPoints", "()I"⟩
abbrev cX0_fillFactors : ByteArray := prog_2_method_25_code
def yX0_fillFactors : MethodName := ⟨RX0, "fillFactors", "()V"⟩
abbrev cL_begin : ByteArray := method_3_code
def yL_begin : MethodName := ⟨RL, "begin", "(LTwistDesk;I[J)I"⟩
abbrev cL_put : ByteArray := method_4_code
def yL_put : MethodName := ⟨RL, "put", "(LTwistDesk;III)I"⟩
abbrev cL_unpack : ByteArray := method_5_code
def yL_unpack : MethodName := ⟨RL, "unpack", "(LTwistDesk;II)I"⟩
abbrev cL_packed : ByteArray := method_6_code
def yL_packed : MethodName := ⟨RL, "packed", "(LTwistDesk;I[J)I"⟩
abbrev cL_get : ByteArray := method_7_code
def yL_get : MethodName := ⟨RL, "get", "(LTwistDesk;IZ[J)I"⟩
abbrev cL_join : ByteArray := method_8_code
def yL_join : MethodName := ⟨RL, "join", "(LTwistDesk;IIIZ[J)I"⟩
abbrev cL_times : ByteArray := method_9_code
def yL_times : MethodName := ⟨RL, "times", "(LTwistDesk;IJI[J)I"⟩
abbrev cL_both : ByteArray := method_10_code
def yL_both : MethodName := ⟨RL, "both", "(LTwistDesk;IJIJI[J)I"⟩
abbrev cL_order : ByteArray := method_11_code
def yL_order : MethodName := ⟨RL, "order", "(LTwistDesk;I[J)I"⟩
abbrev cL_log : ByteArray := method_12_code
def yL_log : MethodName := ⟨RL, "log", "(LTwistDesk;II[J)I"⟩
abbrev cL_half : ByteArray := method_13_code
def yL_half : MethodName := ⟨RL, "half", "(LTwistDesk;II[J)I"⟩
abbrev cL_sign : ByteArray := method_14_code
def yL_sign : MethodName := ⟨RL, "sign", "(LTwistDesk;III[J)I"⟩
abbrev cL_verify : ByteArray := method_15_code
def yL_verify : MethodName := ⟨RL, "verify", "(LTwistDesk;IIIJ[J)I"⟩
abbrev cL_law : ByteArray := code
def yL_law : MethodName := ⟨RL, "law", "([I)Z"⟩
abbrev cJ9_floorMod : ByteArray := prog_8_method_52_code
def yJ9_floorMod : MethodName := ⟨RJ9, "floorMod", "(JJ)J"⟩
abbrev cJ7_fill : ByteArray := prog_12_method_103_code
def yJ7_fill : MethodName := ⟨RJ7, "fill", "([II)V"⟩
/-- all words of the tables that stay true -/
def tb_all : List Cond := lw_tbl.filter goodWord
theorem tb_s {w : Cond} (h : w ∈ k2_sels lw_privs) (g : goodWord w = true) : w ∈ tb_all := List.mem_filter.mpr ⟨List.mem_append_left _ h, g⟩
theorem tb_1 {w : Cond} (h : w ∈ tables_1_1) (g : goodWord w = true) : w ∈ tb_all := List.mem_filter.mpr ⟨List.mem_append_right _ (List.mem_append_left _ h), g⟩
theorem tb_2 {w : Cond} (h : w ∈ tables_1_2) (g : goodWord w = true) : w ∈ tb_all := List.mem_filter.mpr ⟨List.mem_append_right _ (List.mem_append_right _ (List.mem_append_left _ h)), g⟩
theorem tb_3 {w : Cond} (h : w ∈ tables_1_3) (g : goodWord w = true) : w ∈ tb_all := List.mem_filter.mpr ⟨List.mem_append_right _ (List.mem_append_right _ (List.mem_append_right _ h)), g⟩
theorem tb_good {w : Cond} (h : w ∈ tb_all) : w ∈ tb_all ∧ ((w.onTables && w.keeps) = true ∨ ∃ ty, w = .arrayClass ty) := ⟨h, good_of_word (List.mem_filter.mp h).2⟩
theorem tb_cons {w : Cond} (h : w ∈ tb_all) : GoodIn tb_all (w :: tb_all) := fun v hv => (List.mem_cons.mp hv).elim (fun e => by rw [e]; exact tb_good h) tb_good
theorem tb_V {own C : String} {idx : Nat} {y : MethodName} {w : Cond} (h1 : Cond.methodLink own idx y ∈ tb_all) (h2 : Cond.instanceMethod y ∈ tb_all) (h3 : Cond.selects C y y ∈ tb_all) (h4 : Cond.initialized C ∈ tb_all) (h5 : w ∈ tb_all) : GoodIn tb_all (wsV own idx C y (w :: tb_all)) := by
  intro v hv
  unfold wsV at hv
  rcases List.mem_append.mp hv with h | h
  · simp only [List.mem_cons, List.not_mem_nil, or_false] at h
    rcases h with e | e | e | e <;> rw [e]
    · exact tb_good h1
    · exact tb_good h2
    · exact tb_good h3
    · exact tb_good h4
  · exact tb_cons h5 v h
theorem tb_S {own : String} {idx : Nat} {y : MethodName} {w : Cond} (h1 : Cond.methodLink own idx y ∈ tb_all) (h2 : Cond.static y ∈ tb_all) (h4 : Cond.initialized y.cls ∈ tb_all) (h5 : w ∈ tb_all) : GoodIn tb_all (va_wsS own idx y (w :: tb_all)) := by
  intro v hv
  unfold va_wsS at hv
  rcases List.mem_append.mp hv with h | h
  · simp only [List.mem_cons, List.not_mem_nil, or_false] at h
    rcases h with e | e | e <;> rw [e]
    · exact tb_good h1
    · exact tb_good h2
    · exact tb_good h4
  · exact tb_cons h5 v h
theorem kn_L : (.initialized RL : Cond) ∈ tb_all := tb_1 (List.mem_of_getElem? (i := 0) (by rfl)) (by decide +kernel)
theorem kn_X1 : (.initialized RX1 : Cond) ∈ tb_all := tb_1 (List.mem_of_getElem? (i := 1) (by rfl)) (by decide +kernel)
theorem kn_X0 : (.initialized RX0 : Cond) ∈ tb_all := tb_1 (List.mem_of_getElem? (i := 2) (by rfl)) (by decide +kernel)
theorem kn_J7 : (.initialized RJ7 : Cond) ∈ tb_all := tb_1 (List.mem_of_getElem? (i := 3) (by rfl)) (by decide +kernel)
theorem kn_X2 : (.initialized RX2 : Cond) ∈ tb_all := tb_1 (List.mem_of_getElem? (i := 4) (by rfl)) (by decide +kernel)
theorem kn_Throwable : (.initialized "java/lang/Throwable" : Cond) ∈ tb_all := tb_1 (List.mem_of_getElem? (i := 5) (by rfl)) (by decide +kernel)
theorem kn_Exception : (.initialized "java/lang/Exception" : Cond) ∈ tb_all := tb_1 (List.mem_of_getElem? (i := 6) (by rfl)) (by decide +kernel)
theorem kn_RuntimeException : (.initialized "java/lang/RuntimeException" : Cond) ∈ tb_all := tb_1 (List.mem_of_getElem? (i := 7) (by rfl)) (by decide +kernel)
theorem kn_IllegalArgumentException : (.initialized "java/lang/IllegalArgumentException" : Cond) ∈ tb_all := tb_1 (List.mem_of_getElem? (i := 8) (by rfl)) (by decide +kernel)
theorem kn_NoSuchElementException : (.initialized "java/util/NoSuchElementException" : Cond) ∈ tb_all := tb_1 (List.mem_of_getElem? (i := 9) (by rfl)) (by decide +kernel)
theorem kn_J9 : (.initialized RJ9 : Cond) ∈ tb_all := tb_1 (List.mem_of_getElem? (i := 10) (by rfl)) (by decide +kernel)
theorem kn_IllegalStateException : (.initialized "java/lang/IllegalStateException" : Cond) ∈ tb_all := tb_1 (List.mem_of_getElem? (i := 11) (by rfl)) (by decide +kernel)
theorem kk_L_8 : (.classLink RL 8 RX1 : Cond) ∈ tb_all := tb_1 (List.mem_of_getElem? (i := 12) (by rfl)) (by decide +kernel)
theorem kz_X1 : (.instantiable RX1 4 : Cond) ∈ tb_all := tb_1 (List.mem_of_getElem? (i := 13) (by rfl)) (by decide +kernel)
theorem kl_L_64 : (.methodLink RL 64 yX1_init : Cond) ∈ tb_all := tb_1 (List.mem_of_getElem? (i := 14) (by rfl)) (by decide +kernel)
theorem ki_X1_init : (.instanceMethod yX1_init : Cond) ∈ tb_all := tb_1 (List.mem_of_getElem? (i := 15) (by rfl)) (by decide +kernel)
theorem kc_X1_init : (.code yX1_init cX1_init 1 none : Cond) ∈ tb_all := tb_1 (List.mem_of_getElem? (i := 16) (by rfl)) (by decide +kernel)
theorem kl_X1_3 : (.methodLink RX1 3 objectInit : Cond) ∈ tb_all := tb_1 (List.mem_of_getElem? (i := 17) (by rfl)) (by decide +kernel)
theorem kf_X1_9 : (.fieldLink RX1 9 "TwistDesk" "PRIMES" "[I" : Cond) ∈ tb_all := tb_1 (List.mem_of_getElem? (i := 20) (by rfl)) (by decide +kernel)
theorem kk_X1_13 : (.classLink RX1 13 RX0 : Cond) ∈ tb_all := tb_1 (List.mem_of_getElem? (i := 22) (by rfl)) (by decide +kernel)
theorem kl_X1_22 : (.methodLink RX1 22 yX1_open : Cond) ∈ tb_all := tb_1 (List.mem_of_getElem? (i := 24) (by rfl)) (by decide +kernel)
theorem ki_X1_open : (.instanceMethod yX1_open : Cond) ∈ tb_all := tb_1 (List.mem_of_getElem? (i := 26) (by rfl)) (by decide +kernel)
theorem kc_X1_open : (.code yX1_open cX1_open 2 none : Cond) ∈ tb_all := tb_1 (List.mem_of_getElem? (i := 27) (by rfl)) (by decide +kernel)
theorem kz_X0 : (.instantiable RX0 12 : Cond) ∈ tb_all := tb_1 (List.mem_of_getElem? (i := 28) (by rfl)) (by decide +kernel)
theorem kl_X1_132 : (.methodLink RX1 132 yX0_init : Cond) ∈ tb_all := tb_1 (List.mem_of_getElem? (i := 29) (by rfl)) (by decide +kernel)
theorem ki_X0_init : (.instanceMethod yX0_init : Cond) ∈ tb_all := tb_1 (List.mem_of_getElem? (i := 30) (by rfl)) (by decide +kernel)
theorem kc_X0_init : (.code yX0_init cX0_init 2 none : Cond) ∈ tb_all := tb_1 (List.mem_of_getElem? (i := 31) (by rfl)) (by decide +kernel)
theorem kl_X0_3 : (.methodLink RX0 3 objectInit : Cond) ∈ tb_all := tb_1 (List.mem_of_getElem? (i := 32) (by rfl)) (by decide +kernel)
theorem kl_X0_32 : (.methodLink RX0 32 yX0_fillInverses : Cond) ∈ tb_all := tb_1 (List.mem_of_getElem? (i := 33) (by rfl)) (by decide +kernel)
theorem ki_X0_fillInverses : (.instanceMethod yX0_fillInverses : Cond) ∈ tb_all := tb_1 (List.mem_of_getElem? (i := 35) (by rfl)) (by decide +kernel)
theorem kc_X0_fillInverses : (.code yX0_fillInverses cX0_fillInverses 2 none : Cond) ∈ tb_all := tb_1 (List.mem_of_getElem? (i := 36) (by rfl)) (by decide +kernel)
theorem kl_X0_35 : (.methodLink RX0 35 yX0_fillRoots : Cond) ∈ tb_all := tb_1 (List.mem_of_getElem? (i := 37) (by rfl)) (by decide +kernel)
theorem ki_X0_fillRoots : (.instanceMethod yX0_fillRoots : Cond) ∈ tb_all := tb_1 (List.mem_of_getElem? (i := 39) (by rfl)) (by decide +kernel)
theorem kc_X0_fillRoots : (.code yX0_fillRoots cX0_fillRoots 2 none : Cond) ∈ tb_all := tb_1 (List.mem_of_getElem? (i := 40) (by rfl)) (by decide +kernel)
theorem kl_X0_108 : (.methodLink RX0 108 yJ7_fill : Cond) ∈ tb_all := tb_1 (List.mem_of_getElem? (i := 41) (by rfl)) (by decide +kernel)
theorem kt_J7_fill : (.static yJ7_fill : Cond) ∈ tb_all := tb_1 (List.mem_of_getElem? (i := 42) (by rfl)) (by decide +kernel)
theorem kc_J7_fill : (.code yJ7_fill cJ7_fill 4 none : Cond) ∈ tb_all := tb_1 (List.mem_of_getElem? (i := 43) (by rfl)) (by decide +kernel)
theorem kl_X0_38 : (.methodLink RX0 38 yX0_leastNonSquare : Cond) ∈ tb_all := tb_1 (List.mem_of_getElem? (i := 44) (by rfl)) (by decide +kernel)
theorem ki_X0_leastNonSquare : (.instanceMethod yX0_leastNonSquare : Cond) ∈ tb_all := tb_1 (List.mem_of_getElem? (i := 46) (by rfl)) (by decide +kernel)
theorem kc_X0_leastNonSquare : (.code yX0_leastNonSquare cX0_leastNonSquare 2 (some .int) : Cond) ∈ tb_all := tb_1 (List.mem_of_getElem? (i := 47) (by rfl)) (by decide +kernel)
theorem kl_X0_48 : (.methodLink RX0 48 yX0_countPoints : Cond) ∈ tb_all := tb_1 (List.mem_of_getElem? (i := 48) (by rfl)) (by decide +kernel)
theorem ki_X0_countPoints : (.instanceMethod yX0_countPoints : Cond) ∈ tb_all := tb_1 (List.mem_of_getElem? (i := 50) (by rfl)) (by decide +kernel)
theorem kc_X0_countPoints : (.code yX0_countPoints cX0_countPoints 4 (some .int) : Cond) ∈ tb_all := tb_1 (List.mem_of_getElem? (i := 51) (by rfl)) (by decide +kernel)
theorem kl_X0_64 : (.methodLink RX0 64 yX0_rootFor : Cond) ∈ tb_all := tb_1 (List.mem_of_getElem? (i := 52) (by rfl)) (by decide +kernel)
theorem ki_X0_rootFor : (.instanceMethod yX0_rootFor : Cond) ∈ tb_all := tb_1 (List.mem_of_getElem? (i := 54) (by rfl)) (by decide +kernel)
theorem kc_X0_rootFor : (.code yX0_rootFor cX0_rootFor 4 (some .int) : Cond) ∈ tb_all := tb_1 (List.mem_of_getElem? (i := 55) (by rfl)) (by decide +kernel)
theorem kl_X0_54 : (.methodLink RX0 54 yX0_fillFactors : Cond) ∈ tb_all := tb_1 (List.mem_of_getElem? (i := 56) (by rfl)) (by decide +kernel)
theorem ki_X0_fillFactors : (.instanceMethod yX0_fillFactors : Cond) ∈ tb_all := tb_1 (List.mem_of_getElem? (i := 58) (by rfl)) (by decide +kernel)
theorem kc_X0_fillFactors : (.code yX0_fillFactors cX0_fillFactors 3 none : Cond) ∈ tb_all := tb_1 (List.mem_of_getElem? (i := 59) (by rfl)) (by decide +kernel)
theorem kf_X0_9 : (.fieldLink RX0 9 "TwistDesk$Curve" "prime" "I" : Cond) ∈ tb_all := tb_1 (List.mem_of_getElem? (i := 60) (by rfl)) (by decide +kernel)
theorem kf_X1_37 : (.fieldLink RX1 37 "TwistDesk$Curve" "prime" "I" : Cond) ∈ tb_all := tb_1 (List.mem_of_getElem? (i := 61) (by rfl)) (by decide +kernel)
theorem kf_X0_42 : (.fieldLink RX0 42 "TwistDesk$Curve" "d" "I" : Cond) ∈ tb_all := tb_1 (List.mem_of_getElem? (i := 62) (by rfl)) (by decide +kernel)
theorem kf_X1_123 : (.fieldLink RX1 123 "TwistDesk$Curve" "d" "I" : Cond) ∈ tb_all := tb_1 (List.mem_of_getElem? (i := 63) (by rfl)) (by decide +kernel)
theorem kf_X0_45 : (.fieldLink RX0 45 "TwistDesk$Curve" "i" "I" : Cond) ∈ tb_all := tb_1 (List.mem_of_getElem? (i := 64) (by rfl)) (by decide +kernel)
theorem kf_X1_126 : (.fieldLink RX1 126 "TwistDesk$Curve" "i" "I" : Cond) ∈ tb_all := tb_1 (List.mem_of_getElem? (i := 65) (by rfl)) (by decide +kernel)
theorem kf_X0_51 : (.fieldLink RX0 51 "TwistDesk$Curve" "size" "I" : Cond) ∈ tb_all := tb_1 (List.mem_of_getElem? (i := 66) (by rfl)) (by decide +kernel)
theorem kf_X1_85 : (.fieldLink RX1 85 "TwistDesk$Curve" "size" "I" : Cond) ∈ tb_all := tb_1 (List.mem_of_getElem? (i := 67) (by rfl)) (by decide +kernel)
theorem kf_X0_13 : (.fieldLink RX0 13 "TwistDesk$Curve" "inverses" "[I" : Cond) ∈ tb_all := tb_1 (List.mem_of_getElem? (i := 68) (by rfl)) (by decide +kernel)
theorem kf_X0_17 : (.fieldLink RX0 17 "TwistDesk$Curve" "roots" "[I" : Cond) ∈ tb_all := tb_1 (List.mem_of_getElem? (i := 69) (by rfl)) (by decide +kernel)
theorem kf_X0_20 : (.fieldLink RX0 20 "TwistDesk$Curve" "factors" "[I" : Cond) ∈ tb_all := tb_1 (List.mem_of_getElem? (i := 70) (by rfl)) (by decide +kernel)
theorem kf_X0_23 : (.fieldLink RX0 23 "TwistDesk$Curve" "steps" "[I" : Cond) ∈ tb_all := tb_1 (List.mem_of_getElem? (i := 71) (by rfl)) (by decide +kernel)
theorem kf_X0_26 : (.fieldLink RX0 26 "TwistDesk$Curve" "halves" "[I" : Cond) ∈ tb_all := tb_1 (List.mem_of_getElem? (i := 72) (by rfl)) (by decide +kernel)
theorem kf_X0_29 : (.fieldLink RX0 29 "TwistDesk$Curve" "halfCounts" "[I" : Cond) ∈ tb_all := tb_1 (List.mem_of_getElem? (i := 73) (by rfl)) (by decide +kernel)
theorem kf_X0_80 : (.fieldLink RX0 80 "TwistDesk$Curve" "factorCount" "I" : Cond) ∈ tb_all := tb_1 (List.mem_of_getElem? (i := 74) (by rfl)) (by decide +kernel)
theorem kf_X0_114 : (.fieldLink RX0 114 "TwistDesk$Curve" "halvesKnown" "Z" : Cond) ∈ tb_all := tb_1 (List.mem_of_getElem? (i := 75) (by rfl)) (by decide +kernel)
theorem ka_int : (.arrayClass .int : Cond) ∈ tb_all := tb_1 (List.mem_of_getElem? (i := 101) (by rfl)) (by decide +kernel)
theorem kl_X1_134 : (.methodLink RX1 134 yJ7_fill : Cond) ∈ tb_all := tb_1 (List.mem_of_getElem? (i := 102) (by rfl)) (by decide +kernel)
theorem kf_X1_15 : (.fieldLink RX1 15 "TwistDesk" "curves" "[LTwistDesk$Curve;" : Cond) ∈ tb_all := tb_1 (List.mem_of_getElem? (i := 103) (by rfl)) (by decide +kernel)
theorem kf_X1_19 : (.fieldLink RX1 19 "TwistDesk" "registers" "[I" : Cond) ∈ tb_all := tb_1 (List.mem_of_getElem? (i := 104) (by rfl)) (by decide +kernel)
theorem kf_X1_120 : (.fieldLink RX1 120 "TwistDesk" "kind" "I" : Cond) ∈ tb_all := tb_1 (List.mem_of_getElem? (i := 105) (by rfl)) (by decide +kernel)
theorem kf_X1_33 : (.fieldLink RX1 33 "TwistDesk" "curve" "LTwistDesk$Curve;" : Cond) ∈ tb_all := tb_1 (List.mem_of_getElem? (i := 106) (by rfl)) (by decide +kernel)
theorem kl_L_110 : (.methodLink RL 110 yX1_points : Cond) ∈ tb_all := tb_1 (List.mem_of_getElem? (i := 116) (by rfl)) (by decide +kernel)
theorem ki_X1_points : (.instanceMethod yX1_points : Cond) ∈ tb_all := tb_1 (List.mem_of_getElem? (i := 117) (by rfl)) (by decide +kernel)
theorem ks_X1_points : (.selects RX1 yX1_points yX1_points : Cond) ∈ tb_all := tb_1 (List.mem_of_getElem? (i := 118) (by rfl)) (by decide +kernel)
theorem kc_X1_points : (.code yX1_points cX1_points 1 (some .int) : Cond) ∈ tb_all := tb_1 (List.mem_of_getElem? (i := 119) (by rfl)) (by decide +kernel)
theorem kl_L_114 : (.methodLink RL 114 yX1_base : Cond) ∈ tb_all := tb_1 (List.mem_of_getElem? (i := 120) (by rfl)) (by decide +kernel)
theorem ki_X1_base : (.instanceMethod yX1_base : Cond) ∈ tb_all := tb_1 (List.mem_of_getElem? (i := 121) (by rfl)) (by decide +kernel)
theorem ks_X1_base : (.selects RX1 yX1_base yX1_base : Cond) ∈ tb_all := tb_1 (List.mem_of_getElem? (i := 122) (by rfl)) (by decide +kernel)
theorem kc_X1_base : (.code yX1_base cX1_base 1 (some .int) : Cond) ∈ tb_all := tb_1 (List.mem_of_getElem? (i := 123) (by rfl)) (by decide +kernel)
theorem kl_X1_88 : (.methodLink RX1 88 yX0_leastOfGreatestOrder : Cond) ∈ tb_all := tb_1 (List.mem_of_getElem? (i := 124) (by rfl)) (by decide +kernel)
theorem ki_X0_leastOfGreatestOrder : (.instanceMethod yX0_leastOfGreatestOrder : Cond) ∈ tb_all := tb_1 (List.mem_of_getElem? (i := 125) (by rfl)) (by decide +kernel)
theorem ks_X0_leastOfGreatestOrder : (.selects RX0 yX0_leastOfGreatestOrder yX0_leastOfGreatestOrder : Cond) ∈ tb_all := tb_1 (List.mem_of_getElem? (i := 126) (by rfl)) (by decide +kernel)
theorem kc_X0_leastOfGreatestOrder : (.code yX0_leastOfGreatestOrder cX0_leastOfGreatestOrder 6 (some .int) : Cond) ∈ tb_all := tb_1 (List.mem_of_getElem? (i := 127) (by rfl)) (by decide +kernel)
theorem kl_X0_87 : (.methodLink RX0 87 yX0_read : Cond) ∈ tb_all := tb_1 (List.mem_of_getElem? (i := 128) (by rfl)) (by decide +kernel)
theorem ki_X0_read : (.instanceMethod yX0_read : Cond) ∈ tb_all := tb_1 (List.mem_of_getElem? (i := 129) (by rfl)) (by decide +kernel)
theorem ks_X0_read : (.selects RX0 yX0_read yX0_read : Cond) ∈ tb_all := tb_1 (List.mem_of_getElem? (i := 130) (by rfl)) (by decide +kernel)
theorem kc_X0_read : (.code yX0_read cX0_read 5 (some .int) : Cond) ∈ tb_all := tb_1 (List.mem_of_getElem? (i := 131) (by rfl)) (by decide +kernel)
theorem kl_X0_67 : (.methodLink RX0 67 yX0_point : Cond) ∈ tb_all := tb_1 (List.mem_of_getElem? (i := 132) (by rfl)) (by decide +kernel)
theorem kt_X0_point : (.static yX0_point : Cond) ∈ tb_all := tb_1 (List.mem_of_getElem? (i := 133) (by rfl)) (by decide +kernel)
theorem kc_X0_point : (.code yX0_point cX0_point 2 (some .int) : Cond) ∈ tb_all := tb_1 (List.mem_of_getElem? (i := 134) (by rfl)) (by decide +kernel)
theorem kl_X0_90 : (.methodLink RX0 90 yX0_orderOf : Cond) ∈ tb_all := tb_1 (List.mem_of_getElem? (i := 135) (by rfl)) (by decide +kernel)
theorem ki_X0_orderOf : (.instanceMethod yX0_orderOf : Cond) ∈ tb_all := tb_1 (List.mem_of_getElem? (i := 136) (by rfl)) (by decide +kernel)
theorem ks_X0_orderOf : (.selects RX0 yX0_orderOf yX0_orderOf : Cond) ∈ tb_all := tb_1 (List.mem_of_getElem? (i := 137) (by rfl)) (by decide +kernel)
theorem kc_X0_orderOf : (.code yX0_orderOf cX0_orderOf 5 (some .int) : Cond) ∈ tb_all := tb_1 (List.mem_of_getElem? (i := 138) (by rfl)) (by decide +kernel)
theorem kl_X0_83 : (.methodLink RX0 83 yX0_multiple : Cond) ∈ tb_all := tb_1 (List.mem_of_getElem? (i := 139) (by rfl)) (by decide +kernel)
theorem ki_X0_multiple : (.instanceMethod yX0_multiple : Cond) ∈ tb_all := tb_1 (List.mem_of_getElem? (i := 140) (by rfl)) (by decide +kernel)
theorem ks_X0_multiple : (.selects RX0 yX0_multiple yX0_multiple : Cond) ∈ tb_all := tb_1 (List.mem_of_getElem? (i := 141) (by rfl)) (by decide +kernel)
theorem kc_X0_multiple : (.code yX0_multiple cX0_multiple 7 (some .int) : Cond) ∈ tb_all := tb_1 (List.mem_of_getElem? (i := 142) (by rfl)) (by decide +kernel)
theorem kl_X0_71 : (.methodLink RX0 71 yJ9_floorMod : Cond) ∈ tb_all := tb_1 (List.mem_of_getElem? (i := 143) (by rfl)) (by decide +kernel)
theorem kt_J9_floorMod : (.static yJ9_floorMod : Cond) ∈ tb_all := tb_1 (List.mem_of_getElem? (i := 144) (by rfl)) (by decide +kernel)
theorem kc_J9_floorMod : (.code yJ9_floorMod cJ9_floorMod 6 (some .long) : Cond) ∈ tb_all := tb_1 (List.mem_of_getElem? (i := 145) (by rfl)) (by decide +kernel)
theorem kl_X0_77 : (.methodLink RX0 77 yX0_sum : Cond) ∈ tb_all := tb_1 (List.mem_of_getElem? (i := 146) (by rfl)) (by decide +kernel)
theorem ki_X0_sum : (.instanceMethod yX0_sum : Cond) ∈ tb_all := tb_1 (List.mem_of_getElem? (i := 147) (by rfl)) (by decide +kernel)
theorem ks_X0_sum : (.selects RX0 yX0_sum yX0_sum : Cond) ∈ tb_all := tb_1 (List.mem_of_getElem? (i := 148) (by rfl)) (by decide +kernel)
theorem kc_X0_sum : (.code yX0_sum cX0_sum 10 (some .int) : Cond) ∈ tb_all := tb_1 (List.mem_of_getElem? (i := 149) (by rfl)) (by decide +kernel)
theorem kl_X0_61 : (.methodLink RX0 61 yX0_xOf : Cond) ∈ tb_all := tb_1 (List.mem_of_getElem? (i := 150) (by rfl)) (by decide +kernel)
theorem kt_X0_xOf : (.static yX0_xOf : Cond) ∈ tb_all := tb_1 (List.mem_of_getElem? (i := 151) (by rfl)) (by decide +kernel)
theorem kc_X0_xOf : (.code yX0_xOf cX0_xOf 1 (some .int) : Cond) ∈ tb_all := tb_1 (List.mem_of_getElem? (i := 152) (by rfl)) (by decide +kernel)
theorem kl_X0_57 : (.methodLink RX0 57 yX0_yOf : Cond) ∈ tb_all := tb_1 (List.mem_of_getElem? (i := 153) (by rfl)) (by decide +kernel)
theorem kt_X0_yOf : (.static yX0_yOf : Cond) ∈ tb_all := tb_1 (List.mem_of_getElem? (i := 154) (by rfl)) (by decide +kernel)
theorem kc_X0_yOf : (.code yX0_yOf cX0_yOf 1 (some .int) : Cond) ∈ tb_all := tb_1 (List.mem_of_getElem? (i := 155) (by rfl)) (by decide +kernel)
theorem kl_L_133 : (.methodLink RL 133 yX1_count : Cond) ∈ tb_all := tb_1 (List.mem_of_getElem? (i := 156) (by rfl)) (by decide +kernel)
theorem ki_X1_count : (.instanceMethod yX1_count : Cond) ∈ tb_all := tb_1 (List.mem_of_getElem? (i := 157) (by rfl)) (by decide +kernel)
theorem ks_X1_count : (.selects RX1 yX1_count yX1_count : Cond) ∈ tb_all := tb_1 (List.mem_of_getElem? (i := 158) (by rfl)) (by decide +kernel)
theorem kc_X1_count : (.code yX1_count cX1_count 2 (some .int) : Cond) ∈ tb_all := tb_1 (List.mem_of_getElem? (i := 159) (by rfl)) (by decide +kernel)
theorem kl_X1_129 : (.methodLink RX1 129 yX1_registersInUse : Cond) ∈ tb_all := tb_1 (List.mem_of_getElem? (i := 160) (by rfl)) (by decide +kernel)
theorem ki_X1_registersInUse : (.instanceMethod yX1_registersInUse : Cond) ∈ tb_all := tb_1 (List.mem_of_getElem? (i := 162) (by rfl)) (by decide +kernel)
theorem kc_X1_registersInUse : (.code yX1_registersInUse cX1_registersInUse 6 (some .int) : Cond) ∈ tb_all := tb_1 (List.mem_of_getElem? (i := 163) (by rfl)) (by decide +kernel)
theorem kl_L_68 : (.methodLink RL 68 yL_begin : Cond) ∈ tb_all := tb_1 (List.mem_of_getElem? (i := 164) (by rfl)) (by decide +kernel)
theorem kt_L_begin : (.static yL_begin : Cond) ∈ tb_all := tb_1 (List.mem_of_getElem? (i := 165) (by rfl)) (by decide +kernel)
theorem kc_L_begin : (.codeWith yL_begin cL_begin 4 (some .int) [(0, 9, 12, 13)] : Cond) ∈ tb_all := tb_1 (List.mem_of_getElem? (i := 166) (by rfl)) (by decide +kernel)
theorem kk_L_13 : (.classLink RL 13 "java/lang/IllegalArgumentException" : Cond) ∈ tb_all := tb_1 (List.mem_of_getElem? (i := 167) (by rfl)) (by decide +kernel)
theorem kl_L_7 : (.methodLink RL 7 yX1_begin : Cond) ∈ tb_all := tb_1 (List.mem_of_getElem? (i := 168) (by rfl)) (by decide +kernel)
theorem ki_X1_begin : (.instanceMethod yX1_begin : Cond) ∈ tb_all := tb_1 (List.mem_of_getElem? (i := 169) (by rfl)) (by decide +kernel)
theorem ks_X1_begin : (.selects RX1 yX1_begin yX1_begin : Cond) ∈ tb_all := tb_1 (List.mem_of_getElem? (i := 170) (by rfl)) (by decide +kernel)
theorem kc_X1_begin : (.code yX1_begin cX1_begin 2 (some .int) : Cond) ∈ tb_all := tb_1 (List.mem_of_getElem? (i := 171) (by rfl)) (by decide +kernel)
theorem kk_X1_26 : (.classLink RX1 26 "java/lang/IllegalArgumentException" : Cond) ∈ tb_all := tb_1 (List.mem_of_getElem? (i := 172) (by rfl)) (by decide +kernel)
theorem ka_byte : (.arrayClass .byte : Cond) ∈ tb_all := tb_1 (List.mem_of_getElem? (i := 239) (by rfl)) (by decide +kernel)
theorem kl_L_78 : (.methodLink RL 78 yL_put : Cond) ∈ tb_all := tb_2 (List.mem_of_getElem? (i := 0) (by rfl)) (by decide +kernel)
theorem kt_L_put : (.static yL_put : Cond) ∈ tb_all := tb_2 (List.mem_of_getElem? (i := 1) (by rfl)) (by decide +kernel)
theorem kc_L_put : (.codeWith yL_put cL_put 5 (some .int) [(0, 7, 10, 19), (0, 7, 14, 13)] : Cond) ∈ tb_all := tb_2 (List.mem_of_getElem? (i := 2) (by rfl)) (by decide +kernel)
theorem kk_L_19 : (.classLink RL 19 "java/util/NoSuchElementException" : Cond) ∈ tb_all := tb_2 (List.mem_of_getElem? (i := 3) (by rfl)) (by decide +kernel)
theorem kl_L_15 : (.methodLink RL 15 yX1_put : Cond) ∈ tb_all := tb_2 (List.mem_of_getElem? (i := 4) (by rfl)) (by decide +kernel)
theorem ki_X1_put : (.instanceMethod yX1_put : Cond) ∈ tb_all := tb_2 (List.mem_of_getElem? (i := 5) (by rfl)) (by decide +kernel)
theorem ks_X1_put : (.selects RX1 yX1_put yX1_put : Cond) ∈ tb_all := tb_2 (List.mem_of_getElem? (i := 6) (by rfl)) (by decide +kernel)
theorem kc_X1_put : (.code yX1_put cX1_put 4 none : Cond) ∈ tb_all := tb_2 (List.mem_of_getElem? (i := 7) (by rfl)) (by decide +kernel)
theorem kl_X1_41 : (.methodLink RX1 41 yX1_needRegister : Cond) ∈ tb_all := tb_2 (List.mem_of_getElem? (i := 8) (by rfl)) (by decide +kernel)
theorem kt_X1_needRegister : (.static yX1_needRegister : Cond) ∈ tb_all := tb_2 (List.mem_of_getElem? (i := 9) (by rfl)) (by decide +kernel)
theorem kc_X1_needRegister : (.code yX1_needRegister cX1_needRegister 1 none : Cond) ∈ tb_all := tb_2 (List.mem_of_getElem? (i := 10) (by rfl)) (by decide +kernel)
theorem kk_X1_143 : (.classLink RX1 143 "java/util/NoSuchElementException" : Cond) ∈ tb_all := tb_2 (List.mem_of_getElem? (i := 11) (by rfl)) (by decide +kernel)
theorem kl_X1_44 : (.methodLink RX1 44 yX0_holds : Cond) ∈ tb_all := tb_2 (List.mem_of_getElem? (i := 27) (by rfl)) (by decide +kernel)
theorem ki_X0_holds : (.instanceMethod yX0_holds : Cond) ∈ tb_all := tb_2 (List.mem_of_getElem? (i := 28) (by rfl)) (by decide +kernel)
theorem ks_X0_holds : (.selects RX0 yX0_holds yX0_holds : Cond) ∈ tb_all := tb_2 (List.mem_of_getElem? (i := 29) (by rfl)) (by decide +kernel)
theorem kc_X0_holds : (.code yX0_holds cX0_holds 7 (some .boolean) : Cond) ∈ tb_all := tb_2 (List.mem_of_getElem? (i := 30) (by rfl)) (by decide +kernel)
theorem kl_X1_50 : (.methodLink RX1 50 yX0_point : Cond) ∈ tb_all := tb_2 (List.mem_of_getElem? (i := 32) (by rfl)) (by decide +kernel)
theorem kl_L_82 : (.methodLink RL 82 yL_unpack : Cond) ∈ tb_all := tb_2 (List.mem_of_getElem? (i := 33) (by rfl)) (by decide +kernel)
theorem kt_L_unpack : (.static yL_unpack : Cond) ∈ tb_all := tb_2 (List.mem_of_getElem? (i := 34) (by rfl)) (by decide +kernel)
theorem kc_L_unpack : (.codeWith yL_unpack cL_unpack 4 (some .int) [(0, 6, 9, 19), (0, 6, 12, 13)] : Cond) ∈ tb_all := tb_2 (List.mem_of_getElem? (i := 35) (by rfl)) (by decide +kernel)
theorem kl_L_21 : (.methodLink RL 21 yX1_unpack : Cond) ∈ tb_all := tb_2 (List.mem_of_getElem? (i := 36) (by rfl)) (by decide +kernel)
theorem ki_X1_unpack : (.instanceMethod yX1_unpack : Cond) ∈ tb_all := tb_2 (List.mem_of_getElem? (i := 37) (by rfl)) (by decide +kernel)
theorem ks_X1_unpack : (.selects RX1 yX1_unpack yX1_unpack : Cond) ∈ tb_all := tb_2 (List.mem_of_getElem? (i := 38) (by rfl)) (by decide +kernel)
theorem kc_X1_unpack : (.code yX1_unpack cX1_unpack 4 none : Cond) ∈ tb_all := tb_2 (List.mem_of_getElem? (i := 39) (by rfl)) (by decide +kernel)
theorem kl_X1_54 : (.methodLink RX1 54 yX0_read : Cond) ∈ tb_all := tb_2 (List.mem_of_getElem? (i := 40) (by rfl)) (by decide +kernel)
theorem kl_L_86 : (.methodLink RL 86 yL_packed : Cond) ∈ tb_all := tb_2 (List.mem_of_getElem? (i := 42) (by rfl)) (by decide +kernel)
theorem kt_L_packed : (.static yL_packed : Cond) ∈ tb_all := tb_2 (List.mem_of_getElem? (i := 43) (by rfl)) (by decide +kernel)
theorem kc_L_packed : (.codeWith yL_packed cL_packed 4 (some .int) [(0, 9, 12, 19)] : Cond) ∈ tb_all := tb_2 (List.mem_of_getElem? (i := 44) (by rfl)) (by decide +kernel)
theorem kl_L_25 : (.methodLink RL 25 yX1_packed : Cond) ∈ tb_all := tb_2 (List.mem_of_getElem? (i := 45) (by rfl)) (by decide +kernel)
theorem ki_X1_packed : (.instanceMethod yX1_packed : Cond) ∈ tb_all := tb_2 (List.mem_of_getElem? (i := 46) (by rfl)) (by decide +kernel)
theorem ks_X1_packed : (.selects RX1 yX1_packed yX1_packed : Cond) ∈ tb_all := tb_2 (List.mem_of_getElem? (i := 47) (by rfl)) (by decide +kernel)
theorem kc_X1_packed : (.code yX1_packed cX1_packed 2 (some .int) : Cond) ∈ tb_all := tb_2 (List.mem_of_getElem? (i := 48) (by rfl)) (by decide +kernel)
theorem kl_X1_60 : (.methodLink RX1 60 yX0_compress : Cond) ∈ tb_all := tb_2 (List.mem_of_getElem? (i := 49) (by rfl)) (by decide +kernel)
theorem kt_X0_compress : (.static yX0_compress : Cond) ∈ tb_all := tb_2 (List.mem_of_getElem? (i := 50) (by rfl)) (by decide +kernel)
theorem kc_X0_compress : (.code yX0_compress cX0_compress 1 (some .int) : Cond) ∈ tb_all := tb_2 (List.mem_of_getElem? (i := 51) (by rfl)) (by decide +kernel)
theorem kl_L_89 : (.methodLink RL 89 yL_get : Cond) ∈ tb_all := tb_2 (List.mem_of_getElem? (i := 52) (by rfl)) (by decide +kernel)
theorem kt_L_get : (.static yL_get : Cond) ∈ tb_all := tb_2 (List.mem_of_getElem? (i := 53) (by rfl)) (by decide +kernel)
theorem kc_L_get : (.codeWith yL_get cL_get 5 (some .int) [(0, 10, 13, 19)] : Cond) ∈ tb_all := tb_2 (List.mem_of_getElem? (i := 54) (by rfl)) (by decide +kernel)
theorem kl_L_28 : (.methodLink RL 28 yX1_get : Cond) ∈ tb_all := tb_2 (List.mem_of_getElem? (i := 55) (by rfl)) (by decide +kernel)
theorem ki_X1_get : (.instanceMethod yX1_get : Cond) ∈ tb_all := tb_2 (List.mem_of_getElem? (i := 56) (by rfl)) (by decide +kernel)
theorem ks_X1_get : (.selects RX1 yX1_get yX1_get : Cond) ∈ tb_all := tb_2 (List.mem_of_getElem? (i := 57) (by rfl)) (by decide +kernel)
theorem kc_X1_get : (.code yX1_get cX1_get 3 (some .int) : Cond) ∈ tb_all := tb_2 (List.mem_of_getElem? (i := 58) (by rfl)) (by decide +kernel)
theorem kl_X1_63 : (.methodLink RX1 63 yX0_yOf : Cond) ∈ tb_all := tb_2 (List.mem_of_getElem? (i := 59) (by rfl)) (by decide +kernel)
theorem kl_X1_66 : (.methodLink RX1 66 yX0_xOf : Cond) ∈ tb_all := tb_2 (List.mem_of_getElem? (i := 60) (by rfl)) (by decide +kernel)
theorem kl_L_93 : (.methodLink RL 93 yL_join : Cond) ∈ tb_all := tb_2 (List.mem_of_getElem? (i := 61) (by rfl)) (by decide +kernel)
theorem kt_L_join : (.static yL_join : Cond) ∈ tb_all := tb_2 (List.mem_of_getElem? (i := 62) (by rfl)) (by decide +kernel)
theorem kc_L_join : (.codeWith yL_join cL_join 7 (some .int) [(0, 14, 17, 19)] : Cond) ∈ tb_all := tb_2 (List.mem_of_getElem? (i := 63) (by rfl)) (by decide +kernel)
theorem kl_L_32 : (.methodLink RL 32 yX1_join : Cond) ∈ tb_all := tb_2 (List.mem_of_getElem? (i := 64) (by rfl)) (by decide +kernel)
theorem ki_X1_join : (.instanceMethod yX1_join : Cond) ∈ tb_all := tb_2 (List.mem_of_getElem? (i := 65) (by rfl)) (by decide +kernel)
theorem ks_X1_join : (.selects RX1 yX1_join yX1_join : Cond) ∈ tb_all := tb_2 (List.mem_of_getElem? (i := 66) (by rfl)) (by decide +kernel)
theorem kc_X1_join : (.code yX1_join cX1_join 6 (some .int) : Cond) ∈ tb_all := tb_2 (List.mem_of_getElem? (i := 67) (by rfl)) (by decide +kernel)
theorem kl_X1_69 : (.methodLink RX1 69 yX0_other : Cond) ∈ tb_all := tb_2 (List.mem_of_getElem? (i := 68) (by rfl)) (by decide +kernel)
theorem ki_X0_other : (.instanceMethod yX0_other : Cond) ∈ tb_all := tb_2 (List.mem_of_getElem? (i := 69) (by rfl)) (by decide +kernel)
theorem ks_X0_other : (.selects RX0 yX0_other yX0_other : Cond) ∈ tb_all := tb_2 (List.mem_of_getElem? (i := 70) (by rfl)) (by decide +kernel)
theorem kc_X0_other : (.code yX0_other cX0_other 2 (some .int) : Cond) ∈ tb_all := tb_2 (List.mem_of_getElem? (i := 71) (by rfl)) (by decide +kernel)
theorem kl_X1_72 : (.methodLink RX1 72 yX0_sum : Cond) ∈ tb_all := tb_2 (List.mem_of_getElem? (i := 72) (by rfl)) (by decide +kernel)
theorem kl_X1_75 : (.methodLink RX1 75 yX1_keep : Cond) ∈ tb_all := tb_2 (List.mem_of_getElem? (i := 73) (by rfl)) (by decide +kernel)
theorem ki_X1_keep : (.instanceMethod yX1_keep : Cond) ∈ tb_all := tb_2 (List.mem_of_getElem? (i := 75) (by rfl)) (by decide +kernel)
theorem kc_X1_keep : (.code yX1_keep cX1_keep 3 (some .int) : Cond) ∈ tb_all := tb_2 (List.mem_of_getElem? (i := 76) (by rfl)) (by decide +kernel)
theorem kl_L_99 : (.methodLink RL 99 yL_times : Cond) ∈ tb_all := tb_2 (List.mem_of_getElem? (i := 77) (by rfl)) (by decide +kernel)
theorem kt_L_times : (.static yL_times : Cond) ∈ tb_all := tb_2 (List.mem_of_getElem? (i := 78) (by rfl)) (by decide +kernel)
theorem kc_L_times : (.codeWith yL_times cL_times 7 (some .int) [(0, 13, 16, 19)] : Cond) ∈ tb_all := tb_2 (List.mem_of_getElem? (i := 79) (by rfl)) (by decide +kernel)
theorem kl_L_36 : (.methodLink RL 36 yX1_times : Cond) ∈ tb_all := tb_2 (List.mem_of_getElem? (i := 80) (by rfl)) (by decide +kernel)
theorem ki_X1_times : (.instanceMethod yX1_times : Cond) ∈ tb_all := tb_2 (List.mem_of_getElem? (i := 81) (by rfl)) (by decide +kernel)
theorem ks_X1_times : (.selects RX1 yX1_times yX1_times : Cond) ∈ tb_all := tb_2 (List.mem_of_getElem? (i := 82) (by rfl)) (by decide +kernel)
theorem kc_X1_times : (.code yX1_times cX1_times 5 (some .int) : Cond) ∈ tb_all := tb_2 (List.mem_of_getElem? (i := 83) (by rfl)) (by decide +kernel)
theorem kl_X1_78 : (.methodLink RX1 78 yX0_multiple : Cond) ∈ tb_all := tb_2 (List.mem_of_getElem? (i := 84) (by rfl)) (by decide +kernel)
theorem kl_L_103 : (.methodLink RL 103 yL_both : Cond) ∈ tb_all := tb_2 (List.mem_of_getElem? (i := 85) (by rfl)) (by decide +kernel)
theorem kt_L_both : (.static yL_both : Cond) ∈ tb_all := tb_2 (List.mem_of_getElem? (i := 86) (by rfl)) (by decide +kernel)
theorem kc_L_both : (.codeWith yL_both cL_both 10 (some .int) [(0, 17, 20, 19)] : Cond) ∈ tb_all := tb_2 (List.mem_of_getElem? (i := 87) (by rfl)) (by decide +kernel)
theorem kl_L_40 : (.methodLink RL 40 yX1_both : Cond) ∈ tb_all := tb_2 (List.mem_of_getElem? (i := 88) (by rfl)) (by decide +kernel)
theorem ki_X1_both : (.instanceMethod yX1_both : Cond) ∈ tb_all := tb_2 (List.mem_of_getElem? (i := 89) (by rfl)) (by decide +kernel)
theorem ks_X1_both : (.selects RX1 yX1_both yX1_both : Cond) ∈ tb_all := tb_2 (List.mem_of_getElem? (i := 90) (by rfl)) (by decide +kernel)
theorem kc_X1_both : (.code yX1_both cX1_both 10 (some .int) : Cond) ∈ tb_all := tb_2 (List.mem_of_getElem? (i := 91) (by rfl)) (by decide +kernel)
theorem kl_L_107 : (.methodLink RL 107 yL_order : Cond) ∈ tb_all := tb_2 (List.mem_of_getElem? (i := 92) (by rfl)) (by decide +kernel)
theorem kt_L_order : (.static yL_order : Cond) ∈ tb_all := tb_2 (List.mem_of_getElem? (i := 93) (by rfl)) (by decide +kernel)
theorem kc_L_order : (.codeWith yL_order cL_order 4 (some .int) [(0, 9, 12, 19)] : Cond) ∈ tb_all := tb_2 (List.mem_of_getElem? (i := 94) (by rfl)) (by decide +kernel)
theorem kl_L_44 : (.methodLink RL 44 yX1_order : Cond) ∈ tb_all := tb_2 (List.mem_of_getElem? (i := 95) (by rfl)) (by decide +kernel)
theorem ki_X1_order : (.instanceMethod yX1_order : Cond) ∈ tb_all := tb_2 (List.mem_of_getElem? (i := 96) (by rfl)) (by decide +kernel)
theorem ks_X1_order : (.selects RX1 yX1_order yX1_order : Cond) ∈ tb_all := tb_2 (List.mem_of_getElem? (i := 97) (by rfl)) (by decide +kernel)
theorem kc_X1_order : (.code yX1_order cX1_order 2 (some .int) : Cond) ∈ tb_all := tb_2 (List.mem_of_getElem? (i := 98) (by rfl)) (by decide +kernel)
theorem kl_X1_82 : (.methodLink RX1 82 yX0_orderOf : Cond) ∈ tb_all := tb_2 (List.mem_of_getElem? (i := 99) (by rfl)) (by decide +kernel)
theorem kl_L_118 : (.methodLink RL 118 yL_log : Cond) ∈ tb_all := tb_2 (List.mem_of_getElem? (i := 100) (by rfl)) (by decide +kernel)
theorem kt_L_log : (.static yL_log : Cond) ∈ tb_all := tb_2 (List.mem_of_getElem? (i := 101) (by rfl)) (by decide +kernel)
theorem kc_L_log : (.codeWith yL_log cL_log 5 (some .int) [(0, 10, 13, 19)] : Cond) ∈ tb_all := tb_2 (List.mem_of_getElem? (i := 102) (by rfl)) (by decide +kernel)
theorem kl_L_47 : (.methodLink RL 47 yX1_log : Cond) ∈ tb_all := tb_2 (List.mem_of_getElem? (i := 103) (by rfl)) (by decide +kernel)
theorem ki_X1_log : (.instanceMethod yX1_log : Cond) ∈ tb_all := tb_2 (List.mem_of_getElem? (i := 104) (by rfl)) (by decide +kernel)
theorem ks_X1_log : (.selects RX1 yX1_log yX1_log : Cond) ∈ tb_all := tb_2 (List.mem_of_getElem? (i := 105) (by rfl)) (by decide +kernel)
theorem kc_X1_log : (.code yX1_log cX1_log 3 (some .int) : Cond) ∈ tb_all := tb_2 (List.mem_of_getElem? (i := 106) (by rfl)) (by decide +kernel)
theorem kl_X1_92 : (.methodLink RX1 92 yX0_stepsTo : Cond) ∈ tb_all := tb_2 (List.mem_of_getElem? (i := 107) (by rfl)) (by decide +kernel)
theorem ki_X0_stepsTo : (.instanceMethod yX0_stepsTo : Cond) ∈ tb_all := tb_2 (List.mem_of_getElem? (i := 108) (by rfl)) (by decide +kernel)
theorem ks_X0_stepsTo : (.selects RX0 yX0_stepsTo yX0_stepsTo : Cond) ∈ tb_all := tb_2 (List.mem_of_getElem? (i := 109) (by rfl)) (by decide +kernel)
theorem kc_X0_stepsTo : (.code yX0_stepsTo cX0_stepsTo 7 (some .int) : Cond) ∈ tb_all := tb_2 (List.mem_of_getElem? (i := 110) (by rfl)) (by decide +kernel)
theorem kl_X0_93 : (.methodLink RX0 93 yX0_markSmallSteps : Cond) ∈ tb_all := tb_2 (List.mem_of_getElem? (i := 111) (by rfl)) (by decide +kernel)
theorem ki_X0_markSmallSteps : (.instanceMethod yX0_markSmallSteps : Cond) ∈ tb_all := tb_2 (List.mem_of_getElem? (i := 113) (by rfl)) (by decide +kernel)
theorem kc_X0_markSmallSteps : (.code yX0_markSmallSteps cX0_markSmallSteps 5 none : Cond) ∈ tb_all := tb_2 (List.mem_of_getElem? (i := 114) (by rfl)) (by decide +kernel)
theorem kl_X0_102 : (.methodLink RX0 102 yX0_place : Cond) ∈ tb_all := tb_2 (List.mem_of_getElem? (i := 115) (by rfl)) (by decide +kernel)
theorem ki_X0_place : (.instanceMethod yX0_place : Cond) ∈ tb_all := tb_2 (List.mem_of_getElem? (i := 117) (by rfl)) (by decide +kernel)
theorem kc_X0_place : (.code yX0_place cX0_place 2 (some .int) : Cond) ∈ tb_all := tb_2 (List.mem_of_getElem? (i := 118) (by rfl)) (by decide +kernel)
theorem kv_X0_97 : (.constantLong RX0 97 128 : Cond) ∈ tb_all := tb_2 (List.mem_of_getElem? (i := 119) (by rfl)) (by decide +kernel)
theorem kl_X0_99 : (.methodLink RX0 99 yX0_other : Cond) ∈ tb_all := tb_2 (List.mem_of_getElem? (i := 120) (by rfl)) (by decide +kernel)
theorem kl_L_122 : (.methodLink RL 122 yL_half : Cond) ∈ tb_all := tb_2 (List.mem_of_getElem? (i := 121) (by rfl)) (by decide +kernel)
theorem kt_L_half : (.static yL_half : Cond) ∈ tb_all := tb_2 (List.mem_of_getElem? (i := 122) (by rfl)) (by decide +kernel)
theorem kc_L_half : (.codeWith yL_half cL_half 5 (some .int) [(0, 10, 13, 19)] : Cond) ∈ tb_all := tb_2 (List.mem_of_getElem? (i := 123) (by rfl)) (by decide +kernel)
theorem kl_L_51 : (.methodLink RL 51 yX1_half : Cond) ∈ tb_all := tb_2 (List.mem_of_getElem? (i := 124) (by rfl)) (by decide +kernel)
theorem ki_X1_half : (.instanceMethod yX1_half : Cond) ∈ tb_all := tb_2 (List.mem_of_getElem? (i := 125) (by rfl)) (by decide +kernel)
theorem ks_X1_half : (.selects RX1 yX1_half yX1_half : Cond) ∈ tb_all := tb_2 (List.mem_of_getElem? (i := 126) (by rfl)) (by decide +kernel)
theorem kc_X1_half : (.code yX1_half cX1_half 5 (some .int) : Cond) ∈ tb_all := tb_2 (List.mem_of_getElem? (i := 127) (by rfl)) (by decide +kernel)
theorem kl_X1_95 : (.methodLink RX1 95 yX0_howManyHalves : Cond) ∈ tb_all := tb_2 (List.mem_of_getElem? (i := 128) (by rfl)) (by decide +kernel)
theorem ki_X0_howManyHalves : (.instanceMethod yX0_howManyHalves : Cond) ∈ tb_all := tb_2 (List.mem_of_getElem? (i := 129) (by rfl)) (by decide +kernel)
theorem ks_X0_howManyHalves : (.selects RX0 yX0_howManyHalves yX0_howManyHalves : Cond) ∈ tb_all := tb_2 (List.mem_of_getElem? (i := 130) (by rfl)) (by decide +kernel)
theorem kc_X0_howManyHalves : (.code yX0_howManyHalves cX0_howManyHalves 2 (some .int) : Cond) ∈ tb_all := tb_2 (List.mem_of_getElem? (i := 131) (by rfl)) (by decide +kernel)
theorem kl_X0_105 : (.methodLink RX0 105 yX0_fillHalves : Cond) ∈ tb_all := tb_2 (List.mem_of_getElem? (i := 132) (by rfl)) (by decide +kernel)
theorem ki_X0_fillHalves : (.instanceMethod yX0_fillHalves : Cond) ∈ tb_all := tb_2 (List.mem_of_getElem? (i := 134) (by rfl)) (by decide +kernel)
theorem kc_X0_fillHalves : (.code yX0_fillHalves cX0_fillHalves 3 none : Cond) ∈ tb_all := tb_2 (List.mem_of_getElem? (i := 135) (by rfl)) (by decide +kernel)
theorem kl_X0_118 : (.methodLink RX0 118 yX0_countHalf : Cond) ∈ tb_all := tb_2 (List.mem_of_getElem? (i := 136) (by rfl)) (by decide +kernel)
theorem ki_X0_countHalf : (.instanceMethod yX0_countHalf : Cond) ∈ tb_all := tb_2 (List.mem_of_getElem? (i := 138) (by rfl)) (by decide +kernel)
theorem kc_X0_countHalf : (.code yX0_countHalf cX0_countHalf 3 none : Cond) ∈ tb_all := tb_2 (List.mem_of_getElem? (i := 139) (by rfl)) (by decide +kernel)
theorem kl_X1_98 : (.methodLink RX1 98 yX0_leastHalf : Cond) ∈ tb_all := tb_2 (List.mem_of_getElem? (i := 140) (by rfl)) (by decide +kernel)
theorem ki_X0_leastHalf : (.instanceMethod yX0_leastHalf : Cond) ∈ tb_all := tb_2 (List.mem_of_getElem? (i := 141) (by rfl)) (by decide +kernel)
theorem ks_X0_leastHalf : (.selects RX0 yX0_leastHalf yX0_leastHalf : Cond) ∈ tb_all := tb_2 (List.mem_of_getElem? (i := 142) (by rfl)) (by decide +kernel)
theorem kc_X0_leastHalf : (.code yX0_leastHalf cX0_leastHalf 2 (some .int) : Cond) ∈ tb_all := tb_2 (List.mem_of_getElem? (i := 143) (by rfl)) (by decide +kernel)
theorem kl_L_125 : (.methodLink RL 125 yL_sign : Cond) ∈ tb_all := tb_2 (List.mem_of_getElem? (i := 144) (by rfl)) (by decide +kernel)
theorem kt_L_sign : (.static yL_sign : Cond) ∈ tb_all := tb_2 (List.mem_of_getElem? (i := 145) (by rfl)) (by decide +kernel)
theorem kc_L_sign : (.codeWith yL_sign cL_sign 6 (some .int) [(0, 11, 14, 19), (0, 11, 18, 13), (0, 11, 22, 58)] : Cond) ∈ tb_all := tb_2 (List.mem_of_getElem? (i := 146) (by rfl)) (by decide +kernel)
theorem kk_L_58 : (.classLink RL 58 "java/lang/IllegalStateException" : Cond) ∈ tb_all := tb_2 (List.mem_of_getElem? (i := 147) (by rfl)) (by decide +kernel)
theorem kl_L_54 : (.methodLink RL 54 yX1_sign : Cond) ∈ tb_all := tb_2 (List.mem_of_getElem? (i := 148) (by rfl)) (by decide +kernel)
theorem ki_X1_sign : (.instanceMethod yX1_sign : Cond) ∈ tb_all := tb_2 (List.mem_of_getElem? (i := 149) (by rfl)) (by decide +kernel)
theorem ks_X1_sign : (.selects RX1 yX1_sign yX1_sign : Cond) ∈ tb_all := tb_2 (List.mem_of_getElem? (i := 150) (by rfl)) (by decide +kernel)
theorem kc_X1_sign : (.code yX1_sign cX1_sign 12 (some .long) : Cond) ∈ tb_all := tb_2 (List.mem_of_getElem? (i := 151) (by rfl)) (by decide +kernel)
theorem kl_X1_101 : (.methodLink RX1 101 yX1_needNumber : Cond) ∈ tb_all := tb_2 (List.mem_of_getElem? (i := 152) (by rfl)) (by decide +kernel)
theorem kt_X1_needNumber : (.static yX1_needNumber : Cond) ∈ tb_all := tb_2 (List.mem_of_getElem? (i := 153) (by rfl)) (by decide +kernel)
theorem kc_X1_needNumber : (.code yX1_needNumber cX1_needNumber 1 none : Cond) ∈ tb_all := tb_2 (List.mem_of_getElem? (i := 154) (by rfl)) (by decide +kernel)
theorem kv_X1_148 : (.constant RX1 148 1073741824 : Cond) ∈ tb_all := tb_2 (List.mem_of_getElem? (i := 155) (by rfl)) (by decide +kernel)
theorem kk_X1_104 : (.classLink RX1 104 "java/lang/IllegalStateException" : Cond) ∈ tb_all := tb_2 (List.mem_of_getElem? (i := 157) (by rfl)) (by decide +kernel)
theorem kl_X1_109 : (.methodLink RX1 109 yX1_nonce : Cond) ∈ tb_all := tb_2 (List.mem_of_getElem? (i := 173) (by rfl)) (by decide +kernel)
theorem ki_X1_nonce : (.instanceMethod yX1_nonce : Cond) ∈ tb_all := tb_2 (List.mem_of_getElem? (i := 175) (by rfl)) (by decide +kernel)
theorem kc_X1_nonce : (.code yX1_nonce cX1_nonce 7 (some .long) : Cond) ∈ tb_all := tb_2 (List.mem_of_getElem? (i := 176) (by rfl)) (by decide +kernel)
theorem kv_X1_140 : (.constantLong RX1 140 2147483647 : Cond) ∈ tb_all := tb_2 (List.mem_of_getElem? (i := 177) (by rfl)) (by decide +kernel)
theorem kl_X1_113 : (.methodLink RX1 113 yX1_hash : Cond) ∈ tb_all := tb_2 (List.mem_of_getElem? (i := 178) (by rfl)) (by decide +kernel)
theorem kt_X1_hash : (.static yX1_hash : Cond) ∈ tb_all := tb_2 (List.mem_of_getElem? (i := 179) (by rfl)) (by decide +kernel)
theorem kc_X1_hash : (.code yX1_hash cX1_hash 2 (some .int) : Cond) ∈ tb_all := tb_2 (List.mem_of_getElem? (i := 180) (by rfl)) (by decide +kernel)
theorem kv_X1_142 : (.constant RX1 142 1048575 : Cond) ∈ tb_all := tb_2 (List.mem_of_getElem? (i := 181) (by rfl)) (by decide +kernel)
theorem kl_L_129 : (.methodLink RL 129 yL_verify : Cond) ∈ tb_all := tb_2 (List.mem_of_getElem? (i := 182) (by rfl)) (by decide +kernel)
theorem kt_L_verify : (.static yL_verify : Cond) ∈ tb_all := tb_2 (List.mem_of_getElem? (i := 183) (by rfl)) (by decide +kernel)
theorem kc_L_verify : (.codeWith yL_verify cL_verify 8 (some .int) [(0, 21, 24, 19), (0, 21, 28, 13)] : Cond) ∈ tb_all := tb_2 (List.mem_of_getElem? (i := 184) (by rfl)) (by decide +kernel)
theorem kl_L_60 : (.methodLink RL 60 yX1_verify : Cond) ∈ tb_all := tb_2 (List.mem_of_getElem? (i := 185) (by rfl)) (by decide +kernel)
theorem ki_X1_verify : (.instanceMethod yX1_verify : Cond) ∈ tb_all := tb_2 (List.mem_of_getElem? (i := 186) (by rfl)) (by decide +kernel)
theorem ks_X1_verify : (.selects RX1 yX1_verify yX1_verify : Cond) ∈ tb_all := tb_2 (List.mem_of_getElem? (i := 187) (by rfl)) (by decide +kernel)
theorem kc_X1_verify : (.code yX1_verify cX1_verify 12 (some .boolean) : Cond) ∈ tb_all := tb_2 (List.mem_of_getElem? (i := 188) (by rfl)) (by decide +kernel)
theorem kv_X1_116 : (.constantLong RX1 116 16384 : Cond) ∈ tb_all := tb_2 (List.mem_of_getElem? (i := 189) (by rfl)) (by decide +kernel)
theorem kv_X1_118 : (.constantLong RX1 118 65535 : Cond) ∈ tb_all := tb_2 (List.mem_of_getElem? (i := 190) (by rfl)) (by decide +kernel)
theorem kk_L_65 : (.classLink RL 65 RX2 : Cond) ∈ tb_all := tb_2 (List.mem_of_getElem? (i := 191) (by rfl)) (by decide +kernel)
theorem kz_X2 : (.instantiable RX2 11 : Cond) ∈ tb_all := tb_2 (List.mem_of_getElem? (i := 192) (by rfl)) (by decide +kernel)
theorem kl_L_67 : (.methodLink RL 67 yX2_init : Cond) ∈ tb_all := tb_2 (List.mem_of_getElem? (i := 193) (by rfl)) (by decide +kernel)
theorem ki_X2_init : (.instanceMethod yX2_init : Cond) ∈ tb_all := tb_2 (List.mem_of_getElem? (i := 194) (by rfl)) (by decide +kernel)
theorem kc_X2_init : (.code yX2_init cX2_init 1 none : Cond) ∈ tb_all := tb_2 (List.mem_of_getElem? (i := 195) (by rfl)) (by decide +kernel)
theorem kl_X2_1 : (.methodLink RX2 1 objectInit : Cond) ∈ tb_all := tb_2 (List.mem_of_getElem? (i := 196) (by rfl)) (by decide +kernel)
theorem kl_X2_26 : (.methodLink RX2 26 yX2_set : Cond) ∈ tb_all := tb_2 (List.mem_of_getElem? (i := 197) (by rfl)) (by decide +kernel)
theorem ki_X2_set : (.instanceMethod yX2_set : Cond) ∈ tb_all := tb_2 (List.mem_of_getElem? (i := 199) (by rfl)) (by decide +kernel)
theorem kc_X2_set : (.code yX2_set cX2_set 3 none : Cond) ∈ tb_all := tb_2 (List.mem_of_getElem? (i := 200) (by rfl)) (by decide +kernel)
theorem kf_X2_30 : (.fieldLink RX2 30 "TwistDeskModel" "thrown" "I" : Cond) ∈ tb_all := tb_2 (List.mem_of_getElem? (i := 201) (by rfl)) (by decide +kernel)
theorem kf_X2_33 : (.fieldLink RX2 33 "TwistDeskModel" "kind" "I" : Cond) ∈ tb_all := tb_2 (List.mem_of_getElem? (i := 202) (by rfl)) (by decide +kernel)
theorem kf_X2_7 : (.fieldLink RX2 7 "TwistDeskModel" "p" "I" : Cond) ∈ tb_all := tb_2 (List.mem_of_getElem? (i := 203) (by rfl)) (by decide +kernel)
theorem kf_X2_36 : (.fieldLink RX2 36 "TwistDeskModel" "d" "I" : Cond) ∈ tb_all := tb_2 (List.mem_of_getElem? (i := 204) (by rfl)) (by decide +kernel)
theorem kf_X2_39 : (.fieldLink RX2 39 "TwistDeskModel" "i" "I" : Cond) ∈ tb_all := tb_2 (List.mem_of_getElem? (i := 205) (by rfl)) (by decide +kernel)
theorem kf_X2_13 : (.fieldLink RX2 13 "TwistDeskModel" "rx" "[I" : Cond) ∈ tb_all := tb_2 (List.mem_of_getElem? (i := 206) (by rfl)) (by decide +kernel)
theorem kf_X2_17 : (.fieldLink RX2 17 "TwistDeskModel" "ry" "[I" : Cond) ∈ tb_all := tb_2 (List.mem_of_getElem? (i := 207) (by rfl)) (by decide +kernel)
theorem kf_X2_20 : (.fieldLink RX2 20 "TwistDeskModel" "root" "[I" : Cond) ∈ tb_all := tb_2 (List.mem_of_getElem? (i := 208) (by rfl)) (by decide +kernel)
theorem kf_X2_23 : (.fieldLink RX2 23 "TwistDeskModel" "baseOf" "[I" : Cond) ∈ tb_all := tb_2 (List.mem_of_getElem? (i := 209) (by rfl)) (by decide +kernel)
theorem kf_X2_59 : (.fieldLink RX2 59 "TwistDeskModel" "sx" "I" : Cond) ∈ tb_all := tb_2 (List.mem_of_getElem? (i := 210) (by rfl)) (by decide +kernel)
theorem kf_X2_56 : (.fieldLink RX2 56 "TwistDeskModel" "sy" "I" : Cond) ∈ tb_all := tb_2 (List.mem_of_getElem? (i := 211) (by rfl)) (by decide +kernel)
theorem kl_L_74 : (.methodLink RL 74 yX2_thrown : Cond) ∈ tb_all := tb_2 (List.mem_of_getElem? (i := 235) (by rfl)) (by decide +kernel)
theorem ki_X2_thrown : (.instanceMethod yX2_thrown : Cond) ∈ tb_all := tb_2 (List.mem_of_getElem? (i := 236) (by rfl)) (by decide +kernel)
theorem ks_X2_thrown : (.selects RX2 yX2_thrown yX2_thrown : Cond) ∈ tb_all := tb_2 (List.mem_of_getElem? (i := 237) (by rfl)) (by decide +kernel)
theorem kc_X2_thrown : (.code yX2_thrown cX2_thrown 1 (some .int) : Cond) ∈ tb_all := tb_2 (List.mem_of_getElem? (i := 238) (by rfl)) (by decide +kernel)
theorem kl_L_73 : (.methodLink RL 73 yX2_begin : Cond) ∈ tb_all := tb_2 (List.mem_of_getElem? (i := 239) (by rfl)) (by decide +kernel)
theorem ki_X2_begin : (.instanceMethod yX2_begin : Cond) ∈ tb_all := tb_3 (List.mem_of_getElem? (i := 0) (by rfl)) (by decide +kernel)
theorem ks_X2_begin : (.selects RX2 yX2_begin yX2_begin : Cond) ∈ tb_all := tb_3 (List.mem_of_getElem? (i := 1) (by rfl)) (by decide +kernel)
theorem kc_X2_begin : (.code yX2_begin cX2_begin 2 (some .int) : Cond) ∈ tb_all := tb_3 (List.mem_of_getElem? (i := 2) (by rfl)) (by decide +kernel)
theorem kl_L_81 : (.methodLink RL 81 yX2_put : Cond) ∈ tb_all := tb_3 (List.mem_of_getElem? (i := 3) (by rfl)) (by decide +kernel)
theorem ki_X2_put : (.instanceMethod yX2_put : Cond) ∈ tb_all := tb_3 (List.mem_of_getElem? (i := 4) (by rfl)) (by decide +kernel)
theorem ks_X2_put : (.selects RX2 yX2_put yX2_put : Cond) ∈ tb_all := tb_3 (List.mem_of_getElem? (i := 5) (by rfl)) (by decide +kernel)
theorem kc_X2_put : (.code yX2_put cX2_put 4 none : Cond) ∈ tb_all := tb_3 (List.mem_of_getElem? (i := 6) (by rfl)) (by decide +kernel)
theorem kl_X2_76 : (.methodLink RX2 76 yX2_none : Cond) ∈ tb_all := tb_3 (List.mem_of_getElem? (i := 7) (by rfl)) (by decide +kernel)
theorem kt_X2_none : (.static yX2_none : Cond) ∈ tb_all := tb_3 (List.mem_of_getElem? (i := 8) (by rfl)) (by decide +kernel)
theorem kc_X2_none : (.code yX2_none cX2_none 1 (some .boolean) : Cond) ∈ tb_all := tb_3 (List.mem_of_getElem? (i := 9) (by rfl)) (by decide +kernel)
theorem kl_X2_80 : (.methodLink RX2 80 yX2_isPoint : Cond) ∈ tb_all := tb_3 (List.mem_of_getElem? (i := 10) (by rfl)) (by decide +kernel)
theorem ki_X2_isPoint : (.instanceMethod yX2_isPoint : Cond) ∈ tb_all := tb_3 (List.mem_of_getElem? (i := 12) (by rfl)) (by decide +kernel)
theorem kc_X2_isPoint : (.code yX2_isPoint cX2_isPoint 3 (some .boolean) : Cond) ∈ tb_all := tb_3 (List.mem_of_getElem? (i := 13) (by rfl)) (by decide +kernel)
theorem kl_X2_48 : (.methodLink RX2 48 yX2_of : Cond) ∈ tb_all := tb_3 (List.mem_of_getElem? (i := 14) (by rfl)) (by decide +kernel)
theorem ki_X2_of : (.instanceMethod yX2_of : Cond) ∈ tb_all := tb_3 (List.mem_of_getElem? (i := 16) (by rfl)) (by decide +kernel)
theorem kc_X2_of : (.code yX2_of cX2_of 3 (some .int) : Cond) ∈ tb_all := tb_3 (List.mem_of_getElem? (i := 17) (by rfl)) (by decide +kernel)
theorem kl_X2_42 : (.methodLink RX2 42 yJ9_floorMod : Cond) ∈ tb_all := tb_3 (List.mem_of_getElem? (i := 18) (by rfl)) (by decide +kernel)
theorem kl_L_85 : (.methodLink RL 85 yX2_unpack : Cond) ∈ tb_all := tb_3 (List.mem_of_getElem? (i := 19) (by rfl)) (by decide +kernel)
theorem ki_X2_unpack : (.instanceMethod yX2_unpack : Cond) ∈ tb_all := tb_3 (List.mem_of_getElem? (i := 20) (by rfl)) (by decide +kernel)
theorem ks_X2_unpack : (.selects RX2 yX2_unpack yX2_unpack : Cond) ∈ tb_all := tb_3 (List.mem_of_getElem? (i := 21) (by rfl)) (by decide +kernel)
theorem kc_X2_unpack : (.code yX2_unpack cX2_unpack 3 none : Cond) ∈ tb_all := tb_3 (List.mem_of_getElem? (i := 22) (by rfl)) (by decide +kernel)
theorem kl_X2_84 : (.methodLink RX2 84 yX2_xOf : Cond) ∈ tb_all := tb_3 (List.mem_of_getElem? (i := 23) (by rfl)) (by decide +kernel)
theorem ki_X2_xOf : (.instanceMethod yX2_xOf : Cond) ∈ tb_all := tb_3 (List.mem_of_getElem? (i := 25) (by rfl)) (by decide +kernel)
theorem kc_X2_xOf : (.code yX2_xOf cX2_xOf 4 (some .int) : Cond) ∈ tb_all := tb_3 (List.mem_of_getElem? (i := 26) (by rfl)) (by decide +kernel)
theorem kl_X2_52 : (.methodLink RX2 52 yX2_over : Cond) ∈ tb_all := tb_3 (List.mem_of_getElem? (i := 27) (by rfl)) (by decide +kernel)
theorem ki_X2_over : (.instanceMethod yX2_over : Cond) ∈ tb_all := tb_3 (List.mem_of_getElem? (i := 29) (by rfl)) (by decide +kernel)
theorem kc_X2_over : (.code yX2_over cX2_over 8 (some .int) : Cond) ∈ tb_all := tb_3 (List.mem_of_getElem? (i := 30) (by rfl)) (by decide +kernel)
theorem kl_L_88 : (.methodLink RL 88 yX2_packed : Cond) ∈ tb_all := tb_3 (List.mem_of_getElem? (i := 31) (by rfl)) (by decide +kernel)
theorem ki_X2_packed : (.instanceMethod yX2_packed : Cond) ∈ tb_all := tb_3 (List.mem_of_getElem? (i := 32) (by rfl)) (by decide +kernel)
theorem ks_X2_packed : (.selects RX2 yX2_packed yX2_packed : Cond) ∈ tb_all := tb_3 (List.mem_of_getElem? (i := 33) (by rfl)) (by decide +kernel)
theorem kc_X2_packed : (.code yX2_packed cX2_packed 2 (some .int) : Cond) ∈ tb_all := tb_3 (List.mem_of_getElem? (i := 34) (by rfl)) (by decide +kernel)
theorem kl_X2_73 : (.methodLink RX2 73 yX2_pack : Cond) ∈ tb_all := tb_3 (List.mem_of_getElem? (i := 35) (by rfl)) (by decide +kernel)
theorem kt_X2_pack : (.static yX2_pack : Cond) ∈ tb_all := tb_3 (List.mem_of_getElem? (i := 36) (by rfl)) (by decide +kernel)
theorem kc_X2_pack : (.code yX2_pack cX2_pack 2 (some .int) : Cond) ∈ tb_all := tb_3 (List.mem_of_getElem? (i := 37) (by rfl)) (by decide +kernel)
theorem kl_L_92 : (.methodLink RL 92 yX2_get : Cond) ∈ tb_all := tb_3 (List.mem_of_getElem? (i := 38) (by rfl)) (by decide +kernel)
theorem ki_X2_get : (.instanceMethod yX2_get : Cond) ∈ tb_all := tb_3 (List.mem_of_getElem? (i := 39) (by rfl)) (by decide +kernel)
theorem ks_X2_get : (.selects RX2 yX2_get yX2_get : Cond) ∈ tb_all := tb_3 (List.mem_of_getElem? (i := 40) (by rfl)) (by decide +kernel)
theorem kc_X2_get : (.code yX2_get cX2_get 3 (some .int) : Cond) ∈ tb_all := tb_3 (List.mem_of_getElem? (i := 41) (by rfl)) (by decide +kernel)
theorem kl_L_96 : (.methodLink RL 96 yX2_join : Cond) ∈ tb_all := tb_3 (List.mem_of_getElem? (i := 42) (by rfl)) (by decide +kernel)
theorem ki_X2_join : (.instanceMethod yX2_join : Cond) ∈ tb_all := tb_3 (List.mem_of_getElem? (i := 43) (by rfl)) (by decide +kernel)
theorem ks_X2_join : (.selects RX2 yX2_join yX2_join : Cond) ∈ tb_all := tb_3 (List.mem_of_getElem? (i := 44) (by rfl)) (by decide +kernel)
theorem kc_X2_join : (.code yX2_join cX2_join 5 (some .int) : Cond) ∈ tb_all := tb_3 (List.mem_of_getElem? (i := 45) (by rfl)) (by decide +kernel)
theorem kl_X2_62 : (.methodLink RX2 62 yX2_sum : Cond) ∈ tb_all := tb_3 (List.mem_of_getElem? (i := 46) (by rfl)) (by decide +kernel)
theorem ki_X2_sum : (.instanceMethod yX2_sum : Cond) ∈ tb_all := tb_3 (List.mem_of_getElem? (i := 48) (by rfl)) (by decide +kernel)
theorem kc_X2_sum : (.code yX2_sum cX2_sum 7 none : Cond) ∈ tb_all := tb_3 (List.mem_of_getElem? (i := 49) (by rfl)) (by decide +kernel)
theorem kl_X2_88 : (.methodLink RX2 88 yX2_keep : Cond) ∈ tb_all := tb_3 (List.mem_of_getElem? (i := 50) (by rfl)) (by decide +kernel)
theorem ki_X2_keep : (.instanceMethod yX2_keep : Cond) ∈ tb_all := tb_3 (List.mem_of_getElem? (i := 52) (by rfl)) (by decide +kernel)
theorem kc_X2_keep : (.code yX2_keep cX2_keep 2 (some .int) : Cond) ∈ tb_all := tb_3 (List.mem_of_getElem? (i := 53) (by rfl)) (by decide +kernel)
theorem kl_L_102 : (.methodLink RL 102 yX2_times2 : Cond) ∈ tb_all := tb_3 (List.mem_of_getElem? (i := 54) (by rfl)) (by decide +kernel)
theorem ki_X2_times2 : (.instanceMethod yX2_times2 : Cond) ∈ tb_all := tb_3 (List.mem_of_getElem? (i := 55) (by rfl)) (by decide +kernel)
theorem ks_X2_times2 : (.selects RX2 yX2_times2 yX2_times2 : Cond) ∈ tb_all := tb_3 (List.mem_of_getElem? (i := 56) (by rfl)) (by decide +kernel)
theorem kc_X2_times2 : (.code yX2_times2 cX2_times2 5 (some .int) : Cond) ∈ tb_all := tb_3 (List.mem_of_getElem? (i := 57) (by rfl)) (by decide +kernel)
theorem kl_X2_91 : (.methodLink RX2 91 yX2_often : Cond) ∈ tb_all := tb_3 (List.mem_of_getElem? (i := 58) (by rfl)) (by decide +kernel)
theorem ki_X2_often : (.instanceMethod yX2_often : Cond) ∈ tb_all := tb_3 (List.mem_of_getElem? (i := 60) (by rfl)) (by decide +kernel)
theorem kc_X2_often : (.code yX2_often cX2_often 5 none : Cond) ∈ tb_all := tb_3 (List.mem_of_getElem? (i := 61) (by rfl)) (by decide +kernel)
theorem kl_X2_66 : (.methodLink RX2 66 yX2_orderOf : Cond) ∈ tb_all := tb_3 (List.mem_of_getElem? (i := 62) (by rfl)) (by decide +kernel)
theorem ki_X2_orderOf : (.instanceMethod yX2_orderOf : Cond) ∈ tb_all := tb_3 (List.mem_of_getElem? (i := 64) (by rfl)) (by decide +kernel)
theorem kc_X2_orderOf : (.code yX2_orderOf cX2_orderOf 6 (some .int) : Cond) ∈ tb_all := tb_3 (List.mem_of_getElem? (i := 65) (by rfl)) (by decide +kernel)
theorem kl_X2_69 : (.methodLink RX2 69 yX2_times : Cond) ∈ tb_all := tb_3 (List.mem_of_getElem? (i := 66) (by rfl)) (by decide +kernel)
theorem ki_X2_times : (.instanceMethod yX2_times : Cond) ∈ tb_all := tb_3 (List.mem_of_getElem? (i := 68) (by rfl)) (by decide +kernel)
theorem kc_X2_times : (.code yX2_times cX2_times 9 none : Cond) ∈ tb_all := tb_3 (List.mem_of_getElem? (i := 69) (by rfl)) (by decide +kernel)
theorem kl_L_106 : (.methodLink RL 106 yX2_both : Cond) ∈ tb_all := tb_3 (List.mem_of_getElem? (i := 70) (by rfl)) (by decide +kernel)
theorem ki_X2_both : (.instanceMethod yX2_both : Cond) ∈ tb_all := tb_3 (List.mem_of_getElem? (i := 71) (by rfl)) (by decide +kernel)
theorem ks_X2_both : (.selects RX2 yX2_both yX2_both : Cond) ∈ tb_all := tb_3 (List.mem_of_getElem? (i := 72) (by rfl)) (by decide +kernel)
theorem kc_X2_both : (.code yX2_both cX2_both 10 (some .int) : Cond) ∈ tb_all := tb_3 (List.mem_of_getElem? (i := 73) (by rfl)) (by decide +kernel)
theorem kl_L_109 : (.methodLink RL 109 yX2_order : Cond) ∈ tb_all := tb_3 (List.mem_of_getElem? (i := 74) (by rfl)) (by decide +kernel)
theorem ki_X2_order : (.instanceMethod yX2_order : Cond) ∈ tb_all := tb_3 (List.mem_of_getElem? (i := 75) (by rfl)) (by decide +kernel)
theorem ks_X2_order : (.selects RX2 yX2_order yX2_order : Cond) ∈ tb_all := tb_3 (List.mem_of_getElem? (i := 76) (by rfl)) (by decide +kernel)
theorem kc_X2_order : (.code yX2_order cX2_order 2 (some .int) : Cond) ∈ tb_all := tb_3 (List.mem_of_getElem? (i := 77) (by rfl)) (by decide +kernel)
theorem kl_L_113 : (.methodLink RL 113 yX2_points : Cond) ∈ tb_all := tb_3 (List.mem_of_getElem? (i := 78) (by rfl)) (by decide +kernel)
theorem ki_X2_points : (.instanceMethod yX2_points : Cond) ∈ tb_all := tb_3 (List.mem_of_getElem? (i := 79) (by rfl)) (by decide +kernel)
theorem ks_X2_points : (.selects RX2 yX2_points yX2_points : Cond) ∈ tb_all := tb_3 (List.mem_of_getElem? (i := 80) (by rfl)) (by decide +kernel)
theorem kc_X2_points : (.code yX2_points cX2_points 1 (some .int) : Cond) ∈ tb_all := tb_3 (List.mem_of_getElem? (i := 81) (by rfl)) (by decide +kernel)
theorem kl_X2_94 : (.methodLink RX2 94 yX2_all : Cond) ∈ tb_all := tb_3 (List.mem_of_getElem? (i := 82) (by rfl)) (by decide +kernel)
theorem ki_X2_all : (.instanceMethod yX2_all : Cond) ∈ tb_all := tb_3 (List.mem_of_getElem? (i := 84) (by rfl)) (by decide +kernel)
theorem kc_X2_all : (.code yX2_all cX2_all 3 (some .int) : Cond) ∈ tb_all := tb_3 (List.mem_of_getElem? (i := 85) (by rfl)) (by decide +kernel)
theorem kl_L_117 : (.methodLink RL 117 yX2_base : Cond) ∈ tb_all := tb_3 (List.mem_of_getElem? (i := 86) (by rfl)) (by decide +kernel)
theorem ki_X2_base : (.instanceMethod yX2_base : Cond) ∈ tb_all := tb_3 (List.mem_of_getElem? (i := 87) (by rfl)) (by decide +kernel)
theorem ks_X2_base : (.selects RX2 yX2_base yX2_base : Cond) ∈ tb_all := tb_3 (List.mem_of_getElem? (i := 88) (by rfl)) (by decide +kernel)
theorem kc_X2_base : (.code yX2_base cX2_base 6 (some .int) : Cond) ∈ tb_all := tb_3 (List.mem_of_getElem? (i := 89) (by rfl)) (by decide +kernel)
theorem kl_X2_102 : (.methodLink RX2 102 yX2_quickOrder : Cond) ∈ tb_all := tb_3 (List.mem_of_getElem? (i := 90) (by rfl)) (by decide +kernel)
theorem ki_X2_quickOrder : (.instanceMethod yX2_quickOrder : Cond) ∈ tb_all := tb_3 (List.mem_of_getElem? (i := 92) (by rfl)) (by decide +kernel)
theorem kc_X2_quickOrder : (.code yX2_quickOrder cX2_quickOrder 7 (some .int) : Cond) ∈ tb_all := tb_3 (List.mem_of_getElem? (i := 93) (by rfl)) (by decide +kernel)
theorem kl_X2_98 : (.methodLink RX2 98 yX2_quick : Cond) ∈ tb_all := tb_3 (List.mem_of_getElem? (i := 94) (by rfl)) (by decide +kernel)
theorem ki_X2_quick : (.instanceMethod yX2_quick : Cond) ∈ tb_all := tb_3 (List.mem_of_getElem? (i := 96) (by rfl)) (by decide +kernel)
theorem kc_X2_quick : (.code yX2_quick cX2_quick 7 none : Cond) ∈ tb_all := tb_3 (List.mem_of_getElem? (i := 97) (by rfl)) (by decide +kernel)
theorem kl_L_121 : (.methodLink RL 121 yX2_log : Cond) ∈ tb_all := tb_3 (List.mem_of_getElem? (i := 98) (by rfl)) (by decide +kernel)
theorem ki_X2_log : (.instanceMethod yX2_log : Cond) ∈ tb_all := tb_3 (List.mem_of_getElem? (i := 99) (by rfl)) (by decide +kernel)
theorem ks_X2_log : (.selects RX2 yX2_log yX2_log : Cond) ∈ tb_all := tb_3 (List.mem_of_getElem? (i := 100) (by rfl)) (by decide +kernel)
theorem kc_X2_log : (.code yX2_log cX2_log 6 (some .int) : Cond) ∈ tb_all := tb_3 (List.mem_of_getElem? (i := 101) (by rfl)) (by decide +kernel)
theorem kl_L_124 : (.methodLink RL 124 yX2_half : Cond) ∈ tb_all := tb_3 (List.mem_of_getElem? (i := 102) (by rfl)) (by decide +kernel)
theorem ki_X2_half : (.instanceMethod yX2_half : Cond) ∈ tb_all := tb_3 (List.mem_of_getElem? (i := 103) (by rfl)) (by decide +kernel)
theorem ks_X2_half : (.selects RX2 yX2_half yX2_half : Cond) ∈ tb_all := tb_3 (List.mem_of_getElem? (i := 104) (by rfl)) (by decide +kernel)
theorem kc_X2_half : (.code yX2_half cX2_half 7 (some .int) : Cond) ∈ tb_all := tb_3 (List.mem_of_getElem? (i := 105) (by rfl)) (by decide +kernel)
theorem kl_L_128 : (.methodLink RL 128 yX2_sign : Cond) ∈ tb_all := tb_3 (List.mem_of_getElem? (i := 106) (by rfl)) (by decide +kernel)
theorem ki_X2_sign : (.instanceMethod yX2_sign : Cond) ∈ tb_all := tb_3 (List.mem_of_getElem? (i := 107) (by rfl)) (by decide +kernel)
theorem ks_X2_sign : (.selects RX2 yX2_sign yX2_sign : Cond) ∈ tb_all := tb_3 (List.mem_of_getElem? (i := 108) (by rfl)) (by decide +kernel)
theorem kc_X2_sign : (.code yX2_sign cX2_sign 10 (some .long) : Cond) ∈ tb_all := tb_3 (List.mem_of_getElem? (i := 109) (by rfl)) (by decide +kernel)
theorem kv_X2_106 : (.constant RX2 106 1073741824 : Cond) ∈ tb_all := tb_3 (List.mem_of_getElem? (i := 110) (by rfl)) (by decide +kernel)
theorem kv_X2_107 : (.constantLong RX2 107 2147483648 : Cond) ∈ tb_all := tb_3 (List.mem_of_getElem? (i := 111) (by rfl)) (by decide +kernel)
theorem kv_X2_109 : (.constantLong RX2 109 1048576 : Cond) ∈ tb_all := tb_3 (List.mem_of_getElem? (i := 112) (by rfl)) (by decide +kernel)
theorem kv_X2_111 : (.constantLong RX2 111 65536 : Cond) ∈ tb_all := tb_3 (List.mem_of_getElem? (i := 113) (by rfl)) (by decide +kernel)
theorem kl_L_132 : (.methodLink RL 132 yX2_verify : Cond) ∈ tb_all := tb_3 (List.mem_of_getElem? (i := 114) (by rfl)) (by decide +kernel)
theorem ki_X2_verify : (.instanceMethod yX2_verify : Cond) ∈ tb_all := tb_3 (List.mem_of_getElem? (i := 115) (by rfl)) (by decide +kernel)
theorem ks_X2_verify : (.selects RX2 yX2_verify yX2_verify : Cond) ∈ tb_all := tb_3 (List.mem_of_getElem? (i := 116) (by rfl)) (by decide +kernel)
theorem kc_X2_verify : (.code yX2_verify cX2_verify 9 (some .boolean) : Cond) ∈ tb_all := tb_3 (List.mem_of_getElem? (i := 117) (by rfl)) (by decide +kernel)
theorem kv_X2_113 : (.constantLong RX2 113 1073741824 : Cond) ∈ tb_all := tb_3 (List.mem_of_getElem? (i := 118) (by rfl)) (by decide +kernel)
theorem kl_L_136 : (.methodLink RL 136 yX2_count : Cond) ∈ tb_all := tb_3 (List.mem_of_getElem? (i := 119) (by rfl)) (by decide +kernel)
theorem ki_X2_count : (.instanceMethod yX2_count : Cond) ∈ tb_all := tb_3 (List.mem_of_getElem? (i := 120) (by rfl)) (by decide +kernel)
theorem ks_X2_count : (.selects RX2 yX2_count yX2_count : Cond) ∈ tb_all := tb_3 (List.mem_of_getElem? (i := 121) (by rfl)) (by decide +kernel)
theorem kc_X2_count : (.code yX2_count cX2_count 4 (some .int) : Cond) ∈ tb_all := tb_3 (List.mem_of_getElem? (i := 122) (by rfl)) (by decide +kernel)
theorem kv_L_97 : (.constantLong RL 97 4294967295 : Cond) ∈ tb_all := tb_3 (List.mem_of_getElem? (i := 123) (by rfl)) (by decide +kernel)
theorem ka_long : (.arrayClass .long : Cond) ∈ tb_all := tb_3 (List.mem_of_getElem? (i := 124) (by rfl)) (by decide +kernel)
theorem ki_obj : (.instanceMethod objectInit : Cond) ∈ tb_all := tb_1 (List.mem_of_getElem? (i := 18) (by rfl)) (by decide +kernel)
theorem kc_obj : (.code objectInit ⟨#[0xb1]⟩ 1 none : Cond) ∈ tb_all := tb_1 (List.mem_of_getElem? (i := 19) (by rfl)) (by decide +kernel)
theorem ks_X1_open : (.selects RX1 yX1_open yX1_open : Cond) ∈ tb_all := tb_s (List.mem_of_getElem? (i := 0) (by rfl)) (by decide +kernel)
theorem ks_X0_fillInverses : (.selects RX0 yX0_fillInverses yX0_fillInverses : Cond) ∈ tb_all := tb_s (List.mem_of_getElem? (i := 1) (by rfl)) (by decide +kernel)
theorem ks_X0_fillRoots : (.selects RX0 yX0_fillRoots yX0_fillRoots : Cond) ∈ tb_all := tb_s (List.mem_of_getElem? (i := 2) (by rfl)) (by decide +kernel)
theorem ks_X0_leastNonSquare : (.selects RX0 yX0_leastNonSquare yX0_leastNonSquare : Cond) ∈ tb_all := tb_s (List.mem_of_getElem? (i := 3) (by rfl)) (by decide +kernel)
theorem ks_X0_countPoints : (.selects RX0 yX0_countPoints yX0_countPoints : Cond) ∈ tb_all := tb_s (List.mem_of_getElem? (i := 4) (by rfl)) (by decide +kernel)
theorem ks_X0_rootFor : (.selects RX0 yX0_rootFor yX0_rootFor : Cond) ∈ tb_all := tb_s (List.mem_of_getElem? (i := 5) (by rfl)) (by decide +kernel)
theorem ks_X0_fillFactors : (.selects RX0 yX0_fillFactors yX0_fillFactors : Cond) ∈ tb_all := tb_s (List.mem_of_getElem? (i := 6) (by rfl)) (by decide +kernel)
theorem ks_X1_registersInUse : (.selects RX1 yX1_registersInUse yX1_registersInUse : Cond) ∈ tb_all := tb_s (List.mem_of_getElem? (i := 7) (by rfl)) (by decide +kernel)
theorem ks_X1_keep : (.selects RX1 yX1_keep yX1_keep : Cond) ∈ tb_all := tb_s (List.mem_of_getElem? (i := 9) (by rfl)) (by decide +kernel)
theorem ks_X0_markSmallSteps : (.selects RX0 yX0_markSmallSteps yX0_markSmallSteps : Cond) ∈ tb_all := tb_s (List.mem_of_getElem? (i := 10) (by rfl)) (by decide +kernel)
theorem ks_X0_place : (.selects RX0 yX0_place yX0_place : Cond) ∈ tb_all := tb_s (List.mem_of_getElem? (i := 11) (by rfl)) (by decide +kernel)
theorem ks_X0_fillHalves : (.selects RX0 yX0_fillHalves yX0_fillHalves : Cond) ∈ tb_all := tb_s (List.mem_of_getElem? (i := 12) (by rfl)) (by decide +kernel)
theorem ks_X0_countHalf : (.selects RX0 yX0_countHalf yX0_countHalf : Cond) ∈ tb_all := tb_s (List.mem_of_getElem? (i := 13) (by rfl)) (by decide +kernel)
theorem ks_X1_nonce : (.selects RX1 yX1_nonce yX1_nonce : Cond) ∈ tb_all := tb_s (List.mem_of_getElem? (i := 14) (by rfl)) (by decide +kernel)
theorem ks_X2_set : (.selects RX2 yX2_set yX2_set : Cond) ∈ tb_all := tb_s (List.mem_of_getElem? (i := 15) (by rfl)) (by decide +kernel)
theorem ks_X2_isPoint : (.selects RX2 yX2_isPoint yX2_isPoint : Cond) ∈ tb_all := tb_s (List.mem_of_getElem? (i := 16) (by rfl)) (by decide +kernel)
theorem ks_X2_of : (.selects RX2 yX2_of yX2_of : Cond) ∈ tb_all := tb_s (List.mem_of_getElem? (i := 17) (by rfl)) (by decide +kernel)
theorem ks_X2_xOf : (.selects RX2 yX2_xOf yX2_xOf : Cond) ∈ tb_all := tb_s (List.mem_of_getElem? (i := 18) (by rfl)) (by decide +kernel)
theorem ks_X2_over : (.selects RX2 yX2_over yX2_over : Cond) ∈ tb_all := tb_s (List.mem_of_getElem? (i := 19) (by rfl)) (by decide +kernel)
theorem ks_X2_sum : (.selects RX2 yX2_sum yX2_sum : Cond) ∈ tb_all := tb_s (List.mem_of_getElem? (i := 20) (by rfl)) (by decide +kernel)
theorem ks_X2_keep : (.selects RX2 yX2_keep yX2_keep : Cond) ∈ tb_all := tb_s (List.mem_of_getElem? (i := 21) (by rfl)) (by decide +kernel)
theorem ks_X2_often : (.selects RX2 yX2_often yX2_often : Cond) ∈ tb_all := tb_s (List.mem_of_getElem? (i := 22) (by rfl)) (by decide +kernel)
theorem ks_X2_orderOf : (.selects RX2 yX2_orderOf yX2_orderOf : Cond) ∈ tb_all := tb_s (List.mem_of_getElem? (i := 23) (by rfl)) (by decide +kernel)
theorem ks_X2_times : (.selects RX2 yX2_times yX2_times : Cond) ∈ tb_all := tb_s (List.mem_of_getElem? (i := 24) (by rfl)) (by decide +kernel)
theorem ks_X2_all : (.selects RX2 yX2_all yX2_all : Cond) ∈ tb_all := tb_s (List.mem_of_getElem? (i := 25) (by rfl)) (by decide +kernel)
theorem ks_X2_quickOrder : (.selects RX2 yX2_quickOrder yX2_quickOrder : Cond) ∈ tb_all := tb_s (List.mem_of_getElem? (i := 26) (by rfl)) (by decide +kernel)
theorem ks_X2_quick : (.selects RX2 yX2_quick yX2_quick : Cond) ∈ tb_all := tb_s (List.mem_of_getElem? (i := 27) (by rfl)) (by decide +kernel)
set_option maxRecDepth 20000 in
theorem inX0 : ∀ w ∈ u_ws RX0 TX0 12, w ∈ tb_all := by decide +kernel
set_option maxRecDepth 20000 in
theorem inX1 : ∀ w ∈ u_ws RX1 TX1 4, w ∈ tb_all := by decide +kernel
set_option maxRecDepth 20000 in
theorem inX2 : ∀ w ∈ u_ws RX2 TX2 11, w ∈ tb_all := by decide +kernel
def wX1_init : List Cond := .code yX1_init cX1_init 1 none :: tb_all
def wX1_begin : List Cond := .code yX1_begin cX1_begin 2 (some .int) :: tb_all
def wX1_put : List Cond := .code yX1_put cX1_put 4 none :: tb_all
def wX1_unpack : List Cond := .code yX1_unpack cX1_unpack 4 none :: tb_all
def wX1_packed : List Cond := .code yX1_packed cX1_packed 2 (some .int) :: tb_all
def wX1_get : List Cond := .code yX1_get cX1_get 3 (some .int) :: tb_all
def wX1_join : List Cond := .code yX1_join cX1_join 6 (some .int) :: tb_all
def wX1_times : List Cond := .code yX1_times cX1_times 5 (some .int) :: tb_all
def wX1_both : List Cond := .code yX1_both cX1_both 10 (some .int) :: tb_all
def wX1_order : List Cond := .code yX1_order cX1_order 2 (some .int) :: tb_all
def wX1_points : List Cond := .code yX1_points cX1_points 1 (some .int) :: tb_all
def wX1_base : List Cond := .code yX1_base cX1_base 1 (some .int) :: tb_all
def wX1_log : List Cond := .code yX1_log cX1_log 3 (some .int) :: tb_all
def wX1_half : List Cond := .code yX1_half cX1_half 5 (some .int) :: tb_all
def wX1_sign : List Cond := .code yX1_sign cX1_sign 12 (some .long) :: tb_all
def wX1_verify : List Cond := .code yX1_verify cX1_verify 12 (some .boolean) :: tb_all
def wX1_count : List Cond := .code yX1_count cX1_count 2 (some .int) :: tb_all
def wX1_open : List Cond := .code yX1_open cX1_open 2 none :: tb_all
def wX1_keep : List Cond := .code yX1_keep cX1_keep 3 (some .int) :: tb_all
def wX1_registersInUse : List Cond := .code yX1_registersInUse cX1_registersInUse 6 (some .int) :: tb_all
def wX1_nonce : List Cond := .code yX1_nonce cX1_nonce 7 (some .long) :: tb_all
def wX1_hash : List Cond := .code yX1_hash cX1_hash 2 (some .int) :: tb_all
def wX1_needRegister : List Cond := .code yX1_needRegister cX1_needRegister 1 none :: tb_all
def wX1_needNumber : List Cond := .code yX1_needNumber cX1_needNumber 1 none :: tb_all
def wX2_init : List Cond := .code yX2_init cX2_init 1 none :: tb_all
def wX2_thrown : List Cond := .code yX2_thrown cX2_thrown 1 (some .int) :: tb_all
def wX2_none : List Cond := .code yX2_none cX2_none 1 (some .boolean) :: tb_all
def wX2_set : List Cond := .code yX2_set cX2_set 3 none :: tb_all
def wX2_begin : List Cond := .code yX2_begin cX2_begin 2 (some .int) :: tb_all
def wX2_of : List Cond := .code yX2_of cX2_of 3 (some .int) :: tb_all
def wX2_over : List Cond := .code yX2_over cX2_over 8 (some .int) :: tb_all
def wX2_isPoint : List Cond := .code yX2_isPoint cX2_isPoint 3 (some .boolean) :: tb_all
def wX2_pack : List Cond := .code yX2_pack cX2_pack 2 (some .int) :: tb_all
def wX2_xOf : List Cond := .code yX2_xOf cX2_xOf 4 (some .int) :: tb_all
def wX2_sum : List Cond := .code yX2_sum cX2_sum 7 none :: tb_all
def wX2_times : List Cond := .code yX2_times cX2_times 9 none :: tb_all
def wX2_orderOf : List Cond := .code yX2_orderOf cX2_orderOf 6 (some .int) :: tb_all
def wX2_often : List Cond := .code yX2_often cX2_often 5 none :: tb_all
def wX2_keep : List Cond := .code yX2_keep cX2_keep 2 (some .int) :: tb_all
def wX2_put : List Cond := .code yX2_put cX2_put 4 none :: tb_all
def wX2_unpack : List Cond := .code yX2_unpack cX2_unpack 3 none :: tb_all
def wX2_packed : List Cond := .code yX2_packed cX2_packed 2 (some .int) :: tb_all
def wX2_get : List Cond := .code yX2_get cX2_get 3 (some .int) :: tb_all
def wX2_join : List Cond := .code yX2_join cX2_join 5 (some .int) :: tb_all
def wX2_times2 : List Cond := .code yX2_times2 cX2_times2 5 (some .int) :: tb_all
def wX2_both : List Cond := .code yX2_both cX2_both 10 (some .int) :: tb_all
def wX2_order : List Cond := .code yX2_order cX2_order 2 (some .int) :: tb_all
def wX2_all : List Cond := .code yX2_all cX2_all 3 (some .int) :: tb_all
def wX2_points : List Cond := .code yX2_points cX2_points 1 (some .int) :: tb_all
def wX2_quick : List Cond := .code yX2_quick cX2_quick 7 none :: tb_all
def wX2_quickOrder : List Cond := .code yX2_quickOrder cX2_quickOrder 7 (some .int) :: tb_all
def wX2_base : List Cond := .code yX2_base cX2_base 6 (some .int) :: tb_all
def wX2_log : List Cond := .code yX2_log cX2_log 6 (some .int) :: tb_all
def wX2_half : List Cond := .code yX2_half cX2_half 7 (some .int) :: tb_all
def wX2_sign : List Cond := .code yX2_sign cX2_sign 10 (some .long) :: tb_all
def wX2_verify : List Cond := .code yX2_verify cX2_verify 9 (some .boolean) :: tb_all
def wX2_count : List Cond := .code yX2_count cX2_count 4 (some .int) :: tb_all
def wX0_init : List Cond := .code yX0_init cX0_init 2 none :: tb_all
def wX0_point : List Cond := .code yX0_point cX0_point 2 (some .int) :: tb_all
def wX0_xOf : List Cond := .code yX0_xOf cX0_xOf 1 (some .int) :: tb_all
def wX0_yOf : List Cond := .code yX0_yOf cX0_yOf 1 (some .int) :: tb_all
def wX0_compress : List Cond := .code yX0_compress cX0_compress 1 (some .int) :: tb_all
def wX0_holds : List Cond := .code yX0_holds cX0_holds 7 (some .boolean) :: tb_all
def wX0_read : List Cond := .code yX0_read cX0_read 5 (some .int) :: tb_all
def wX0_other : List Cond := .code yX0_other cX0_other 2 (some .int) :: tb_all
def wX0_sum : List Cond := .code yX0_sum cX0_sum 10 (some .int) :: tb_all
def wX0_multiple : List Cond := .code yX0_multiple cX0_multiple 7 (some .int) :: tb_all
def wX0_orderOf : List Cond := .code yX0_orderOf cX0_orderOf 5 (some .int) :: tb_all
def wX0_leastOfGreatestOrder : List Cond := .code yX0_leastOfGreatestOrder cX0_leastOfGreatestOrder 6 (some .int) :: tb_all
def wX0_stepsTo : List Cond := .code yX0_stepsTo cX0_stepsTo 7 (some .int) :: tb_all
def wX0_howManyHalves : List Cond := .code yX0_howManyHalves cX0_howManyHalves 2 (some .int) :: tb_all
def wX0_leastHalf : List Cond := .code yX0_leastHalf cX0_leastHalf 2 (some .int) :: tb_all
def wX0_markSmallSteps : List Cond := .code yX0_markSmallSteps cX0_markSmallSteps 5 none :: tb_all
def wX0_fillHalves : List Cond := .code yX0_fillHalves cX0_fillHalves 3 none :: tb_all
def wX0_countHalf : List Cond := .code yX0_countHalf cX0_countHalf 3 none :: tb_all
def wX0_place : List Cond := .code yX0_place cX0_place 2 (some .int) :: tb_all
def wX0_rootFor : List Cond := .code yX0_rootFor cX0_rootFor 4 (some .int) :: tb_all
def wX0_fillInverses : List Cond := .code yX0_fillInverses cX0_fillInverses 2 none :: tb_all
def wX0_fillRoots : List Cond := .code yX0_fillRoots cX0_fillRoots 2 none :: tb_all
def wX0_leastNonSquare : List Cond := .code yX0_leastNonSquare cX0_leastNonSquare 2 (some .int) :: tb_all
def wX0_countPoints : List Cond := .code yX0_countPoints cX0_countPoints 4 (some .int) :: tb_all
def wX0_fillFactors : List Cond := .code yX0_fillFactors cX0_fillFactors 3 none :: tb_all
def wL_begin : List Cond := .codeWith yL_begin cL_begin 4 (some .int) [(0, 9, 12, 13)] :: tb_all
def wL_put : List Cond := .codeWith yL_put cL_put 5 (some .int) [(0, 7, 10, 19), (0, 7, 14, 13)] :: tb_all
def wL_unpack : List Cond := .codeWith yL_unpack cL_unpack 4 (some .int) [(0, 6, 9, 19), (0, 6, 12, 13)] :: tb_all
def wL_packed : List Cond := .codeWith yL_packed cL_packed 4 (some .int) [(0, 9, 12, 19)] :: tb_all
def wL_get : List Cond := .codeWith yL_get cL_get 5 (some .int) [(0, 10, 13, 19)] :: tb_all
def wL_join : List Cond := .codeWith yL_join cL_join 7 (some .int) [(0, 14, 17, 19)] :: tb_all
def wL_times : List Cond := .codeWith yL_times cL_times 7 (some .int) [(0, 13, 16, 19)] :: tb_all
def wL_both : List Cond := .codeWith yL_both cL_both 10 (some .int) [(0, 17, 20, 19)] :: tb_all
def wL_order : List Cond := .codeWith yL_order cL_order 4 (some .int) [(0, 9, 12, 19)] :: tb_all
def wL_log : List Cond := .codeWith yL_log cL_log 5 (some .int) [(0, 10, 13, 19)] :: tb_all
def wL_half : List Cond := .codeWith yL_half cL_half 5 (some .int) [(0, 10, 13, 19)] :: tb_all
def wL_sign : List Cond := .codeWith yL_sign cL_sign 6 (some .int) [(0, 11, 14, 19), (0, 11, 18, 13), (0, 11, 22, 58)] :: tb_all
def wL_verify : List Cond := .codeWith yL_verify cL_verify 8 (some .int) [(0, 21, 24, 19), (0, 21, 28, 13)] :: tb_all
def wJ9_floorMod : List Cond := .code yJ9_floorMod cJ9_floorMod 6 (some .long) :: tb_all
def wJ7_fill : List Cond := .code yJ7_fill cJ7_fill 4 none :: tb_all
