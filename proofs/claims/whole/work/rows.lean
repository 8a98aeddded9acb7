section
/-- a private method of a class that the tables say can be made, by its rows of tables_1 -/
def lw_okq (q : MethodName × Nat) : Prop := (q.1.cls ≠ "java/lang/invoke/MethodHandle" ∧ q.1.cls ≠ "java/lang/invoke/VarHandle") ∧ Cond.instantiable q.1.cls q.2 ∈ tables_1 ∧ Cond.privateMethod q.1 ∈ tables_1 ∧ Cond.instanceMethod q.1 ∈ tables_1
theorem lw_p0 : lw_okq (⟨"WhiteSlopes", "endDay", "()V"⟩, 9) := ⟨⟨by decide +kernel, by decide +kernel⟩, List.mem_of_getElem? (i := 10) (by decide +kernel), List.mem_of_getElem? (i := 182) (by decide +kernel), List.mem_of_getElem? (i := 183) (by decide +kernel)⟩
theorem lw_p1 : lw_okq (⟨"WhiteSlopes", "letSnowFall", "()V"⟩, 9) := ⟨⟨by decide +kernel, by decide +kernel⟩, List.mem_of_getElem? (i := 10) (by decide +kernel), List.mem_of_getElem? (i := 190) (by decide +kernel), List.mem_of_getElem? (i := 191) (by decide +kernel)⟩
theorem lw_p2 : lw_okq (⟨"WhiteSlopes$Weather", "meanSnow", "()I"⟩, 5) := ⟨⟨by decide +kernel, by decide +kernel⟩, List.mem_of_getElem? (i := 20) (by decide +kernel), List.mem_of_getElem? (i := 198) (by decide +kernel), List.mem_of_getElem? (i := 199) (by decide +kernel)⟩
theorem lw_p3 : lw_okq (⟨"WhiteSlopes$Slope", "joinLowest", "()V"⟩, 4) := ⟨⟨by decide +kernel, by decide +kernel⟩, List.mem_of_getElem? (i := 94) (by decide +kernel), List.mem_of_getElem? (i := 210) (by decide +kernel), List.mem_of_getElem? (i := 211) (by decide +kernel)⟩
theorem lw_p4 : lw_okq (⟨"WhiteSlopes", "letSnowDrift", "()V"⟩, 9) := ⟨⟨by decide +kernel, by decide +kernel⟩, List.mem_of_getElem? (i := 10) (by decide +kernel), List.mem_of_getElem? (i := 221) (by decide +kernel), List.mem_of_getElem? (i := 222) (by decide +kernel)⟩
theorem lw_p5 : lw_okq (⟨"WhiteSlopes$Slope", "isTopNew", "()Z"⟩, 4) := ⟨⟨by decide +kernel, by decide +kernel⟩, List.mem_of_getElem? (i := 94) (by decide +kernel), List.mem_of_getElem? (i := 237) (by decide +kernel), List.mem_of_getElem? (i := 238) (by decide +kernel)⟩
theorem lw_p6 : lw_okq (⟨"WhiteSlopes", "letSnowChange", "()V"⟩, 9) := ⟨⟨by decide +kernel, by decide +kernel⟩, List.mem_of_getElem? (i := 10) (by decide +kernel), List.mem_of_getElem? (i := 246) (by decide +kernel), List.mem_of_getElem? (i := 247) (by decide +kernel)⟩
theorem lw_p7 : lw_okq (⟨"WhiteSlopes$Slope", "massBetween", "(II)I"⟩, 4) := ⟨⟨by decide +kernel, by decide +kernel⟩, List.mem_of_getElem? (i := 94) (by decide +kernel), List.mem_of_getElem? (i := 295) (by decide +kernel), List.mem_of_getElem? (i := 296) (by decide +kernel)⟩
theorem lw_p8 : lw_okq (⟨"WhiteSlopes", "dangerOf", "(I)I"⟩, 9) := ⟨⟨by decide +kernel, by decide +kernel⟩, List.mem_of_getElem? (i := 10) (by decide +kernel), List.mem_of_getElem? (i := 333) (by decide +kernel), List.mem_of_getElem? (i := 334) (by decide +kernel)⟩
theorem lw_p9 : lw_okq (⟨"WhiteSlopes", "spreadAt", "(I)I"⟩, 9) := ⟨⟨by decide +kernel, by decide +kernel⟩, List.mem_of_getElem? (i := 10) (by decide +kernel), List.mem_of_getElem? (i := 337) (by decide +kernel), List.mem_of_getElem? (i := 338) (by decide +kernel)⟩
theorem lw_p10 : lw_okq (⟨"WhiteSlopes", "takeAbove", "(II)I"⟩, 9) := ⟨⟨by decide +kernel, by decide +kernel⟩, List.mem_of_getElem? (i := 10) (by decide +kernel), List.mem_of_getElem? (i := 353) (by decide +kernel), List.mem_of_getElem? (i := 354) (by decide +kernel)⟩
theorem lw_p11 : lw_okq (⟨"WhiteSlopes$Pit", "costOfPair", "(ILWhiteSlopes$Slope;I)I"⟩, 4) := ⟨⟨by decide +kernel, by decide +kernel⟩, List.mem_of_getElem? (i := 59) (by decide +kernel), List.mem_of_getElem? (i := 430) (by decide +kernel), List.mem_of_getElem? (i := 431) (by decide +kernel)⟩
theorem lw_p12 : lw_okq (⟨"WhiteSlopes", "massOnSlopes", "()I"⟩, 9) := ⟨⟨by decide +kernel, by decide +kernel⟩, List.mem_of_getElem? (i := 10) (by decide +kernel), List.mem_of_getElem? (i := 463) (by decide +kernel), List.mem_of_getElem? (i := 464) (by decide +kernel)⟩
theorem lw_p13 : lw_okq (⟨"WhiteSlopes", "greatestDanger", "()I"⟩, 9) := ⟨⟨by decide +kernel, by decide +kernel⟩, List.mem_of_getElem? (i := 10) (by decide +kernel), List.mem_of_getElem? (i := 467) (by decide +kernel), List.mem_of_getElem? (i := 468) (by decide +kernel)⟩
theorem lw_p14 : lw_okq (⟨"WhiteSlopesModel", "day", "()V"⟩, 23) := ⟨⟨by decide +kernel, by decide +kernel⟩, List.mem_of_getElem? (i := 475) (by decide +kernel), List.mem_of_getElem? (i := 570) (by decide +kernel), List.mem_of_getElem? (i := 571) (by decide +kernel)⟩
theorem lw_p15 : lw_okq (⟨"WhiteSlopesModel", "judges", "()V"⟩, 23) := ⟨⟨by decide +kernel, by decide +kernel⟩, List.mem_of_getElem? (i := 475) (by decide +kernel), List.mem_of_getElem? (i := 574) (by decide +kernel), List.mem_of_getElem? (i := 575) (by decide +kernel)⟩
def lw_privs_1 : List (MethodName × Nat) := [(⟨"WhiteSlopes", "endDay", "()V"⟩, 9), (⟨"WhiteSlopes", "letSnowFall", "()V"⟩, 9), (⟨"WhiteSlopes$Weather", "meanSnow", "()I"⟩, 5), (⟨"WhiteSlopes$Slope", "joinLowest", "()V"⟩, 4), (⟨"WhiteSlopes", "letSnowDrift", "()V"⟩, 9), (⟨"WhiteSlopes$Slope", "isTopNew", "()Z"⟩, 4), (⟨"WhiteSlopes", "letSnowChange", "()V"⟩, 9), (⟨"WhiteSlopes$Slope", "massBetween", "(II)I"⟩, 4), (⟨"WhiteSlopes", "dangerOf", "(I)I"⟩, 9), (⟨"WhiteSlopes", "spreadAt", "(I)I"⟩, 9), (⟨"WhiteSlopes", "takeAbove", "(II)I"⟩, 9), (⟨"WhiteSlopes$Pit", "costOfPair", "(ILWhiteSlopes$Slope;I)I"⟩, 4), (⟨"WhiteSlopes", "massOnSlopes", "()I"⟩, 9), (⟨"WhiteSlopes", "greatestDanger", "()I"⟩, 9), (⟨"WhiteSlopesModel", "day", "()V"⟩, 23), (⟨"WhiteSlopesModel", "judges", "()V"⟩, 23)]
theorem lw_r1 : ∀ q ∈ lw_privs_1, lw_okq q := List.forall_mem_cons.mpr ⟨lw_p0, List.forall_mem_cons.mpr ⟨lw_p1, List.forall_mem_cons.mpr ⟨lw_p2, List.forall_mem_cons.mpr ⟨lw_p3, List.forall_mem_cons.mpr ⟨lw_p4, List.forall_mem_cons.mpr ⟨lw_p5, List.forall_mem_cons.mpr ⟨lw_p6, List.forall_mem_cons.mpr ⟨lw_p7, List.forall_mem_cons.mpr ⟨lw_p8, List.forall_mem_cons.mpr ⟨lw_p9, List.forall_mem_cons.mpr ⟨lw_p10, List.forall_mem_cons.mpr ⟨lw_p11, List.forall_mem_cons.mpr ⟨lw_p12, List.forall_mem_cons.mpr ⟨lw_p13, List.forall_mem_cons.mpr ⟨lw_p14, List.forall_mem_cons.mpr ⟨lw_p15, fun _ h => absurd h List.not_mem_nil⟩⟩⟩⟩⟩⟩⟩⟩⟩⟩⟩⟩⟩⟩⟩⟩
theorem lw_p16 : lw_okq (⟨"WhiteSlopesModel", "snowAt", "(I)I"⟩, 23) := ⟨⟨by decide +kernel, by decide +kernel⟩, List.mem_of_getElem? (i := 475) (by decide +kernel), List.mem_of_getElem? (i := 578) (by decide +kernel), List.mem_of_getElem? (i := 579) (by decide +kernel)⟩
theorem lw_p17 : lw_okq (⟨"WhiteSlopesModel", "falls", "(II)V"⟩, 23) := ⟨⟨by decide +kernel, by decide +kernel⟩, List.mem_of_getElem? (i := 475) (by decide +kernel), List.mem_of_getElem? (i := 582) (by decide +kernel), List.mem_of_getElem? (i := 583) (by decide +kernel)⟩
theorem lw_p18 : lw_okq (⟨"WhiteSlopesModel", "drifts", "(II)V"⟩, 23) := ⟨⟨by decide +kernel, by decide +kernel⟩, List.mem_of_getElem? (i := 475) (by decide +kernel), List.mem_of_getElem? (i := 586) (by decide +kernel), List.mem_of_getElem? (i := 587) (by decide +kernel)⟩
theorem lw_p19 : lw_okq (⟨"WhiteSlopesModel", "isNewOn", "(I)Z"⟩, 23) := ⟨⟨by decide +kernel, by decide +kernel⟩, List.mem_of_getElem? (i := 475) (by decide +kernel), List.mem_of_getElem? (i := 590) (by decide +kernel), List.mem_of_getElem? (i := 591) (by decide +kernel)⟩
theorem lw_p20 : lw_okq (⟨"WhiteSlopesModel", "top", "(I)I"⟩, 23) := ⟨⟨by decide +kernel, by decide +kernel⟩, List.mem_of_getElem? (i := 475) (by decide +kernel), List.mem_of_getElem? (i := 594) (by decide +kernel), List.mem_of_getElem? (i := 595) (by decide +kernel)⟩
theorem lw_p21 : lw_okq (⟨"WhiteSlopesModel", "ages", "(I)V"⟩, 23) := ⟨⟨by decide +kernel, by decide +kernel⟩, List.mem_of_getElem? (i := 475) (by decide +kernel), List.mem_of_getElem? (i := 598) (by decide +kernel), List.mem_of_getElem? (i := 599) (by decide +kernel)⟩
theorem lw_p22 : lw_okq (⟨"WhiteSlopesModel", "melts", "(I)V"⟩, 23) := ⟨⟨by decide +kernel, by decide +kernel⟩, List.mem_of_getElem? (i := 475) (by decide +kernel), List.mem_of_getElem? (i := 602) (by decide +kernel), List.mem_of_getElem? (i := 603) (by decide +kernel)⟩
theorem lw_p23 : lw_okq (⟨"WhiteSlopesModel", "load", "(II)I"⟩, 23) := ⟨⟨by decide +kernel, by decide +kernel⟩, List.mem_of_getElem? (i := 475) (by decide +kernel), List.mem_of_getElem? (i := 613) (by decide +kernel), List.mem_of_getElem? (i := 614) (by decide +kernel)⟩
theorem lw_p24 : lw_okq (⟨"WhiteSlopesModel", "index", "(II)I"⟩, 23) := ⟨⟨by decide +kernel, by decide +kernel⟩, List.mem_of_getElem? (i := 475) (by decide +kernel), List.mem_of_getElem? (i := 617) (by decide +kernel), List.mem_of_getElem? (i := 618) (by decide +kernel)⟩
theorem lw_p25 : lw_okq (⟨"WhiteSlopesModel", "all", "(I)I"⟩, 23) := ⟨⟨by decide +kernel, by decide +kernel⟩, List.mem_of_getElem? (i := 475) (by decide +kernel), List.mem_of_getElem? (i := 625) (by decide +kernel), List.mem_of_getElem? (i := 626) (by decide +kernel)⟩
theorem lw_p26 : lw_okq (⟨"WhiteSlopesModel", "likely", "(I)I"⟩, 23) := ⟨⟨by decide +kernel, by decide +kernel⟩, List.mem_of_getElem? (i := 475) (by decide +kernel), List.mem_of_getElem? (i := 629) (by decide +kernel), List.mem_of_getElem? (i := 630) (by decide +kernel)⟩
theorem lw_p27 : lw_okq (⟨"WhiteSlopesModel", "why", "(I)I"⟩, 23) := ⟨⟨by decide +kernel, by decide +kernel⟩, List.mem_of_getElem? (i := 475) (by decide +kernel), List.mem_of_getElem? (i := 633) (by decide +kernel), List.mem_of_getElem? (i := 634) (by decide +kernel)⟩
theorem lw_p28 : lw_okq (⟨"WhiteSlopesModel", "size", "(I)I"⟩, 23) := ⟨⟨by decide +kernel, by decide +kernel⟩, List.mem_of_getElem? (i := 475) (by decide +kernel), List.mem_of_getElem? (i := 637) (by decide +kernel), List.mem_of_getElem? (i := 638) (by decide +kernel)⟩
theorem lw_p29 : lw_okq (⟨"WhiteSlopesModel", "danger", "(I)I"⟩, 23) := ⟨⟨by decide +kernel, by decide +kernel⟩, List.mem_of_getElem? (i := 475) (by decide +kernel), List.mem_of_getElem? (i := 641) (by decide +kernel), List.mem_of_getElem? (i := 642) (by decide +kernel)⟩
theorem lw_p30 : lw_okq (⟨"WhiteSlopesModel", "slides", "(II)I"⟩, 23) := ⟨⟨by decide +kernel, by decide +kernel⟩, List.mem_of_getElem? (i := 475) (by decide +kernel), List.mem_of_getElem? (i := 649) (by decide +kernel), List.mem_of_getElem? (i := 650) (by decide +kernel)⟩
theorem lw_p31 : lw_okq (⟨"WhiteSlopesModel", "shuts", "(I)Z"⟩, 23) := ⟨⟨by decide +kernel, by decide +kernel⟩, List.mem_of_getElem? (i := 475) (by decide +kernel), List.mem_of_getElem? (i := 665) (by decide +kernel), List.mem_of_getElem? (i := 666) (by decide +kernel)⟩
def lw_privs_2 : List (MethodName × Nat) := [(⟨"WhiteSlopesModel", "snowAt", "(I)I"⟩, 23), (⟨"WhiteSlopesModel", "falls", "(II)V"⟩, 23), (⟨"WhiteSlopesModel", "drifts", "(II)V"⟩, 23), (⟨"WhiteSlopesModel", "isNewOn", "(I)Z"⟩, 23), (⟨"WhiteSlopesModel", "top", "(I)I"⟩, 23), (⟨"WhiteSlopesModel", "ages", "(I)V"⟩, 23), (⟨"WhiteSlopesModel", "melts", "(I)V"⟩, 23), (⟨"WhiteSlopesModel", "load", "(II)I"⟩, 23), (⟨"WhiteSlopesModel", "index", "(II)I"⟩, 23), (⟨"WhiteSlopesModel", "all", "(I)I"⟩, 23), (⟨"WhiteSlopesModel", "likely", "(I)I"⟩, 23), (⟨"WhiteSlopesModel", "why", "(I)I"⟩, 23), (⟨"WhiteSlopesModel", "size", "(I)I"⟩, 23), (⟨"WhiteSlopesModel", "danger", "(I)I"⟩, 23), (⟨"WhiteSlopesModel", "slides", "(II)I"⟩, 23), (⟨"WhiteSlopesModel", "shuts", "(I)Z"⟩, 23)]
theorem lw_r2 : ∀ q ∈ lw_privs_2, lw_okq q := List.forall_mem_cons.mpr ⟨lw_p16, List.forall_mem_cons.mpr ⟨lw_p17, List.forall_mem_cons.mpr ⟨lw_p18, List.forall_mem_cons.mpr ⟨lw_p19, List.forall_mem_cons.mpr ⟨lw_p20, List.forall_mem_cons.mpr ⟨lw_p21, List.forall_mem_cons.mpr ⟨lw_p22, List.forall_mem_cons.mpr ⟨lw_p23, List.forall_mem_cons.mpr ⟨lw_p24, List.forall_mem_cons.mpr ⟨lw_p25, List.forall_mem_cons.mpr ⟨lw_p26, List.forall_mem_cons.mpr ⟨lw_p27, List.forall_mem_cons.mpr ⟨lw_p28, List.forall_mem_cons.mpr ⟨lw_p29, List.forall_mem_cons.mpr ⟨lw_p30, List.forall_mem_cons.mpr ⟨lw_p31, fun _ h => absurd h List.not_mem_nil⟩⟩⟩⟩⟩⟩⟩⟩⟩⟩⟩⟩⟩⟩⟩⟩
theorem lw_p32 : lw_okq (⟨"WhiteSlopesModel", "pairs", "(III)I"⟩, 23) := ⟨⟨by decide +kernel, by decide +kernel⟩, List.mem_of_getElem? (i := 475) (by decide +kernel), List.mem_of_getElem? (i := 685) (by decide +kernel), List.mem_of_getElem? (i := 686) (by decide +kernel)⟩
def lw_privs_3 : List (MethodName × Nat) := [(⟨"WhiteSlopesModel", "pairs", "(III)I"⟩, 23)]
theorem lw_r3 : ∀ q ∈ lw_privs_3, lw_okq q := List.forall_mem_cons.mpr ⟨lw_p32, fun _ h => absurd h List.not_mem_nil⟩
def lw_privs : List (MethodName × Nat) := lw_privs_1 ++ (lw_privs_2 ++ (lw_privs_3))
def lw_tbl : List Cond := k2_sels lw_privs ++ tables_1
theorem lw_privs_ok : ∀ q ∈ lw_privs, lw_okq q := by
  show ∀ q ∈ lw_privs_1 ++ (lw_privs_2 ++ (lw_privs_3)), lw_okq q
  exact List.forall_mem_append.mpr ⟨lw_r1, List.forall_mem_append.mpr ⟨lw_r2, lw_r3⟩⟩
end
section
def RX0 : String := "WhiteSlopes$Pit"
def TX0 : u_T := fun k => match k with
  | 0 => ("WhiteSlopes$Pit", "kinds", "[I", true)
  | 1 => ("WhiteSlopes$Pit", "masses", "[I", true)
  | 2 => ("WhiteSlopes$Pit", "costs", "[I", true)
  | _ => ("WhiteSlopes$Pit", "number", "I", false)
def tyX0 : Nat → FieldType := fun k => match k with
  | 0 => .array .int
  | 1 => .array .int
  | 2 => .array .int
  | _ => .int
theorem nmX0 : ∀ a, a < 4 → ∀ b, b < 4 → a ≠ b → (TX0 a).2.1 ≠ (TX0 b).2.1 := by decide +kernel
theorem tyX0_ok : ∀ k, k < 4 → parseFieldDescriptor (TX0 k).2.2.1 = some (tyX0 k) := by decide +kernel
abbrev cX0_init : ByteArray := prog_2_method_1_code
def yX0_init : MethodName := ⟨RX0, "<init>", "()V"⟩
abbrev cX0_number : ByteArray := prog_2_method_2_code
def yX0_number : MethodName := ⟨RX0, "number", "()I"⟩
abbrev cX0_empty : ByteArray := prog_2_method_3_code
def yX0_empty : MethodName := ⟨RX0, "empty", "()I"⟩
abbrev cX0_addBelow : ByteArray := prog_2_method_4_code
def yX0_addBelow : MethodName := ⟨RX0, "addBelow", "(II)I"⟩
abbrev cX0_costAgainst : ByteArray := prog_2_method_5_code
def yX0_costAgainst : MethodName := ⟨RX0, "costAgainst", "(LWhiteSlopes$Slope;)I"⟩
abbrev cX0_costOfPair : ByteArray := prog_2_method_6_code
def yX0_costOfPair : MethodName := ⟨RX0, "costOfPair", "(ILWhiteSlopes$Slope;I)I"⟩
def RX1 : String := "WhiteSlopes$Road"
def TX1 : u_T := fun k => match k with
  | 0 => ("WhiteSlopes$Road", "klasses", "[I", true)
  | 1 => ("WhiteSlopes$Road", "needs", "[I", true)
  | _ => ("WhiteSlopes$Road", "number", "I", false)
def tyX1 : Nat → FieldType := fun k => match k with
  | 0 => .array .int
  | 1 => .array .int
  | _ => .int
theorem nmX1 : ∀ a, a < 3 → ∀ b, b < 3 → a ≠ b → (TX1 a).2.1 ≠ (TX1 b).2.1 := by decide +kernel
theorem tyX1_ok : ∀ k, k < 3 → parseFieldDescriptor (TX1 k).2.2.1 = some (tyX1 k) := by decide +kernel
abbrev cX1_init : ByteArray := prog_3_method_1_code
def yX1_init : MethodName := ⟨RX1, "<init>", "()V"⟩
abbrev cX1_paths : ByteArray := prog_3_method_2_code
def yX1_paths : MethodName := ⟨RX1, "paths", "()I"⟩
abbrev cX1_addPath : ByteArray := prog_3_method_3_code
def yX1_addPath : MethodName := ⟨RX1, "addPath", "(II)I"⟩
abbrev cX1_classOf : ByteArray := prog_3_method_4_code
def yX1_classOf : MethodName := ⟨RX1, "classOf", "(I)I"⟩
abbrev cX1_needOf : ByteArray := prog_3_method_5_code
def yX1_needOf : MethodName := ⟨RX1, "needOf", "(I)I"⟩
abbrev cX1_leastNeedIn : ByteArray := prog_3_method_6_code
def yX1_leastNeedIn : MethodName := ⟨RX1, "leastNeedIn", "(I)I"⟩
def RX2 : String := "WhiteSlopes$Slope"
def TX2 : u_T := fun k => match k with
  | 0 => ("WhiteSlopes$Slope", "kinds", "[I", true)
  | 1 => ("WhiteSlopes$Slope", "masses", "[I", true)
  | 2 => ("WhiteSlopes$Slope", "ages", "[I", true)
  | _ => ("WhiteSlopes$Slope", "layers", "I", false)
def tyX2 : Nat → FieldType := fun k => match k with
  | 0 => .array .int
  | 1 => .array .int
  | 2 => .array .int
  | _ => .int
theorem nmX2 : ∀ a, a < 4 → ∀ b, b < 4 → a ≠ b → (TX2 a).2.1 ≠ (TX2 b).2.1 := by decide +kernel
theorem tyX2_ok : ∀ k, k < 4 → parseFieldDescriptor (TX2 k).2.2.1 = some (tyX2 k) := by decide +kernel
abbrev cX2_init : ByteArray := prog_4_method_1_code
def yX2_init : MethodName := ⟨RX2, "<init>", "()V"⟩
abbrev cX2_depth : ByteArray := prog_4_method_2_code
def yX2_depth : MethodName := ⟨RX2, "depth", "()I"⟩
abbrev cX2_has : ByteArray := prog_4_method_3_code
def yX2_has : MethodName := ⟨RX2, "has", "(I)Z"⟩
abbrev cX2_kindOf : ByteArray := prog_4_method_4_code
def yX2_kindOf : MethodName := ⟨RX2, "kindOf", "(I)I"⟩
abbrev cX2_massOf : ByteArray := prog_4_method_5_code
def yX2_massOf : MethodName := ⟨RX2, "massOf", "(I)I"⟩
abbrev cX2_ageOf : ByteArray := prog_4_method_6_code
def yX2_ageOf : MethodName := ⟨RX2, "ageOf", "(I)I"⟩
abbrev cX2_indexOf : ByteArray := prog_4_method_7_code
def yX2_indexOf : MethodName := ⟨RX2, "indexOf", "(I)I"⟩
abbrev cX2_massAbove : ByteArray := prog_4_method_8_code
def yX2_massAbove : MethodName := ⟨RX2, "massAbove", "(I)I"⟩
abbrev cX2_whyWithin : ByteArray := prog_4_method_9_code
def yX2_whyWithin : MethodName := ⟨RX2, "whyWithin", "(I)I"⟩
abbrev cX2_likelyWithin : ByteArray := prog_4_method_10_code
def yX2_likelyWithin : MethodName := ⟨RX2, "likelyWithin", "(I)I"⟩
abbrev cX2_sizeWithin : ByteArray := prog_4_method_11_code
def yX2_sizeWithin : MethodName := ⟨RX2, "sizeWithin", "(I)I"⟩
abbrev cX2_reaches : ByteArray := prog_4_method_12_code
def yX2_reaches : MethodName := ⟨RX2, "reaches", "(II)Z"⟩
abbrev cX2_growOlder : ByteArray := prog_4_method_13_code
def yX2_growOlder : MethodName := ⟨RX2, "growOlder", "()V"⟩
abbrev cX2_addNew : ByteArray := prog_4_method_14_code
def yX2_addNew : MethodName := ⟨RX2, "addNew", "(I)V"⟩
abbrev cX2_giveToWind : ByteArray := prog_4_method_15_code
def yX2_giveToWind : MethodName := ⟨RX2, "giveToWind", "(I)I"⟩
abbrev cX2_takeFromWind : ByteArray := prog_4_method_16_code
def yX2_takeFromWind : MethodName := ⟨RX2, "takeFromWind", "(I)V"⟩
abbrev cX2_changeKinds : ByteArray := prog_4_method_17_code
def yX2_changeKinds : MethodName := ⟨RX2, "changeKinds", "(I)V"⟩
abbrev cX2_melt : ByteArray := prog_4_method_18_code
def yX2_melt : MethodName := ⟨RX2, "melt", "(I)I"⟩
abbrev cX2_removeAbove : ByteArray := prog_4_method_19_code
def yX2_removeAbove : MethodName := ⟨RX2, "removeAbove", "(I)I"⟩
abbrev cX2_isTopNew : ByteArray := prog_4_method_20_code
def yX2_isTopNew : MethodName := ⟨RX2, "isTopNew", "()Z"⟩
abbrev cX2_massBetween : ByteArray := prog_4_method_21_code
def yX2_massBetween : MethodName := ⟨RX2, "massBetween", "(II)I"⟩
abbrev cX2_indexUnder : ByteArray := prog_4_method_22_code
def yX2_indexUnder : MethodName := ⟨RX2, "indexUnder", "(II)I"⟩
abbrev cX2_bearingOf : ByteArray := prog_4_method_23_code
def yX2_bearingOf : MethodName := ⟨RX2, "bearingOf", "(II)I"⟩
abbrev cX2_joinLowest : ByteArray := prog_4_method_24_code
def yX2_joinLowest : MethodName := ⟨RX2, "joinLowest", "()V"⟩
def RX3 : String := "WhiteSlopes$Verdicts"
def TX3 : u_T := fun k => match k with
  | 0 => ("WhiteSlopes$Verdicts", "dangers", "[I", true)
  | 1 => ("WhiteSlopes$Verdicts", "slidToday", "[Z", true)
  | _ => ("WhiteSlopes$Verdicts", "tallies", "[I", true)
def tyX3 : Nat → FieldType := fun k => match k with
  | 0 => .array .int
  | 1 => .array .boolean
  | _ => .array .int
theorem nmX3 : ∀ a, a < 3 → ∀ b, b < 3 → a ≠ b → (TX3 a).2.1 ≠ (TX3 b).2.1 := by decide +kernel
theorem tyX3_ok : ∀ k, k < 3 → parseFieldDescriptor (TX3 k).2.2.1 = some (tyX3 k) := by decide +kernel
abbrev cX3_init : ByteArray := prog_5_method_1_code
def yX3_init : MethodName := ⟨RX3, "<init>", "()V"⟩
abbrev cX3_noteSlide : ByteArray := prog_5_method_2_code
def yX3_noteSlide : MethodName := ⟨RX3, "noteSlide", "(I)V"⟩
abbrev cX3_noteDanger : ByteArray := prog_5_method_3_code
def yX3_noteDanger : MethodName := ⟨RX3, "noteDanger", "(II)V"⟩
abbrev cX3_tallyOf : ByteArray := prog_5_method_4_code
def yX3_tallyOf : MethodName := ⟨RX3, "tallyOf", "(I)I"⟩
abbrev cX3_judgeDay : ByteArray := prog_5_method_5_code
def yX3_judgeDay : MethodName := ⟨RX3, "judgeDay", "()V"⟩
def RX4 : String := "WhiteSlopes$Weather"
def TX4 : u_T := fun k => match k with
  | 0 => ("WhiteSlopes$Weather", "snows", "[I", true)
  | 1 => ("WhiteSlopes$Weather", "warmths", "[I", true)
  | 2 => ("WhiteSlopes$Weather", "warmthsBefore", "[I", true)
  | 3 => ("WhiteSlopes$Weather", "side", "I", false)
  | _ => ("WhiteSlopes$Weather", "force", "I", false)
def tyX4 : Nat → FieldType := fun k => match k with
  | 0 => .array .int
  | 1 => .array .int
  | 2 => .array .int
  | 3 => .int
  | _ => .int
theorem nmX4 : ∀ a, a < 5 → ∀ b, b < 5 → a ≠ b → (TX4 a).2.1 ≠ (TX4 b).2.1 := by decide +kernel
theorem tyX4_ok : ∀ k, k < 5 → parseFieldDescriptor (TX4 k).2.2.1 = some (tyX4 k) := by decide +kernel
abbrev cX4_init : ByteArray := prog_6_method_1_code
def yX4_init : MethodName := ⟨RX4, "<init>", "()V"⟩
abbrev cX4_canSnow : ByteArray := prog_6_method_2_code
def yX4_canSnow : MethodName := ⟨RX4, "canSnow", "(I)Z"⟩
abbrev cX4_canBeWarm : ByteArray := prog_6_method_3_code
def yX4_canBeWarm : MethodName := ⟨RX4, "canBeWarm", "(I)Z"⟩
abbrev cX4_canBlow : ByteArray := prog_6_method_4_code
def yX4_canBlow : MethodName := ⟨RX4, "canBlow", "(I)Z"⟩
abbrev cX4_tellSnow : ByteArray := prog_6_method_5_code
def yX4_tellSnow : MethodName := ⟨RX4, "tellSnow", "(II)V"⟩
abbrev cX4_tellWarmth : ByteArray := prog_6_method_6_code
def yX4_tellWarmth : MethodName := ⟨RX4, "tellWarmth", "(II)V"⟩
abbrev cX4_tellWind : ByteArray := prog_6_method_7_code
def yX4_tellWind : MethodName := ⟨RX4, "tellWind", "(II)V"⟩
abbrev cX4_fallingMassAt : ByteArray := prog_6_method_8_code
def yX4_fallingMassAt : MethodName := ⟨RX4, "fallingMassAt", "(I)I"⟩
abbrev cX4_warmthAt : ByteArray := prog_6_method_9_code
def yX4_warmthAt : MethodName := ⟨RX4, "warmthAt", "(I)I"⟩
abbrev cX4_isDrifting : ByteArray := prog_6_method_10_code
def yX4_isDrifting : MethodName := ⟨RX4, "isDrifting", "()Z"⟩
abbrev cX4_windSide : ByteArray := prog_6_method_11_code
def yX4_windSide : MethodName := ⟨RX4, "windSide", "()I"⟩
abbrev cX4_driftingParts : ByteArray := prog_6_method_12_code
def yX4_driftingParts : MethodName := ⟨RX4, "driftingParts", "()I"⟩
abbrev cX4_endDay : ByteArray := prog_6_method_13_code
def yX4_endDay : MethodName := ⟨RX4, "endDay", "()V"⟩
abbrev cX4_meanSnow : ByteArray := prog_6_method_14_code
def yX4_meanSnow : MethodName := ⟨RX4, "meanSnow", "()I"⟩
def RX5 : String := "WhiteSlopes"
def TX5 : u_T := fun k => match k with
  | 0 => ("WhiteSlopes", "slopes", "[LWhiteSlopes$Slope;", true)
  | 1 => ("WhiteSlopes", "weather", "LWhiteSlopes$Weather;", true)
  | 2 => ("WhiteSlopes", "road", "LWhiteSlopes$Road;", true)
  | 3 => ("WhiteSlopes", "things", "LWhiteSlopes$Pit;", true)
  | 4 => ("WhiteSlopes", "verdicts", "LWhiteSlopes$Verdicts;", true)
  | 5 => ("WhiteSlopes", "now", "I", false)
  | 6 => ("WhiteSlopes", "fallen", "I", false)
  | 7 => ("WhiteSlopes", "melted", "I", false)
  | _ => ("WhiteSlopes", "slid", "I", false)
def tyX5 : Nat → FieldType := fun k => match k with
  | 0 => .array (.object "WhiteSlopes$Slope")
  | 1 => .object "WhiteSlopes$Weather"
  | 2 => .object "WhiteSlopes$Road"
  | 3 => .object "WhiteSlopes$Pit"
  | 4 => .object "WhiteSlopes$Verdicts"
  | 5 => .int
  | 6 => .int
  | 7 => .int
  | _ => .int
theorem nmX5 : ∀ a, a < 9 → ∀ b, b < 9 → a ≠ b → (TX5 a).2.1 ≠ (TX5 b).2.1 := by decide +kernel
theorem tyX5_ok : ∀ k, k < 9 → parseFieldDescriptor (TX5 k).2.2.1 = some (tyX5 k) := by decide +kernel
abbrev cX5_init : ByteArray := prog_1_method_1_code
def yX5_init : MethodName := ⟨RX5, "<init>", "()V"⟩
abbrev cX5_snow : ByteArray := prog_1_method_2_code
def yX5_snow : MethodName := ⟨RX5, "snow", "(II)Z"⟩
abbrev cX5_warmth : ByteArray := prog_1_method_3_code
def yX5_warmth : MethodName := ⟨RX5, "warmth", "(II)Z"⟩
abbrev cX5_wind : ByteArray := prog_1_method_4_code
def yX5_wind : MethodName := ⟨RX5, "wind", "(II)Z"⟩
abbrev cX5_go : ByteArray := prog_1_method_5_code
def yX5_go : MethodName := ⟨RX5, "go", "(I)I"⟩
abbrev cX5_layer : ByteArray := prog_1_method_6_code
def yX5_layer : MethodName := ⟨RX5, "layer", "(III)I"⟩
abbrev cX5_told : ByteArray := prog_1_method_7_code
def yX5_told : MethodName := ⟨RX5, "told", "(II)I"⟩
abbrev cX5_slide : ByteArray := prog_1_method_8_code
def yX5_slide : MethodName := ⟨RX5, "slide", "(II)I"⟩
abbrev cX5_shot : ByteArray := prog_1_method_9_code
def yX5_shot : MethodName := ⟨RX5, "shot", "(I)I"⟩
abbrev cX5_path : ByteArray := prog_1_method_10_code
def yX5_path : MethodName := ⟨RX5, "path", "(II)I"⟩
abbrev cX5_shut : ByteArray := prog_1_method_11_code
def yX5_shut : MethodName := ⟨RX5, "shut", "()I"⟩
abbrev cX5_shots : ByteArray := prog_1_method_12_code
def yX5_shots : MethodName := ⟨RX5, "shots", "()I"⟩
abbrev cX5_pit : ByteArray := prog_1_method_13_code
def yX5_pit : MethodName := ⟨RX5, "pit", "()I"⟩
abbrev cX5_seen : ByteArray := prog_1_method_14_code
def yX5_seen : MethodName := ⟨RX5, "seen", "(II)I"⟩
abbrev cX5_matched : ByteArray := prog_1_method_15_code
def yX5_matched : MethodName := ⟨RX5, "matched", "(I)I"⟩
abbrev cX5_nearest : ByteArray := prog_1_method_16_code
def yX5_nearest : MethodName := ⟨RX5, "nearest", "()I"⟩
abbrev cX5_watch : ByteArray := prog_1_method_17_code
def yX5_watch : MethodName := ⟨RX5, "watch", "(I)I"⟩
abbrev cX5_right : ByteArray := prog_1_method_18_code
def yX5_right : MethodName := ⟨RX5, "right", "(I)I"⟩
abbrev cX5_count : ByteArray := prog_1_method_19_code
def yX5_count : MethodName := ⟨RX5, "count", "(I)I"⟩
abbrev cX5_isHeight : ByteArray := prog_1_method_20_code
def yX5_isHeight : MethodName := ⟨RX5, "isHeight", "(I)Z"⟩
abbrev cX5_isClass : ByteArray := prog_1_method_21_code
def yX5_isClass : MethodName := ⟨RX5, "isClass", "(I)Z"⟩
abbrev cX5_endDay : ByteArray := prog_1_method_22_code
def yX5_endDay : MethodName := ⟨RX5, "endDay", "()V"⟩
abbrev cX5_letSnowFall : ByteArray := prog_1_method_23_code
def yX5_letSnowFall : MethodName := ⟨RX5, "letSnowFall", "()V"⟩
abbrev cX5_letSnowDrift : ByteArray := prog_1_method_24_code
def yX5_letSnowDrift : MethodName := ⟨RX5, "letSnowDrift", "()V"⟩
abbrev cX5_letSnowChange : ByteArray := prog_1_method_25_code
def yX5_letSnowChange : MethodName := ⟨RX5, "letSnowChange", "()V"⟩
abbrev cX5_takeAbove : ByteArray := prog_1_method_26_code
def yX5_takeAbove : MethodName := ⟨RX5, "takeAbove", "(II)I"⟩
abbrev cX5_dangerOf : ByteArray := prog_1_method_27_code
def yX5_dangerOf : MethodName := ⟨RX5, "dangerOf", "(I)I"⟩
abbrev cX5_spreadAt : ByteArray := prog_1_method_28_code
def yX5_spreadAt : MethodName := ⟨RX5, "spreadAt", "(I)I"⟩
abbrev cX5_greatestDanger : ByteArray := prog_1_method_29_code
def yX5_greatestDanger : MethodName := ⟨RX5, "greatestDanger", "()I"⟩
abbrev cX5_massOnSlopes : ByteArray := prog_1_method_30_code
def yX5_massOnSlopes : MethodName := ⟨RX5, "massOnSlopes", "()I"⟩
def RX6 : String := "WhiteSlopesModel"
def TX6 : u_T := fun k => match k with
  | 0 => ("WhiteSlopesModel", "now", "I", false)
  | 1 => ("WhiteSlopesModel", "many", "[I", true)
  | 2 => ("WhiteSlopesModel", "kind", "[I", true)
  | 3 => ("WhiteSlopesModel", "mass", "[I", true)
  | 4 => ("WhiteSlopesModel", "age", "[I", true)
  | 5 => ("WhiteSlopesModel", "snow", "[I", true)
  | 6 => ("WhiteSlopesModel", "warmth", "[I", true)
  | 7 => ("WhiteSlopesModel", "warm", "[I", true)
  | 8 => ("WhiteSlopesModel", "side", "I", false)
  | 9 => ("WhiteSlopesModel", "force", "I", false)
  | 10 => ("WhiteSlopesModel", "fell", "I", false)
  | 11 => ("WhiteSlopesModel", "melted", "I", false)
  | 12 => ("WhiteSlopesModel", "slid", "I", false)
  | 13 => ("WhiteSlopesModel", "hasSlid", "[Z", true)
  | 14 => ("WhiteSlopesModel", "watched", "[I", true)
  | 15 => ("WhiteSlopesModel", "right", "[I", true)
  | 16 => ("WhiteSlopesModel", "paths", "I", false)
  | 17 => ("WhiteSlopesModel", "pathClass", "[I", true)
  | 18 => ("WhiteSlopesModel", "pathSize", "[I", true)
  | 19 => ("WhiteSlopesModel", "things", "I", false)
  | 20 => ("WhiteSlopesModel", "thingKind", "[I", true)
  | 21 => ("WhiteSlopesModel", "thingMass", "[I", true)
  | _ => ("WhiteSlopesModel", "least", "[I", true)
def tyX6 : Nat → FieldType := fun k => match k with
  | 0 => .int
  | 1 => .array .int
  | 2 => .array .int
  | 3 => .array .int
  | 4 => .array .int
  | 5 => .array .int
  | 6 => .array .int
  | 7 => .array .int
  | 8 => .int
  | 9 => .int
  | 10 => .int
  | 11 => .int
  | 12 => .int
  | 13 => .array .boolean
  | 14 => .array .int
  | 15 => .array .int
  | 16 => .int
  | 17 => .array .int
  | 18 => .array .int
  | 19 => .int
  | 20 => .array .int
  | 21 => .array .int
  | _ => .array .int
theorem nmX6 : ∀ a, a < 23 → ∀ b, b < 23 → a ≠ b → (TX6 a).2.1 ≠ (TX6 b).2.1 := by decide +kernel
theorem tyX6_ok : ∀ k, k < 23 → parseFieldDescriptor (TX6 k).2.2.1 = some (tyX6 k) := by decide +kernel
abbrev cX6_init : ByteArray := prog_8_method_1_code
def yX6_init : MethodName := ⟨RX6, "<init>", "()V"⟩
abbrev cX6_in : ByteArray := prog_8_method_2_code
def yX6_in : MethodName := ⟨RX6, "in", "(III)Z"⟩
abbrev cX6_isClass : ByteArray := prog_8_method_3_code
def yX6_isClass : MethodName := ⟨RX6, "isClass", "(I)Z"⟩
abbrev cX6_snow : ByteArray := prog_8_method_4_code
def yX6_snow : MethodName := ⟨RX6, "snow", "(II)Z"⟩
abbrev cX6_warmth : ByteArray := prog_8_method_5_code
def yX6_warmth : MethodName := ⟨RX6, "warmth", "(II)Z"⟩
abbrev cX6_wind : ByteArray := prog_8_method_6_code
def yX6_wind : MethodName := ⟨RX6, "wind", "(II)Z"⟩
abbrev cX6_falls : ByteArray := prog_8_method_7_code
def yX6_falls : MethodName := ⟨RX6, "falls", "(II)V"⟩
abbrev cX6_snowAt : ByteArray := prog_8_method_8_code
def yX6_snowAt : MethodName := ⟨RX6, "snowAt", "(I)I"⟩
abbrev cX6_top : ByteArray := prog_8_method_9_code
def yX6_top : MethodName := ⟨RX6, "top", "(I)I"⟩
abbrev cX6_isNewOn : ByteArray := prog_8_method_10_code
def yX6_isNewOn : MethodName := ⟨RX6, "isNewOn", "(I)Z"⟩
abbrev cX6_drifts : ByteArray := prog_8_method_11_code
def yX6_drifts : MethodName := ⟨RX6, "drifts", "(II)V"⟩
abbrev cX6_ages : ByteArray := prog_8_method_12_code
def yX6_ages : MethodName := ⟨RX6, "ages", "(I)V"⟩
abbrev cX6_melts : ByteArray := prog_8_method_13_code
def yX6_melts : MethodName := ⟨RX6, "melts", "(I)V"⟩
abbrev cX6_judges : ByteArray := prog_8_method_14_code
def yX6_judges : MethodName := ⟨RX6, "judges", "()V"⟩
abbrev cX6_day : ByteArray := prog_8_method_15_code
def yX6_day : MethodName := ⟨RX6, "day", "()V"⟩
abbrev cX6_go : ByteArray := prog_8_method_16_code
def yX6_go : MethodName := ⟨RX6, "go", "(I)I"⟩
abbrev cX6_load : ByteArray := prog_8_method_17_code
def yX6_load : MethodName := ⟨RX6, "load", "(II)I"⟩
abbrev cX6_index : ByteArray := prog_8_method_18_code
def yX6_index : MethodName := ⟨RX6, "index", "(II)I"⟩
abbrev cX6_layer : ByteArray := prog_8_method_19_code
def yX6_layer : MethodName := ⟨RX6, "layer", "(III)I"⟩
abbrev cX6_why : ByteArray := prog_8_method_20_code
def yX6_why : MethodName := ⟨RX6, "why", "(I)I"⟩
abbrev cX6_likely : ByteArray := prog_8_method_21_code
def yX6_likely : MethodName := ⟨RX6, "likely", "(I)I"⟩
abbrev cX6_size : ByteArray := prog_8_method_22_code
def yX6_size : MethodName := ⟨RX6, "size", "(I)I"⟩
abbrev cX6_danger : ByteArray := prog_8_method_23_code
def yX6_danger : MethodName := ⟨RX6, "danger", "(I)I"⟩
abbrev cX6_all : ByteArray := prog_8_method_24_code
def yX6_all : MethodName := ⟨RX6, "all", "(I)I"⟩
abbrev cX6_told : ByteArray := prog_8_method_25_code
def yX6_told : MethodName := ⟨RX6, "told", "(II)I"⟩
abbrev cX6_slides : ByteArray := prog_8_method_26_code
def yX6_slides : MethodName := ⟨RX6, "slides", "(II)I"⟩
abbrev cX6_slide : ByteArray := prog_8_method_27_code
def yX6_slide : MethodName := ⟨RX6, "slide", "(II)I"⟩
abbrev cX6_shot : ByteArray := prog_8_method_28_code
def yX6_shot : MethodName := ⟨RX6, "shot", "(I)I"⟩
abbrev cX6_path : ByteArray := prog_8_method_29_code
def yX6_path : MethodName := ⟨RX6, "path", "(II)I"⟩
abbrev cX6_shuts : ByteArray := prog_8_method_30_code
def yX6_shuts : MethodName := ⟨RX6, "shuts", "(I)Z"⟩
abbrev cX6_shut : ByteArray := prog_8_method_31_code
def yX6_shut : MethodName := ⟨RX6, "shut", "()I"⟩
abbrev cX6_shots : ByteArray := prog_8_method_32_code
def yX6_shots : MethodName := ⟨RX6, "shots", "()I"⟩
abbrev cX6_pit : ByteArray := prog_8_method_33_code
def yX6_pit : MethodName := ⟨RX6, "pit", "()I"⟩
abbrev cX6_seen : ByteArray := prog_8_method_34_code
def yX6_seen : MethodName := ⟨RX6, "seen", "(II)I"⟩
abbrev cX6_matched : ByteArray := prog_8_method_35_code
def yX6_matched : MethodName := ⟨RX6, "matched", "(I)I"⟩
abbrev cX6_pairs : ByteArray := prog_8_method_36_code
def yX6_pairs : MethodName := ⟨RX6, "pairs", "(III)I"⟩
abbrev cX6_nearest : ByteArray := prog_8_method_37_code
def yX6_nearest : MethodName := ⟨RX6, "nearest", "()I"⟩
abbrev cX6_watch : ByteArray := prog_8_method_38_code
def yX6_watch : MethodName := ⟨RX6, "watch", "(I)I"⟩
abbrev cX6_right : ByteArray := prog_8_method_39_code
def yX6_right : MethodName := ⟨RX6, "right", "(I)I"⟩
abbrev cX6_count : ByteArray := prog_8_method_40_code
def yX6_count : MethodName := ⟨RX6, "count", "(I)I"⟩
def RJ9 : String := "java/lang/Math"
def TJ9 : u_T := fun k => match k with
  | _ => ("", "", "", false)
def tyJ9 : Nat → FieldType := fun k => match k with
  | _ => .int
theorem nmJ9 : ∀ a, a < 0 → ∀ b, b < 0 → a ≠ b → (TJ9 a).2.1 ≠ (TJ9 b).2.1 := by decide +kernel
theorem tyJ9_ok : ∀ k, k < 0 → parseFieldDescriptor (TJ9 k).2.2.1 = some (tyJ9 k) := by decide +kernel
abbrev cJ9_abs_0f7a4 : ByteArray := prog_9_method_59_code
def yJ9_abs_0f7a4 : MethodName := ⟨RJ9, "abs", "(I)I"⟩
abbrev cJ9_max_7cf53 : ByteArray := prog_9_method_65_code
def yJ9_max_7cf53 : MethodName := ⟨RJ9, "max", "(II)I"⟩
abbrev cJ9_min_7cf53 : ByteArray := prog_9_method_69_code
def yJ9_min_7cf53 : MethodName := ⟨RJ9, "min", "(II)I"⟩
def RL : String := "WhiteSlopesLaw"
abbrev cL_law : ByteArray := code
def yL_law : MethodName := ⟨RL, "law", "([I)Z"⟩
abbrev vwCl : List vw_C := [(RX0, TX0, 4), (RX1, TX1, 3), (RX2, TX2, 4), (RX3, TX3, 3), (RX4, TX4, 5), (RX5, TX5, 9), (RX6, TX6, 23)]
end
section
theorem dX0_init_0 : decode cX0_init 0 = .ok (.aload_n 0, 1) := by decide +kernel
theorem dX0_init_1 : decode cX0_init 1 = .ok (.invokespecial 3, 3) := by decide +kernel
theorem dX0_init_4 : decode cX0_init 4 = .ok (.aload_n 0, 1) := by decide +kernel
theorem dX0_init_5 : decode cX0_init 5 = .ok (.bipush 6, 2) := by decide +kernel
theorem dX0_init_7 : decode cX0_init 7 = .ok (.newarray .int, 2) := by decide +kernel
theorem dX0_init_9 : decode cX0_init 9 = .ok (.putfield 11, 3) := by decide +kernel
theorem dX0_init_12 : decode cX0_init 12 = .ok (.aload_n 0, 1) := by decide +kernel
theorem dX0_init_13 : decode cX0_init 13 = .ok (.bipush 6, 2) := by decide +kernel
theorem dX0_init_15 : decode cX0_init 15 = .ok (.newarray .int, 2) := by decide +kernel
theorem dX0_init_17 : decode cX0_init 17 = .ok (.putfield 15, 3) := by decide +kernel
theorem dX0_init_20 : decode cX0_init 20 = .ok (.aload_n 0, 1) := by decide +kernel
theorem dX0_init_21 : decode cX0_init 21 = .ok (.bipush 11, 2) := by decide +kernel
theorem dX0_init_23 : decode cX0_init 23 = .ok (.newarray .int, 2) := by decide +kernel
theorem dX0_init_25 : decode cX0_init 25 = .ok (.putfield 20, 3) := by decide +kernel
theorem dX0_init_28 : decode cX0_init 28 = .ok (.aload_n 0, 1) := by decide +kernel
theorem dX0_init_29 : decode cX0_init 29 = .ok (.iconst 0, 1) := by decide +kernel
theorem dX0_init_30 : decode cX0_init 30 = .ok (.putfield 23, 3) := by decide +kernel
theorem dX0_init_33 : decode cX0_init 33 = .ok (.return_, 1) := by decide +kernel
theorem dX0_number_0 : decode cX0_number 0 = .ok (.aload_n 0, 1) := by decide +kernel
theorem dX0_number_1 : decode cX0_number 1 = .ok (.getfield 23, 3) := by decide +kernel
theorem dX0_number_4 : decode cX0_number 4 = .ok (.ireturn, 1) := by decide +kernel
theorem dX0_empty_0 : decode cX0_empty 0 = .ok (.aload_n 0, 1) := by decide +kernel
theorem dX0_empty_1 : decode cX0_empty 1 = .ok (.getfield 23, 3) := by decide +kernel
theorem dX0_empty_4 : decode cX0_empty 4 = .ok (.istore_n 1, 1) := by decide +kernel
theorem dX0_empty_5 : decode cX0_empty 5 = .ok (.aload_n 0, 1) := by decide +kernel
theorem dX0_empty_6 : decode cX0_empty 6 = .ok (.iconst 0, 1) := by decide +kernel
theorem dX0_empty_7 : decode cX0_empty 7 = .ok (.putfield 23, 3) := by decide +kernel
theorem dX0_empty_10 : decode cX0_empty 10 = .ok (.iload_n 1, 1) := by decide +kernel
theorem dX0_empty_11 : decode cX0_empty 11 = .ok (.ireturn, 1) := by decide +kernel
theorem dX0_addBelow_0 : decode cX0_addBelow 0 = .ok (.aload_n 0, 1) := by decide +kernel
theorem dX0_addBelow_1 : decode cX0_addBelow 1 = .ok (.getfield 23, 3) := by decide +kernel
theorem dX0_addBelow_4 : decode cX0_addBelow 4 = .ok (.bipush 6, 2) := by decide +kernel
theorem dX0_addBelow_6 : decode cX0_addBelow 6 = .ok (.if_icmp .ge 24, 3) := by decide +kernel
theorem dX0_addBelow_9 : decode cX0_addBelow 9 = .ok (.iload_n 1, 1) := by decide +kernel
theorem dX0_addBelow_10 : decode cX0_addBelow 10 = .ok (.ifCond .lt 20, 3) := by decide +kernel
theorem dX0_addBelow_13 : decode cX0_addBelow 13 = .ok (.iload_n 1, 1) := by decide +kernel
theorem dX0_addBelow_14 : decode cX0_addBelow 14 = .ok (.iconst 3, 1) := by decide +kernel
theorem dX0_addBelow_15 : decode cX0_addBelow 15 = .ok (.if_icmp .gt 15, 3) := by decide +kernel
theorem dX0_addBelow_18 : decode cX0_addBelow 18 = .ok (.iload_n 2, 1) := by decide +kernel
theorem dX0_addBelow_19 : decode cX0_addBelow 19 = .ok (.iconst 1, 1) := by decide +kernel
theorem dX0_addBelow_20 : decode cX0_addBelow 20 = .ok (.if_icmp .lt 10, 3) := by decide +kernel
theorem dX0_addBelow_23 : decode cX0_addBelow 23 = .ok (.iload_n 2, 1) := by decide +kernel
theorem dX0_addBelow_24 : decode cX0_addBelow 24 = .ok (.sipush 9999, 3) := by decide +kernel
theorem dX0_addBelow_27 : decode cX0_addBelow 27 = .ok (.if_icmp .le 5, 3) := by decide +kernel
theorem dX0_addBelow_30 : decode cX0_addBelow 30 = .ok (.iconst (-1), 1) := by decide +kernel
theorem dX0_addBelow_31 : decode cX0_addBelow 31 = .ok (.ireturn, 1) := by decide +kernel
theorem dX0_addBelow_32 : decode cX0_addBelow 32 = .ok (.aload_n 0, 1) := by decide +kernel
theorem dX0_addBelow_33 : decode cX0_addBelow 33 = .ok (.getfield 11, 3) := by decide +kernel
theorem dX0_addBelow_36 : decode cX0_addBelow 36 = .ok (.aload_n 0, 1) := by decide +kernel
theorem dX0_addBelow_37 : decode cX0_addBelow 37 = .ok (.getfield 23, 3) := by decide +kernel
theorem dX0_addBelow_40 : decode cX0_addBelow 40 = .ok (.iload_n 1, 1) := by decide +kernel
theorem dX0_addBelow_41 : decode cX0_addBelow 41 = .ok (.iastore, 1) := by decide +kernel
theorem dX0_addBelow_42 : decode cX0_addBelow 42 = .ok (.aload_n 0, 1) := by decide +kernel
theorem dX0_addBelow_43 : decode cX0_addBelow 43 = .ok (.getfield 15, 3) := by decide +kernel
theorem dX0_addBelow_46 : decode cX0_addBelow 46 = .ok (.aload_n 0, 1) := by decide +kernel
theorem dX0_addBelow_47 : decode cX0_addBelow 47 = .ok (.getfield 23, 3) := by decide +kernel
theorem dX0_addBelow_50 : decode cX0_addBelow 50 = .ok (.iload_n 2, 1) := by decide +kernel
theorem dX0_addBelow_51 : decode cX0_addBelow 51 = .ok (.iastore, 1) := by decide +kernel
theorem dX0_addBelow_52 : decode cX0_addBelow 52 = .ok (.aload_n 0, 1) := by decide +kernel
theorem dX0_addBelow_53 : decode cX0_addBelow 53 = .ok (.dup, 1) := by decide +kernel
theorem dX0_addBelow_54 : decode cX0_addBelow 54 = .ok (.getfield 23, 3) := by decide +kernel
theorem dX0_addBelow_57 : decode cX0_addBelow 57 = .ok (.iconst 1, 1) := by decide +kernel
theorem dX0_addBelow_58 : decode cX0_addBelow 58 = .ok (.iadd, 1) := by decide +kernel
theorem dX0_addBelow_59 : decode cX0_addBelow 59 = .ok (.putfield 23, 3) := by decide +kernel
theorem dX0_addBelow_62 : decode cX0_addBelow 62 = .ok (.aload_n 0, 1) := by decide +kernel
theorem dX0_addBelow_63 : decode cX0_addBelow 63 = .ok (.getfield 23, 3) := by decide +kernel
theorem dX0_addBelow_66 : decode cX0_addBelow 66 = .ok (.ireturn, 1) := by decide +kernel
theorem dX0_costAgainst_0 : decode cX0_costAgainst 0 = .ok (.aload_n 1, 1) := by decide +kernel
theorem dX0_costAgainst_1 : decode cX0_costAgainst 1 = .ok (.invokevirtual 27, 3) := by decide +kernel
theorem dX0_costAgainst_4 : decode cX0_costAgainst 4 = .ok (.bipush 10, 2) := by decide +kernel
theorem dX0_costAgainst_6 : decode cX0_costAgainst 6 = .ok (.invokestatic 31, 3) := by decide +kernel
theorem dX0_costAgainst_9 : decode cX0_costAgainst 9 = .ok (.istore_n 2, 1) := by decide +kernel
theorem dX0_costAgainst_10 : decode cX0_costAgainst 10 = .ok (.iconst 0, 1) := by decide +kernel
theorem dX0_costAgainst_11 : decode cX0_costAgainst 11 = .ok (.istore_n 3, 1) := by decide +kernel
theorem dX0_costAgainst_12 : decode cX0_costAgainst 12 = .ok (.iload_n 3, 1) := by decide +kernel
theorem dX0_costAgainst_13 : decode cX0_costAgainst 13 = .ok (.iload_n 2, 1) := by decide +kernel
theorem dX0_costAgainst_14 : decode cX0_costAgainst 14 = .ok (.if_icmp .gt 19, 3) := by decide +kernel
theorem dX0_costAgainst_17 : decode cX0_costAgainst 17 = .ok (.aload_n 0, 1) := by decide +kernel
theorem dX0_costAgainst_18 : decode cX0_costAgainst 18 = .ok (.getfield 20, 3) := by decide +kernel
theorem dX0_costAgainst_21 : decode cX0_costAgainst 21 = .ok (.iload_n 3, 1) := by decide +kernel
theorem dX0_costAgainst_22 : decode cX0_costAgainst 22 = .ok (.bipush 30, 2) := by decide +kernel
theorem dX0_costAgainst_24 : decode cX0_costAgainst 24 = .ok (.iload_n 3, 1) := by decide +kernel
theorem dX0_costAgainst_25 : decode cX0_costAgainst 25 = .ok (.imul, 1) := by decide +kernel
theorem dX0_costAgainst_26 : decode cX0_costAgainst 26 = .ok (.iastore, 1) := by decide +kernel
theorem dX0_costAgainst_27 : decode cX0_costAgainst 27 = .ok (.iinc 3 1, 3) := by decide +kernel
theorem dX0_costAgainst_30 : decode cX0_costAgainst 30 = .ok (.goto (-18), 3) := by decide +kernel
theorem dX0_costAgainst_33 : decode cX0_costAgainst 33 = .ok (.iconst 0, 1) := by decide +kernel
theorem dX0_costAgainst_34 : decode cX0_costAgainst 34 = .ok (.istore_n 3, 1) := by decide +kernel
theorem dX0_costAgainst_35 : decode cX0_costAgainst 35 = .ok (.iload_n 3, 1) := by decide +kernel
theorem dX0_costAgainst_36 : decode cX0_costAgainst 36 = .ok (.aload_n 0, 1) := by decide +kernel
theorem dX0_costAgainst_37 : decode cX0_costAgainst 37 = .ok (.getfield 23, 3) := by decide +kernel
theorem dX0_costAgainst_40 : decode cX0_costAgainst 40 = .ok (.if_icmp .ge 105, 3) := by decide +kernel
theorem dX0_costAgainst_43 : decode cX0_costAgainst 43 = .ok (.aload_n 0, 1) := by decide +kernel
theorem dX0_costAgainst_44 : decode cX0_costAgainst 44 = .ok (.getfield 20, 3) := by decide +kernel
theorem dX0_costAgainst_47 : decode cX0_costAgainst 47 = .ok (.iconst 0, 1) := by decide +kernel
theorem dX0_costAgainst_48 : decode cX0_costAgainst 48 = .ok (.iaload, 1) := by decide +kernel
theorem dX0_costAgainst_49 : decode cX0_costAgainst 49 = .ok (.istore 4, 2) := by decide +kernel
theorem dX0_costAgainst_51 : decode cX0_costAgainst 51 = .ok (.aload_n 0, 1) := by decide +kernel
theorem dX0_costAgainst_52 : decode cX0_costAgainst 52 = .ok (.getfield 20, 3) := by decide +kernel
theorem dX0_costAgainst_55 : decode cX0_costAgainst 55 = .ok (.iconst 0, 1) := by decide +kernel
theorem dX0_costAgainst_56 : decode cX0_costAgainst 56 = .ok (.dup2, 1) := by decide +kernel
theorem dX0_costAgainst_57 : decode cX0_costAgainst 57 = .ok (.iaload, 1) := by decide +kernel
theorem dX0_costAgainst_58 : decode cX0_costAgainst 58 = .ok (.bipush 30, 2) := by decide +kernel
theorem dX0_costAgainst_60 : decode cX0_costAgainst 60 = .ok (.iadd, 1) := by decide +kernel
theorem dX0_costAgainst_61 : decode cX0_costAgainst 61 = .ok (.iastore, 1) := by decide +kernel
theorem dX0_costAgainst_62 : decode cX0_costAgainst 62 = .ok (.iconst 1, 1) := by decide +kernel
theorem dX0_costAgainst_63 : decode cX0_costAgainst 63 = .ok (.istore 5, 2) := by decide +kernel
theorem dX0_costAgainst_65 : decode cX0_costAgainst 65 = .ok (.iload 5, 2) := by decide +kernel
theorem dX0_costAgainst_67 : decode cX0_costAgainst 67 = .ok (.iload_n 2, 1) := by decide +kernel
theorem dX0_costAgainst_68 : decode cX0_costAgainst 68 = .ok (.if_icmp .gt 71, 3) := by decide +kernel
theorem dX0_costAgainst_71 : decode cX0_costAgainst 71 = .ok (.iload 4, 2) := by decide +kernel
theorem dX0_costAgainst_73 : decode cX0_costAgainst 73 = .ok (.aload_n 0, 1) := by decide +kernel
theorem dX0_costAgainst_74 : decode cX0_costAgainst 74 = .ok (.iload_n 3, 1) := by decide +kernel
theorem dX0_costAgainst_75 : decode cX0_costAgainst 75 = .ok (.aload_n 1, 1) := by decide +kernel
theorem dX0_costAgainst_76 : decode cX0_costAgainst 76 = .ok (.iload_n 2, 1) := by decide +kernel
theorem dX0_costAgainst_77 : decode cX0_costAgainst 77 = .ok (.iload 5, 2) := by decide +kernel
theorem dX0_costAgainst_79 : decode cX0_costAgainst 79 = .ok (.isub, 1) := by decide +kernel
theorem dX0_costAgainst_80 : decode cX0_costAgainst 80 = .ok (.invokevirtual 37, 3) := by decide +kernel
theorem dX0_costAgainst_83 : decode cX0_costAgainst 83 = .ok (.iadd, 1) := by decide +kernel
theorem dX0_costAgainst_84 : decode cX0_costAgainst 84 = .ok (.istore 6, 2) := by decide +kernel
theorem dX0_costAgainst_86 : decode cX0_costAgainst 86 = .ok (.aload_n 0, 1) := by decide +kernel
theorem dX0_costAgainst_87 : decode cX0_costAgainst 87 = .ok (.getfield 20, 3) := by decide +kernel
theorem dX0_costAgainst_90 : decode cX0_costAgainst 90 = .ok (.iload 5, 2) := by decide +kernel
theorem dX0_costAgainst_92 : decode cX0_costAgainst 92 = .ok (.iaload, 1) := by decide +kernel
theorem dX0_costAgainst_93 : decode cX0_costAgainst 93 = .ok (.aload_n 0, 1) := by decide +kernel
theorem dX0_costAgainst_94 : decode cX0_costAgainst 94 = .ok (.getfield 20, 3) := by decide +kernel
theorem dX0_costAgainst_97 : decode cX0_costAgainst 97 = .ok (.iload 5, 2) := by decide +kernel
theorem dX0_costAgainst_99 : decode cX0_costAgainst 99 = .ok (.iconst 1, 1) := by decide +kernel
theorem dX0_costAgainst_100 : decode cX0_costAgainst 100 = .ok (.isub, 1) := by decide +kernel
theorem dX0_costAgainst_101 : decode cX0_costAgainst 101 = .ok (.iaload, 1) := by decide +kernel
theorem dX0_costAgainst_102 : decode cX0_costAgainst 102 = .ok (.invokestatic 31, 3) := by decide +kernel
theorem dX0_costAgainst_105 : decode cX0_costAgainst 105 = .ok (.bipush 30, 2) := by decide +kernel
theorem dX0_costAgainst_107 : decode cX0_costAgainst 107 = .ok (.iadd, 1) := by decide +kernel
theorem dX0_costAgainst_108 : decode cX0_costAgainst 108 = .ok (.istore 7, 2) := by decide +kernel
theorem dX0_costAgainst_110 : decode cX0_costAgainst 110 = .ok (.aload_n 0, 1) := by decide +kernel
theorem dX0_costAgainst_111 : decode cX0_costAgainst 111 = .ok (.getfield 20, 3) := by decide +kernel
theorem dX0_costAgainst_114 : decode cX0_costAgainst 114 = .ok (.iload 5, 2) := by decide +kernel
theorem dX0_costAgainst_116 : decode cX0_costAgainst 116 = .ok (.iaload, 1) := by decide +kernel
theorem dX0_costAgainst_117 : decode cX0_costAgainst 117 = .ok (.istore 4, 2) := by decide +kernel
theorem dX0_costAgainst_119 : decode cX0_costAgainst 119 = .ok (.aload_n 0, 1) := by decide +kernel
theorem dX0_costAgainst_120 : decode cX0_costAgainst 120 = .ok (.getfield 20, 3) := by decide +kernel
theorem dX0_costAgainst_123 : decode cX0_costAgainst 123 = .ok (.iload 5, 2) := by decide +kernel
theorem dX0_costAgainst_125 : decode cX0_costAgainst 125 = .ok (.iload 6, 2) := by decide +kernel
theorem dX0_costAgainst_127 : decode cX0_costAgainst 127 = .ok (.iload 7, 2) := by decide +kernel
theorem dX0_costAgainst_129 : decode cX0_costAgainst 129 = .ok (.invokestatic 31, 3) := by decide +kernel
theorem dX0_costAgainst_132 : decode cX0_costAgainst 132 = .ok (.iastore, 1) := by decide +kernel
theorem dX0_costAgainst_133 : decode cX0_costAgainst 133 = .ok (.iinc 5 1, 3) := by decide +kernel
theorem dX0_costAgainst_136 : decode cX0_costAgainst 136 = .ok (.goto (-71), 3) := by decide +kernel
theorem dX0_costAgainst_139 : decode cX0_costAgainst 139 = .ok (.iinc 3 1, 3) := by decide +kernel
theorem dX0_costAgainst_142 : decode cX0_costAgainst 142 = .ok (.goto (-107), 3) := by decide +kernel
theorem dX0_costAgainst_145 : decode cX0_costAgainst 145 = .ok (.aload_n 0, 1) := by decide +kernel
theorem dX0_costAgainst_146 : decode cX0_costAgainst 146 = .ok (.getfield 20, 3) := by decide +kernel
theorem dX0_costAgainst_149 : decode cX0_costAgainst 149 = .ok (.iload_n 2, 1) := by decide +kernel
theorem dX0_costAgainst_150 : decode cX0_costAgainst 150 = .ok (.iaload, 1) := by decide +kernel
theorem dX0_costAgainst_151 : decode cX0_costAgainst 151 = .ok (.ireturn, 1) := by decide +kernel
theorem dX0_costOfPair_0 : decode cX0_costOfPair 0 = .ok (.aload_n 0, 1) := by decide +kernel
theorem dX0_costOfPair_1 : decode cX0_costOfPair 1 = .ok (.getfield 15, 3) := by decide +kernel
theorem dX0_costOfPair_4 : decode cX0_costOfPair 4 = .ok (.iload_n 1, 1) := by decide +kernel
theorem dX0_costOfPair_5 : decode cX0_costOfPair 5 = .ok (.iaload, 1) := by decide +kernel
theorem dX0_costOfPair_6 : decode cX0_costOfPair 6 = .ok (.aload_n 2, 1) := by decide +kernel
theorem dX0_costOfPair_7 : decode cX0_costOfPair 7 = .ok (.iload_n 3, 1) := by decide +kernel
theorem dX0_costOfPair_8 : decode cX0_costOfPair 8 = .ok (.invokevirtual 41, 3) := by decide +kernel
theorem dX0_costOfPair_11 : decode cX0_costOfPair 11 = .ok (.isub, 1) := by decide +kernel
theorem dX0_costOfPair_12 : decode cX0_costOfPair 12 = .ok (.invokestatic 45, 3) := by decide +kernel
theorem dX0_costOfPair_15 : decode cX0_costOfPair 15 = .ok (.bipush 10, 2) := by decide +kernel
theorem dX0_costOfPair_17 : decode cX0_costOfPair 17 = .ok (.idiv, 1) := by decide +kernel
theorem dX0_costOfPair_18 : decode cX0_costOfPair 18 = .ok (.istore 4, 2) := by decide +kernel
theorem dX0_costOfPair_20 : decode cX0_costOfPair 20 = .ok (.aload_n 0, 1) := by decide +kernel
theorem dX0_costOfPair_21 : decode cX0_costOfPair 21 = .ok (.getfield 11, 3) := by decide +kernel
theorem dX0_costOfPair_24 : decode cX0_costOfPair 24 = .ok (.iload_n 1, 1) := by decide +kernel
theorem dX0_costOfPair_25 : decode cX0_costOfPair 25 = .ok (.iaload, 1) := by decide +kernel
theorem dX0_costOfPair_26 : decode cX0_costOfPair 26 = .ok (.aload_n 2, 1) := by decide +kernel
theorem dX0_costOfPair_27 : decode cX0_costOfPair 27 = .ok (.iload_n 3, 1) := by decide +kernel
theorem dX0_costOfPair_28 : decode cX0_costOfPair 28 = .ok (.invokevirtual 48, 3) := by decide +kernel
theorem dX0_costOfPair_31 : decode cX0_costOfPair 31 = .ok (.if_icmp .ne 8, 3) := by decide +kernel
theorem dX0_costOfPair_34 : decode cX0_costOfPair 34 = .ok (.iload 4, 2) := by decide +kernel
theorem dX0_costOfPair_36 : decode cX0_costOfPair 36 = .ok (.goto 8, 3) := by decide +kernel
theorem dX0_costOfPair_39 : decode cX0_costOfPair 39 = .ok (.iload 4, 2) := by decide +kernel
theorem dX0_costOfPair_41 : decode cX0_costOfPair 41 = .ok (.bipush 40, 2) := by decide +kernel
theorem dX0_costOfPair_43 : decode cX0_costOfPair 43 = .ok (.iadd, 1) := by decide +kernel
theorem dX0_costOfPair_44 : decode cX0_costOfPair 44 = .ok (.ireturn, 1) := by decide +kernel
theorem dX1_init_0 : decode cX1_init 0 = .ok (.aload_n 0, 1) := by decide +kernel
theorem dX1_init_1 : decode cX1_init 1 = .ok (.invokespecial 3, 3) := by decide +kernel
theorem dX1_init_4 : decode cX1_init 4 = .ok (.aload_n 0, 1) := by decide +kernel
theorem dX1_init_5 : decode cX1_init 5 = .ok (.bipush 10, 2) := by decide +kernel
theorem dX1_init_7 : decode cX1_init 7 = .ok (.newarray .int, 2) := by decide +kernel
theorem dX1_init_9 : decode cX1_init 9 = .ok (.putfield 11, 3) := by decide +kernel
theorem dX1_init_12 : decode cX1_init 12 = .ok (.aload_n 0, 1) := by decide +kernel
theorem dX1_init_13 : decode cX1_init 13 = .ok (.bipush 10, 2) := by decide +kernel
theorem dX1_init_15 : decode cX1_init 15 = .ok (.newarray .int, 2) := by decide +kernel
theorem dX1_init_17 : decode cX1_init 17 = .ok (.putfield 15, 3) := by decide +kernel
theorem dX1_init_20 : decode cX1_init 20 = .ok (.aload_n 0, 1) := by decide +kernel
theorem dX1_init_21 : decode cX1_init 21 = .ok (.iconst 0, 1) := by decide +kernel
theorem dX1_init_22 : decode cX1_init 22 = .ok (.putfield 18, 3) := by decide +kernel
theorem dX1_init_25 : decode cX1_init 25 = .ok (.return_, 1) := by decide +kernel
theorem dX1_paths_0 : decode cX1_paths 0 = .ok (.aload_n 0, 1) := by decide +kernel
theorem dX1_paths_1 : decode cX1_paths 1 = .ok (.getfield 18, 3) := by decide +kernel
theorem dX1_paths_4 : decode cX1_paths 4 = .ok (.ireturn, 1) := by decide +kernel
theorem dX1_addPath_0 : decode cX1_addPath 0 = .ok (.aload_n 0, 1) := by decide +kernel
theorem dX1_addPath_1 : decode cX1_addPath 1 = .ok (.getfield 18, 3) := by decide +kernel
theorem dX1_addPath_4 : decode cX1_addPath 4 = .ok (.bipush 10, 2) := by decide +kernel
theorem dX1_addPath_6 : decode cX1_addPath 6 = .ok (.if_icmp .lt 5, 3) := by decide +kernel
theorem dX1_addPath_9 : decode cX1_addPath 9 = .ok (.iconst (-1), 1) := by decide +kernel
theorem dX1_addPath_10 : decode cX1_addPath 10 = .ok (.ireturn, 1) := by decide +kernel
theorem dX1_addPath_11 : decode cX1_addPath 11 = .ok (.aload_n 0, 1) := by decide +kernel
theorem dX1_addPath_12 : decode cX1_addPath 12 = .ok (.getfield 11, 3) := by decide +kernel
theorem dX1_addPath_15 : decode cX1_addPath 15 = .ok (.aload_n 0, 1) := by decide +kernel
theorem dX1_addPath_16 : decode cX1_addPath 16 = .ok (.getfield 18, 3) := by decide +kernel
theorem dX1_addPath_19 : decode cX1_addPath 19 = .ok (.iload_n 1, 1) := by decide +kernel
theorem dX1_addPath_20 : decode cX1_addPath 20 = .ok (.iastore, 1) := by decide +kernel
theorem dX1_addPath_21 : decode cX1_addPath 21 = .ok (.aload_n 0, 1) := by decide +kernel
theorem dX1_addPath_22 : decode cX1_addPath 22 = .ok (.getfield 15, 3) := by decide +kernel
theorem dX1_addPath_25 : decode cX1_addPath 25 = .ok (.aload_n 0, 1) := by decide +kernel
theorem dX1_addPath_26 : decode cX1_addPath 26 = .ok (.getfield 18, 3) := by decide +kernel
theorem dX1_addPath_29 : decode cX1_addPath 29 = .ok (.iload_n 2, 1) := by decide +kernel
theorem dX1_addPath_30 : decode cX1_addPath 30 = .ok (.iastore, 1) := by decide +kernel
theorem dX1_addPath_31 : decode cX1_addPath 31 = .ok (.aload_n 0, 1) := by decide +kernel
theorem dX1_addPath_32 : decode cX1_addPath 32 = .ok (.dup, 1) := by decide +kernel
theorem dX1_addPath_33 : decode cX1_addPath 33 = .ok (.getfield 18, 3) := by decide +kernel
theorem dX1_addPath_36 : decode cX1_addPath 36 = .ok (.iconst 1, 1) := by decide +kernel
theorem dX1_addPath_37 : decode cX1_addPath 37 = .ok (.iadd, 1) := by decide +kernel
theorem dX1_addPath_38 : decode cX1_addPath 38 = .ok (.putfield 18, 3) := by decide +kernel
theorem dX1_addPath_41 : decode cX1_addPath 41 = .ok (.aload_n 0, 1) := by decide +kernel
theorem dX1_addPath_42 : decode cX1_addPath 42 = .ok (.getfield 18, 3) := by decide +kernel
theorem dX1_addPath_45 : decode cX1_addPath 45 = .ok (.iconst 1, 1) := by decide +kernel
theorem dX1_addPath_46 : decode cX1_addPath 46 = .ok (.isub, 1) := by decide +kernel
theorem dX1_addPath_47 : decode cX1_addPath 47 = .ok (.ireturn, 1) := by decide +kernel
theorem dX1_classOf_0 : decode cX1_classOf 0 = .ok (.iload_n 1, 1) := by decide +kernel
theorem dX1_classOf_1 : decode cX1_classOf 1 = .ok (.ifCond .lt 20, 3) := by decide +kernel
theorem dX1_classOf_4 : decode cX1_classOf 4 = .ok (.iload_n 1, 1) := by decide +kernel
theorem dX1_classOf_5 : decode cX1_classOf 5 = .ok (.aload_n 0, 1) := by decide +kernel
theorem dX1_classOf_6 : decode cX1_classOf 6 = .ok (.getfield 18, 3) := by decide +kernel
theorem dX1_classOf_9 : decode cX1_classOf 9 = .ok (.if_icmp .ge 12, 3) := by decide +kernel
theorem dX1_classOf_12 : decode cX1_classOf 12 = .ok (.aload_n 0, 1) := by decide +kernel
theorem dX1_classOf_13 : decode cX1_classOf 13 = .ok (.getfield 11, 3) := by decide +kernel
theorem dX1_classOf_16 : decode cX1_classOf 16 = .ok (.iload_n 1, 1) := by decide +kernel
theorem dX1_classOf_17 : decode cX1_classOf 17 = .ok (.iaload, 1) := by decide +kernel
theorem dX1_classOf_18 : decode cX1_classOf 18 = .ok (.goto 4, 3) := by decide +kernel
theorem dX1_classOf_21 : decode cX1_classOf 21 = .ok (.iconst (-1), 1) := by decide +kernel
theorem dX1_classOf_22 : decode cX1_classOf 22 = .ok (.ireturn, 1) := by decide +kernel
theorem dX1_needOf_0 : decode cX1_needOf 0 = .ok (.iload_n 1, 1) := by decide +kernel
theorem dX1_needOf_1 : decode cX1_needOf 1 = .ok (.ifCond .lt 20, 3) := by decide +kernel
theorem dX1_needOf_4 : decode cX1_needOf 4 = .ok (.iload_n 1, 1) := by decide +kernel
theorem dX1_needOf_5 : decode cX1_needOf 5 = .ok (.aload_n 0, 1) := by decide +kernel
theorem dX1_needOf_6 : decode cX1_needOf 6 = .ok (.getfield 18, 3) := by decide +kernel
theorem dX1_needOf_9 : decode cX1_needOf 9 = .ok (.if_icmp .ge 12, 3) := by decide +kernel
theorem dX1_needOf_12 : decode cX1_needOf 12 = .ok (.aload_n 0, 1) := by decide +kernel
theorem dX1_needOf_13 : decode cX1_needOf 13 = .ok (.getfield 15, 3) := by decide +kernel
theorem dX1_needOf_16 : decode cX1_needOf 16 = .ok (.iload_n 1, 1) := by decide +kernel
theorem dX1_needOf_17 : decode cX1_needOf 17 = .ok (.iaload, 1) := by decide +kernel
theorem dX1_needOf_18 : decode cX1_needOf 18 = .ok (.goto 4, 3) := by decide +kernel
theorem dX1_needOf_21 : decode cX1_needOf 21 = .ok (.iconst 3, 1) := by decide +kernel
theorem dX1_needOf_22 : decode cX1_needOf 22 = .ok (.ireturn, 1) := by decide +kernel
theorem dX1_leastNeedIn_0 : decode cX1_leastNeedIn 0 = .ok (.iconst 3, 1) := by decide +kernel
theorem dX1_leastNeedIn_1 : decode cX1_leastNeedIn 1 = .ok (.istore_n 2, 1) := by decide +kernel
theorem dX1_leastNeedIn_2 : decode cX1_leastNeedIn 2 = .ok (.iconst 0, 1) := by decide +kernel
theorem dX1_leastNeedIn_3 : decode cX1_leastNeedIn 3 = .ok (.istore_n 3, 1) := by decide +kernel
theorem dX1_leastNeedIn_4 : decode cX1_leastNeedIn 4 = .ok (.iload_n 3, 1) := by decide +kernel
theorem dX1_leastNeedIn_5 : decode cX1_leastNeedIn 5 = .ok (.aload_n 0, 1) := by decide +kernel
theorem dX1_leastNeedIn_6 : decode cX1_leastNeedIn 6 = .ok (.getfield 18, 3) := by decide +kernel
theorem dX1_leastNeedIn_9 : decode cX1_leastNeedIn 9 = .ok (.if_icmp .ge 30, 3) := by decide +kernel
theorem dX1_leastNeedIn_12 : decode cX1_leastNeedIn 12 = .ok (.aload_n 0, 1) := by decide +kernel
theorem dX1_leastNeedIn_13 : decode cX1_leastNeedIn 13 = .ok (.getfield 11, 3) := by decide +kernel
theorem dX1_leastNeedIn_16 : decode cX1_leastNeedIn 16 = .ok (.iload_n 3, 1) := by decide +kernel
theorem dX1_leastNeedIn_17 : decode cX1_leastNeedIn 17 = .ok (.iaload, 1) := by decide +kernel
theorem dX1_leastNeedIn_18 : decode cX1_leastNeedIn 18 = .ok (.iload_n 1, 1) := by decide +kernel
theorem dX1_leastNeedIn_19 : decode cX1_leastNeedIn 19 = .ok (.if_icmp .ne 14, 3) := by decide +kernel
theorem dX1_leastNeedIn_22 : decode cX1_leastNeedIn 22 = .ok (.iload_n 2, 1) := by decide +kernel
theorem dX1_leastNeedIn_23 : decode cX1_leastNeedIn 23 = .ok (.aload_n 0, 1) := by decide +kernel
theorem dX1_leastNeedIn_24 : decode cX1_leastNeedIn 24 = .ok (.getfield 15, 3) := by decide +kernel
theorem dX1_leastNeedIn_27 : decode cX1_leastNeedIn 27 = .ok (.iload_n 3, 1) := by decide +kernel
theorem dX1_leastNeedIn_28 : decode cX1_leastNeedIn 28 = .ok (.iaload, 1) := by decide +kernel
theorem dX1_leastNeedIn_29 : decode cX1_leastNeedIn 29 = .ok (.invokestatic 22, 3) := by decide +kernel
theorem dX1_leastNeedIn_32 : decode cX1_leastNeedIn 32 = .ok (.istore_n 2, 1) := by decide +kernel
theorem dX1_leastNeedIn_33 : decode cX1_leastNeedIn 33 = .ok (.iinc 3 1, 3) := by decide +kernel
theorem dX1_leastNeedIn_36 : decode cX1_leastNeedIn 36 = .ok (.goto (-32), 3) := by decide +kernel
theorem dX1_leastNeedIn_39 : decode cX1_leastNeedIn 39 = .ok (.iload_n 2, 1) := by decide +kernel
theorem dX1_leastNeedIn_40 : decode cX1_leastNeedIn 40 = .ok (.ireturn, 1) := by decide +kernel
theorem dX2_init_0 : decode cX2_init 0 = .ok (.aload_n 0, 1) := by decide +kernel
theorem dX2_init_1 : decode cX2_init 1 = .ok (.invokespecial 3, 3) := by decide +kernel
theorem dX2_init_4 : decode cX2_init 4 = .ok (.aload_n 0, 1) := by decide +kernel
theorem dX2_init_5 : decode cX2_init 5 = .ok (.bipush 10, 2) := by decide +kernel
theorem dX2_init_7 : decode cX2_init 7 = .ok (.newarray .int, 2) := by decide +kernel
theorem dX2_init_9 : decode cX2_init 9 = .ok (.putfield 11, 3) := by decide +kernel
theorem dX2_init_12 : decode cX2_init 12 = .ok (.aload_n 0, 1) := by decide +kernel
theorem dX2_init_13 : decode cX2_init 13 = .ok (.bipush 10, 2) := by decide +kernel
theorem dX2_init_15 : decode cX2_init 15 = .ok (.newarray .int, 2) := by decide +kernel
theorem dX2_init_17 : decode cX2_init 17 = .ok (.putfield 15, 3) := by decide +kernel
theorem dX2_init_20 : decode cX2_init 20 = .ok (.aload_n 0, 1) := by decide +kernel
theorem dX2_init_21 : decode cX2_init 21 = .ok (.bipush 10, 2) := by decide +kernel
theorem dX2_init_23 : decode cX2_init 23 = .ok (.newarray .int, 2) := by decide +kernel
theorem dX2_init_25 : decode cX2_init 25 = .ok (.putfield 18, 3) := by decide +kernel
theorem dX2_init_28 : decode cX2_init 28 = .ok (.aload_n 0, 1) := by decide +kernel
theorem dX2_init_29 : decode cX2_init 29 = .ok (.iconst 0, 1) := by decide +kernel
theorem dX2_init_30 : decode cX2_init 30 = .ok (.putfield 21, 3) := by decide +kernel
theorem dX2_init_33 : decode cX2_init 33 = .ok (.return_, 1) := by decide +kernel
theorem dX2_depth_0 : decode cX2_depth 0 = .ok (.aload_n 0, 1) := by decide +kernel
theorem dX2_depth_1 : decode cX2_depth 1 = .ok (.getfield 21, 3) := by decide +kernel
theorem dX2_depth_4 : decode cX2_depth 4 = .ok (.ireturn, 1) := by decide +kernel
theorem dX2_has_0 : decode cX2_has 0 = .ok (.iload_n 1, 1) := by decide +kernel
theorem dX2_has_1 : decode cX2_has 1 = .ok (.ifCond .lt 15, 3) := by decide +kernel
theorem dX2_has_4 : decode cX2_has 4 = .ok (.iload_n 1, 1) := by decide +kernel
theorem dX2_has_5 : decode cX2_has 5 = .ok (.aload_n 0, 1) := by decide +kernel
theorem dX2_has_6 : decode cX2_has 6 = .ok (.getfield 21, 3) := by decide +kernel
theorem dX2_has_9 : decode cX2_has 9 = .ok (.if_icmp .ge 7, 3) := by decide +kernel
theorem dX2_has_12 : decode cX2_has 12 = .ok (.iconst 1, 1) := by decide +kernel
theorem dX2_has_13 : decode cX2_has 13 = .ok (.goto 4, 3) := by decide +kernel
theorem dX2_has_16 : decode cX2_has 16 = .ok (.iconst 0, 1) := by decide +kernel
theorem dX2_has_17 : decode cX2_has 17 = .ok (.ireturn, 1) := by decide +kernel
theorem dX2_kindOf_0 : decode cX2_kindOf 0 = .ok (.aload_n 0, 1) := by decide +kernel
theorem dX2_kindOf_1 : decode cX2_kindOf 1 = .ok (.iload_n 1, 1) := by decide +kernel
theorem dX2_kindOf_2 : decode cX2_kindOf 2 = .ok (.invokevirtual 25, 3) := by decide +kernel
theorem dX2_kindOf_5 : decode cX2_kindOf 5 = .ok (.ifCond .eq 12, 3) := by decide +kernel
theorem dX2_kindOf_8 : decode cX2_kindOf 8 = .ok (.aload_n 0, 1) := by decide +kernel
theorem dX2_kindOf_9 : decode cX2_kindOf 9 = .ok (.getfield 11, 3) := by decide +kernel
theorem dX2_kindOf_12 : decode cX2_kindOf 12 = .ok (.iload_n 1, 1) := by decide +kernel
theorem dX2_kindOf_13 : decode cX2_kindOf 13 = .ok (.iaload, 1) := by decide +kernel
theorem dX2_kindOf_14 : decode cX2_kindOf 14 = .ok (.goto 4, 3) := by decide +kernel
theorem dX2_kindOf_17 : decode cX2_kindOf 17 = .ok (.iconst (-1), 1) := by decide +kernel
theorem dX2_kindOf_18 : decode cX2_kindOf 18 = .ok (.ireturn, 1) := by decide +kernel
theorem dX2_massOf_0 : decode cX2_massOf 0 = .ok (.aload_n 0, 1) := by decide +kernel
theorem dX2_massOf_1 : decode cX2_massOf 1 = .ok (.iload_n 1, 1) := by decide +kernel
theorem dX2_massOf_2 : decode cX2_massOf 2 = .ok (.invokevirtual 25, 3) := by decide +kernel
theorem dX2_massOf_5 : decode cX2_massOf 5 = .ok (.ifCond .eq 12, 3) := by decide +kernel
theorem dX2_massOf_8 : decode cX2_massOf 8 = .ok (.aload_n 0, 1) := by decide +kernel
theorem dX2_massOf_9 : decode cX2_massOf 9 = .ok (.getfield 15, 3) := by decide +kernel
theorem dX2_massOf_12 : decode cX2_massOf 12 = .ok (.iload_n 1, 1) := by decide +kernel
theorem dX2_massOf_13 : decode cX2_massOf 13 = .ok (.iaload, 1) := by decide +kernel
theorem dX2_massOf_14 : decode cX2_massOf 14 = .ok (.goto 4, 3) := by decide +kernel
theorem dX2_massOf_17 : decode cX2_massOf 17 = .ok (.iconst 0, 1) := by decide +kernel
theorem dX2_massOf_18 : decode cX2_massOf 18 = .ok (.ireturn, 1) := by decide +kernel
theorem dX2_ageOf_0 : decode cX2_ageOf 0 = .ok (.aload_n 0, 1) := by decide +kernel
theorem dX2_ageOf_1 : decode cX2_ageOf 1 = .ok (.iload_n 1, 1) := by decide +kernel
theorem dX2_ageOf_2 : decode cX2_ageOf 2 = .ok (.invokevirtual 25, 3) := by decide +kernel
theorem dX2_ageOf_5 : decode cX2_ageOf 5 = .ok (.ifCond .eq 12, 3) := by decide +kernel
theorem dX2_ageOf_8 : decode cX2_ageOf 8 = .ok (.aload_n 0, 1) := by decide +kernel
theorem dX2_ageOf_9 : decode cX2_ageOf 9 = .ok (.getfield 18, 3) := by decide +kernel
theorem dX2_ageOf_12 : decode cX2_ageOf 12 = .ok (.iload_n 1, 1) := by decide +kernel
theorem dX2_ageOf_13 : decode cX2_ageOf 13 = .ok (.iaload, 1) := by decide +kernel
theorem dX2_ageOf_14 : decode cX2_ageOf 14 = .ok (.goto 4, 3) := by decide +kernel
theorem dX2_ageOf_17 : decode cX2_ageOf 17 = .ok (.iconst (-1), 1) := by decide +kernel
theorem dX2_ageOf_18 : decode cX2_ageOf 18 = .ok (.ireturn, 1) := by decide +kernel
theorem dX2_indexOf_0 : decode cX2_indexOf 0 = .ok (.aload_n 0, 1) := by decide +kernel
theorem dX2_indexOf_1 : decode cX2_indexOf 1 = .ok (.iload_n 1, 1) := by decide +kernel
theorem dX2_indexOf_2 : decode cX2_indexOf 2 = .ok (.invokevirtual 25, 3) := by decide +kernel
theorem dX2_indexOf_5 : decode cX2_indexOf 5 = .ok (.ifCond .eq 29, 3) := by decide +kernel
theorem dX2_indexOf_8 : decode cX2_indexOf 8 = .ok (.aload_n 0, 1) := by decide +kernel
theorem dX2_indexOf_9 : decode cX2_indexOf 9 = .ok (.getfield 11, 3) := by decide +kernel
theorem dX2_indexOf_12 : decode cX2_indexOf 12 = .ok (.iload_n 1, 1) := by decide +kernel
theorem dX2_indexOf_13 : decode cX2_indexOf 13 = .ok (.iaload, 1) := by decide +kernel
theorem dX2_indexOf_14 : decode cX2_indexOf 14 = .ok (.aload_n 0, 1) := by decide +kernel
theorem dX2_indexOf_15 : decode cX2_indexOf 15 = .ok (.getfield 18, 3) := by decide +kernel
theorem dX2_indexOf_18 : decode cX2_indexOf 18 = .ok (.iload_n 1, 1) := by decide +kernel
theorem dX2_indexOf_19 : decode cX2_indexOf 19 = .ok (.iaload, 1) := by decide +kernel
theorem dX2_indexOf_20 : decode cX2_indexOf 20 = .ok (.invokestatic 29, 3) := by decide +kernel
theorem dX2_indexOf_23 : decode cX2_indexOf 23 = .ok (.aload_n 0, 1) := by decide +kernel
theorem dX2_indexOf_24 : decode cX2_indexOf 24 = .ok (.iload_n 1, 1) := by decide +kernel
theorem dX2_indexOf_25 : decode cX2_indexOf 25 = .ok (.invokevirtual 33, 3) := by decide +kernel
theorem dX2_indexOf_28 : decode cX2_indexOf 28 = .ok (.invokestatic 37, 3) := by decide +kernel
theorem dX2_indexOf_31 : decode cX2_indexOf 31 = .ok (.goto 4, 3) := by decide +kernel
theorem dX2_indexOf_34 : decode cX2_indexOf 34 = .ok (.iconst (-1), 1) := by decide +kernel
theorem dX2_indexOf_35 : decode cX2_indexOf 35 = .ok (.ireturn, 1) := by decide +kernel
theorem dX2_massAbove_0 : decode cX2_massAbove 0 = .ok (.aload_n 0, 1) := by decide +kernel
theorem dX2_massAbove_1 : decode cX2_massAbove 1 = .ok (.iload_n 1, 1) := by decide +kernel
theorem dX2_massAbove_2 : decode cX2_massAbove 2 = .ok (.aload_n 0, 1) := by decide +kernel
theorem dX2_massAbove_3 : decode cX2_massAbove 3 = .ok (.getfield 21, 3) := by decide +kernel
theorem dX2_massAbove_6 : decode cX2_massAbove 6 = .ok (.invokevirtual 40, 3) := by decide +kernel
theorem dX2_massAbove_9 : decode cX2_massAbove 9 = .ok (.ireturn, 1) := by decide +kernel
theorem dX2_whyWithin_0 : decode cX2_whyWithin 0 = .ok (.iconst (-1), 1) := by decide +kernel
theorem dX2_whyWithin_1 : decode cX2_whyWithin 1 = .ok (.istore_n 2, 1) := by decide +kernel
theorem dX2_whyWithin_2 : decode cX2_whyWithin 2 = .ok (.iconst 0, 1) := by decide +kernel
theorem dX2_whyWithin_3 : decode cX2_whyWithin 3 = .ok (.istore_n 3, 1) := by decide +kernel
theorem dX2_whyWithin_4 : decode cX2_whyWithin 4 = .ok (.iconst 0, 1) := by decide +kernel
theorem dX2_whyWithin_5 : decode cX2_whyWithin 5 = .ok (.istore 4, 2) := by decide +kernel
theorem dX2_whyWithin_7 : decode cX2_whyWithin 7 = .ok (.iload_n 1, 1) := by decide +kernel
theorem dX2_whyWithin_8 : decode cX2_whyWithin 8 = .ok (.aload_n 0, 1) := by decide +kernel
theorem dX2_whyWithin_9 : decode cX2_whyWithin 9 = .ok (.getfield 21, 3) := by decide +kernel
theorem dX2_whyWithin_12 : decode cX2_whyWithin 12 = .ok (.invokestatic 43, 3) := by decide +kernel
theorem dX2_whyWithin_15 : decode cX2_whyWithin 15 = .ok (.iconst 1, 1) := by decide +kernel
theorem dX2_whyWithin_16 : decode cX2_whyWithin 16 = .ok (.isub, 1) := by decide +kernel
theorem dX2_whyWithin_17 : decode cX2_whyWithin 17 = .ok (.istore 5, 2) := by decide +kernel
theorem dX2_whyWithin_19 : decode cX2_whyWithin 19 = .ok (.iload 5, 2) := by decide +kernel
theorem dX2_whyWithin_21 : decode cX2_whyWithin 21 = .ok (.ifCond .lt 68, 3) := by decide +kernel
theorem dX2_whyWithin_24 : decode cX2_whyWithin 24 = .ok (.aload_n 0, 1) := by decide +kernel
theorem dX2_whyWithin_25 : decode cX2_whyWithin 25 = .ok (.getfield 11, 3) := by decide +kernel
theorem dX2_whyWithin_28 : decode cX2_whyWithin 28 = .ok (.iload 5, 2) := by decide +kernel
theorem dX2_whyWithin_30 : decode cX2_whyWithin 30 = .ok (.iaload, 1) := by decide +kernel
theorem dX2_whyWithin_31 : decode cX2_whyWithin 31 = .ok (.aload_n 0, 1) := by decide +kernel
theorem dX2_whyWithin_32 : decode cX2_whyWithin 32 = .ok (.getfield 18, 3) := by decide +kernel
theorem dX2_whyWithin_35 : decode cX2_whyWithin 35 = .ok (.iload 5, 2) := by decide +kernel
theorem dX2_whyWithin_37 : decode cX2_whyWithin 37 = .ok (.iaload, 1) := by decide +kernel
theorem dX2_whyWithin_38 : decode cX2_whyWithin 38 = .ok (.invokestatic 29, 3) := by decide +kernel
theorem dX2_whyWithin_41 : decode cX2_whyWithin 41 = .ok (.iload 4, 2) := by decide +kernel
theorem dX2_whyWithin_43 : decode cX2_whyWithin 43 = .ok (.invokestatic 37, 3) := by decide +kernel
theorem dX2_whyWithin_46 : decode cX2_whyWithin 46 = .ok (.istore 6, 2) := by decide +kernel
theorem dX2_whyWithin_48 : decode cX2_whyWithin 48 = .ok (.iload 6, 2) := by decide +kernel
theorem dX2_whyWithin_50 : decode cX2_whyWithin 50 = .ok (.iconst (-1), 1) := by decide +kernel
theorem dX2_whyWithin_51 : decode cX2_whyWithin 51 = .ok (.if_icmp .eq 20, 3) := by decide +kernel
theorem dX2_whyWithin_54 : decode cX2_whyWithin 54 = .ok (.iload_n 2, 1) := by decide +kernel
theorem dX2_whyWithin_55 : decode cX2_whyWithin 55 = .ok (.iconst (-1), 1) := by decide +kernel
theorem dX2_whyWithin_56 : decode cX2_whyWithin 56 = .ok (.if_icmp .eq 9, 3) := by decide +kernel
theorem dX2_whyWithin_59 : decode cX2_whyWithin 59 = .ok (.iload 6, 2) := by decide +kernel
theorem dX2_whyWithin_61 : decode cX2_whyWithin 61 = .ok (.iload_n 3, 1) := by decide +kernel
theorem dX2_whyWithin_62 : decode cX2_whyWithin 62 = .ok (.if_icmp .ge 9, 3) := by decide +kernel
theorem dX2_whyWithin_65 : decode cX2_whyWithin 65 = .ok (.iload 5, 2) := by decide +kernel
theorem dX2_whyWithin_67 : decode cX2_whyWithin 67 = .ok (.istore_n 2, 1) := by decide +kernel
theorem dX2_whyWithin_68 : decode cX2_whyWithin 68 = .ok (.iload 6, 2) := by decide +kernel
theorem dX2_whyWithin_70 : decode cX2_whyWithin 70 = .ok (.istore_n 3, 1) := by decide +kernel
theorem dX2_whyWithin_71 : decode cX2_whyWithin 71 = .ok (.iload 4, 2) := by decide +kernel
theorem dX2_whyWithin_73 : decode cX2_whyWithin 73 = .ok (.aload_n 0, 1) := by decide +kernel
theorem dX2_whyWithin_74 : decode cX2_whyWithin 74 = .ok (.getfield 15, 3) := by decide +kernel
theorem dX2_whyWithin_77 : decode cX2_whyWithin 77 = .ok (.iload 5, 2) := by decide +kernel
theorem dX2_whyWithin_79 : decode cX2_whyWithin 79 = .ok (.iaload, 1) := by decide +kernel
theorem dX2_whyWithin_80 : decode cX2_whyWithin 80 = .ok (.iadd, 1) := by decide +kernel
theorem dX2_whyWithin_81 : decode cX2_whyWithin 81 = .ok (.istore 4, 2) := by decide +kernel
theorem dX2_whyWithin_83 : decode cX2_whyWithin 83 = .ok (.iinc 5 (-1), 3) := by decide +kernel
theorem dX2_whyWithin_86 : decode cX2_whyWithin 86 = .ok (.goto (-67), 3) := by decide +kernel
theorem dX2_whyWithin_89 : decode cX2_whyWithin 89 = .ok (.iload_n 2, 1) := by decide +kernel
theorem dX2_whyWithin_90 : decode cX2_whyWithin 90 = .ok (.ireturn, 1) := by decide +kernel
theorem dX2_likelyWithin_0 : decode cX2_likelyWithin 0 = .ok (.aload_n 0, 1) := by decide +kernel
theorem dX2_likelyWithin_1 : decode cX2_likelyWithin 1 = .ok (.iload_n 1, 1) := by decide +kernel
theorem dX2_likelyWithin_2 : decode cX2_likelyWithin 2 = .ok (.invokevirtual 48, 3) := by decide +kernel
theorem dX2_likelyWithin_5 : decode cX2_likelyWithin 5 = .ok (.istore_n 2, 1) := by decide +kernel
theorem dX2_likelyWithin_6 : decode cX2_likelyWithin 6 = .ok (.aload_n 0, 1) := by decide +kernel
theorem dX2_likelyWithin_7 : decode cX2_likelyWithin 7 = .ok (.iload_n 2, 1) := by decide +kernel
theorem dX2_likelyWithin_8 : decode cX2_likelyWithin 8 = .ok (.invokevirtual 25, 3) := by decide +kernel
theorem dX2_likelyWithin_11 : decode cX2_likelyWithin 11 = .ok (.ifCond .ne 5, 3) := by decide +kernel
theorem dX2_likelyWithin_14 : decode cX2_likelyWithin 14 = .ok (.iconst 0, 1) := by decide +kernel
theorem dX2_likelyWithin_15 : decode cX2_likelyWithin 15 = .ok (.ireturn, 1) := by decide +kernel
theorem dX2_likelyWithin_16 : decode cX2_likelyWithin 16 = .ok (.aload_n 0, 1) := by decide +kernel
theorem dX2_likelyWithin_17 : decode cX2_likelyWithin 17 = .ok (.getfield 11, 3) := by decide +kernel
theorem dX2_likelyWithin_20 : decode cX2_likelyWithin 20 = .ok (.iload_n 2, 1) := by decide +kernel
theorem dX2_likelyWithin_21 : decode cX2_likelyWithin 21 = .ok (.iaload, 1) := by decide +kernel
theorem dX2_likelyWithin_22 : decode cX2_likelyWithin 22 = .ok (.aload_n 0, 1) := by decide +kernel
theorem dX2_likelyWithin_23 : decode cX2_likelyWithin 23 = .ok (.getfield 18, 3) := by decide +kernel
theorem dX2_likelyWithin_26 : decode cX2_likelyWithin 26 = .ok (.iload_n 2, 1) := by decide +kernel
theorem dX2_likelyWithin_27 : decode cX2_likelyWithin 27 = .ok (.iaload, 1) := by decide +kernel
theorem dX2_likelyWithin_28 : decode cX2_likelyWithin 28 = .ok (.invokestatic 29, 3) := by decide +kernel
theorem dX2_likelyWithin_31 : decode cX2_likelyWithin 31 = .ok (.aload_n 0, 1) := by decide +kernel
theorem dX2_likelyWithin_32 : decode cX2_likelyWithin 32 = .ok (.iload_n 2, 1) := by decide +kernel
theorem dX2_likelyWithin_33 : decode cX2_likelyWithin 33 = .ok (.iload_n 1, 1) := by decide +kernel
theorem dX2_likelyWithin_34 : decode cX2_likelyWithin 34 = .ok (.invokevirtual 40, 3) := by decide +kernel
theorem dX2_likelyWithin_37 : decode cX2_likelyWithin 37 = .ok (.invokestatic 37, 3) := by decide +kernel
theorem dX2_likelyWithin_40 : decode cX2_likelyWithin 40 = .ok (.istore_n 3, 1) := by decide +kernel
theorem dX2_likelyWithin_41 : decode cX2_likelyWithin 41 = .ok (.iload_n 3, 1) := by decide +kernel
theorem dX2_likelyWithin_42 : decode cX2_likelyWithin 42 = .ok (.bipush 100, 2) := by decide +kernel
theorem dX2_likelyWithin_44 : decode cX2_likelyWithin 44 = .ok (.if_icmp .ge 5, 3) := by decide +kernel
theorem dX2_likelyWithin_47 : decode cX2_likelyWithin 47 = .ok (.iconst 3, 1) := by decide +kernel
theorem dX2_likelyWithin_48 : decode cX2_likelyWithin 48 = .ok (.ireturn, 1) := by decide +kernel
theorem dX2_likelyWithin_49 : decode cX2_likelyWithin 49 = .ok (.iload_n 3, 1) := by decide +kernel
theorem dX2_likelyWithin_50 : decode cX2_likelyWithin 50 = .ok (.sipush 150, 3) := by decide +kernel
theorem dX2_likelyWithin_53 : decode cX2_likelyWithin 53 = .ok (.if_icmp .ge 5, 3) := by decide +kernel
theorem dX2_likelyWithin_56 : decode cX2_likelyWithin 56 = .ok (.iconst 2, 1) := by decide +kernel
theorem dX2_likelyWithin_57 : decode cX2_likelyWithin 57 = .ok (.ireturn, 1) := by decide +kernel
theorem dX2_likelyWithin_58 : decode cX2_likelyWithin 58 = .ok (.iload_n 3, 1) := by decide +kernel
theorem dX2_likelyWithin_59 : decode cX2_likelyWithin 59 = .ok (.sipush 300, 3) := by decide +kernel
theorem dX2_likelyWithin_62 : decode cX2_likelyWithin 62 = .ok (.if_icmp .ge 7, 3) := by decide +kernel
theorem dX2_likelyWithin_65 : decode cX2_likelyWithin 65 = .ok (.iconst 1, 1) := by decide +kernel
theorem dX2_likelyWithin_66 : decode cX2_likelyWithin 66 = .ok (.goto 4, 3) := by decide +kernel
theorem dX2_likelyWithin_69 : decode cX2_likelyWithin 69 = .ok (.iconst 0, 1) := by decide +kernel
theorem dX2_likelyWithin_70 : decode cX2_likelyWithin 70 = .ok (.ireturn, 1) := by decide +kernel
theorem dX2_sizeWithin_0 : decode cX2_sizeWithin 0 = .ok (.aload_n 0, 1) := by decide +kernel
theorem dX2_sizeWithin_1 : decode cX2_sizeWithin 1 = .ok (.iload_n 1, 1) := by decide +kernel
theorem dX2_sizeWithin_2 : decode cX2_sizeWithin 2 = .ok (.invokevirtual 48, 3) := by decide +kernel
theorem dX2_sizeWithin_5 : decode cX2_sizeWithin 5 = .ok (.istore_n 2, 1) := by decide +kernel
theorem dX2_sizeWithin_6 : decode cX2_sizeWithin 6 = .ok (.iload_n 2, 1) := by decide +kernel
theorem dX2_sizeWithin_7 : decode cX2_sizeWithin 7 = .ok (.iconst (-1), 1) := by decide +kernel
theorem dX2_sizeWithin_8 : decode cX2_sizeWithin 8 = .ok (.if_icmp .ne 7, 3) := by decide +kernel
theorem dX2_sizeWithin_11 : decode cX2_sizeWithin 11 = .ok (.iconst 0, 1) := by decide +kernel
theorem dX2_sizeWithin_12 : decode cX2_sizeWithin 12 = .ok (.goto 9, 3) := by decide +kernel
theorem dX2_sizeWithin_15 : decode cX2_sizeWithin 15 = .ok (.aload_n 0, 1) := by decide +kernel
theorem dX2_sizeWithin_16 : decode cX2_sizeWithin 16 = .ok (.iload_n 2, 1) := by decide +kernel
theorem dX2_sizeWithin_17 : decode cX2_sizeWithin 17 = .ok (.iload_n 1, 1) := by decide +kernel
theorem dX2_sizeWithin_18 : decode cX2_sizeWithin 18 = .ok (.invokevirtual 40, 3) := by decide +kernel
theorem dX2_sizeWithin_21 : decode cX2_sizeWithin 21 = .ok (.istore_n 3, 1) := by decide +kernel
theorem dX2_sizeWithin_22 : decode cX2_sizeWithin 22 = .ok (.iload_n 3, 1) := by decide +kernel
theorem dX2_sizeWithin_23 : decode cX2_sizeWithin 23 = .ok (.sipush 500, 3) := by decide +kernel
theorem dX2_sizeWithin_26 : decode cX2_sizeWithin 26 = .ok (.if_icmp .lt 5, 3) := by decide +kernel
theorem dX2_sizeWithin_29 : decode cX2_sizeWithin 29 = .ok (.iconst 2, 1) := by decide +kernel
theorem dX2_sizeWithin_30 : decode cX2_sizeWithin 30 = .ok (.ireturn, 1) := by decide +kernel
theorem dX2_sizeWithin_31 : decode cX2_sizeWithin 31 = .ok (.iload_n 3, 1) := by decide +kernel
theorem dX2_sizeWithin_32 : decode cX2_sizeWithin 32 = .ok (.sipush 200, 3) := by decide +kernel
theorem dX2_sizeWithin_35 : decode cX2_sizeWithin 35 = .ok (.if_icmp .lt 7, 3) := by decide +kernel
theorem dX2_sizeWithin_38 : decode cX2_sizeWithin 38 = .ok (.iconst 1, 1) := by decide +kernel
theorem dX2_sizeWithin_39 : decode cX2_sizeWithin 39 = .ok (.goto 4, 3) := by decide +kernel
theorem dX2_sizeWithin_42 : decode cX2_sizeWithin 42 = .ok (.iconst 0, 1) := by decide +kernel
theorem dX2_sizeWithin_43 : decode cX2_sizeWithin 43 = .ok (.ireturn, 1) := by decide +kernel
theorem dX2_reaches_0 : decode cX2_reaches 0 = .ok (.aload_n 0, 1) := by decide +kernel
theorem dX2_reaches_1 : decode cX2_reaches 1 = .ok (.iload_n 2, 1) := by decide +kernel
theorem dX2_reaches_2 : decode cX2_reaches 2 = .ok (.invokevirtual 51, 3) := by decide +kernel
theorem dX2_reaches_5 : decode cX2_reaches 5 = .ok (.iconst 2, 1) := by decide +kernel
theorem dX2_reaches_6 : decode cX2_reaches 6 = .ok (.if_icmp .lt 16, 3) := by decide +kernel
theorem dX2_reaches_9 : decode cX2_reaches 9 = .ok (.aload_n 0, 1) := by decide +kernel
theorem dX2_reaches_10 : decode cX2_reaches 10 = .ok (.iload_n 2, 1) := by decide +kernel
theorem dX2_reaches_11 : decode cX2_reaches 11 = .ok (.invokevirtual 54, 3) := by decide +kernel
theorem dX2_reaches_14 : decode cX2_reaches 14 = .ok (.iload_n 1, 1) := by decide +kernel
theorem dX2_reaches_15 : decode cX2_reaches 15 = .ok (.if_icmp .lt 7, 3) := by decide +kernel
theorem dX2_reaches_18 : decode cX2_reaches 18 = .ok (.iconst 1, 1) := by decide +kernel
theorem dX2_reaches_19 : decode cX2_reaches 19 = .ok (.goto 4, 3) := by decide +kernel
theorem dX2_reaches_22 : decode cX2_reaches 22 = .ok (.iconst 0, 1) := by decide +kernel
theorem dX2_reaches_23 : decode cX2_reaches 23 = .ok (.ireturn, 1) := by decide +kernel
theorem dX2_growOlder_0 : decode cX2_growOlder 0 = .ok (.iconst 0, 1) := by decide +kernel
theorem dX2_growOlder_1 : decode cX2_growOlder 1 = .ok (.istore_n 1, 1) := by decide +kernel
theorem dX2_growOlder_2 : decode cX2_growOlder 2 = .ok (.iload_n 1, 1) := by decide +kernel
theorem dX2_growOlder_3 : decode cX2_growOlder 3 = .ok (.aload_n 0, 1) := by decide +kernel
theorem dX2_growOlder_4 : decode cX2_growOlder 4 = .ok (.getfield 21, 3) := by decide +kernel
theorem dX2_growOlder_7 : decode cX2_growOlder 7 = .ok (.if_icmp .ge 19, 3) := by decide +kernel
theorem dX2_growOlder_10 : decode cX2_growOlder 10 = .ok (.aload_n 0, 1) := by decide +kernel
theorem dX2_growOlder_11 : decode cX2_growOlder 11 = .ok (.getfield 18, 3) := by decide +kernel
theorem dX2_growOlder_14 : decode cX2_growOlder 14 = .ok (.iload_n 1, 1) := by decide +kernel
theorem dX2_growOlder_15 : decode cX2_growOlder 15 = .ok (.dup2, 1) := by decide +kernel
theorem dX2_growOlder_16 : decode cX2_growOlder 16 = .ok (.iaload, 1) := by decide +kernel
theorem dX2_growOlder_17 : decode cX2_growOlder 17 = .ok (.iconst 1, 1) := by decide +kernel
theorem dX2_growOlder_18 : decode cX2_growOlder 18 = .ok (.iadd, 1) := by decide +kernel
theorem dX2_growOlder_19 : decode cX2_growOlder 19 = .ok (.iastore, 1) := by decide +kernel
theorem dX2_growOlder_20 : decode cX2_growOlder 20 = .ok (.iinc 1 1, 3) := by decide +kernel
theorem dX2_growOlder_23 : decode cX2_growOlder 23 = .ok (.goto (-21), 3) := by decide +kernel
theorem dX2_growOlder_26 : decode cX2_growOlder 26 = .ok (.return_, 1) := by decide +kernel
theorem dX2_addNew_0 : decode cX2_addNew 0 = .ok (.iload_n 1, 1) := by decide +kernel
theorem dX2_addNew_1 : decode cX2_addNew 1 = .ok (.ifCond .gt 4, 3) := by decide +kernel
theorem dX2_addNew_4 : decode cX2_addNew 4 = .ok (.return_, 1) := by decide +kernel
theorem dX2_addNew_5 : decode cX2_addNew 5 = .ok (.aload_n 0, 1) := by decide +kernel
theorem dX2_addNew_6 : decode cX2_addNew 6 = .ok (.getfield 21, 3) := by decide +kernel
theorem dX2_addNew_9 : decode cX2_addNew 9 = .ok (.bipush 10, 2) := by decide +kernel
theorem dX2_addNew_11 : decode cX2_addNew 11 = .ok (.if_icmp .lt 7, 3) := by decide +kernel
theorem dX2_addNew_14 : decode cX2_addNew 14 = .ok (.aload_n 0, 1) := by decide +kernel
theorem dX2_addNew_15 : decode cX2_addNew 15 = .ok (.invokevirtual 57, 3) := by decide +kernel
theorem dX2_addNew_18 : decode cX2_addNew 18 = .ok (.aload_n 0, 1) := by decide +kernel
theorem dX2_addNew_19 : decode cX2_addNew 19 = .ok (.getfield 11, 3) := by decide +kernel
theorem dX2_addNew_22 : decode cX2_addNew 22 = .ok (.aload_n 0, 1) := by decide +kernel
theorem dX2_addNew_23 : decode cX2_addNew 23 = .ok (.getfield 21, 3) := by decide +kernel
theorem dX2_addNew_26 : decode cX2_addNew 26 = .ok (.iconst 0, 1) := by decide +kernel
theorem dX2_addNew_27 : decode cX2_addNew 27 = .ok (.iastore, 1) := by decide +kernel
theorem dX2_addNew_28 : decode cX2_addNew 28 = .ok (.aload_n 0, 1) := by decide +kernel
theorem dX2_addNew_29 : decode cX2_addNew 29 = .ok (.getfield 15, 3) := by decide +kernel
theorem dX2_addNew_32 : decode cX2_addNew 32 = .ok (.aload_n 0, 1) := by decide +kernel
theorem dX2_addNew_33 : decode cX2_addNew 33 = .ok (.getfield 21, 3) := by decide +kernel
theorem dX2_addNew_36 : decode cX2_addNew 36 = .ok (.iload_n 1, 1) := by decide +kernel
theorem dX2_addNew_37 : decode cX2_addNew 37 = .ok (.iastore, 1) := by decide +kernel
theorem dX2_addNew_38 : decode cX2_addNew 38 = .ok (.aload_n 0, 1) := by decide +kernel
theorem dX2_addNew_39 : decode cX2_addNew 39 = .ok (.getfield 18, 3) := by decide +kernel
theorem dX2_addNew_42 : decode cX2_addNew 42 = .ok (.aload_n 0, 1) := by decide +kernel
theorem dX2_addNew_43 : decode cX2_addNew 43 = .ok (.getfield 21, 3) := by decide +kernel
theorem dX2_addNew_46 : decode cX2_addNew 46 = .ok (.iconst 0, 1) := by decide +kernel
theorem dX2_addNew_47 : decode cX2_addNew 47 = .ok (.iastore, 1) := by decide +kernel
theorem dX2_addNew_48 : decode cX2_addNew 48 = .ok (.aload_n 0, 1) := by decide +kernel
theorem dX2_addNew_49 : decode cX2_addNew 49 = .ok (.dup, 1) := by decide +kernel
theorem dX2_addNew_50 : decode cX2_addNew 50 = .ok (.getfield 21, 3) := by decide +kernel
theorem dX2_addNew_53 : decode cX2_addNew 53 = .ok (.iconst 1, 1) := by decide +kernel
theorem dX2_addNew_54 : decode cX2_addNew 54 = .ok (.iadd, 1) := by decide +kernel
theorem dX2_addNew_55 : decode cX2_addNew 55 = .ok (.putfield 21, 3) := by decide +kernel
theorem dX2_addNew_58 : decode cX2_addNew 58 = .ok (.return_, 1) := by decide +kernel
theorem dX2_giveToWind_0 : decode cX2_giveToWind 0 = .ok (.aload_n 0, 1) := by decide +kernel
theorem dX2_giveToWind_1 : decode cX2_giveToWind 1 = .ok (.invokevirtual 60, 3) := by decide +kernel
theorem dX2_giveToWind_4 : decode cX2_giveToWind 4 = .ok (.ifCond .ne 5, 3) := by decide +kernel
theorem dX2_giveToWind_7 : decode cX2_giveToWind 7 = .ok (.iconst 0, 1) := by decide +kernel
theorem dX2_giveToWind_8 : decode cX2_giveToWind 8 = .ok (.ireturn, 1) := by decide +kernel
theorem dX2_giveToWind_9 : decode cX2_giveToWind 9 = .ok (.aload_n 0, 1) := by decide +kernel
theorem dX2_giveToWind_10 : decode cX2_giveToWind 10 = .ok (.getfield 15, 3) := by decide +kernel
theorem dX2_giveToWind_13 : decode cX2_giveToWind 13 = .ok (.aload_n 0, 1) := by decide +kernel
theorem dX2_giveToWind_14 : decode cX2_giveToWind 14 = .ok (.getfield 21, 3) := by decide +kernel
theorem dX2_giveToWind_17 : decode cX2_giveToWind 17 = .ok (.iconst 1, 1) := by decide +kernel
theorem dX2_giveToWind_18 : decode cX2_giveToWind 18 = .ok (.isub, 1) := by decide +kernel
theorem dX2_giveToWind_19 : decode cX2_giveToWind 19 = .ok (.iaload, 1) := by decide +kernel
theorem dX2_giveToWind_20 : decode cX2_giveToWind 20 = .ok (.iload_n 1, 1) := by decide +kernel
theorem dX2_giveToWind_21 : decode cX2_giveToWind 21 = .ok (.imul, 1) := by decide +kernel
theorem dX2_giveToWind_22 : decode cX2_giveToWind 22 = .ok (.bipush 100, 2) := by decide +kernel
theorem dX2_giveToWind_24 : decode cX2_giveToWind 24 = .ok (.idiv, 1) := by decide +kernel
theorem dX2_giveToWind_25 : decode cX2_giveToWind 25 = .ok (.istore_n 2, 1) := by decide +kernel
theorem dX2_giveToWind_26 : decode cX2_giveToWind 26 = .ok (.aload_n 0, 1) := by decide +kernel
theorem dX2_giveToWind_27 : decode cX2_giveToWind 27 = .ok (.getfield 15, 3) := by decide +kernel
theorem dX2_giveToWind_30 : decode cX2_giveToWind 30 = .ok (.aload_n 0, 1) := by decide +kernel
theorem dX2_giveToWind_31 : decode cX2_giveToWind 31 = .ok (.getfield 21, 3) := by decide +kernel
theorem dX2_giveToWind_34 : decode cX2_giveToWind 34 = .ok (.iconst 1, 1) := by decide +kernel
theorem dX2_giveToWind_35 : decode cX2_giveToWind 35 = .ok (.isub, 1) := by decide +kernel
theorem dX2_giveToWind_36 : decode cX2_giveToWind 36 = .ok (.dup2, 1) := by decide +kernel
theorem dX2_giveToWind_37 : decode cX2_giveToWind 37 = .ok (.iaload, 1) := by decide +kernel
theorem dX2_giveToWind_38 : decode cX2_giveToWind 38 = .ok (.iload_n 2, 1) := by decide +kernel
theorem dX2_giveToWind_39 : decode cX2_giveToWind 39 = .ok (.isub, 1) := by decide +kernel
theorem dX2_giveToWind_40 : decode cX2_giveToWind 40 = .ok (.iastore, 1) := by decide +kernel
theorem dX2_giveToWind_41 : decode cX2_giveToWind 41 = .ok (.iload_n 2, 1) := by decide +kernel
theorem dX2_giveToWind_42 : decode cX2_giveToWind 42 = .ok (.ireturn, 1) := by decide +kernel
theorem dX2_takeFromWind_0 : decode cX2_takeFromWind 0 = .ok (.aload_n 0, 1) := by decide +kernel
theorem dX2_takeFromWind_1 : decode cX2_takeFromWind 1 = .ok (.invokevirtual 60, 3) := by decide +kernel
theorem dX2_takeFromWind_4 : decode cX2_takeFromWind 4 = .ok (.ifCond .eq 21, 3) := by decide +kernel
theorem dX2_takeFromWind_7 : decode cX2_takeFromWind 7 = .ok (.aload_n 0, 1) := by decide +kernel
theorem dX2_takeFromWind_8 : decode cX2_takeFromWind 8 = .ok (.getfield 15, 3) := by decide +kernel
theorem dX2_takeFromWind_11 : decode cX2_takeFromWind 11 = .ok (.aload_n 0, 1) := by decide +kernel
theorem dX2_takeFromWind_12 : decode cX2_takeFromWind 12 = .ok (.getfield 21, 3) := by decide +kernel
theorem dX2_takeFromWind_15 : decode cX2_takeFromWind 15 = .ok (.iconst 1, 1) := by decide +kernel
theorem dX2_takeFromWind_16 : decode cX2_takeFromWind 16 = .ok (.isub, 1) := by decide +kernel
theorem dX2_takeFromWind_17 : decode cX2_takeFromWind 17 = .ok (.dup2, 1) := by decide +kernel
theorem dX2_takeFromWind_18 : decode cX2_takeFromWind 18 = .ok (.iaload, 1) := by decide +kernel
theorem dX2_takeFromWind_19 : decode cX2_takeFromWind 19 = .ok (.iload_n 1, 1) := by decide +kernel
theorem dX2_takeFromWind_20 : decode cX2_takeFromWind 20 = .ok (.iadd, 1) := by decide +kernel
theorem dX2_takeFromWind_21 : decode cX2_takeFromWind 21 = .ok (.iastore, 1) := by decide +kernel
theorem dX2_takeFromWind_22 : decode cX2_takeFromWind 22 = .ok (.goto 8, 3) := by decide +kernel
theorem dX2_takeFromWind_25 : decode cX2_takeFromWind 25 = .ok (.aload_n 0, 1) := by decide +kernel
theorem dX2_takeFromWind_26 : decode cX2_takeFromWind 26 = .ok (.iload_n 1, 1) := by decide +kernel
theorem dX2_takeFromWind_27 : decode cX2_takeFromWind 27 = .ok (.invokevirtual 64, 3) := by decide +kernel
theorem dX2_takeFromWind_30 : decode cX2_takeFromWind 30 = .ok (.return_, 1) := by decide +kernel
theorem dX2_changeKinds_0 : decode cX2_changeKinds 0 = .ok (.iconst 0, 1) := by decide +kernel
theorem dX2_changeKinds_1 : decode cX2_changeKinds 1 = .ok (.istore_n 2, 1) := by decide +kernel
theorem dX2_changeKinds_2 : decode cX2_changeKinds 2 = .ok (.iload_n 2, 1) := by decide +kernel
theorem dX2_changeKinds_3 : decode cX2_changeKinds 3 = .ok (.aload_n 0, 1) := by decide +kernel
theorem dX2_changeKinds_4 : decode cX2_changeKinds 4 = .ok (.getfield 21, 3) := by decide +kernel
theorem dX2_changeKinds_7 : decode cX2_changeKinds 7 = .ok (.if_icmp .ge 95, 3) := by decide +kernel
theorem dX2_changeKinds_10 : decode cX2_changeKinds 10 = .ok (.aload_n 0, 1) := by decide +kernel
theorem dX2_changeKinds_11 : decode cX2_changeKinds 11 = .ok (.getfield 11, 3) := by decide +kernel
theorem dX2_changeKinds_14 : decode cX2_changeKinds 14 = .ok (.iload_n 2, 1) := by decide +kernel
theorem dX2_changeKinds_15 : decode cX2_changeKinds 15 = .ok (.iaload, 1) := by decide +kernel
theorem dX2_changeKinds_16 : decode cX2_changeKinds 16 = .ok (.ifCond .ne 52, 3) := by decide +kernel
theorem dX2_changeKinds_19 : decode cX2_changeKinds 19 = .ok (.aload_n 0, 1) := by decide +kernel
theorem dX2_changeKinds_20 : decode cX2_changeKinds 20 = .ok (.getfield 18, 3) := by decide +kernel
theorem dX2_changeKinds_23 : decode cX2_changeKinds 23 = .ok (.iload_n 2, 1) := by decide +kernel
theorem dX2_changeKinds_24 : decode cX2_changeKinds 24 = .ok (.iaload, 1) := by decide +kernel
theorem dX2_changeKinds_25 : decode cX2_changeKinds 25 = .ok (.iconst 3, 1) := by decide +kernel
theorem dX2_changeKinds_26 : decode cX2_changeKinds 26 = .ok (.if_icmp .lt 42, 3) := by decide +kernel
theorem dX2_changeKinds_29 : decode cX2_changeKinds 29 = .ok (.iload_n 1, 1) := by decide +kernel
theorem dX2_changeKinds_30 : decode cX2_changeKinds 30 = .ok (.bipush (-8), 2) := by decide +kernel
theorem dX2_changeKinds_32 : decode cX2_changeKinds 32 = .ok (.if_icmp .gt 19, 3) := by decide +kernel
theorem dX2_changeKinds_35 : decode cX2_changeKinds 35 = .ok (.aload_n 0, 1) := by decide +kernel
theorem dX2_changeKinds_36 : decode cX2_changeKinds 36 = .ok (.getfield 15, 3) := by decide +kernel
theorem dX2_changeKinds_39 : decode cX2_changeKinds 39 = .ok (.iload_n 2, 1) := by decide +kernel
theorem dX2_changeKinds_40 : decode cX2_changeKinds 40 = .ok (.iaload, 1) := by decide +kernel
theorem dX2_changeKinds_41 : decode cX2_changeKinds 41 = .ok (.sipush 300, 3) := by decide +kernel
theorem dX2_changeKinds_44 : decode cX2_changeKinds 44 = .ok (.if_icmp .ge 7, 3) := by decide +kernel
theorem dX2_changeKinds_47 : decode cX2_changeKinds 47 = .ok (.iconst 1, 1) := by decide +kernel
theorem dX2_changeKinds_48 : decode cX2_changeKinds 48 = .ok (.goto 4, 3) := by decide +kernel
theorem dX2_changeKinds_51 : decode cX2_changeKinds 51 = .ok (.iconst 0, 1) := by decide +kernel
theorem dX2_changeKinds_52 : decode cX2_changeKinds 52 = .ok (.istore_n 3, 1) := by decide +kernel
theorem dX2_changeKinds_53 : decode cX2_changeKinds 53 = .ok (.aload_n 0, 1) := by decide +kernel
theorem dX2_changeKinds_54 : decode cX2_changeKinds 54 = .ok (.getfield 11, 3) := by decide +kernel
theorem dX2_changeKinds_57 : decode cX2_changeKinds 57 = .ok (.iload_n 2, 1) := by decide +kernel
theorem dX2_changeKinds_58 : decode cX2_changeKinds 58 = .ok (.iload_n 3, 1) := by decide +kernel
theorem dX2_changeKinds_59 : decode cX2_changeKinds 59 = .ok (.ifCond .eq 7, 3) := by decide +kernel
theorem dX2_changeKinds_62 : decode cX2_changeKinds 62 = .ok (.iconst 2, 1) := by decide +kernel
theorem dX2_changeKinds_63 : decode cX2_changeKinds 63 = .ok (.goto 4, 3) := by decide +kernel
theorem dX2_changeKinds_66 : decode cX2_changeKinds 66 = .ok (.iconst 1, 1) := by decide +kernel
theorem dX2_changeKinds_67 : decode cX2_changeKinds 67 = .ok (.iastore, 1) := by decide +kernel
theorem dX2_changeKinds_68 : decode cX2_changeKinds 68 = .ok (.aload_n 0, 1) := by decide +kernel
theorem dX2_changeKinds_69 : decode cX2_changeKinds 69 = .ok (.getfield 11, 3) := by decide +kernel
theorem dX2_changeKinds_72 : decode cX2_changeKinds 72 = .ok (.iload_n 2, 1) := by decide +kernel
theorem dX2_changeKinds_73 : decode cX2_changeKinds 73 = .ok (.iaload, 1) := by decide +kernel
theorem dX2_changeKinds_74 : decode cX2_changeKinds 74 = .ok (.iconst 2, 1) := by decide +kernel
theorem dX2_changeKinds_75 : decode cX2_changeKinds 75 = .ok (.if_icmp .ne 21, 3) := by decide +kernel
theorem dX2_changeKinds_78 : decode cX2_changeKinds 78 = .ok (.aload_n 0, 1) := by decide +kernel
theorem dX2_changeKinds_79 : decode cX2_changeKinds 79 = .ok (.getfield 18, 3) := by decide +kernel
theorem dX2_changeKinds_82 : decode cX2_changeKinds 82 = .ok (.iload_n 2, 1) := by decide +kernel
theorem dX2_changeKinds_83 : decode cX2_changeKinds 83 = .ok (.iaload, 1) := by decide +kernel
theorem dX2_changeKinds_84 : decode cX2_changeKinds 84 = .ok (.bipush 20, 2) := by decide +kernel
theorem dX2_changeKinds_86 : decode cX2_changeKinds 86 = .ok (.if_icmp .lt 10, 3) := by decide +kernel
theorem dX2_changeKinds_89 : decode cX2_changeKinds 89 = .ok (.aload_n 0, 1) := by decide +kernel
theorem dX2_changeKinds_90 : decode cX2_changeKinds 90 = .ok (.getfield 11, 3) := by decide +kernel
theorem dX2_changeKinds_93 : decode cX2_changeKinds 93 = .ok (.iload_n 2, 1) := by decide +kernel
theorem dX2_changeKinds_94 : decode cX2_changeKinds 94 = .ok (.iconst 1, 1) := by decide +kernel
theorem dX2_changeKinds_95 : decode cX2_changeKinds 95 = .ok (.iastore, 1) := by decide +kernel
theorem dX2_changeKinds_96 : decode cX2_changeKinds 96 = .ok (.iinc 2 1, 3) := by decide +kernel
theorem dX2_changeKinds_99 : decode cX2_changeKinds 99 = .ok (.goto (-97), 3) := by decide +kernel
theorem dX2_changeKinds_102 : decode cX2_changeKinds 102 = .ok (.return_, 1) := by decide +kernel
theorem dX2_melt_0 : decode cX2_melt 0 = .ok (.iload_n 1, 1) := by decide +kernel
theorem dX2_melt_1 : decode cX2_melt 1 = .ok (.ifCond .gt 5, 3) := by decide +kernel
theorem dX2_melt_4 : decode cX2_melt 4 = .ok (.iconst 0, 1) := by decide +kernel
theorem dX2_melt_5 : decode cX2_melt 5 = .ok (.ireturn, 1) := by decide +kernel
theorem dX2_melt_6 : decode cX2_melt 6 = .ok (.bipush 6, 2) := by decide +kernel
theorem dX2_melt_8 : decode cX2_melt 8 = .ok (.iload_n 1, 1) := by decide +kernel
theorem dX2_melt_9 : decode cX2_melt 9 = .ok (.imul, 1) := by decide +kernel
theorem dX2_melt_10 : decode cX2_melt 10 = .ok (.istore_n 2, 1) := by decide +kernel
theorem dX2_melt_11 : decode cX2_melt 11 = .ok (.iload_n 2, 1) := by decide +kernel
theorem dX2_melt_12 : decode cX2_melt 12 = .ok (.istore_n 3, 1) := by decide +kernel
theorem dX2_melt_13 : decode cX2_melt 13 = .ok (.aload_n 0, 1) := by decide +kernel
theorem dX2_melt_14 : decode cX2_melt 14 = .ok (.getfield 21, 3) := by decide +kernel
theorem dX2_melt_17 : decode cX2_melt 17 = .ok (.ifCond .le 45, 3) := by decide +kernel
theorem dX2_melt_20 : decode cX2_melt 20 = .ok (.iload_n 3, 1) := by decide +kernel
theorem dX2_melt_21 : decode cX2_melt 21 = .ok (.aload_n 0, 1) := by decide +kernel
theorem dX2_melt_22 : decode cX2_melt 22 = .ok (.getfield 15, 3) := by decide +kernel
theorem dX2_melt_25 : decode cX2_melt 25 = .ok (.aload_n 0, 1) := by decide +kernel
theorem dX2_melt_26 : decode cX2_melt 26 = .ok (.getfield 21, 3) := by decide +kernel
theorem dX2_melt_29 : decode cX2_melt 29 = .ok (.iconst 1, 1) := by decide +kernel
theorem dX2_melt_30 : decode cX2_melt 30 = .ok (.isub, 1) := by decide +kernel
theorem dX2_melt_31 : decode cX2_melt 31 = .ok (.iaload, 1) := by decide +kernel
theorem dX2_melt_32 : decode cX2_melt 32 = .ok (.if_icmp .lt 30, 3) := by decide +kernel
theorem dX2_melt_35 : decode cX2_melt 35 = .ok (.iload_n 3, 1) := by decide +kernel
theorem dX2_melt_36 : decode cX2_melt 36 = .ok (.aload_n 0, 1) := by decide +kernel
theorem dX2_melt_37 : decode cX2_melt 37 = .ok (.getfield 15, 3) := by decide +kernel
theorem dX2_melt_40 : decode cX2_melt 40 = .ok (.aload_n 0, 1) := by decide +kernel
theorem dX2_melt_41 : decode cX2_melt 41 = .ok (.getfield 21, 3) := by decide +kernel
theorem dX2_melt_44 : decode cX2_melt 44 = .ok (.iconst 1, 1) := by decide +kernel
theorem dX2_melt_45 : decode cX2_melt 45 = .ok (.isub, 1) := by decide +kernel
theorem dX2_melt_46 : decode cX2_melt 46 = .ok (.iaload, 1) := by decide +kernel
theorem dX2_melt_47 : decode cX2_melt 47 = .ok (.isub, 1) := by decide +kernel
theorem dX2_melt_48 : decode cX2_melt 48 = .ok (.istore_n 3, 1) := by decide +kernel
theorem dX2_melt_49 : decode cX2_melt 49 = .ok (.aload_n 0, 1) := by decide +kernel
theorem dX2_melt_50 : decode cX2_melt 50 = .ok (.dup, 1) := by decide +kernel
theorem dX2_melt_51 : decode cX2_melt 51 = .ok (.getfield 21, 3) := by decide +kernel
theorem dX2_melt_54 : decode cX2_melt 54 = .ok (.iconst 1, 1) := by decide +kernel
theorem dX2_melt_55 : decode cX2_melt 55 = .ok (.isub, 1) := by decide +kernel
theorem dX2_melt_56 : decode cX2_melt 56 = .ok (.putfield 21, 3) := by decide +kernel
theorem dX2_melt_59 : decode cX2_melt 59 = .ok (.goto (-46), 3) := by decide +kernel
theorem dX2_melt_62 : decode cX2_melt 62 = .ok (.aload_n 0, 1) := by decide +kernel
theorem dX2_melt_63 : decode cX2_melt 63 = .ok (.getfield 21, 3) := by decide +kernel
theorem dX2_melt_66 : decode cX2_melt 66 = .ok (.ifCond .ne 7, 3) := by decide +kernel
theorem dX2_melt_69 : decode cX2_melt 69 = .ok (.iload_n 2, 1) := by decide +kernel
theorem dX2_melt_70 : decode cX2_melt 70 = .ok (.iload_n 3, 1) := by decide +kernel
theorem dX2_melt_71 : decode cX2_melt 71 = .ok (.isub, 1) := by decide +kernel
theorem dX2_melt_72 : decode cX2_melt 72 = .ok (.ireturn, 1) := by decide +kernel
theorem dX2_melt_73 : decode cX2_melt 73 = .ok (.aload_n 0, 1) := by decide +kernel
theorem dX2_melt_74 : decode cX2_melt 74 = .ok (.getfield 15, 3) := by decide +kernel
theorem dX2_melt_77 : decode cX2_melt 77 = .ok (.aload_n 0, 1) := by decide +kernel
theorem dX2_melt_78 : decode cX2_melt 78 = .ok (.getfield 21, 3) := by decide +kernel
theorem dX2_melt_81 : decode cX2_melt 81 = .ok (.iconst 1, 1) := by decide +kernel
theorem dX2_melt_82 : decode cX2_melt 82 = .ok (.isub, 1) := by decide +kernel
theorem dX2_melt_83 : decode cX2_melt 83 = .ok (.dup2, 1) := by decide +kernel
theorem dX2_melt_84 : decode cX2_melt 84 = .ok (.iaload, 1) := by decide +kernel
theorem dX2_melt_85 : decode cX2_melt 85 = .ok (.iload_n 3, 1) := by decide +kernel
theorem dX2_melt_86 : decode cX2_melt 86 = .ok (.isub, 1) := by decide +kernel
theorem dX2_melt_87 : decode cX2_melt 87 = .ok (.iastore, 1) := by decide +kernel
theorem dX2_melt_88 : decode cX2_melt 88 = .ok (.aload_n 0, 1) := by decide +kernel
theorem dX2_melt_89 : decode cX2_melt 89 = .ok (.getfield 11, 3) := by decide +kernel
theorem dX2_melt_92 : decode cX2_melt 92 = .ok (.aload_n 0, 1) := by decide +kernel
theorem dX2_melt_93 : decode cX2_melt 93 = .ok (.getfield 21, 3) := by decide +kernel
theorem dX2_melt_96 : decode cX2_melt 96 = .ok (.iconst 1, 1) := by decide +kernel
theorem dX2_melt_97 : decode cX2_melt 97 = .ok (.isub, 1) := by decide +kernel
theorem dX2_melt_98 : decode cX2_melt 98 = .ok (.iconst 3, 1) := by decide +kernel
theorem dX2_melt_99 : decode cX2_melt 99 = .ok (.iastore, 1) := by decide +kernel
theorem dX2_melt_100 : decode cX2_melt 100 = .ok (.iload_n 2, 1) := by decide +kernel
theorem dX2_melt_101 : decode cX2_melt 101 = .ok (.ireturn, 1) := by decide +kernel
theorem dX2_removeAbove_0 : decode cX2_removeAbove 0 = .ok (.aload_n 0, 1) := by decide +kernel
theorem dX2_removeAbove_1 : decode cX2_removeAbove 1 = .ok (.iload_n 1, 1) := by decide +kernel
theorem dX2_removeAbove_2 : decode cX2_removeAbove 2 = .ok (.invokevirtual 25, 3) := by decide +kernel
theorem dX2_removeAbove_5 : decode cX2_removeAbove 5 = .ok (.ifCond .ne 5, 3) := by decide +kernel
theorem dX2_removeAbove_8 : decode cX2_removeAbove 8 = .ok (.iconst 0, 1) := by decide +kernel
theorem dX2_removeAbove_9 : decode cX2_removeAbove 9 = .ok (.ireturn, 1) := by decide +kernel
theorem dX2_removeAbove_10 : decode cX2_removeAbove 10 = .ok (.aload_n 0, 1) := by decide +kernel
theorem dX2_removeAbove_11 : decode cX2_removeAbove 11 = .ok (.iload_n 1, 1) := by decide +kernel
theorem dX2_removeAbove_12 : decode cX2_removeAbove 12 = .ok (.invokevirtual 33, 3) := by decide +kernel
theorem dX2_removeAbove_15 : decode cX2_removeAbove 15 = .ok (.istore_n 2, 1) := by decide +kernel
theorem dX2_removeAbove_16 : decode cX2_removeAbove 16 = .ok (.aload_n 0, 1) := by decide +kernel
theorem dX2_removeAbove_17 : decode cX2_removeAbove 17 = .ok (.iload_n 1, 1) := by decide +kernel
theorem dX2_removeAbove_18 : decode cX2_removeAbove 18 = .ok (.iconst 1, 1) := by decide +kernel
theorem dX2_removeAbove_19 : decode cX2_removeAbove 19 = .ok (.iadd, 1) := by decide +kernel
theorem dX2_removeAbove_20 : decode cX2_removeAbove 20 = .ok (.putfield 21, 3) := by decide +kernel
theorem dX2_removeAbove_23 : decode cX2_removeAbove 23 = .ok (.iload_n 2, 1) := by decide +kernel
theorem dX2_removeAbove_24 : decode cX2_removeAbove 24 = .ok (.ireturn, 1) := by decide +kernel
theorem dX2_isTopNew_0 : decode cX2_isTopNew 0 = .ok (.aload_n 0, 1) := by decide +kernel
theorem dX2_isTopNew_1 : decode cX2_isTopNew 1 = .ok (.getfield 21, 3) := by decide +kernel
theorem dX2_isTopNew_4 : decode cX2_isTopNew 4 = .ok (.ifCond .le 21, 3) := by decide +kernel
theorem dX2_isTopNew_7 : decode cX2_isTopNew 7 = .ok (.aload_n 0, 1) := by decide +kernel
theorem dX2_isTopNew_8 : decode cX2_isTopNew 8 = .ok (.getfield 11, 3) := by decide +kernel
theorem dX2_isTopNew_11 : decode cX2_isTopNew 11 = .ok (.aload_n 0, 1) := by decide +kernel
theorem dX2_isTopNew_12 : decode cX2_isTopNew 12 = .ok (.getfield 21, 3) := by decide +kernel
theorem dX2_isTopNew_15 : decode cX2_isTopNew 15 = .ok (.iconst 1, 1) := by decide +kernel
theorem dX2_isTopNew_16 : decode cX2_isTopNew 16 = .ok (.isub, 1) := by decide +kernel
theorem dX2_isTopNew_17 : decode cX2_isTopNew 17 = .ok (.iaload, 1) := by decide +kernel
theorem dX2_isTopNew_18 : decode cX2_isTopNew 18 = .ok (.ifCond .ne 7, 3) := by decide +kernel
theorem dX2_isTopNew_21 : decode cX2_isTopNew 21 = .ok (.iconst 1, 1) := by decide +kernel
theorem dX2_isTopNew_22 : decode cX2_isTopNew 22 = .ok (.goto 4, 3) := by decide +kernel
theorem dX2_isTopNew_25 : decode cX2_isTopNew 25 = .ok (.iconst 0, 1) := by decide +kernel
theorem dX2_isTopNew_26 : decode cX2_isTopNew 26 = .ok (.ireturn, 1) := by decide +kernel
theorem dX2_massBetween_0 : decode cX2_massBetween 0 = .ok (.iconst 0, 1) := by decide +kernel
theorem dX2_massBetween_1 : decode cX2_massBetween 1 = .ok (.istore_n 3, 1) := by decide +kernel
theorem dX2_massBetween_2 : decode cX2_massBetween 2 = .ok (.iload_n 1, 1) := by decide +kernel
theorem dX2_massBetween_3 : decode cX2_massBetween 3 = .ok (.iconst 1, 1) := by decide +kernel
theorem dX2_massBetween_4 : decode cX2_massBetween 4 = .ok (.iadd, 1) := by decide +kernel
theorem dX2_massBetween_5 : decode cX2_massBetween 5 = .ok (.iconst 0, 1) := by decide +kernel
theorem dX2_massBetween_6 : decode cX2_massBetween 6 = .ok (.invokestatic 68, 3) := by decide +kernel
theorem dX2_massBetween_9 : decode cX2_massBetween 9 = .ok (.istore 4, 2) := by decide +kernel
theorem dX2_massBetween_11 : decode cX2_massBetween 11 = .ok (.iload 4, 2) := by decide +kernel
theorem dX2_massBetween_13 : decode cX2_massBetween 13 = .ok (.iload_n 2, 1) := by decide +kernel
theorem dX2_massBetween_14 : decode cX2_massBetween 14 = .ok (.if_icmp .ge 28, 3) := by decide +kernel
theorem dX2_massBetween_17 : decode cX2_massBetween 17 = .ok (.iload 4, 2) := by decide +kernel
theorem dX2_massBetween_19 : decode cX2_massBetween 19 = .ok (.aload_n 0, 1) := by decide +kernel
theorem dX2_massBetween_20 : decode cX2_massBetween 20 = .ok (.getfield 21, 3) := by decide +kernel
theorem dX2_massBetween_23 : decode cX2_massBetween 23 = .ok (.if_icmp .ge 19, 3) := by decide +kernel
theorem dX2_massBetween_26 : decode cX2_massBetween 26 = .ok (.iload_n 3, 1) := by decide +kernel
theorem dX2_massBetween_27 : decode cX2_massBetween 27 = .ok (.aload_n 0, 1) := by decide +kernel
theorem dX2_massBetween_28 : decode cX2_massBetween 28 = .ok (.getfield 15, 3) := by decide +kernel
theorem dX2_massBetween_31 : decode cX2_massBetween 31 = .ok (.iload 4, 2) := by decide +kernel
theorem dX2_massBetween_33 : decode cX2_massBetween 33 = .ok (.iaload, 1) := by decide +kernel
theorem dX2_massBetween_34 : decode cX2_massBetween 34 = .ok (.iadd, 1) := by decide +kernel
theorem dX2_massBetween_35 : decode cX2_massBetween 35 = .ok (.istore_n 3, 1) := by decide +kernel
theorem dX2_massBetween_36 : decode cX2_massBetween 36 = .ok (.iinc 4 1, 3) := by decide +kernel
theorem dX2_massBetween_39 : decode cX2_massBetween 39 = .ok (.goto (-28), 3) := by decide +kernel
theorem dX2_massBetween_42 : decode cX2_massBetween 42 = .ok (.iload_n 3, 1) := by decide +kernel
theorem dX2_massBetween_43 : decode cX2_massBetween 43 = .ok (.ireturn, 1) := by decide +kernel
theorem dX2_indexUnder_0 : decode cX2_indexUnder 0 = .ok (.iload_n 1, 1) := by decide +kernel
theorem dX2_indexUnder_1 : decode cX2_indexUnder 1 = .ok (.ifCond .gt 5, 3) := by decide +kernel
theorem dX2_indexUnder_4 : decode cX2_indexUnder 4 = .ok (.iconst (-1), 1) := by decide +kernel
theorem dX2_indexUnder_5 : decode cX2_indexUnder 5 = .ok (.ireturn, 1) := by decide +kernel
theorem dX2_indexUnder_6 : decode cX2_indexUnder 6 = .ok (.bipush 100, 2) := by decide +kernel
theorem dX2_indexUnder_8 : decode cX2_indexUnder 8 = .ok (.iload_n 0, 1) := by decide +kernel
theorem dX2_indexUnder_9 : decode cX2_indexUnder 9 = .ok (.imul, 1) := by decide +kernel
theorem dX2_indexUnder_10 : decode cX2_indexUnder 10 = .ok (.iload_n 1, 1) := by decide +kernel
theorem dX2_indexUnder_11 : decode cX2_indexUnder 11 = .ok (.idiv, 1) := by decide +kernel
theorem dX2_indexUnder_12 : decode cX2_indexUnder 12 = .ok (.istore_n 2, 1) := by decide +kernel
theorem dX2_indexUnder_13 : decode cX2_indexUnder 13 = .ok (.iload_n 2, 1) := by decide +kernel
theorem dX2_indexUnder_14 : decode cX2_indexUnder 14 = .ok (.sipush 999, 3) := by decide +kernel
theorem dX2_indexUnder_17 : decode cX2_indexUnder 17 = .ok (.if_icmp .le 9, 3) := by decide +kernel
theorem dX2_indexUnder_20 : decode cX2_indexUnder 20 = .ok (.sipush 999, 3) := by decide +kernel
theorem dX2_indexUnder_23 : decode cX2_indexUnder 23 = .ok (.goto 4, 3) := by decide +kernel
theorem dX2_indexUnder_26 : decode cX2_indexUnder 26 = .ok (.iload_n 2, 1) := by decide +kernel
theorem dX2_indexUnder_27 : decode cX2_indexUnder 27 = .ok (.ireturn, 1) := by decide +kernel
theorem dX2_bearingOf_0 : decode cX2_bearingOf 0 = .ok (.iload_n 0, 1) := by decide +kernel
theorem dX2_bearingOf_1 : decode cX2_bearingOf 1 = .ok (.tableswitch 52 0 3 #[31, 35, 39, 48], 31) := by decide +kernel
theorem dX2_bearingOf_32 : decode cX2_bearingOf 32 = .ok (.sipush 400, 3) := by decide +kernel
theorem dX2_bearingOf_35 : decode cX2_bearingOf 35 = .ok (.ireturn, 1) := by decide +kernel
theorem dX2_bearingOf_36 : decode cX2_bearingOf 36 = .ok (.sipush 900, 3) := by decide +kernel
theorem dX2_bearingOf_39 : decode cX2_bearingOf 39 = .ok (.ireturn, 1) := by decide +kernel
theorem dX2_bearingOf_40 : decode cX2_bearingOf 40 = .ok (.sipush 250, 3) := by decide +kernel
theorem dX2_bearingOf_43 : decode cX2_bearingOf 43 = .ok (.bipush 15, 2) := by decide +kernel
theorem dX2_bearingOf_45 : decode cX2_bearingOf 45 = .ok (.iload_n 1, 1) := by decide +kernel
theorem dX2_bearingOf_46 : decode cX2_bearingOf 46 = .ok (.imul, 1) := by decide +kernel
theorem dX2_bearingOf_47 : decode cX2_bearingOf 47 = .ok (.iadd, 1) := by decide +kernel
theorem dX2_bearingOf_48 : decode cX2_bearingOf 48 = .ok (.ireturn, 1) := by decide +kernel
theorem dX2_bearingOf_49 : decode cX2_bearingOf 49 = .ok (.sipush 3000, 3) := by decide +kernel
theorem dX2_bearingOf_52 : decode cX2_bearingOf 52 = .ok (.ireturn, 1) := by decide +kernel
theorem dX2_bearingOf_53 : decode cX2_bearingOf 53 = .ok (.iconst 0, 1) := by decide +kernel
theorem dX2_bearingOf_54 : decode cX2_bearingOf 54 = .ok (.ireturn, 1) := by decide +kernel
theorem dX2_joinLowest_0 : decode cX2_joinLowest 0 = .ok (.aload_n 0, 1) := by decide +kernel
theorem dX2_joinLowest_1 : decode cX2_joinLowest 1 = .ok (.getfield 15, 3) := by decide +kernel
theorem dX2_joinLowest_4 : decode cX2_joinLowest 4 = .ok (.iconst 1, 1) := by decide +kernel
theorem dX2_joinLowest_5 : decode cX2_joinLowest 5 = .ok (.dup2, 1) := by decide +kernel
theorem dX2_joinLowest_6 : decode cX2_joinLowest 6 = .ok (.iaload, 1) := by decide +kernel
theorem dX2_joinLowest_7 : decode cX2_joinLowest 7 = .ok (.aload_n 0, 1) := by decide +kernel
theorem dX2_joinLowest_8 : decode cX2_joinLowest 8 = .ok (.getfield 15, 3) := by decide +kernel
theorem dX2_joinLowest_11 : decode cX2_joinLowest 11 = .ok (.iconst 0, 1) := by decide +kernel
theorem dX2_joinLowest_12 : decode cX2_joinLowest 12 = .ok (.iaload, 1) := by decide +kernel
theorem dX2_joinLowest_13 : decode cX2_joinLowest 13 = .ok (.iadd, 1) := by decide +kernel
theorem dX2_joinLowest_14 : decode cX2_joinLowest 14 = .ok (.iastore, 1) := by decide +kernel
theorem dX2_joinLowest_15 : decode cX2_joinLowest 15 = .ok (.aload_n 0, 1) := by decide +kernel
theorem dX2_joinLowest_16 : decode cX2_joinLowest 16 = .ok (.getfield 18, 3) := by decide +kernel
theorem dX2_joinLowest_19 : decode cX2_joinLowest 19 = .ok (.iconst 1, 1) := by decide +kernel
theorem dX2_joinLowest_20 : decode cX2_joinLowest 20 = .ok (.aload_n 0, 1) := by decide +kernel
theorem dX2_joinLowest_21 : decode cX2_joinLowest 21 = .ok (.getfield 18, 3) := by decide +kernel
theorem dX2_joinLowest_24 : decode cX2_joinLowest 24 = .ok (.iconst 0, 1) := by decide +kernel
theorem dX2_joinLowest_25 : decode cX2_joinLowest 25 = .ok (.iaload, 1) := by decide +kernel
theorem dX2_joinLowest_26 : decode cX2_joinLowest 26 = .ok (.aload_n 0, 1) := by decide +kernel
theorem dX2_joinLowest_27 : decode cX2_joinLowest 27 = .ok (.getfield 18, 3) := by decide +kernel
theorem dX2_joinLowest_30 : decode cX2_joinLowest 30 = .ok (.iconst 1, 1) := by decide +kernel
theorem dX2_joinLowest_31 : decode cX2_joinLowest 31 = .ok (.iaload, 1) := by decide +kernel
theorem dX2_joinLowest_32 : decode cX2_joinLowest 32 = .ok (.invokestatic 68, 3) := by decide +kernel
theorem dX2_joinLowest_35 : decode cX2_joinLowest 35 = .ok (.iastore, 1) := by decide +kernel
theorem dX2_joinLowest_36 : decode cX2_joinLowest 36 = .ok (.iconst 1, 1) := by decide +kernel
theorem dX2_joinLowest_37 : decode cX2_joinLowest 37 = .ok (.istore_n 1, 1) := by decide +kernel
theorem dX2_joinLowest_38 : decode cX2_joinLowest 38 = .ok (.iload_n 1, 1) := by decide +kernel
theorem dX2_joinLowest_39 : decode cX2_joinLowest 39 = .ok (.aload_n 0, 1) := by decide +kernel
theorem dX2_joinLowest_40 : decode cX2_joinLowest 40 = .ok (.getfield 21, 3) := by decide +kernel
theorem dX2_joinLowest_43 : decode cX2_joinLowest 43 = .ok (.if_icmp .ge 51, 3) := by decide +kernel
theorem dX2_joinLowest_46 : decode cX2_joinLowest 46 = .ok (.aload_n 0, 1) := by decide +kernel
theorem dX2_joinLowest_47 : decode cX2_joinLowest 47 = .ok (.getfield 11, 3) := by decide +kernel
theorem dX2_joinLowest_50 : decode cX2_joinLowest 50 = .ok (.iload_n 1, 1) := by decide +kernel
theorem dX2_joinLowest_51 : decode cX2_joinLowest 51 = .ok (.iconst 1, 1) := by decide +kernel
theorem dX2_joinLowest_52 : decode cX2_joinLowest 52 = .ok (.isub, 1) := by decide +kernel
theorem dX2_joinLowest_53 : decode cX2_joinLowest 53 = .ok (.aload_n 0, 1) := by decide +kernel
theorem dX2_joinLowest_54 : decode cX2_joinLowest 54 = .ok (.getfield 11, 3) := by decide +kernel
theorem dX2_joinLowest_57 : decode cX2_joinLowest 57 = .ok (.iload_n 1, 1) := by decide +kernel
theorem dX2_joinLowest_58 : decode cX2_joinLowest 58 = .ok (.iaload, 1) := by decide +kernel
theorem dX2_joinLowest_59 : decode cX2_joinLowest 59 = .ok (.iastore, 1) := by decide +kernel
theorem dX2_joinLowest_60 : decode cX2_joinLowest 60 = .ok (.aload_n 0, 1) := by decide +kernel
theorem dX2_joinLowest_61 : decode cX2_joinLowest 61 = .ok (.getfield 15, 3) := by decide +kernel
theorem dX2_joinLowest_64 : decode cX2_joinLowest 64 = .ok (.iload_n 1, 1) := by decide +kernel
theorem dX2_joinLowest_65 : decode cX2_joinLowest 65 = .ok (.iconst 1, 1) := by decide +kernel
theorem dX2_joinLowest_66 : decode cX2_joinLowest 66 = .ok (.isub, 1) := by decide +kernel
theorem dX2_joinLowest_67 : decode cX2_joinLowest 67 = .ok (.aload_n 0, 1) := by decide +kernel
theorem dX2_joinLowest_68 : decode cX2_joinLowest 68 = .ok (.getfield 15, 3) := by decide +kernel
theorem dX2_joinLowest_71 : decode cX2_joinLowest 71 = .ok (.iload_n 1, 1) := by decide +kernel
theorem dX2_joinLowest_72 : decode cX2_joinLowest 72 = .ok (.iaload, 1) := by decide +kernel
theorem dX2_joinLowest_73 : decode cX2_joinLowest 73 = .ok (.iastore, 1) := by decide +kernel
theorem dX2_joinLowest_74 : decode cX2_joinLowest 74 = .ok (.aload_n 0, 1) := by decide +kernel
theorem dX2_joinLowest_75 : decode cX2_joinLowest 75 = .ok (.getfield 18, 3) := by decide +kernel
theorem dX2_joinLowest_78 : decode cX2_joinLowest 78 = .ok (.iload_n 1, 1) := by decide +kernel
theorem dX2_joinLowest_79 : decode cX2_joinLowest 79 = .ok (.iconst 1, 1) := by decide +kernel
theorem dX2_joinLowest_80 : decode cX2_joinLowest 80 = .ok (.isub, 1) := by decide +kernel
theorem dX2_joinLowest_81 : decode cX2_joinLowest 81 = .ok (.aload_n 0, 1) := by decide +kernel
theorem dX2_joinLowest_82 : decode cX2_joinLowest 82 = .ok (.getfield 18, 3) := by decide +kernel
theorem dX2_joinLowest_85 : decode cX2_joinLowest 85 = .ok (.iload_n 1, 1) := by decide +kernel
theorem dX2_joinLowest_86 : decode cX2_joinLowest 86 = .ok (.iaload, 1) := by decide +kernel
theorem dX2_joinLowest_87 : decode cX2_joinLowest 87 = .ok (.iastore, 1) := by decide +kernel
theorem dX2_joinLowest_88 : decode cX2_joinLowest 88 = .ok (.iinc 1 1, 3) := by decide +kernel
theorem dX2_joinLowest_91 : decode cX2_joinLowest 91 = .ok (.goto (-53), 3) := by decide +kernel
theorem dX2_joinLowest_94 : decode cX2_joinLowest 94 = .ok (.aload_n 0, 1) := by decide +kernel
theorem dX2_joinLowest_95 : decode cX2_joinLowest 95 = .ok (.dup, 1) := by decide +kernel
theorem dX2_joinLowest_96 : decode cX2_joinLowest 96 = .ok (.getfield 21, 3) := by decide +kernel
theorem dX2_joinLowest_99 : decode cX2_joinLowest 99 = .ok (.iconst 1, 1) := by decide +kernel
theorem dX2_joinLowest_100 : decode cX2_joinLowest 100 = .ok (.isub, 1) := by decide +kernel
theorem dX2_joinLowest_101 : decode cX2_joinLowest 101 = .ok (.putfield 21, 3) := by decide +kernel
theorem dX2_joinLowest_104 : decode cX2_joinLowest 104 = .ok (.return_, 1) := by decide +kernel
theorem dX3_init_0 : decode cX3_init 0 = .ok (.aload_n 0, 1) := by decide +kernel
theorem dX3_init_1 : decode cX3_init 1 = .ok (.invokespecial 3, 3) := by decide +kernel
theorem dX3_init_4 : decode cX3_init 4 = .ok (.aload_n 0, 1) := by decide +kernel
theorem dX3_init_5 : decode cX3_init 5 = .ok (.bipush 12, 2) := by decide +kernel
theorem dX3_init_7 : decode cX3_init 7 = .ok (.newarray .int, 2) := by decide +kernel
theorem dX3_init_9 : decode cX3_init 9 = .ok (.putfield 9, 3) := by decide +kernel
theorem dX3_init_12 : decode cX3_init 12 = .ok (.aload_n 0, 1) := by decide +kernel
theorem dX3_init_13 : decode cX3_init 13 = .ok (.bipush 12, 2) := by decide +kernel
theorem dX3_init_15 : decode cX3_init 15 = .ok (.newarray .boolean, 2) := by decide +kernel
theorem dX3_init_17 : decode cX3_init 17 = .ok (.putfield 15, 3) := by decide +kernel
theorem dX3_init_20 : decode cX3_init 20 = .ok (.aload_n 0, 1) := by decide +kernel
theorem dX3_init_21 : decode cX3_init 21 = .ok (.iconst 4, 1) := by decide +kernel
theorem dX3_init_22 : decode cX3_init 22 = .ok (.newarray .int, 2) := by decide +kernel
theorem dX3_init_24 : decode cX3_init 24 = .ok (.putfield 19, 3) := by decide +kernel
theorem dX3_init_27 : decode cX3_init 27 = .ok (.return_, 1) := by decide +kernel
theorem dX3_noteSlide_0 : decode cX3_noteSlide 0 = .ok (.iload_n 1, 1) := by decide +kernel
theorem dX3_noteSlide_1 : decode cX3_noteSlide 1 = .ok (.invokestatic 22, 3) := by decide +kernel
theorem dX3_noteSlide_4 : decode cX3_noteSlide 4 = .ok (.ifCond .eq 10, 3) := by decide +kernel
theorem dX3_noteSlide_7 : decode cX3_noteSlide 7 = .ok (.aload_n 0, 1) := by decide +kernel
theorem dX3_noteSlide_8 : decode cX3_noteSlide 8 = .ok (.getfield 15, 3) := by decide +kernel
theorem dX3_noteSlide_11 : decode cX3_noteSlide 11 = .ok (.iload_n 1, 1) := by decide +kernel
theorem dX3_noteSlide_12 : decode cX3_noteSlide 12 = .ok (.iconst 1, 1) := by decide +kernel
theorem dX3_noteSlide_13 : decode cX3_noteSlide 13 = .ok (.bastore, 1) := by decide +kernel
theorem dX3_noteSlide_14 : decode cX3_noteSlide 14 = .ok (.return_, 1) := by decide +kernel
theorem dX3_noteDanger_0 : decode cX3_noteDanger 0 = .ok (.iload_n 1, 1) := by decide +kernel
theorem dX3_noteDanger_1 : decode cX3_noteDanger 1 = .ok (.invokestatic 22, 3) := by decide +kernel
theorem dX3_noteDanger_4 : decode cX3_noteDanger 4 = .ok (.ifCond .eq 19, 3) := by decide +kernel
theorem dX3_noteDanger_7 : decode cX3_noteDanger 7 = .ok (.aload_n 0, 1) := by decide +kernel
theorem dX3_noteDanger_8 : decode cX3_noteDanger 8 = .ok (.getfield 9, 3) := by decide +kernel
theorem dX3_noteDanger_11 : decode cX3_noteDanger 11 = .ok (.iload_n 1, 1) := by decide +kernel
theorem dX3_noteDanger_12 : decode cX3_noteDanger 12 = .ok (.iaload, 1) := by decide +kernel
theorem dX3_noteDanger_13 : decode cX3_noteDanger 13 = .ok (.ifCond .ne 10, 3) := by decide +kernel
theorem dX3_noteDanger_16 : decode cX3_noteDanger 16 = .ok (.aload_n 0, 1) := by decide +kernel
theorem dX3_noteDanger_17 : decode cX3_noteDanger 17 = .ok (.getfield 9, 3) := by decide +kernel
theorem dX3_noteDanger_20 : decode cX3_noteDanger 20 = .ok (.iload_n 1, 1) := by decide +kernel
theorem dX3_noteDanger_21 : decode cX3_noteDanger 21 = .ok (.iload_n 2, 1) := by decide +kernel
theorem dX3_noteDanger_22 : decode cX3_noteDanger 22 = .ok (.iastore, 1) := by decide +kernel
theorem dX3_noteDanger_23 : decode cX3_noteDanger 23 = .ok (.return_, 1) := by decide +kernel
theorem dX3_tallyOf_0 : decode cX3_tallyOf 0 = .ok (.iload_n 1, 1) := by decide +kernel
theorem dX3_tallyOf_1 : decode cX3_tallyOf 1 = .ok (.ifCond .lt 17, 3) := by decide +kernel
theorem dX3_tallyOf_4 : decode cX3_tallyOf 4 = .ok (.iload_n 1, 1) := by decide +kernel
theorem dX3_tallyOf_5 : decode cX3_tallyOf 5 = .ok (.iconst 4, 1) := by decide +kernel
theorem dX3_tallyOf_6 : decode cX3_tallyOf 6 = .ok (.if_icmp .ge 12, 3) := by decide +kernel
theorem dX3_tallyOf_9 : decode cX3_tallyOf 9 = .ok (.aload_n 0, 1) := by decide +kernel
theorem dX3_tallyOf_10 : decode cX3_tallyOf 10 = .ok (.getfield 19, 3) := by decide +kernel
theorem dX3_tallyOf_13 : decode cX3_tallyOf 13 = .ok (.iload_n 1, 1) := by decide +kernel
theorem dX3_tallyOf_14 : decode cX3_tallyOf 14 = .ok (.iaload, 1) := by decide +kernel
theorem dX3_tallyOf_15 : decode cX3_tallyOf 15 = .ok (.goto 4, 3) := by decide +kernel
theorem dX3_tallyOf_18 : decode cX3_tallyOf 18 = .ok (.iconst (-1), 1) := by decide +kernel
theorem dX3_tallyOf_19 : decode cX3_tallyOf 19 = .ok (.ireturn, 1) := by decide +kernel
theorem dX3_judgeDay_0 : decode cX3_judgeDay 0 = .ok (.iconst 0, 1) := by decide +kernel
theorem dX3_judgeDay_1 : decode cX3_judgeDay 1 = .ok (.istore_n 1, 1) := by decide +kernel
theorem dX3_judgeDay_2 : decode cX3_judgeDay 2 = .ok (.iload_n 1, 1) := by decide +kernel
theorem dX3_judgeDay_3 : decode cX3_judgeDay 3 = .ok (.bipush 12, 2) := by decide +kernel
theorem dX3_judgeDay_5 : decode cX3_judgeDay 5 = .ok (.if_icmp .ge 73, 3) := by decide +kernel
theorem dX3_judgeDay_8 : decode cX3_judgeDay 8 = .ok (.aload_n 0, 1) := by decide +kernel
theorem dX3_judgeDay_9 : decode cX3_judgeDay 9 = .ok (.getfield 9, 3) := by decide +kernel
theorem dX3_judgeDay_12 : decode cX3_judgeDay 12 = .ok (.iload_n 1, 1) := by decide +kernel
theorem dX3_judgeDay_13 : decode cX3_judgeDay 13 = .ok (.iaload, 1) := by decide +kernel
theorem dX3_judgeDay_14 : decode cX3_judgeDay 14 = .ok (.ifCond .eq 44, 3) := by decide +kernel
theorem dX3_judgeDay_17 : decode cX3_judgeDay 17 = .ok (.aload_n 0, 1) := by decide +kernel
theorem dX3_judgeDay_18 : decode cX3_judgeDay 18 = .ok (.getfield 9, 3) := by decide +kernel
theorem dX3_judgeDay_21 : decode cX3_judgeDay 21 = .ok (.iload_n 1, 1) := by decide +kernel
theorem dX3_judgeDay_22 : decode cX3_judgeDay 22 = .ok (.iaload, 1) := by decide +kernel
theorem dX3_judgeDay_23 : decode cX3_judgeDay 23 = .ok (.iconst 3, 1) := by decide +kernel
theorem dX3_judgeDay_24 : decode cX3_judgeDay 24 = .ok (.if_icmp .lt 7, 3) := by decide +kernel
theorem dX3_judgeDay_27 : decode cX3_judgeDay 27 = .ok (.iconst 0, 1) := by decide +kernel
theorem dX3_judgeDay_28 : decode cX3_judgeDay 28 = .ok (.goto 4, 3) := by decide +kernel
theorem dX3_judgeDay_31 : decode cX3_judgeDay 31 = .ok (.iconst 2, 1) := by decide +kernel
theorem dX3_judgeDay_32 : decode cX3_judgeDay 32 = .ok (.aload_n 0, 1) := by decide +kernel
theorem dX3_judgeDay_33 : decode cX3_judgeDay 33 = .ok (.getfield 15, 3) := by decide +kernel
theorem dX3_judgeDay_36 : decode cX3_judgeDay 36 = .ok (.iload_n 1, 1) := by decide +kernel
theorem dX3_judgeDay_37 : decode cX3_judgeDay 37 = .ok (.baload, 1) := by decide +kernel
theorem dX3_judgeDay_38 : decode cX3_judgeDay 38 = .ok (.ifCond .eq 7, 3) := by decide +kernel
theorem dX3_judgeDay_41 : decode cX3_judgeDay 41 = .ok (.iconst 0, 1) := by decide +kernel
theorem dX3_judgeDay_42 : decode cX3_judgeDay 42 = .ok (.goto 4, 3) := by decide +kernel
theorem dX3_judgeDay_45 : decode cX3_judgeDay 45 = .ok (.iconst 1, 1) := by decide +kernel
theorem dX3_judgeDay_46 : decode cX3_judgeDay 46 = .ok (.iadd, 1) := by decide +kernel
theorem dX3_judgeDay_47 : decode cX3_judgeDay 47 = .ok (.istore_n 2, 1) := by decide +kernel
theorem dX3_judgeDay_48 : decode cX3_judgeDay 48 = .ok (.aload_n 0, 1) := by decide +kernel
theorem dX3_judgeDay_49 : decode cX3_judgeDay 49 = .ok (.getfield 19, 3) := by decide +kernel
theorem dX3_judgeDay_52 : decode cX3_judgeDay 52 = .ok (.iload_n 2, 1) := by decide +kernel
theorem dX3_judgeDay_53 : decode cX3_judgeDay 53 = .ok (.dup2, 1) := by decide +kernel
theorem dX3_judgeDay_54 : decode cX3_judgeDay 54 = .ok (.iaload, 1) := by decide +kernel
theorem dX3_judgeDay_55 : decode cX3_judgeDay 55 = .ok (.iconst 1, 1) := by decide +kernel
theorem dX3_judgeDay_56 : decode cX3_judgeDay 56 = .ok (.iadd, 1) := by decide +kernel
theorem dX3_judgeDay_57 : decode cX3_judgeDay 57 = .ok (.iastore, 1) := by decide +kernel
theorem dX3_judgeDay_58 : decode cX3_judgeDay 58 = .ok (.aload_n 0, 1) := by decide +kernel
theorem dX3_judgeDay_59 : decode cX3_judgeDay 59 = .ok (.getfield 9, 3) := by decide +kernel
theorem dX3_judgeDay_62 : decode cX3_judgeDay 62 = .ok (.iload_n 1, 1) := by decide +kernel
theorem dX3_judgeDay_63 : decode cX3_judgeDay 63 = .ok (.iconst 0, 1) := by decide +kernel
theorem dX3_judgeDay_64 : decode cX3_judgeDay 64 = .ok (.iastore, 1) := by decide +kernel
theorem dX3_judgeDay_65 : decode cX3_judgeDay 65 = .ok (.aload_n 0, 1) := by decide +kernel
theorem dX3_judgeDay_66 : decode cX3_judgeDay 66 = .ok (.getfield 15, 3) := by decide +kernel
theorem dX3_judgeDay_69 : decode cX3_judgeDay 69 = .ok (.iload_n 1, 1) := by decide +kernel
theorem dX3_judgeDay_70 : decode cX3_judgeDay 70 = .ok (.iconst 0, 1) := by decide +kernel
theorem dX3_judgeDay_71 : decode cX3_judgeDay 71 = .ok (.bastore, 1) := by decide +kernel
theorem dX3_judgeDay_72 : decode cX3_judgeDay 72 = .ok (.iinc 1 1, 3) := by decide +kernel
theorem dX3_judgeDay_75 : decode cX3_judgeDay 75 = .ok (.goto (-73), 3) := by decide +kernel
theorem dX3_judgeDay_78 : decode cX3_judgeDay 78 = .ok (.return_, 1) := by decide +kernel
theorem dX4_init_0 : decode cX4_init 0 = .ok (.aload_n 0, 1) := by decide +kernel
theorem dX4_init_1 : decode cX4_init 1 = .ok (.invokespecial 3, 3) := by decide +kernel
theorem dX4_init_4 : decode cX4_init 4 = .ok (.aload_n 0, 1) := by decide +kernel
theorem dX4_init_5 : decode cX4_init 5 = .ok (.iconst 3, 1) := by decide +kernel
theorem dX4_init_6 : decode cX4_init 6 = .ok (.newarray .int, 2) := by decide +kernel
theorem dX4_init_8 : decode cX4_init 8 = .ok (.putfield 9, 3) := by decide +kernel
theorem dX4_init_11 : decode cX4_init 11 = .ok (.aload_n 0, 1) := by decide +kernel
theorem dX4_init_12 : decode cX4_init 12 = .ok (.iconst 3, 1) := by decide +kernel
theorem dX4_init_13 : decode cX4_init 13 = .ok (.newarray .int, 2) := by decide +kernel
theorem dX4_init_15 : decode cX4_init 15 = .ok (.putfield 15, 3) := by decide +kernel
theorem dX4_init_18 : decode cX4_init 18 = .ok (.aload_n 0, 1) := by decide +kernel
theorem dX4_init_19 : decode cX4_init 19 = .ok (.iconst 3, 1) := by decide +kernel
theorem dX4_init_20 : decode cX4_init 20 = .ok (.newarray .int, 2) := by decide +kernel
theorem dX4_init_22 : decode cX4_init 22 = .ok (.putfield 18, 3) := by decide +kernel
theorem dX4_init_25 : decode cX4_init 25 = .ok (.aload_n 0, 1) := by decide +kernel
theorem dX4_init_26 : decode cX4_init 26 = .ok (.iconst 0, 1) := by decide +kernel
theorem dX4_init_27 : decode cX4_init 27 = .ok (.putfield 21, 3) := by decide +kernel
theorem dX4_init_30 : decode cX4_init 30 = .ok (.aload_n 0, 1) := by decide +kernel
theorem dX4_init_31 : decode cX4_init 31 = .ok (.iconst 0, 1) := by decide +kernel
theorem dX4_init_32 : decode cX4_init 32 = .ok (.putfield 25, 3) := by decide +kernel
theorem dX4_init_35 : decode cX4_init 35 = .ok (.iconst 0, 1) := by decide +kernel
theorem dX4_init_36 : decode cX4_init 36 = .ok (.istore_n 1, 1) := by decide +kernel
theorem dX4_init_37 : decode cX4_init 37 = .ok (.iload_n 1, 1) := by decide +kernel
theorem dX4_init_38 : decode cX4_init 38 = .ok (.iconst 3, 1) := by decide +kernel
theorem dX4_init_39 : decode cX4_init 39 = .ok (.if_icmp .ge 32, 3) := by decide +kernel
theorem dX4_init_42 : decode cX4_init 42 = .ok (.aload_n 0, 1) := by decide +kernel
theorem dX4_init_43 : decode cX4_init 43 = .ok (.getfield 9, 3) := by decide +kernel
theorem dX4_init_46 : decode cX4_init 46 = .ok (.iload_n 1, 1) := by decide +kernel
theorem dX4_init_47 : decode cX4_init 47 = .ok (.iconst (-1), 1) := by decide +kernel
theorem dX4_init_48 : decode cX4_init 48 = .ok (.iastore, 1) := by decide +kernel
theorem dX4_init_49 : decode cX4_init 49 = .ok (.aload_n 0, 1) := by decide +kernel
theorem dX4_init_50 : decode cX4_init 50 = .ok (.getfield 15, 3) := by decide +kernel
theorem dX4_init_53 : decode cX4_init 53 = .ok (.iload_n 1, 1) := by decide +kernel
theorem dX4_init_54 : decode cX4_init 54 = .ok (.bipush (-100), 2) := by decide +kernel
theorem dX4_init_56 : decode cX4_init 56 = .ok (.iastore, 1) := by decide +kernel
theorem dX4_init_57 : decode cX4_init 57 = .ok (.aload_n 0, 1) := by decide +kernel
theorem dX4_init_58 : decode cX4_init 58 = .ok (.getfield 18, 3) := by decide +kernel
theorem dX4_init_61 : decode cX4_init 61 = .ok (.iload_n 1, 1) := by decide +kernel
theorem dX4_init_62 : decode cX4_init 62 = .ok (.bipush (-5), 2) := by decide +kernel
theorem dX4_init_64 : decode cX4_init 64 = .ok (.iastore, 1) := by decide +kernel
theorem dX4_init_65 : decode cX4_init 65 = .ok (.iinc 1 1, 3) := by decide +kernel
theorem dX4_init_68 : decode cX4_init 68 = .ok (.goto (-31), 3) := by decide +kernel
theorem dX4_init_71 : decode cX4_init 71 = .ok (.return_, 1) := by decide +kernel
theorem dX4_canSnow_0 : decode cX4_canSnow 0 = .ok (.iload_n 0, 1) := by decide +kernel
theorem dX4_canSnow_1 : decode cX4_canSnow 1 = .ok (.iconst (-1), 1) := by decide +kernel
theorem dX4_canSnow_2 : decode cX4_canSnow 2 = .ok (.if_icmp .eq 14, 3) := by decide +kernel
theorem dX4_canSnow_5 : decode cX4_canSnow 5 = .ok (.iload_n 0, 1) := by decide +kernel
theorem dX4_canSnow_6 : decode cX4_canSnow 6 = .ok (.ifCond .lt 14, 3) := by decide +kernel
theorem dX4_canSnow_9 : decode cX4_canSnow 9 = .ok (.iload_n 0, 1) := by decide +kernel
theorem dX4_canSnow_10 : decode cX4_canSnow 10 = .ok (.sipush 200, 3) := by decide +kernel
theorem dX4_canSnow_13 : decode cX4_canSnow 13 = .ok (.if_icmp .gt 7, 3) := by decide +kernel
theorem dX4_canSnow_16 : decode cX4_canSnow 16 = .ok (.iconst 1, 1) := by decide +kernel
theorem dX4_canSnow_17 : decode cX4_canSnow 17 = .ok (.goto 4, 3) := by decide +kernel
theorem dX4_canSnow_20 : decode cX4_canSnow 20 = .ok (.iconst 0, 1) := by decide +kernel
theorem dX4_canSnow_21 : decode cX4_canSnow 21 = .ok (.ireturn, 1) := by decide +kernel
theorem dX4_canBeWarm_0 : decode cX4_canBeWarm 0 = .ok (.iload_n 0, 1) := by decide +kernel
theorem dX4_canBeWarm_1 : decode cX4_canBeWarm 1 = .ok (.bipush (-100), 2) := by decide +kernel
theorem dX4_canBeWarm_3 : decode cX4_canBeWarm 3 = .ok (.if_icmp .eq 15, 3) := by decide +kernel
theorem dX4_canBeWarm_6 : decode cX4_canBeWarm 6 = .ok (.iload_n 0, 1) := by decide +kernel
theorem dX4_canBeWarm_7 : decode cX4_canBeWarm 7 = .ok (.bipush (-30), 2) := by decide +kernel
theorem dX4_canBeWarm_9 : decode cX4_canBeWarm 9 = .ok (.if_icmp .lt 13, 3) := by decide +kernel
theorem dX4_canBeWarm_12 : decode cX4_canBeWarm 12 = .ok (.iload_n 0, 1) := by decide +kernel
theorem dX4_canBeWarm_13 : decode cX4_canBeWarm 13 = .ok (.bipush 10, 2) := by decide +kernel
theorem dX4_canBeWarm_15 : decode cX4_canBeWarm 15 = .ok (.if_icmp .gt 7, 3) := by decide +kernel
theorem dX4_canBeWarm_18 : decode cX4_canBeWarm 18 = .ok (.iconst 1, 1) := by decide +kernel
theorem dX4_canBeWarm_19 : decode cX4_canBeWarm 19 = .ok (.goto 4, 3) := by decide +kernel
theorem dX4_canBeWarm_22 : decode cX4_canBeWarm 22 = .ok (.iconst 0, 1) := by decide +kernel
theorem dX4_canBeWarm_23 : decode cX4_canBeWarm 23 = .ok (.ireturn, 1) := by decide +kernel
theorem dX4_canBlow_0 : decode cX4_canBlow 0 = .ok (.iload_n 0, 1) := by decide +kernel
theorem dX4_canBlow_1 : decode cX4_canBlow 1 = .ok (.ifCond .lt 13, 3) := by decide +kernel
theorem dX4_canBlow_4 : decode cX4_canBlow 4 = .ok (.iload_n 0, 1) := by decide +kernel
theorem dX4_canBlow_5 : decode cX4_canBlow 5 = .ok (.bipush 9, 2) := by decide +kernel
theorem dX4_canBlow_7 : decode cX4_canBlow 7 = .ok (.if_icmp .gt 7, 3) := by decide +kernel
theorem dX4_canBlow_10 : decode cX4_canBlow 10 = .ok (.iconst 1, 1) := by decide +kernel
theorem dX4_canBlow_11 : decode cX4_canBlow 11 = .ok (.goto 4, 3) := by decide +kernel
theorem dX4_canBlow_14 : decode cX4_canBlow 14 = .ok (.iconst 0, 1) := by decide +kernel
theorem dX4_canBlow_15 : decode cX4_canBlow 15 = .ok (.ireturn, 1) := by decide +kernel
theorem dX4_tellSnow_0 : decode cX4_tellSnow 0 = .ok (.iload_n 1, 1) := by decide +kernel
theorem dX4_tellSnow_1 : decode cX4_tellSnow 1 = .ok (.invokestatic 28, 3) := by decide +kernel
theorem dX4_tellSnow_4 : decode cX4_tellSnow 4 = .ok (.ifCond .eq 10, 3) := by decide +kernel
theorem dX4_tellSnow_7 : decode cX4_tellSnow 7 = .ok (.aload_n 0, 1) := by decide +kernel
theorem dX4_tellSnow_8 : decode cX4_tellSnow 8 = .ok (.getfield 9, 3) := by decide +kernel
theorem dX4_tellSnow_11 : decode cX4_tellSnow 11 = .ok (.iload_n 1, 1) := by decide +kernel
theorem dX4_tellSnow_12 : decode cX4_tellSnow 12 = .ok (.iload_n 2, 1) := by decide +kernel
theorem dX4_tellSnow_13 : decode cX4_tellSnow 13 = .ok (.iastore, 1) := by decide +kernel
theorem dX4_tellSnow_14 : decode cX4_tellSnow 14 = .ok (.return_, 1) := by decide +kernel
theorem dX4_tellWarmth_0 : decode cX4_tellWarmth 0 = .ok (.iload_n 1, 1) := by decide +kernel
theorem dX4_tellWarmth_1 : decode cX4_tellWarmth 1 = .ok (.invokestatic 28, 3) := by decide +kernel
theorem dX4_tellWarmth_4 : decode cX4_tellWarmth 4 = .ok (.ifCond .eq 10, 3) := by decide +kernel
theorem dX4_tellWarmth_7 : decode cX4_tellWarmth 7 = .ok (.aload_n 0, 1) := by decide +kernel
theorem dX4_tellWarmth_8 : decode cX4_tellWarmth 8 = .ok (.getfield 15, 3) := by decide +kernel
theorem dX4_tellWarmth_11 : decode cX4_tellWarmth 11 = .ok (.iload_n 1, 1) := by decide +kernel
theorem dX4_tellWarmth_12 : decode cX4_tellWarmth 12 = .ok (.iload_n 2, 1) := by decide +kernel
theorem dX4_tellWarmth_13 : decode cX4_tellWarmth 13 = .ok (.iastore, 1) := by decide +kernel
theorem dX4_tellWarmth_14 : decode cX4_tellWarmth 14 = .ok (.return_, 1) := by decide +kernel
theorem dX4_tellWind_0 : decode cX4_tellWind 0 = .ok (.aload_n 0, 1) := by decide +kernel
theorem dX4_tellWind_1 : decode cX4_tellWind 1 = .ok (.iload_n 1, 1) := by decide +kernel
theorem dX4_tellWind_2 : decode cX4_tellWind 2 = .ok (.putfield 21, 3) := by decide +kernel
theorem dX4_tellWind_5 : decode cX4_tellWind 5 = .ok (.aload_n 0, 1) := by decide +kernel
theorem dX4_tellWind_6 : decode cX4_tellWind 6 = .ok (.iload_n 2, 1) := by decide +kernel
theorem dX4_tellWind_7 : decode cX4_tellWind 7 = .ok (.putfield 25, 3) := by decide +kernel
theorem dX4_tellWind_10 : decode cX4_tellWind 10 = .ok (.return_, 1) := by decide +kernel
theorem dX4_fallingMassAt_0 : decode cX4_fallingMassAt 0 = .ok (.iload_n 1, 1) := by decide +kernel
theorem dX4_fallingMassAt_1 : decode cX4_fallingMassAt 1 = .ok (.invokestatic 28, 3) := by decide +kernel
theorem dX4_fallingMassAt_4 : decode cX4_fallingMassAt 4 = .ok (.ifCond .ne 5, 3) := by decide +kernel
theorem dX4_fallingMassAt_7 : decode cX4_fallingMassAt 7 = .ok (.iconst 0, 1) := by decide +kernel
theorem dX4_fallingMassAt_8 : decode cX4_fallingMassAt 8 = .ok (.ireturn, 1) := by decide +kernel
theorem dX4_fallingMassAt_9 : decode cX4_fallingMassAt 9 = .ok (.bipush 10, 2) := by decide +kernel
theorem dX4_fallingMassAt_11 : decode cX4_fallingMassAt 11 = .ok (.aload_n 0, 1) := by decide +kernel
theorem dX4_fallingMassAt_12 : decode cX4_fallingMassAt 12 = .ok (.getfield 9, 3) := by decide +kernel
theorem dX4_fallingMassAt_15 : decode cX4_fallingMassAt 15 = .ok (.iload_n 1, 1) := by decide +kernel
theorem dX4_fallingMassAt_16 : decode cX4_fallingMassAt 16 = .ok (.iaload, 1) := by decide +kernel
theorem dX4_fallingMassAt_17 : decode cX4_fallingMassAt 17 = .ok (.iconst (-1), 1) := by decide +kernel
theorem dX4_fallingMassAt_18 : decode cX4_fallingMassAt 18 = .ok (.if_icmp .ne 10, 3) := by decide +kernel
theorem dX4_fallingMassAt_21 : decode cX4_fallingMassAt 21 = .ok (.aload_n 0, 1) := by decide +kernel
theorem dX4_fallingMassAt_22 : decode cX4_fallingMassAt 22 = .ok (.invokevirtual 32, 3) := by decide +kernel
theorem dX4_fallingMassAt_25 : decode cX4_fallingMassAt 25 = .ok (.goto 9, 3) := by decide +kernel
theorem dX4_fallingMassAt_28 : decode cX4_fallingMassAt 28 = .ok (.aload_n 0, 1) := by decide +kernel
theorem dX4_fallingMassAt_29 : decode cX4_fallingMassAt 29 = .ok (.getfield 9, 3) := by decide +kernel
theorem dX4_fallingMassAt_32 : decode cX4_fallingMassAt 32 = .ok (.iload_n 1, 1) := by decide +kernel
theorem dX4_fallingMassAt_33 : decode cX4_fallingMassAt 33 = .ok (.iaload, 1) := by decide +kernel
theorem dX4_fallingMassAt_34 : decode cX4_fallingMassAt 34 = .ok (.imul, 1) := by decide +kernel
theorem dX4_fallingMassAt_35 : decode cX4_fallingMassAt 35 = .ok (.ireturn, 1) := by decide +kernel
theorem dX4_warmthAt_0 : decode cX4_warmthAt 0 = .ok (.iload_n 1, 1) := by decide +kernel
theorem dX4_warmthAt_1 : decode cX4_warmthAt 1 = .ok (.invokestatic 28, 3) := by decide +kernel
theorem dX4_warmthAt_4 : decode cX4_warmthAt 4 = .ok (.ifCond .ne 6, 3) := by decide +kernel
theorem dX4_warmthAt_7 : decode cX4_warmthAt 7 = .ok (.bipush (-5), 2) := by decide +kernel
theorem dX4_warmthAt_9 : decode cX4_warmthAt 9 = .ok (.ireturn, 1) := by decide +kernel
theorem dX4_warmthAt_10 : decode cX4_warmthAt 10 = .ok (.aload_n 0, 1) := by decide +kernel
theorem dX4_warmthAt_11 : decode cX4_warmthAt 11 = .ok (.getfield 15, 3) := by decide +kernel
theorem dX4_warmthAt_14 : decode cX4_warmthAt 14 = .ok (.iload_n 1, 1) := by decide +kernel
theorem dX4_warmthAt_15 : decode cX4_warmthAt 15 = .ok (.iaload, 1) := by decide +kernel
theorem dX4_warmthAt_16 : decode cX4_warmthAt 16 = .ok (.bipush (-100), 2) := by decide +kernel
theorem dX4_warmthAt_18 : decode cX4_warmthAt 18 = .ok (.if_icmp .ne 12, 3) := by decide +kernel
theorem dX4_warmthAt_21 : decode cX4_warmthAt 21 = .ok (.aload_n 0, 1) := by decide +kernel
theorem dX4_warmthAt_22 : decode cX4_warmthAt 22 = .ok (.getfield 18, 3) := by decide +kernel
theorem dX4_warmthAt_25 : decode cX4_warmthAt 25 = .ok (.iload_n 1, 1) := by decide +kernel
theorem dX4_warmthAt_26 : decode cX4_warmthAt 26 = .ok (.iaload, 1) := by decide +kernel
theorem dX4_warmthAt_27 : decode cX4_warmthAt 27 = .ok (.goto 9, 3) := by decide +kernel
theorem dX4_warmthAt_30 : decode cX4_warmthAt 30 = .ok (.aload_n 0, 1) := by decide +kernel
theorem dX4_warmthAt_31 : decode cX4_warmthAt 31 = .ok (.getfield 15, 3) := by decide +kernel
theorem dX4_warmthAt_34 : decode cX4_warmthAt 34 = .ok (.iload_n 1, 1) := by decide +kernel
theorem dX4_warmthAt_35 : decode cX4_warmthAt 35 = .ok (.iaload, 1) := by decide +kernel
theorem dX4_warmthAt_36 : decode cX4_warmthAt 36 = .ok (.ireturn, 1) := by decide +kernel
theorem dX4_isDrifting_0 : decode cX4_isDrifting 0 = .ok (.aload_n 0, 1) := by decide +kernel
theorem dX4_isDrifting_1 : decode cX4_isDrifting 1 = .ok (.getfield 25, 3) := by decide +kernel
theorem dX4_isDrifting_4 : decode cX4_isDrifting 4 = .ok (.iconst 3, 1) := by decide +kernel
theorem dX4_isDrifting_5 : decode cX4_isDrifting 5 = .ok (.if_icmp .le 7, 3) := by decide +kernel
theorem dX4_isDrifting_8 : decode cX4_isDrifting 8 = .ok (.iconst 1, 1) := by decide +kernel
theorem dX4_isDrifting_9 : decode cX4_isDrifting 9 = .ok (.goto 4, 3) := by decide +kernel
theorem dX4_isDrifting_12 : decode cX4_isDrifting 12 = .ok (.iconst 0, 1) := by decide +kernel
theorem dX4_isDrifting_13 : decode cX4_isDrifting 13 = .ok (.ireturn, 1) := by decide +kernel
theorem dX4_windSide_0 : decode cX4_windSide 0 = .ok (.aload_n 0, 1) := by decide +kernel
theorem dX4_windSide_1 : decode cX4_windSide 1 = .ok (.getfield 21, 3) := by decide +kernel
theorem dX4_windSide_4 : decode cX4_windSide 4 = .ok (.ireturn, 1) := by decide +kernel
theorem dX4_driftingParts_0 : decode cX4_driftingParts 0 = .ok (.iconst 4, 1) := by decide +kernel
theorem dX4_driftingParts_1 : decode cX4_driftingParts 1 = .ok (.aload_n 0, 1) := by decide +kernel
theorem dX4_driftingParts_2 : decode cX4_driftingParts 2 = .ok (.getfield 25, 3) := by decide +kernel
theorem dX4_driftingParts_5 : decode cX4_driftingParts 5 = .ok (.imul, 1) := by decide +kernel
theorem dX4_driftingParts_6 : decode cX4_driftingParts 6 = .ok (.ireturn, 1) := by decide +kernel
theorem dX4_endDay_0 : decode cX4_endDay 0 = .ok (.iconst 0, 1) := by decide +kernel
theorem dX4_endDay_1 : decode cX4_endDay 1 = .ok (.istore_n 1, 1) := by decide +kernel
theorem dX4_endDay_2 : decode cX4_endDay 2 = .ok (.iload_n 1, 1) := by decide +kernel
theorem dX4_endDay_3 : decode cX4_endDay 3 = .ok (.iconst 3, 1) := by decide +kernel
theorem dX4_endDay_4 : decode cX4_endDay 4 = .ok (.if_icmp .ge 35, 3) := by decide +kernel
theorem dX4_endDay_7 : decode cX4_endDay 7 = .ok (.aload_n 0, 1) := by decide +kernel
theorem dX4_endDay_8 : decode cX4_endDay 8 = .ok (.getfield 18, 3) := by decide +kernel
theorem dX4_endDay_11 : decode cX4_endDay 11 = .ok (.iload_n 1, 1) := by decide +kernel
theorem dX4_endDay_12 : decode cX4_endDay 12 = .ok (.aload_n 0, 1) := by decide +kernel
theorem dX4_endDay_13 : decode cX4_endDay 13 = .ok (.iload_n 1, 1) := by decide +kernel
theorem dX4_endDay_14 : decode cX4_endDay 14 = .ok (.invokevirtual 36, 3) := by decide +kernel
theorem dX4_endDay_17 : decode cX4_endDay 17 = .ok (.iastore, 1) := by decide +kernel
theorem dX4_endDay_18 : decode cX4_endDay 18 = .ok (.aload_n 0, 1) := by decide +kernel
theorem dX4_endDay_19 : decode cX4_endDay 19 = .ok (.getfield 15, 3) := by decide +kernel
theorem dX4_endDay_22 : decode cX4_endDay 22 = .ok (.iload_n 1, 1) := by decide +kernel
theorem dX4_endDay_23 : decode cX4_endDay 23 = .ok (.bipush (-100), 2) := by decide +kernel
theorem dX4_endDay_25 : decode cX4_endDay 25 = .ok (.iastore, 1) := by decide +kernel
theorem dX4_endDay_26 : decode cX4_endDay 26 = .ok (.aload_n 0, 1) := by decide +kernel
theorem dX4_endDay_27 : decode cX4_endDay 27 = .ok (.getfield 9, 3) := by decide +kernel
theorem dX4_endDay_30 : decode cX4_endDay 30 = .ok (.iload_n 1, 1) := by decide +kernel
theorem dX4_endDay_31 : decode cX4_endDay 31 = .ok (.iconst (-1), 1) := by decide +kernel
theorem dX4_endDay_32 : decode cX4_endDay 32 = .ok (.iastore, 1) := by decide +kernel
theorem dX4_endDay_33 : decode cX4_endDay 33 = .ok (.iinc 1 1, 3) := by decide +kernel
theorem dX4_endDay_36 : decode cX4_endDay 36 = .ok (.goto (-34), 3) := by decide +kernel
theorem dX4_endDay_39 : decode cX4_endDay 39 = .ok (.aload_n 0, 1) := by decide +kernel
theorem dX4_endDay_40 : decode cX4_endDay 40 = .ok (.iconst 0, 1) := by decide +kernel
theorem dX4_endDay_41 : decode cX4_endDay 41 = .ok (.putfield 25, 3) := by decide +kernel
theorem dX4_endDay_44 : decode cX4_endDay 44 = .ok (.return_, 1) := by decide +kernel
theorem dX4_meanSnow_0 : decode cX4_meanSnow 0 = .ok (.iconst 0, 1) := by decide +kernel
theorem dX4_meanSnow_1 : decode cX4_meanSnow 1 = .ok (.istore_n 1, 1) := by decide +kernel
theorem dX4_meanSnow_2 : decode cX4_meanSnow 2 = .ok (.iconst 0, 1) := by decide +kernel
theorem dX4_meanSnow_3 : decode cX4_meanSnow 3 = .ok (.istore_n 2, 1) := by decide +kernel
theorem dX4_meanSnow_4 : decode cX4_meanSnow 4 = .ok (.iconst 0, 1) := by decide +kernel
theorem dX4_meanSnow_5 : decode cX4_meanSnow 5 = .ok (.istore_n 3, 1) := by decide +kernel
theorem dX4_meanSnow_6 : decode cX4_meanSnow 6 = .ok (.iload_n 3, 1) := by decide +kernel
theorem dX4_meanSnow_7 : decode cX4_meanSnow 7 = .ok (.iconst 3, 1) := by decide +kernel
theorem dX4_meanSnow_8 : decode cX4_meanSnow 8 = .ok (.if_icmp .ge 31, 3) := by decide +kernel
theorem dX4_meanSnow_11 : decode cX4_meanSnow 11 = .ok (.aload_n 0, 1) := by decide +kernel
theorem dX4_meanSnow_12 : decode cX4_meanSnow 12 = .ok (.getfield 9, 3) := by decide +kernel
theorem dX4_meanSnow_15 : decode cX4_meanSnow 15 = .ok (.iload_n 3, 1) := by decide +kernel
theorem dX4_meanSnow_16 : decode cX4_meanSnow 16 = .ok (.iaload, 1) := by decide +kernel
theorem dX4_meanSnow_17 : decode cX4_meanSnow 17 = .ok (.iconst (-1), 1) := by decide +kernel
theorem dX4_meanSnow_18 : decode cX4_meanSnow 18 = .ok (.if_icmp .eq 15, 3) := by decide +kernel
theorem dX4_meanSnow_21 : decode cX4_meanSnow 21 = .ok (.iload_n 1, 1) := by decide +kernel
theorem dX4_meanSnow_22 : decode cX4_meanSnow 22 = .ok (.aload_n 0, 1) := by decide +kernel
theorem dX4_meanSnow_23 : decode cX4_meanSnow 23 = .ok (.getfield 9, 3) := by decide +kernel
theorem dX4_meanSnow_26 : decode cX4_meanSnow 26 = .ok (.iload_n 3, 1) := by decide +kernel
theorem dX4_meanSnow_27 : decode cX4_meanSnow 27 = .ok (.iaload, 1) := by decide +kernel
theorem dX4_meanSnow_28 : decode cX4_meanSnow 28 = .ok (.iadd, 1) := by decide +kernel
theorem dX4_meanSnow_29 : decode cX4_meanSnow 29 = .ok (.istore_n 1, 1) := by decide +kernel
theorem dX4_meanSnow_30 : decode cX4_meanSnow 30 = .ok (.iinc 2 1, 3) := by decide +kernel
theorem dX4_meanSnow_33 : decode cX4_meanSnow 33 = .ok (.iinc 3 1, 3) := by decide +kernel
theorem dX4_meanSnow_36 : decode cX4_meanSnow 36 = .ok (.goto (-30), 3) := by decide +kernel
theorem dX4_meanSnow_39 : decode cX4_meanSnow 39 = .ok (.iload_n 2, 1) := by decide +kernel
theorem dX4_meanSnow_40 : decode cX4_meanSnow 40 = .ok (.ifCond .ne 7, 3) := by decide +kernel
theorem dX4_meanSnow_43 : decode cX4_meanSnow 43 = .ok (.iconst 0, 1) := by decide +kernel
theorem dX4_meanSnow_44 : decode cX4_meanSnow 44 = .ok (.goto 6, 3) := by decide +kernel
theorem dX4_meanSnow_47 : decode cX4_meanSnow 47 = .ok (.iload_n 1, 1) := by decide +kernel
theorem dX4_meanSnow_48 : decode cX4_meanSnow 48 = .ok (.iload_n 2, 1) := by decide +kernel
theorem dX4_meanSnow_49 : decode cX4_meanSnow 49 = .ok (.idiv, 1) := by decide +kernel
theorem dX4_meanSnow_50 : decode cX4_meanSnow 50 = .ok (.ireturn, 1) := by decide +kernel
theorem dX5_init_0 : decode cX5_init 0 = .ok (.aload_n 0, 1) := by decide +kernel
theorem dX5_init_1 : decode cX5_init 1 = .ok (.invokespecial 3, 3) := by decide +kernel
theorem dX5_init_4 : decode cX5_init 4 = .ok (.aload_n 0, 1) := by decide +kernel
theorem dX5_init_5 : decode cX5_init 5 = .ok (.bipush 12, 2) := by decide +kernel
theorem dX5_init_7 : decode cX5_init 7 = .ok (.anewarray 9, 3) := by decide +kernel
theorem dX5_init_10 : decode cX5_init 10 = .ok (.putfield 11, 3) := by decide +kernel
theorem dX5_init_13 : decode cX5_init 13 = .ok (.aload_n 0, 1) := by decide +kernel
theorem dX5_init_14 : decode cX5_init 14 = .ok (.new 15, 3) := by decide +kernel
theorem dX5_init_17 : decode cX5_init 17 = .ok (.dup, 1) := by decide +kernel
theorem dX5_init_18 : decode cX5_init 18 = .ok (.invokespecial 17, 3) := by decide +kernel
theorem dX5_init_21 : decode cX5_init 21 = .ok (.putfield 18, 3) := by decide +kernel
theorem dX5_init_24 : decode cX5_init 24 = .ok (.aload_n 0, 1) := by decide +kernel
theorem dX5_init_25 : decode cX5_init 25 = .ok (.new 22, 3) := by decide +kernel
theorem dX5_init_28 : decode cX5_init 28 = .ok (.dup, 1) := by decide +kernel
theorem dX5_init_29 : decode cX5_init 29 = .ok (.invokespecial 24, 3) := by decide +kernel
theorem dX5_init_32 : decode cX5_init 32 = .ok (.putfield 25, 3) := by decide +kernel
theorem dX5_init_35 : decode cX5_init 35 = .ok (.aload_n 0, 1) := by decide +kernel
theorem dX5_init_36 : decode cX5_init 36 = .ok (.new 29, 3) := by decide +kernel
theorem dX5_init_39 : decode cX5_init 39 = .ok (.dup, 1) := by decide +kernel
theorem dX5_init_40 : decode cX5_init 40 = .ok (.invokespecial 31, 3) := by decide +kernel
theorem dX5_init_43 : decode cX5_init 43 = .ok (.putfield 32, 3) := by decide +kernel
theorem dX5_init_46 : decode cX5_init 46 = .ok (.aload_n 0, 1) := by decide +kernel
theorem dX5_init_47 : decode cX5_init 47 = .ok (.new 36, 3) := by decide +kernel
theorem dX5_init_50 : decode cX5_init 50 = .ok (.dup, 1) := by decide +kernel
theorem dX5_init_51 : decode cX5_init 51 = .ok (.invokespecial 38, 3) := by decide +kernel
theorem dX5_init_54 : decode cX5_init 54 = .ok (.putfield 39, 3) := by decide +kernel
theorem dX5_init_57 : decode cX5_init 57 = .ok (.aload_n 0, 1) := by decide +kernel
theorem dX5_init_58 : decode cX5_init 58 = .ok (.iconst 0, 1) := by decide +kernel
theorem dX5_init_59 : decode cX5_init 59 = .ok (.putfield 43, 3) := by decide +kernel
theorem dX5_init_62 : decode cX5_init 62 = .ok (.aload_n 0, 1) := by decide +kernel
theorem dX5_init_63 : decode cX5_init 63 = .ok (.iconst 0, 1) := by decide +kernel
theorem dX5_init_64 : decode cX5_init 64 = .ok (.putfield 47, 3) := by decide +kernel
theorem dX5_init_67 : decode cX5_init 67 = .ok (.aload_n 0, 1) := by decide +kernel
theorem dX5_init_68 : decode cX5_init 68 = .ok (.iconst 0, 1) := by decide +kernel
theorem dX5_init_69 : decode cX5_init 69 = .ok (.putfield 50, 3) := by decide +kernel
theorem dX5_init_72 : decode cX5_init 72 = .ok (.aload_n 0, 1) := by decide +kernel
theorem dX5_init_73 : decode cX5_init 73 = .ok (.iconst 0, 1) := by decide +kernel
theorem dX5_init_74 : decode cX5_init 74 = .ok (.putfield 53, 3) := by decide +kernel
theorem dX5_init_77 : decode cX5_init 77 = .ok (.iconst 0, 1) := by decide +kernel
theorem dX5_init_78 : decode cX5_init 78 = .ok (.istore_n 1, 1) := by decide +kernel
theorem dX5_init_79 : decode cX5_init 79 = .ok (.iload_n 1, 1) := by decide +kernel
theorem dX5_init_80 : decode cX5_init 80 = .ok (.bipush 12, 2) := by decide +kernel
theorem dX5_init_82 : decode cX5_init 82 = .ok (.if_icmp .ge 22, 3) := by decide +kernel
theorem dX5_init_85 : decode cX5_init 85 = .ok (.aload_n 0, 1) := by decide +kernel
theorem dX5_init_86 : decode cX5_init 86 = .ok (.getfield 11, 3) := by decide +kernel
theorem dX5_init_89 : decode cX5_init 89 = .ok (.iload_n 1, 1) := by decide +kernel
theorem dX5_init_90 : decode cX5_init 90 = .ok (.new 9, 3) := by decide +kernel
theorem dX5_init_93 : decode cX5_init 93 = .ok (.dup, 1) := by decide +kernel
theorem dX5_init_94 : decode cX5_init 94 = .ok (.invokespecial 56, 3) := by decide +kernel
theorem dX5_init_97 : decode cX5_init 97 = .ok (.aastore, 1) := by decide +kernel
theorem dX5_init_98 : decode cX5_init 98 = .ok (.iinc 1 1, 3) := by decide +kernel
theorem dX5_init_101 : decode cX5_init 101 = .ok (.goto (-22), 3) := by decide +kernel
theorem dX5_init_104 : decode cX5_init 104 = .ok (.return_, 1) := by decide +kernel
theorem dX5_snow_0 : decode cX5_snow 0 = .ok (.aload_n 0, 1) := by decide +kernel
theorem dX5_snow_1 : decode cX5_snow 1 = .ok (.getfield 43, 3) := by decide +kernel
theorem dX5_snow_4 : decode cX5_snow 4 = .ok (.sipush 400, 3) := by decide +kernel
theorem dX5_snow_7 : decode cX5_snow 7 = .ok (.if_icmp .ge 17, 3) := by decide +kernel
theorem dX5_snow_10 : decode cX5_snow 10 = .ok (.iload_n 1, 1) := by decide +kernel
theorem dX5_snow_11 : decode cX5_snow 11 = .ok (.invokestatic 57, 3) := by decide +kernel
theorem dX5_snow_14 : decode cX5_snow 14 = .ok (.ifCond .eq 10, 3) := by decide +kernel
theorem dX5_snow_17 : decode cX5_snow 17 = .ok (.iload_n 2, 1) := by decide +kernel
theorem dX5_snow_18 : decode cX5_snow 18 = .ok (.invokestatic 61, 3) := by decide +kernel
theorem dX5_snow_21 : decode cX5_snow 21 = .ok (.ifCond .ne 5, 3) := by decide +kernel
theorem dX5_snow_24 : decode cX5_snow 24 = .ok (.iconst 0, 1) := by decide +kernel
theorem dX5_snow_25 : decode cX5_snow 25 = .ok (.ireturn, 1) := by decide +kernel
theorem dX5_snow_26 : decode cX5_snow 26 = .ok (.aload_n 0, 1) := by decide +kernel
theorem dX5_snow_27 : decode cX5_snow 27 = .ok (.getfield 18, 3) := by decide +kernel
theorem dX5_snow_30 : decode cX5_snow 30 = .ok (.iload_n 1, 1) := by decide +kernel
theorem dX5_snow_31 : decode cX5_snow 31 = .ok (.iload_n 2, 1) := by decide +kernel
theorem dX5_snow_32 : decode cX5_snow 32 = .ok (.invokevirtual 64, 3) := by decide +kernel
theorem dX5_snow_35 : decode cX5_snow 35 = .ok (.iconst 1, 1) := by decide +kernel
theorem dX5_snow_36 : decode cX5_snow 36 = .ok (.ireturn, 1) := by decide +kernel
theorem dX5_warmth_0 : decode cX5_warmth 0 = .ok (.aload_n 0, 1) := by decide +kernel
theorem dX5_warmth_1 : decode cX5_warmth 1 = .ok (.getfield 43, 3) := by decide +kernel
theorem dX5_warmth_4 : decode cX5_warmth 4 = .ok (.sipush 400, 3) := by decide +kernel
theorem dX5_warmth_7 : decode cX5_warmth 7 = .ok (.if_icmp .ge 17, 3) := by decide +kernel
theorem dX5_warmth_10 : decode cX5_warmth 10 = .ok (.iload_n 1, 1) := by decide +kernel
theorem dX5_warmth_11 : decode cX5_warmth 11 = .ok (.invokestatic 57, 3) := by decide +kernel
theorem dX5_warmth_14 : decode cX5_warmth 14 = .ok (.ifCond .eq 10, 3) := by decide +kernel
theorem dX5_warmth_17 : decode cX5_warmth 17 = .ok (.iload_n 2, 1) := by decide +kernel
theorem dX5_warmth_18 : decode cX5_warmth 18 = .ok (.invokestatic 68, 3) := by decide +kernel
theorem dX5_warmth_21 : decode cX5_warmth 21 = .ok (.ifCond .ne 5, 3) := by decide +kernel
theorem dX5_warmth_24 : decode cX5_warmth 24 = .ok (.iconst 0, 1) := by decide +kernel
theorem dX5_warmth_25 : decode cX5_warmth 25 = .ok (.ireturn, 1) := by decide +kernel
theorem dX5_warmth_26 : decode cX5_warmth 26 = .ok (.aload_n 0, 1) := by decide +kernel
theorem dX5_warmth_27 : decode cX5_warmth 27 = .ok (.getfield 18, 3) := by decide +kernel
theorem dX5_warmth_30 : decode cX5_warmth 30 = .ok (.iload_n 1, 1) := by decide +kernel
theorem dX5_warmth_31 : decode cX5_warmth 31 = .ok (.iload_n 2, 1) := by decide +kernel
theorem dX5_warmth_32 : decode cX5_warmth 32 = .ok (.invokevirtual 71, 3) := by decide +kernel
theorem dX5_warmth_35 : decode cX5_warmth 35 = .ok (.iconst 1, 1) := by decide +kernel
theorem dX5_warmth_36 : decode cX5_warmth 36 = .ok (.ireturn, 1) := by decide +kernel
theorem dX5_wind_0 : decode cX5_wind 0 = .ok (.aload_n 0, 1) := by decide +kernel
theorem dX5_wind_1 : decode cX5_wind 1 = .ok (.getfield 43, 3) := by decide +kernel
theorem dX5_wind_4 : decode cX5_wind 4 = .ok (.sipush 400, 3) := by decide +kernel
theorem dX5_wind_7 : decode cX5_wind 7 = .ok (.if_icmp .ge 19, 3) := by decide +kernel
theorem dX5_wind_10 : decode cX5_wind 10 = .ok (.iload_n 1, 1) := by decide +kernel
theorem dX5_wind_11 : decode cX5_wind 11 = .ok (.ifCond .lt 15, 3) := by decide +kernel
theorem dX5_wind_14 : decode cX5_wind 14 = .ok (.iload_n 1, 1) := by decide +kernel
theorem dX5_wind_15 : decode cX5_wind 15 = .ok (.iconst 4, 1) := by decide +kernel
theorem dX5_wind_16 : decode cX5_wind 16 = .ok (.if_icmp .ge 10, 3) := by decide +kernel
theorem dX5_wind_19 : decode cX5_wind 19 = .ok (.iload_n 2, 1) := by decide +kernel
theorem dX5_wind_20 : decode cX5_wind 20 = .ok (.invokestatic 74, 3) := by decide +kernel
theorem dX5_wind_23 : decode cX5_wind 23 = .ok (.ifCond .ne 5, 3) := by decide +kernel
theorem dX5_wind_26 : decode cX5_wind 26 = .ok (.iconst 0, 1) := by decide +kernel
theorem dX5_wind_27 : decode cX5_wind 27 = .ok (.ireturn, 1) := by decide +kernel
theorem dX5_wind_28 : decode cX5_wind 28 = .ok (.aload_n 0, 1) := by decide +kernel
theorem dX5_wind_29 : decode cX5_wind 29 = .ok (.getfield 18, 3) := by decide +kernel
theorem dX5_wind_32 : decode cX5_wind 32 = .ok (.iload_n 1, 1) := by decide +kernel
theorem dX5_wind_33 : decode cX5_wind 33 = .ok (.iload_n 2, 1) := by decide +kernel
theorem dX5_wind_34 : decode cX5_wind 34 = .ok (.invokevirtual 77, 3) := by decide +kernel
theorem dX5_wind_37 : decode cX5_wind 37 = .ok (.iconst 1, 1) := by decide +kernel
theorem dX5_wind_38 : decode cX5_wind 38 = .ok (.ireturn, 1) := by decide +kernel
theorem dX5_go_0 : decode cX5_go 0 = .ok (.iload_n 1, 1) := by decide +kernel
theorem dX5_go_1 : decode cX5_go 1 = .ok (.ifCond .lt 9, 3) := by decide +kernel
theorem dX5_go_4 : decode cX5_go 4 = .ok (.iload_n 1, 1) := by decide +kernel
theorem dX5_go_5 : decode cX5_go 5 = .ok (.bipush 30, 2) := by decide +kernel
theorem dX5_go_7 : decode cX5_go 7 = .ok (.if_icmp .le 5, 3) := by decide +kernel
theorem dX5_go_10 : decode cX5_go 10 = .ok (.iconst (-1), 1) := by decide +kernel
theorem dX5_go_11 : decode cX5_go 11 = .ok (.ireturn, 1) := by decide +kernel
theorem dX5_go_12 : decode cX5_go 12 = .ok (.iconst 0, 1) := by decide +kernel
theorem dX5_go_13 : decode cX5_go 13 = .ok (.istore_n 2, 1) := by decide +kernel
theorem dX5_go_14 : decode cX5_go 14 = .ok (.iload_n 2, 1) := by decide +kernel
theorem dX5_go_15 : decode cX5_go 15 = .ok (.iload_n 1, 1) := by decide +kernel
theorem dX5_go_16 : decode cX5_go 16 = .ok (.if_icmp .ge 23, 3) := by decide +kernel
theorem dX5_go_19 : decode cX5_go 19 = .ok (.aload_n 0, 1) := by decide +kernel
theorem dX5_go_20 : decode cX5_go 20 = .ok (.getfield 43, 3) := by decide +kernel
theorem dX5_go_23 : decode cX5_go 23 = .ok (.sipush 400, 3) := by decide +kernel
theorem dX5_go_26 : decode cX5_go 26 = .ok (.if_icmp .ge 13, 3) := by decide +kernel
theorem dX5_go_29 : decode cX5_go 29 = .ok (.aload_n 0, 1) := by decide +kernel
theorem dX5_go_30 : decode cX5_go 30 = .ok (.invokevirtual 80, 3) := by decide +kernel
theorem dX5_go_33 : decode cX5_go 33 = .ok (.iinc 2 1, 3) := by decide +kernel
theorem dX5_go_36 : decode cX5_go 36 = .ok (.goto (-22), 3) := by decide +kernel
theorem dX5_go_39 : decode cX5_go 39 = .ok (.aload_n 0, 1) := by decide +kernel
theorem dX5_go_40 : decode cX5_go 40 = .ok (.getfield 43, 3) := by decide +kernel
theorem dX5_go_43 : decode cX5_go 43 = .ok (.ireturn, 1) := by decide +kernel
theorem dX5_layer_0 : decode cX5_layer 0 = .ok (.iload_n 1, 1) := by decide +kernel
theorem dX5_layer_1 : decode cX5_layer 1 = .ok (.invokestatic 83, 3) := by decide +kernel
theorem dX5_layer_4 : decode cX5_layer 4 = .ok (.ifCond .eq 16, 3) := by decide +kernel
theorem dX5_layer_7 : decode cX5_layer 7 = .ok (.aload_n 0, 1) := by decide +kernel
theorem dX5_layer_8 : decode cX5_layer 8 = .ok (.getfield 11, 3) := by decide +kernel
theorem dX5_layer_11 : decode cX5_layer 11 = .ok (.iload_n 1, 1) := by decide +kernel
theorem dX5_layer_12 : decode cX5_layer 12 = .ok (.aaload, 1) := by decide +kernel
theorem dX5_layer_13 : decode cX5_layer 13 = .ok (.iload_n 2, 1) := by decide +kernel
theorem dX5_layer_14 : decode cX5_layer 14 = .ok (.invokevirtual 86, 3) := by decide +kernel
theorem dX5_layer_17 : decode cX5_layer 17 = .ok (.ifCond .ne 5, 3) := by decide +kernel
theorem dX5_layer_20 : decode cX5_layer 20 = .ok (.iconst (-1), 1) := by decide +kernel
theorem dX5_layer_21 : decode cX5_layer 21 = .ok (.ireturn, 1) := by decide +kernel
theorem dX5_layer_22 : decode cX5_layer 22 = .ok (.aload_n 0, 1) := by decide +kernel
theorem dX5_layer_23 : decode cX5_layer 23 = .ok (.getfield 11, 3) := by decide +kernel
theorem dX5_layer_26 : decode cX5_layer 26 = .ok (.iload_n 1, 1) := by decide +kernel
theorem dX5_layer_27 : decode cX5_layer 27 = .ok (.aaload, 1) := by decide +kernel
theorem dX5_layer_28 : decode cX5_layer 28 = .ok (.astore 4, 2) := by decide +kernel
theorem dX5_layer_30 : decode cX5_layer 30 = .ok (.iload_n 3, 1) := by decide +kernel
theorem dX5_layer_31 : decode cX5_layer 31 = .ok (.tableswitch 68 0 4 #[33, 40, 47, 54, 61], 33) := by decide +kernel
theorem dX5_layer_64 : decode cX5_layer 64 = .ok (.aload 4, 2) := by decide +kernel
theorem dX5_layer_66 : decode cX5_layer 66 = .ok (.iload_n 2, 1) := by decide +kernel
theorem dX5_layer_67 : decode cX5_layer 67 = .ok (.invokevirtual 89, 3) := by decide +kernel
theorem dX5_layer_70 : decode cX5_layer 70 = .ok (.ireturn, 1) := by decide +kernel
theorem dX5_layer_71 : decode cX5_layer 71 = .ok (.aload 4, 2) := by decide +kernel
theorem dX5_layer_73 : decode cX5_layer 73 = .ok (.iload_n 2, 1) := by decide +kernel
theorem dX5_layer_74 : decode cX5_layer 74 = .ok (.invokevirtual 93, 3) := by decide +kernel
theorem dX5_layer_77 : decode cX5_layer 77 = .ok (.ireturn, 1) := by decide +kernel
theorem dX5_layer_78 : decode cX5_layer 78 = .ok (.aload 4, 2) := by decide +kernel
theorem dX5_layer_80 : decode cX5_layer 80 = .ok (.iload_n 2, 1) := by decide +kernel
theorem dX5_layer_81 : decode cX5_layer 81 = .ok (.invokevirtual 96, 3) := by decide +kernel
theorem dX5_layer_84 : decode cX5_layer 84 = .ok (.ireturn, 1) := by decide +kernel
theorem dX5_layer_85 : decode cX5_layer 85 = .ok (.aload 4, 2) := by decide +kernel
theorem dX5_layer_87 : decode cX5_layer 87 = .ok (.iload_n 2, 1) := by decide +kernel
theorem dX5_layer_88 : decode cX5_layer 88 = .ok (.invokevirtual 99, 3) := by decide +kernel
theorem dX5_layer_91 : decode cX5_layer 91 = .ok (.ireturn, 1) := by decide +kernel
theorem dX5_layer_92 : decode cX5_layer 92 = .ok (.aload 4, 2) := by decide +kernel
theorem dX5_layer_94 : decode cX5_layer 94 = .ok (.iload_n 2, 1) := by decide +kernel
theorem dX5_layer_95 : decode cX5_layer 95 = .ok (.invokevirtual 102, 3) := by decide +kernel
theorem dX5_layer_98 : decode cX5_layer 98 = .ok (.ireturn, 1) := by decide +kernel
theorem dX5_layer_99 : decode cX5_layer 99 = .ok (.iconst (-1), 1) := by decide +kernel
theorem dX5_layer_100 : decode cX5_layer 100 = .ok (.ireturn, 1) := by decide +kernel
theorem dX5_told_0 : decode cX5_told 0 = .ok (.iload_n 1, 1) := by decide +kernel
theorem dX5_told_1 : decode cX5_told 1 = .ok (.invokestatic 83, 3) := by decide +kernel
theorem dX5_told_4 : decode cX5_told 4 = .ok (.ifCond .ne 5, 3) := by decide +kernel
theorem dX5_told_7 : decode cX5_told 7 = .ok (.iconst (-1), 1) := by decide +kernel
theorem dX5_told_8 : decode cX5_told 8 = .ok (.ireturn, 1) := by decide +kernel
theorem dX5_told_9 : decode cX5_told 9 = .ok (.aload_n 0, 1) := by decide +kernel
theorem dX5_told_10 : decode cX5_told 10 = .ok (.getfield 11, 3) := by decide +kernel
theorem dX5_told_13 : decode cX5_told 13 = .ok (.iload_n 1, 1) := by decide +kernel
theorem dX5_told_14 : decode cX5_told 14 = .ok (.aaload, 1) := by decide +kernel
theorem dX5_told_15 : decode cX5_told 15 = .ok (.astore_n 3, 1) := by decide +kernel
theorem dX5_told_16 : decode cX5_told 16 = .ok (.aload_n 3, 1) := by decide +kernel
theorem dX5_told_17 : decode cX5_told 17 = .ok (.invokevirtual 105, 3) := by decide +kernel
theorem dX5_told_20 : decode cX5_told 20 = .ok (.istore 4, 2) := by decide +kernel
theorem dX5_told_22 : decode cX5_told 22 = .ok (.iload_n 2, 1) := by decide +kernel
theorem dX5_told_23 : decode cX5_told 23 = .ok (.tableswitch 73 0 5 #[37, 40, 46, 53, 60, 66], 37) := by decide +kernel
theorem dX5_told_60 : decode cX5_told 60 = .ok (.iload 4, 2) := by decide +kernel
theorem dX5_told_62 : decode cX5_told 62 = .ok (.ireturn, 1) := by decide +kernel
theorem dX5_told_63 : decode cX5_told 63 = .ok (.aload_n 3, 1) := by decide +kernel
theorem dX5_told_64 : decode cX5_told 64 = .ok (.iconst (-1), 1) := by decide +kernel
theorem dX5_told_65 : decode cX5_told 65 = .ok (.invokevirtual 99, 3) := by decide +kernel
theorem dX5_told_68 : decode cX5_told 68 = .ok (.ireturn, 1) := by decide +kernel
theorem dX5_told_69 : decode cX5_told 69 = .ok (.aload_n 3, 1) := by decide +kernel
theorem dX5_told_70 : decode cX5_told 70 = .ok (.iload 4, 2) := by decide +kernel
theorem dX5_told_72 : decode cX5_told 72 = .ok (.invokevirtual 109, 3) := by decide +kernel
theorem dX5_told_75 : decode cX5_told 75 = .ok (.ireturn, 1) := by decide +kernel
theorem dX5_told_76 : decode cX5_told 76 = .ok (.aload_n 3, 1) := by decide +kernel
theorem dX5_told_77 : decode cX5_told 77 = .ok (.iload 4, 2) := by decide +kernel
theorem dX5_told_79 : decode cX5_told 79 = .ok (.invokevirtual 112, 3) := by decide +kernel
theorem dX5_told_82 : decode cX5_told 82 = .ok (.ireturn, 1) := by decide +kernel
theorem dX5_told_83 : decode cX5_told 83 = .ok (.aload_n 0, 1) := by decide +kernel
theorem dX5_told_84 : decode cX5_told 84 = .ok (.iload_n 1, 1) := by decide +kernel
theorem dX5_told_85 : decode cX5_told 85 = .ok (.invokevirtual 115, 3) := by decide +kernel
theorem dX5_told_88 : decode cX5_told 88 = .ok (.ireturn, 1) := by decide +kernel
theorem dX5_told_89 : decode cX5_told 89 = .ok (.aload_n 3, 1) := by decide +kernel
theorem dX5_told_90 : decode cX5_told 90 = .ok (.iload 4, 2) := by decide +kernel
theorem dX5_told_92 : decode cX5_told 92 = .ok (.invokevirtual 118, 3) := by decide +kernel
theorem dX5_told_95 : decode cX5_told 95 = .ok (.ireturn, 1) := by decide +kernel
theorem dX5_told_96 : decode cX5_told 96 = .ok (.iconst (-1), 1) := by decide +kernel
theorem dX5_told_97 : decode cX5_told 97 = .ok (.ireturn, 1) := by decide +kernel
theorem dX5_slide_0 : decode cX5_slide 0 = .ok (.iload_n 1, 1) := by decide +kernel
theorem dX5_slide_1 : decode cX5_slide 1 = .ok (.invokestatic 83, 3) := by decide +kernel
theorem dX5_slide_4 : decode cX5_slide 4 = .ok (.ifCond .eq 31, 3) := by decide +kernel
theorem dX5_slide_7 : decode cX5_slide 7 = .ok (.aload_n 0, 1) := by decide +kernel
theorem dX5_slide_8 : decode cX5_slide 8 = .ok (.getfield 11, 3) := by decide +kernel
theorem dX5_slide_11 : decode cX5_slide 11 = .ok (.iload_n 1, 1) := by decide +kernel
theorem dX5_slide_12 : decode cX5_slide 12 = .ok (.aaload, 1) := by decide +kernel
theorem dX5_slide_13 : decode cX5_slide 13 = .ok (.iload_n 2, 1) := by decide +kernel
theorem dX5_slide_14 : decode cX5_slide 14 = .ok (.invokevirtual 86, 3) := by decide +kernel
theorem dX5_slide_17 : decode cX5_slide 17 = .ok (.ifCond .eq 18, 3) := by decide +kernel
theorem dX5_slide_20 : decode cX5_slide 20 = .ok (.aload_n 0, 1) := by decide +kernel
theorem dX5_slide_21 : decode cX5_slide 21 = .ok (.getfield 11, 3) := by decide +kernel
theorem dX5_slide_24 : decode cX5_slide 24 = .ok (.iload_n 1, 1) := by decide +kernel
theorem dX5_slide_25 : decode cX5_slide 25 = .ok (.aaload, 1) := by decide +kernel
theorem dX5_slide_26 : decode cX5_slide 26 = .ok (.iload_n 2, 1) := by decide +kernel
theorem dX5_slide_27 : decode cX5_slide 27 = .ok (.iconst 1, 1) := by decide +kernel
theorem dX5_slide_28 : decode cX5_slide 28 = .ok (.iadd, 1) := by decide +kernel
theorem dX5_slide_29 : decode cX5_slide 29 = .ok (.invokevirtual 86, 3) := by decide +kernel
theorem dX5_slide_32 : decode cX5_slide 32 = .ok (.ifCond .ne 5, 3) := by decide +kernel
theorem dX5_slide_35 : decode cX5_slide 35 = .ok (.iconst (-1), 1) := by decide +kernel
theorem dX5_slide_36 : decode cX5_slide 36 = .ok (.ireturn, 1) := by decide +kernel
theorem dX5_slide_37 : decode cX5_slide 37 = .ok (.aload_n 0, 1) := by decide +kernel
theorem dX5_slide_38 : decode cX5_slide 38 = .ok (.getfield 39, 3) := by decide +kernel
theorem dX5_slide_41 : decode cX5_slide 41 = .ok (.iload_n 1, 1) := by decide +kernel
theorem dX5_slide_42 : decode cX5_slide 42 = .ok (.invokevirtual 121, 3) := by decide +kernel
theorem dX5_slide_45 : decode cX5_slide 45 = .ok (.aload_n 0, 1) := by decide +kernel
theorem dX5_slide_46 : decode cX5_slide 46 = .ok (.iload_n 1, 1) := by decide +kernel
theorem dX5_slide_47 : decode cX5_slide 47 = .ok (.iload_n 2, 1) := by decide +kernel
theorem dX5_slide_48 : decode cX5_slide 48 = .ok (.invokevirtual 125, 3) := by decide +kernel
theorem dX5_slide_51 : decode cX5_slide 51 = .ok (.ireturn, 1) := by decide +kernel
theorem dX5_shot_0 : decode cX5_shot 0 = .ok (.iload_n 1, 1) := by decide +kernel
theorem dX5_shot_1 : decode cX5_shot 1 = .ok (.invokestatic 83, 3) := by decide +kernel
theorem dX5_shot_4 : decode cX5_shot 4 = .ok (.ifCond .ne 5, 3) := by decide +kernel
theorem dX5_shot_7 : decode cX5_shot 7 = .ok (.iconst (-1), 1) := by decide +kernel
theorem dX5_shot_8 : decode cX5_shot 8 = .ok (.ireturn, 1) := by decide +kernel
theorem dX5_shot_9 : decode cX5_shot 9 = .ok (.aload_n 0, 1) := by decide +kernel
theorem dX5_shot_10 : decode cX5_shot 10 = .ok (.getfield 11, 3) := by decide +kernel
theorem dX5_shot_13 : decode cX5_shot 13 = .ok (.iload_n 1, 1) := by decide +kernel
theorem dX5_shot_14 : decode cX5_shot 14 = .ok (.aaload, 1) := by decide +kernel
theorem dX5_shot_15 : decode cX5_shot 15 = .ok (.astore_n 2, 1) := by decide +kernel
theorem dX5_shot_16 : decode cX5_shot 16 = .ok (.aload_n 2, 1) := by decide +kernel
theorem dX5_shot_17 : decode cX5_shot 17 = .ok (.invokevirtual 105, 3) := by decide +kernel
theorem dX5_shot_20 : decode cX5_shot 20 = .ok (.istore_n 3, 1) := by decide +kernel
theorem dX5_shot_21 : decode cX5_shot 21 = .ok (.aload_n 2, 1) := by decide +kernel
theorem dX5_shot_22 : decode cX5_shot 22 = .ok (.iload_n 3, 1) := by decide +kernel
theorem dX5_shot_23 : decode cX5_shot 23 = .ok (.invokevirtual 109, 3) := by decide +kernel
theorem dX5_shot_26 : decode cX5_shot 26 = .ok (.iconst 2, 1) := by decide +kernel
theorem dX5_shot_27 : decode cX5_shot 27 = .ok (.if_icmp .ge 5, 3) := by decide +kernel
theorem dX5_shot_30 : decode cX5_shot 30 = .ok (.iconst 0, 1) := by decide +kernel
theorem dX5_shot_31 : decode cX5_shot 31 = .ok (.ireturn, 1) := by decide +kernel
theorem dX5_shot_32 : decode cX5_shot 32 = .ok (.aload_n 0, 1) := by decide +kernel
theorem dX5_shot_33 : decode cX5_shot 33 = .ok (.iload_n 1, 1) := by decide +kernel
theorem dX5_shot_34 : decode cX5_shot 34 = .ok (.aload_n 2, 1) := by decide +kernel
theorem dX5_shot_35 : decode cX5_shot 35 = .ok (.iload_n 3, 1) := by decide +kernel
theorem dX5_shot_36 : decode cX5_shot 36 = .ok (.invokevirtual 118, 3) := by decide +kernel
theorem dX5_shot_39 : decode cX5_shot 39 = .ok (.invokevirtual 125, 3) := by decide +kernel
theorem dX5_shot_42 : decode cX5_shot 42 = .ok (.ireturn, 1) := by decide +kernel
theorem dX5_path_0 : decode cX5_path 0 = .ok (.iload_n 1, 1) := by decide +kernel
theorem dX5_path_1 : decode cX5_path 1 = .ok (.invokestatic 83, 3) := by decide +kernel
theorem dX5_path_4 : decode cX5_path 4 = .ok (.ifCond .eq 12, 3) := by decide +kernel
theorem dX5_path_7 : decode cX5_path 7 = .ok (.iload_n 2, 1) := by decide +kernel
theorem dX5_path_8 : decode cX5_path 8 = .ok (.ifCond .lt 8, 3) := by decide +kernel
theorem dX5_path_11 : decode cX5_path 11 = .ok (.iload_n 2, 1) := by decide +kernel
theorem dX5_path_12 : decode cX5_path 12 = .ok (.iconst 2, 1) := by decide +kernel
theorem dX5_path_13 : decode cX5_path 13 = .ok (.if_icmp .le 5, 3) := by decide +kernel
theorem dX5_path_16 : decode cX5_path 16 = .ok (.iconst (-1), 1) := by decide +kernel
theorem dX5_path_17 : decode cX5_path 17 = .ok (.ireturn, 1) := by decide +kernel
theorem dX5_path_18 : decode cX5_path 18 = .ok (.aload_n 0, 1) := by decide +kernel
theorem dX5_path_19 : decode cX5_path 19 = .ok (.getfield 25, 3) := by decide +kernel
theorem dX5_path_22 : decode cX5_path 22 = .ok (.iload_n 1, 1) := by decide +kernel
theorem dX5_path_23 : decode cX5_path 23 = .ok (.iload_n 2, 1) := by decide +kernel
theorem dX5_path_24 : decode cX5_path 24 = .ok (.invokevirtual 129, 3) := by decide +kernel
theorem dX5_path_27 : decode cX5_path 27 = .ok (.ireturn, 1) := by decide +kernel
theorem dX5_shut_0 : decode cX5_shut 0 = .ok (.iconst 0, 1) := by decide +kernel
theorem dX5_shut_1 : decode cX5_shut 1 = .ok (.istore_n 1, 1) := by decide +kernel
theorem dX5_shut_2 : decode cX5_shut 2 = .ok (.iconst 0, 1) := by decide +kernel
theorem dX5_shut_3 : decode cX5_shut 3 = .ok (.istore_n 2, 1) := by decide +kernel
theorem dX5_shut_4 : decode cX5_shut 4 = .ok (.iload_n 2, 1) := by decide +kernel
theorem dX5_shut_5 : decode cX5_shut 5 = .ok (.aload_n 0, 1) := by decide +kernel
theorem dX5_shut_6 : decode cX5_shut 6 = .ok (.getfield 25, 3) := by decide +kernel
theorem dX5_shut_9 : decode cX5_shut 9 = .ok (.invokevirtual 132, 3) := by decide +kernel
theorem dX5_shut_12 : decode cX5_shut 12 = .ok (.if_icmp .ge 60, 3) := by decide +kernel
theorem dX5_shut_15 : decode cX5_shut 15 = .ok (.aload_n 0, 1) := by decide +kernel
theorem dX5_shut_16 : decode cX5_shut 16 = .ok (.getfield 25, 3) := by decide +kernel
theorem dX5_shut_19 : decode cX5_shut 19 = .ok (.iload_n 2, 1) := by decide +kernel
theorem dX5_shut_20 : decode cX5_shut 20 = .ok (.invokevirtual 135, 3) := by decide +kernel
theorem dX5_shut_23 : decode cX5_shut 23 = .ok (.istore_n 3, 1) := by decide +kernel
theorem dX5_shut_24 : decode cX5_shut 24 = .ok (.iload_n 3, 1) := by decide +kernel
theorem dX5_shut_25 : decode cX5_shut 25 = .ok (.invokestatic 83, 3) := by decide +kernel
theorem dX5_shut_28 : decode cX5_shut 28 = .ok (.ifCond .eq 38, 3) := by decide +kernel
theorem dX5_shut_31 : decode cX5_shut 31 = .ok (.aload_n 0, 1) := by decide +kernel
theorem dX5_shut_32 : decode cX5_shut 32 = .ok (.getfield 11, 3) := by decide +kernel
theorem dX5_shut_35 : decode cX5_shut 35 = .ok (.iload_n 3, 1) := by decide +kernel
theorem dX5_shut_36 : decode cX5_shut 36 = .ok (.aaload, 1) := by decide +kernel
theorem dX5_shut_37 : decode cX5_shut 37 = .ok (.aload_n 0, 1) := by decide +kernel
theorem dX5_shut_38 : decode cX5_shut 38 = .ok (.getfield 25, 3) := by decide +kernel
theorem dX5_shut_41 : decode cX5_shut 41 = .ok (.iload_n 2, 1) := by decide +kernel
theorem dX5_shut_42 : decode cX5_shut 42 = .ok (.invokevirtual 138, 3) := by decide +kernel
theorem dX5_shut_45 : decode cX5_shut 45 = .ok (.aload_n 0, 1) := by decide +kernel
theorem dX5_shut_46 : decode cX5_shut 46 = .ok (.getfield 11, 3) := by decide +kernel
theorem dX5_shut_49 : decode cX5_shut 49 = .ok (.iload_n 3, 1) := by decide +kernel
theorem dX5_shut_50 : decode cX5_shut 50 = .ok (.aaload, 1) := by decide +kernel
theorem dX5_shut_51 : decode cX5_shut 51 = .ok (.invokevirtual 105, 3) := by decide +kernel
theorem dX5_shut_54 : decode cX5_shut 54 = .ok (.invokevirtual 141, 3) := by decide +kernel
theorem dX5_shut_57 : decode cX5_shut 57 = .ok (.ifCond .eq 9, 3) := by decide +kernel
theorem dX5_shut_60 : decode cX5_shut 60 = .ok (.iload_n 1, 1) := by decide +kernel
theorem dX5_shut_61 : decode cX5_shut 61 = .ok (.iconst 1, 1) := by decide +kernel
theorem dX5_shut_62 : decode cX5_shut 62 = .ok (.iload_n 2, 1) := by decide +kernel
theorem dX5_shut_63 : decode cX5_shut 63 = .ok (.ishl, 1) := by decide +kernel
theorem dX5_shut_64 : decode cX5_shut 64 = .ok (.ior, 1) := by decide +kernel
theorem dX5_shut_65 : decode cX5_shut 65 = .ok (.istore_n 1, 1) := by decide +kernel
theorem dX5_shut_66 : decode cX5_shut 66 = .ok (.iinc 2 1, 3) := by decide +kernel
theorem dX5_shut_69 : decode cX5_shut 69 = .ok (.goto (-65), 3) := by decide +kernel
theorem dX5_shut_72 : decode cX5_shut 72 = .ok (.iload_n 1, 1) := by decide +kernel
theorem dX5_shut_73 : decode cX5_shut 73 = .ok (.ireturn, 1) := by decide +kernel
theorem dX5_shots_0 : decode cX5_shots 0 = .ok (.iconst 0, 1) := by decide +kernel
theorem dX5_shots_1 : decode cX5_shots 1 = .ok (.istore_n 1, 1) := by decide +kernel
theorem dX5_shots_2 : decode cX5_shots 2 = .ok (.iconst 0, 1) := by decide +kernel
theorem dX5_shots_3 : decode cX5_shots 3 = .ok (.istore_n 2, 1) := by decide +kernel
theorem dX5_shots_4 : decode cX5_shots 4 = .ok (.iload_n 2, 1) := by decide +kernel
theorem dX5_shots_5 : decode cX5_shots 5 = .ok (.bipush 12, 2) := by decide +kernel
theorem dX5_shots_7 : decode cX5_shots 7 = .ok (.if_icmp .ge 65, 3) := by decide +kernel
theorem dX5_shots_10 : decode cX5_shots 10 = .ok (.aload_n 0, 1) := by decide +kernel
theorem dX5_shots_11 : decode cX5_shots 11 = .ok (.getfield 11, 3) := by decide +kernel
theorem dX5_shots_14 : decode cX5_shots 14 = .ok (.iload_n 2, 1) := by decide +kernel
theorem dX5_shots_15 : decode cX5_shots 15 = .ok (.aaload, 1) := by decide +kernel
theorem dX5_shots_16 : decode cX5_shots 16 = .ok (.astore_n 3, 1) := by decide +kernel
theorem dX5_shots_17 : decode cX5_shots 17 = .ok (.aload_n 0, 1) := by decide +kernel
theorem dX5_shots_18 : decode cX5_shots 18 = .ok (.getfield 25, 3) := by decide +kernel
theorem dX5_shots_21 : decode cX5_shots 21 = .ok (.iload_n 2, 1) := by decide +kernel
theorem dX5_shots_22 : decode cX5_shots 22 = .ok (.invokevirtual 145, 3) := by decide +kernel
theorem dX5_shots_25 : decode cX5_shots 25 = .ok (.istore 4, 2) := by decide +kernel
theorem dX5_shots_27 : decode cX5_shots 27 = .ok (.aload_n 3, 1) := by decide +kernel
theorem dX5_shots_28 : decode cX5_shots 28 = .ok (.invokevirtual 105, 3) := by decide +kernel
theorem dX5_shots_31 : decode cX5_shots 31 = .ok (.istore 5, 2) := by decide +kernel
theorem dX5_shots_33 : decode cX5_shots 33 = .ok (.aload_n 3, 1) := by decide +kernel
theorem dX5_shots_34 : decode cX5_shots 34 = .ok (.iload 4, 2) := by decide +kernel
theorem dX5_shots_36 : decode cX5_shots 36 = .ok (.iload 5, 2) := by decide +kernel
theorem dX5_shots_38 : decode cX5_shots 38 = .ok (.invokevirtual 141, 3) := by decide +kernel
theorem dX5_shots_41 : decode cX5_shots 41 = .ok (.ifCond .eq 25, 3) := by decide +kernel
theorem dX5_shots_44 : decode cX5_shots 44 = .ok (.aload_n 3, 1) := by decide +kernel
theorem dX5_shots_45 : decode cX5_shots 45 = .ok (.iload 4, 2) := by decide +kernel
theorem dX5_shots_47 : decode cX5_shots 47 = .ok (.aload_n 3, 1) := by decide +kernel
theorem dX5_shots_48 : decode cX5_shots 48 = .ok (.iload 5, 2) := by decide +kernel
theorem dX5_shots_50 : decode cX5_shots 50 = .ok (.invokevirtual 118, 3) := by decide +kernel
theorem dX5_shots_53 : decode cX5_shots 53 = .ok (.iconst 1, 1) := by decide +kernel
theorem dX5_shots_54 : decode cX5_shots 54 = .ok (.iadd, 1) := by decide +kernel
theorem dX5_shots_55 : decode cX5_shots 55 = .ok (.invokevirtual 141, 3) := by decide +kernel
theorem dX5_shots_58 : decode cX5_shots 58 = .ok (.ifCond .eq 5, 3) := by decide +kernel
theorem dX5_shots_61 : decode cX5_shots 61 = .ok (.iconst (-1), 1) := by decide +kernel
theorem dX5_shots_62 : decode cX5_shots 62 = .ok (.ireturn, 1) := by decide +kernel
theorem dX5_shots_63 : decode cX5_shots 63 = .ok (.iinc 1 1, 3) := by decide +kernel
theorem dX5_shots_66 : decode cX5_shots 66 = .ok (.iinc 2 1, 3) := by decide +kernel
theorem dX5_shots_69 : decode cX5_shots 69 = .ok (.goto (-65), 3) := by decide +kernel
theorem dX5_shots_72 : decode cX5_shots 72 = .ok (.iload_n 1, 1) := by decide +kernel
theorem dX5_shots_73 : decode cX5_shots 73 = .ok (.ireturn, 1) := by decide +kernel
theorem dX5_pit_0 : decode cX5_pit 0 = .ok (.aload_n 0, 1) := by decide +kernel
theorem dX5_pit_1 : decode cX5_pit 1 = .ok (.getfield 32, 3) := by decide +kernel
theorem dX5_pit_4 : decode cX5_pit 4 = .ok (.invokevirtual 148, 3) := by decide +kernel
theorem dX5_pit_7 : decode cX5_pit 7 = .ok (.ireturn, 1) := by decide +kernel
theorem dX5_seen_0 : decode cX5_seen 0 = .ok (.aload_n 0, 1) := by decide +kernel
theorem dX5_seen_1 : decode cX5_seen 1 = .ok (.getfield 32, 3) := by decide +kernel
theorem dX5_seen_4 : decode cX5_seen 4 = .ok (.iload_n 1, 1) := by decide +kernel
theorem dX5_seen_5 : decode cX5_seen 5 = .ok (.iload_n 2, 1) := by decide +kernel
theorem dX5_seen_6 : decode cX5_seen 6 = .ok (.invokevirtual 151, 3) := by decide +kernel
theorem dX5_seen_9 : decode cX5_seen 9 = .ok (.ireturn, 1) := by decide +kernel
theorem dX5_matched_0 : decode cX5_matched 0 = .ok (.iload_n 1, 1) := by decide +kernel
theorem dX5_matched_1 : decode cX5_matched 1 = .ok (.invokestatic 83, 3) := by decide +kernel
theorem dX5_matched_4 : decode cX5_matched 4 = .ok (.ifCond .eq 19, 3) := by decide +kernel
theorem dX5_matched_7 : decode cX5_matched 7 = .ok (.aload_n 0, 1) := by decide +kernel
theorem dX5_matched_8 : decode cX5_matched 8 = .ok (.getfield 32, 3) := by decide +kernel
theorem dX5_matched_11 : decode cX5_matched 11 = .ok (.aload_n 0, 1) := by decide +kernel
theorem dX5_matched_12 : decode cX5_matched 12 = .ok (.getfield 11, 3) := by decide +kernel
theorem dX5_matched_15 : decode cX5_matched 15 = .ok (.iload_n 1, 1) := by decide +kernel
theorem dX5_matched_16 : decode cX5_matched 16 = .ok (.aaload, 1) := by decide +kernel
theorem dX5_matched_17 : decode cX5_matched 17 = .ok (.invokevirtual 154, 3) := by decide +kernel
theorem dX5_matched_20 : decode cX5_matched 20 = .ok (.goto 4, 3) := by decide +kernel
theorem dX5_matched_23 : decode cX5_matched 23 = .ok (.iconst (-1), 1) := by decide +kernel
theorem dX5_matched_24 : decode cX5_matched 24 = .ok (.ireturn, 1) := by decide +kernel
theorem dX5_nearest_0 : decode cX5_nearest 0 = .ok (.iconst 0, 1) := by decide +kernel
theorem dX5_nearest_1 : decode cX5_nearest 1 = .ok (.istore_n 1, 1) := by decide +kernel
theorem dX5_nearest_2 : decode cX5_nearest 2 = .ok (.aload_n 0, 1) := by decide +kernel
theorem dX5_nearest_3 : decode cX5_nearest 3 = .ok (.getfield 32, 3) := by decide +kernel
theorem dX5_nearest_6 : decode cX5_nearest 6 = .ok (.aload_n 0, 1) := by decide +kernel
theorem dX5_nearest_7 : decode cX5_nearest 7 = .ok (.getfield 11, 3) := by decide +kernel
theorem dX5_nearest_10 : decode cX5_nearest 10 = .ok (.iconst 0, 1) := by decide +kernel
theorem dX5_nearest_11 : decode cX5_nearest 11 = .ok (.aaload, 1) := by decide +kernel
theorem dX5_nearest_12 : decode cX5_nearest 12 = .ok (.invokevirtual 154, 3) := by decide +kernel
theorem dX5_nearest_15 : decode cX5_nearest 15 = .ok (.istore_n 2, 1) := by decide +kernel
theorem dX5_nearest_16 : decode cX5_nearest 16 = .ok (.iconst 1, 1) := by decide +kernel
theorem dX5_nearest_17 : decode cX5_nearest 17 = .ok (.istore_n 3, 1) := by decide +kernel
theorem dX5_nearest_18 : decode cX5_nearest 18 = .ok (.iload_n 3, 1) := by decide +kernel
theorem dX5_nearest_19 : decode cX5_nearest 19 = .ok (.bipush 12, 2) := by decide +kernel
theorem dX5_nearest_21 : decode cX5_nearest 21 = .ok (.if_icmp .ge 35, 3) := by decide +kernel
theorem dX5_nearest_24 : decode cX5_nearest 24 = .ok (.aload_n 0, 1) := by decide +kernel
theorem dX5_nearest_25 : decode cX5_nearest 25 = .ok (.getfield 32, 3) := by decide +kernel
theorem dX5_nearest_28 : decode cX5_nearest 28 = .ok (.aload_n 0, 1) := by decide +kernel
theorem dX5_nearest_29 : decode cX5_nearest 29 = .ok (.getfield 11, 3) := by decide +kernel
theorem dX5_nearest_32 : decode cX5_nearest 32 = .ok (.iload_n 3, 1) := by decide +kernel
theorem dX5_nearest_33 : decode cX5_nearest 33 = .ok (.aaload, 1) := by decide +kernel
theorem dX5_nearest_34 : decode cX5_nearest 34 = .ok (.invokevirtual 154, 3) := by decide +kernel
theorem dX5_nearest_37 : decode cX5_nearest 37 = .ok (.istore 4, 2) := by decide +kernel
theorem dX5_nearest_39 : decode cX5_nearest 39 = .ok (.iload 4, 2) := by decide +kernel
theorem dX5_nearest_41 : decode cX5_nearest 41 = .ok (.iload_n 2, 1) := by decide +kernel
theorem dX5_nearest_42 : decode cX5_nearest 42 = .ok (.if_icmp .ge 8, 3) := by decide +kernel
theorem dX5_nearest_45 : decode cX5_nearest 45 = .ok (.iload 4, 2) := by decide +kernel
theorem dX5_nearest_47 : decode cX5_nearest 47 = .ok (.istore_n 2, 1) := by decide +kernel
theorem dX5_nearest_48 : decode cX5_nearest 48 = .ok (.iload_n 3, 1) := by decide +kernel
theorem dX5_nearest_49 : decode cX5_nearest 49 = .ok (.istore_n 1, 1) := by decide +kernel
theorem dX5_nearest_50 : decode cX5_nearest 50 = .ok (.iinc 3 1, 3) := by decide +kernel
theorem dX5_nearest_53 : decode cX5_nearest 53 = .ok (.goto (-35), 3) := by decide +kernel
theorem dX5_nearest_56 : decode cX5_nearest 56 = .ok (.iload_n 1, 1) := by decide +kernel
theorem dX5_nearest_57 : decode cX5_nearest 57 = .ok (.ireturn, 1) := by decide +kernel
theorem dX5_watch_0 : decode cX5_watch 0 = .ok (.iload_n 1, 1) := by decide +kernel
theorem dX5_watch_1 : decode cX5_watch 1 = .ok (.invokestatic 83, 3) := by decide +kernel
theorem dX5_watch_4 : decode cX5_watch 4 = .ok (.ifCond .eq 13, 3) := by decide +kernel
theorem dX5_watch_7 : decode cX5_watch 7 = .ok (.aload_n 0, 1) := by decide +kernel
theorem dX5_watch_8 : decode cX5_watch 8 = .ok (.getfield 43, 3) := by decide +kernel
theorem dX5_watch_11 : decode cX5_watch 11 = .ok (.sipush 400, 3) := by decide +kernel
theorem dX5_watch_14 : decode cX5_watch 14 = .ok (.if_icmp .lt 5, 3) := by decide +kernel
theorem dX5_watch_17 : decode cX5_watch 17 = .ok (.iconst (-1), 1) := by decide +kernel
theorem dX5_watch_18 : decode cX5_watch 18 = .ok (.ireturn, 1) := by decide +kernel
theorem dX5_watch_19 : decode cX5_watch 19 = .ok (.aload_n 0, 1) := by decide +kernel
theorem dX5_watch_20 : decode cX5_watch 20 = .ok (.iload_n 1, 1) := by decide +kernel
theorem dX5_watch_21 : decode cX5_watch 21 = .ok (.invokevirtual 115, 3) := by decide +kernel
theorem dX5_watch_24 : decode cX5_watch 24 = .ok (.istore_n 2, 1) := by decide +kernel
theorem dX5_watch_25 : decode cX5_watch 25 = .ok (.aload_n 0, 1) := by decide +kernel
theorem dX5_watch_26 : decode cX5_watch 26 = .ok (.getfield 39, 3) := by decide +kernel
theorem dX5_watch_29 : decode cX5_watch 29 = .ok (.iload_n 1, 1) := by decide +kernel
theorem dX5_watch_30 : decode cX5_watch 30 = .ok (.iload_n 2, 1) := by decide +kernel
theorem dX5_watch_31 : decode cX5_watch 31 = .ok (.invokevirtual 158, 3) := by decide +kernel
theorem dX5_watch_34 : decode cX5_watch 34 = .ok (.iload_n 2, 1) := by decide +kernel
theorem dX5_watch_35 : decode cX5_watch 35 = .ok (.ireturn, 1) := by decide +kernel
theorem dX5_right_0 : decode cX5_right 0 = .ok (.aload_n 0, 1) := by decide +kernel
theorem dX5_right_1 : decode cX5_right 1 = .ok (.getfield 39, 3) := by decide +kernel
theorem dX5_right_4 : decode cX5_right 4 = .ok (.iload_n 1, 1) := by decide +kernel
theorem dX5_right_5 : decode cX5_right 5 = .ok (.invokevirtual 161, 3) := by decide +kernel
theorem dX5_right_8 : decode cX5_right 8 = .ok (.ireturn, 1) := by decide +kernel
theorem dX5_count_0 : decode cX5_count 0 = .ok (.iload_n 1, 1) := by decide +kernel
theorem dX5_count_1 : decode cX5_count 1 = .ok (.tableswitch 93 0 7 #[47, 52, 57, 62, 67, 72, 77, 85], 47) := by decide +kernel
theorem dX5_count_48 : decode cX5_count 48 = .ok (.aload_n 0, 1) := by decide +kernel
theorem dX5_count_49 : decode cX5_count 49 = .ok (.getfield 43, 3) := by decide +kernel
theorem dX5_count_52 : decode cX5_count 52 = .ok (.ireturn, 1) := by decide +kernel
theorem dX5_count_53 : decode cX5_count 53 = .ok (.aload_n 0, 1) := by decide +kernel
theorem dX5_count_54 : decode cX5_count 54 = .ok (.invokevirtual 164, 3) := by decide +kernel
theorem dX5_count_57 : decode cX5_count 57 = .ok (.ireturn, 1) := by decide +kernel
theorem dX5_count_58 : decode cX5_count 58 = .ok (.aload_n 0, 1) := by decide +kernel
theorem dX5_count_59 : decode cX5_count 59 = .ok (.getfield 47, 3) := by decide +kernel
theorem dX5_count_62 : decode cX5_count 62 = .ok (.ireturn, 1) := by decide +kernel
theorem dX5_count_63 : decode cX5_count 63 = .ok (.aload_n 0, 1) := by decide +kernel
theorem dX5_count_64 : decode cX5_count 64 = .ok (.getfield 50, 3) := by decide +kernel
theorem dX5_count_67 : decode cX5_count 67 = .ok (.ireturn, 1) := by decide +kernel
theorem dX5_count_68 : decode cX5_count 68 = .ok (.aload_n 0, 1) := by decide +kernel
theorem dX5_count_69 : decode cX5_count 69 = .ok (.getfield 53, 3) := by decide +kernel
theorem dX5_count_72 : decode cX5_count 72 = .ok (.ireturn, 1) := by decide +kernel
theorem dX5_count_73 : decode cX5_count 73 = .ok (.aload_n 0, 1) := by decide +kernel
theorem dX5_count_74 : decode cX5_count 74 = .ok (.invokevirtual 167, 3) := by decide +kernel
theorem dX5_count_77 : decode cX5_count 77 = .ok (.ireturn, 1) := by decide +kernel
theorem dX5_count_78 : decode cX5_count 78 = .ok (.aload_n 0, 1) := by decide +kernel
theorem dX5_count_79 : decode cX5_count 79 = .ok (.getfield 25, 3) := by decide +kernel
theorem dX5_count_82 : decode cX5_count 82 = .ok (.invokevirtual 132, 3) := by decide +kernel
theorem dX5_count_85 : decode cX5_count 85 = .ok (.ireturn, 1) := by decide +kernel
theorem dX5_count_86 : decode cX5_count 86 = .ok (.aload_n 0, 1) := by decide +kernel
theorem dX5_count_87 : decode cX5_count 87 = .ok (.getfield 32, 3) := by decide +kernel
theorem dX5_count_90 : decode cX5_count 90 = .ok (.invokevirtual 170, 3) := by decide +kernel
theorem dX5_count_93 : decode cX5_count 93 = .ok (.ireturn, 1) := by decide +kernel
theorem dX5_count_94 : decode cX5_count 94 = .ok (.iconst (-1), 1) := by decide +kernel
theorem dX5_count_95 : decode cX5_count 95 = .ok (.ireturn, 1) := by decide +kernel
theorem dX5_isHeight_0 : decode cX5_isHeight 0 = .ok (.iload_n 0, 1) := by decide +kernel
theorem dX5_isHeight_1 : decode cX5_isHeight 1 = .ok (.ifCond .lt 12, 3) := by decide +kernel
theorem dX5_isHeight_4 : decode cX5_isHeight 4 = .ok (.iload_n 0, 1) := by decide +kernel
theorem dX5_isHeight_5 : decode cX5_isHeight 5 = .ok (.iconst 3, 1) := by decide +kernel
theorem dX5_isHeight_6 : decode cX5_isHeight 6 = .ok (.if_icmp .ge 7, 3) := by decide +kernel
theorem dX5_isHeight_9 : decode cX5_isHeight 9 = .ok (.iconst 1, 1) := by decide +kernel
theorem dX5_isHeight_10 : decode cX5_isHeight 10 = .ok (.goto 4, 3) := by decide +kernel
theorem dX5_isHeight_13 : decode cX5_isHeight 13 = .ok (.iconst 0, 1) := by decide +kernel
theorem dX5_isHeight_14 : decode cX5_isHeight 14 = .ok (.ireturn, 1) := by decide +kernel
theorem dX5_isClass_0 : decode cX5_isClass 0 = .ok (.iload_n 0, 1) := by decide +kernel
theorem dX5_isClass_1 : decode cX5_isClass 1 = .ok (.ifCond .lt 13, 3) := by decide +kernel
theorem dX5_isClass_4 : decode cX5_isClass 4 = .ok (.iload_n 0, 1) := by decide +kernel
theorem dX5_isClass_5 : decode cX5_isClass 5 = .ok (.bipush 12, 2) := by decide +kernel
theorem dX5_isClass_7 : decode cX5_isClass 7 = .ok (.if_icmp .ge 7, 3) := by decide +kernel
theorem dX5_isClass_10 : decode cX5_isClass 10 = .ok (.iconst 1, 1) := by decide +kernel
theorem dX5_isClass_11 : decode cX5_isClass 11 = .ok (.goto 4, 3) := by decide +kernel
theorem dX5_isClass_14 : decode cX5_isClass 14 = .ok (.iconst 0, 1) := by decide +kernel
theorem dX5_isClass_15 : decode cX5_isClass 15 = .ok (.ireturn, 1) := by decide +kernel
theorem dX5_endDay_0 : decode cX5_endDay 0 = .ok (.aload_n 0, 1) := by decide +kernel
theorem dX5_endDay_1 : decode cX5_endDay 1 = .ok (.getfield 39, 3) := by decide +kernel
theorem dX5_endDay_4 : decode cX5_endDay 4 = .ok (.invokevirtual 173, 3) := by decide +kernel
theorem dX5_endDay_7 : decode cX5_endDay 7 = .ok (.aload_n 0, 1) := by decide +kernel
theorem dX5_endDay_8 : decode cX5_endDay 8 = .ok (.invokevirtual 176, 3) := by decide +kernel
theorem dX5_endDay_11 : decode cX5_endDay 11 = .ok (.aload_n 0, 1) := by decide +kernel
theorem dX5_endDay_12 : decode cX5_endDay 12 = .ok (.getfield 18, 3) := by decide +kernel
theorem dX5_endDay_15 : decode cX5_endDay 15 = .ok (.invokevirtual 179, 3) := by decide +kernel
theorem dX5_endDay_18 : decode cX5_endDay 18 = .ok (.ifCond .eq 7, 3) := by decide +kernel
theorem dX5_endDay_21 : decode cX5_endDay 21 = .ok (.aload_n 0, 1) := by decide +kernel
theorem dX5_endDay_22 : decode cX5_endDay 22 = .ok (.invokevirtual 183, 3) := by decide +kernel
theorem dX5_endDay_25 : decode cX5_endDay 25 = .ok (.aload_n 0, 1) := by decide +kernel
theorem dX5_endDay_26 : decode cX5_endDay 26 = .ok (.invokevirtual 186, 3) := by decide +kernel
theorem dX5_endDay_29 : decode cX5_endDay 29 = .ok (.aload_n 0, 1) := by decide +kernel
theorem dX5_endDay_30 : decode cX5_endDay 30 = .ok (.getfield 18, 3) := by decide +kernel
theorem dX5_endDay_33 : decode cX5_endDay 33 = .ok (.invokevirtual 189, 3) := by decide +kernel
theorem dX5_endDay_36 : decode cX5_endDay 36 = .ok (.aload_n 0, 1) := by decide +kernel
theorem dX5_endDay_37 : decode cX5_endDay 37 = .ok (.dup, 1) := by decide +kernel
theorem dX5_endDay_38 : decode cX5_endDay 38 = .ok (.getfield 43, 3) := by decide +kernel
theorem dX5_endDay_41 : decode cX5_endDay 41 = .ok (.iconst 1, 1) := by decide +kernel
theorem dX5_endDay_42 : decode cX5_endDay 42 = .ok (.iadd, 1) := by decide +kernel
theorem dX5_endDay_43 : decode cX5_endDay 43 = .ok (.putfield 43, 3) := by decide +kernel
theorem dX5_endDay_46 : decode cX5_endDay 46 = .ok (.return_, 1) := by decide +kernel
theorem dX5_letSnowFall_0 : decode cX5_letSnowFall 0 = .ok (.iconst 0, 1) := by decide +kernel
theorem dX5_letSnowFall_1 : decode cX5_letSnowFall 1 = .ok (.istore_n 1, 1) := by decide +kernel
theorem dX5_letSnowFall_2 : decode cX5_letSnowFall 2 = .ok (.iload_n 1, 1) := by decide +kernel
theorem dX5_letSnowFall_3 : decode cX5_letSnowFall 3 = .ok (.bipush 12, 2) := by decide +kernel
theorem dX5_letSnowFall_5 : decode cX5_letSnowFall 5 = .ok (.if_icmp .ge 49, 3) := by decide +kernel
theorem dX5_letSnowFall_8 : decode cX5_letSnowFall 8 = .ok (.aload_n 0, 1) := by decide +kernel
theorem dX5_letSnowFall_9 : decode cX5_letSnowFall 9 = .ok (.getfield 18, 3) := by decide +kernel
theorem dX5_letSnowFall_12 : decode cX5_letSnowFall 12 = .ok (.iload_n 1, 1) := by decide +kernel
theorem dX5_letSnowFall_13 : decode cX5_letSnowFall 13 = .ok (.iconst 4, 1) := by decide +kernel
theorem dX5_letSnowFall_14 : decode cX5_letSnowFall 14 = .ok (.idiv, 1) := by decide +kernel
theorem dX5_letSnowFall_15 : decode cX5_letSnowFall 15 = .ok (.invokevirtual 190, 3) := by decide +kernel
theorem dX5_letSnowFall_18 : decode cX5_letSnowFall 18 = .ok (.istore_n 2, 1) := by decide +kernel
theorem dX5_letSnowFall_19 : decode cX5_letSnowFall 19 = .ok (.aload_n 0, 1) := by decide +kernel
theorem dX5_letSnowFall_20 : decode cX5_letSnowFall 20 = .ok (.getfield 11, 3) := by decide +kernel
theorem dX5_letSnowFall_23 : decode cX5_letSnowFall 23 = .ok (.iload_n 1, 1) := by decide +kernel
theorem dX5_letSnowFall_24 : decode cX5_letSnowFall 24 = .ok (.aaload, 1) := by decide +kernel
theorem dX5_letSnowFall_25 : decode cX5_letSnowFall 25 = .ok (.invokevirtual 193, 3) := by decide +kernel
theorem dX5_letSnowFall_28 : decode cX5_letSnowFall 28 = .ok (.aload_n 0, 1) := by decide +kernel
theorem dX5_letSnowFall_29 : decode cX5_letSnowFall 29 = .ok (.getfield 11, 3) := by decide +kernel
theorem dX5_letSnowFall_32 : decode cX5_letSnowFall 32 = .ok (.iload_n 1, 1) := by decide +kernel
theorem dX5_letSnowFall_33 : decode cX5_letSnowFall 33 = .ok (.aaload, 1) := by decide +kernel
theorem dX5_letSnowFall_34 : decode cX5_letSnowFall 34 = .ok (.iload_n 2, 1) := by decide +kernel
theorem dX5_letSnowFall_35 : decode cX5_letSnowFall 35 = .ok (.invokevirtual 196, 3) := by decide +kernel
theorem dX5_letSnowFall_38 : decode cX5_letSnowFall 38 = .ok (.aload_n 0, 1) := by decide +kernel
theorem dX5_letSnowFall_39 : decode cX5_letSnowFall 39 = .ok (.dup, 1) := by decide +kernel
theorem dX5_letSnowFall_40 : decode cX5_letSnowFall 40 = .ok (.getfield 47, 3) := by decide +kernel
theorem dX5_letSnowFall_43 : decode cX5_letSnowFall 43 = .ok (.iload_n 2, 1) := by decide +kernel
theorem dX5_letSnowFall_44 : decode cX5_letSnowFall 44 = .ok (.iadd, 1) := by decide +kernel
theorem dX5_letSnowFall_45 : decode cX5_letSnowFall 45 = .ok (.putfield 47, 3) := by decide +kernel
theorem dX5_letSnowFall_48 : decode cX5_letSnowFall 48 = .ok (.iinc 1 1, 3) := by decide +kernel
theorem dX5_letSnowFall_51 : decode cX5_letSnowFall 51 = .ok (.goto (-49), 3) := by decide +kernel
theorem dX5_letSnowFall_54 : decode cX5_letSnowFall 54 = .ok (.return_, 1) := by decide +kernel
theorem dX5_letSnowDrift_0 : decode cX5_letSnowDrift 0 = .ok (.aload_n 0, 1) := by decide +kernel
theorem dX5_letSnowDrift_1 : decode cX5_letSnowDrift 1 = .ok (.getfield 18, 3) := by decide +kernel
theorem dX5_letSnowDrift_4 : decode cX5_letSnowDrift 4 = .ok (.invokevirtual 199, 3) := by decide +kernel
theorem dX5_letSnowDrift_7 : decode cX5_letSnowDrift 7 = .ok (.istore_n 1, 1) := by decide +kernel
theorem dX5_letSnowDrift_8 : decode cX5_letSnowDrift 8 = .ok (.iload_n 1, 1) := by decide +kernel
theorem dX5_letSnowDrift_9 : decode cX5_letSnowDrift 9 = .ok (.iconst 2, 1) := by decide +kernel
theorem dX5_letSnowDrift_10 : decode cX5_letSnowDrift 10 = .ok (.iadd, 1) := by decide +kernel
theorem dX5_letSnowDrift_11 : decode cX5_letSnowDrift 11 = .ok (.iconst 4, 1) := by decide +kernel
theorem dX5_letSnowDrift_12 : decode cX5_letSnowDrift 12 = .ok (.irem, 1) := by decide +kernel
theorem dX5_letSnowDrift_13 : decode cX5_letSnowDrift 13 = .ok (.istore_n 2, 1) := by decide +kernel
theorem dX5_letSnowDrift_14 : decode cX5_letSnowDrift 14 = .ok (.iconst 0, 1) := by decide +kernel
theorem dX5_letSnowDrift_15 : decode cX5_letSnowDrift 15 = .ok (.istore_n 3, 1) := by decide +kernel
theorem dX5_letSnowDrift_16 : decode cX5_letSnowDrift 16 = .ok (.iload_n 3, 1) := by decide +kernel
theorem dX5_letSnowDrift_17 : decode cX5_letSnowDrift 17 = .ok (.iconst 3, 1) := by decide +kernel
theorem dX5_letSnowDrift_18 : decode cX5_letSnowDrift 18 = .ok (.if_icmp .ge 46, 3) := by decide +kernel
theorem dX5_letSnowDrift_21 : decode cX5_letSnowDrift 21 = .ok (.aload_n 0, 1) := by decide +kernel
theorem dX5_letSnowDrift_22 : decode cX5_letSnowDrift 22 = .ok (.getfield 11, 3) := by decide +kernel
theorem dX5_letSnowDrift_25 : decode cX5_letSnowDrift 25 = .ok (.iload_n 3, 1) := by decide +kernel
theorem dX5_letSnowDrift_26 : decode cX5_letSnowDrift 26 = .ok (.iconst 4, 1) := by decide +kernel
theorem dX5_letSnowDrift_27 : decode cX5_letSnowDrift 27 = .ok (.imul, 1) := by decide +kernel
theorem dX5_letSnowDrift_28 : decode cX5_letSnowDrift 28 = .ok (.iload_n 1, 1) := by decide +kernel
theorem dX5_letSnowDrift_29 : decode cX5_letSnowDrift 29 = .ok (.iadd, 1) := by decide +kernel
theorem dX5_letSnowDrift_30 : decode cX5_letSnowDrift 30 = .ok (.aaload, 1) := by decide +kernel
theorem dX5_letSnowDrift_31 : decode cX5_letSnowDrift 31 = .ok (.aload_n 0, 1) := by decide +kernel
theorem dX5_letSnowDrift_32 : decode cX5_letSnowDrift 32 = .ok (.getfield 18, 3) := by decide +kernel
theorem dX5_letSnowDrift_35 : decode cX5_letSnowDrift 35 = .ok (.invokevirtual 202, 3) := by decide +kernel
theorem dX5_letSnowDrift_38 : decode cX5_letSnowDrift 38 = .ok (.invokevirtual 205, 3) := by decide +kernel
theorem dX5_letSnowDrift_41 : decode cX5_letSnowDrift 41 = .ok (.istore 4, 2) := by decide +kernel
theorem dX5_letSnowDrift_43 : decode cX5_letSnowDrift 43 = .ok (.aload_n 0, 1) := by decide +kernel
theorem dX5_letSnowDrift_44 : decode cX5_letSnowDrift 44 = .ok (.getfield 11, 3) := by decide +kernel
theorem dX5_letSnowDrift_47 : decode cX5_letSnowDrift 47 = .ok (.iload_n 3, 1) := by decide +kernel
theorem dX5_letSnowDrift_48 : decode cX5_letSnowDrift 48 = .ok (.iconst 4, 1) := by decide +kernel
theorem dX5_letSnowDrift_49 : decode cX5_letSnowDrift 49 = .ok (.imul, 1) := by decide +kernel
theorem dX5_letSnowDrift_50 : decode cX5_letSnowDrift 50 = .ok (.iload_n 2, 1) := by decide +kernel
theorem dX5_letSnowDrift_51 : decode cX5_letSnowDrift 51 = .ok (.iadd, 1) := by decide +kernel
theorem dX5_letSnowDrift_52 : decode cX5_letSnowDrift 52 = .ok (.aaload, 1) := by decide +kernel
theorem dX5_letSnowDrift_53 : decode cX5_letSnowDrift 53 = .ok (.iload 4, 2) := by decide +kernel
theorem dX5_letSnowDrift_55 : decode cX5_letSnowDrift 55 = .ok (.invokevirtual 208, 3) := by decide +kernel
theorem dX5_letSnowDrift_58 : decode cX5_letSnowDrift 58 = .ok (.iinc 3 1, 3) := by decide +kernel
theorem dX5_letSnowDrift_61 : decode cX5_letSnowDrift 61 = .ok (.goto (-45), 3) := by decide +kernel
theorem dX5_letSnowDrift_64 : decode cX5_letSnowDrift 64 = .ok (.return_, 1) := by decide +kernel
theorem dX5_letSnowChange_0 : decode cX5_letSnowChange 0 = .ok (.iconst 0, 1) := by decide +kernel
theorem dX5_letSnowChange_1 : decode cX5_letSnowChange 1 = .ok (.istore_n 1, 1) := by decide +kernel
theorem dX5_letSnowChange_2 : decode cX5_letSnowChange 2 = .ok (.iload_n 1, 1) := by decide +kernel
theorem dX5_letSnowChange_3 : decode cX5_letSnowChange 3 = .ok (.bipush 12, 2) := by decide +kernel
theorem dX5_letSnowChange_5 : decode cX5_letSnowChange 5 = .ok (.if_icmp .ge 49, 3) := by decide +kernel
theorem dX5_letSnowChange_8 : decode cX5_letSnowChange 8 = .ok (.aload_n 0, 1) := by decide +kernel
theorem dX5_letSnowChange_9 : decode cX5_letSnowChange 9 = .ok (.getfield 18, 3) := by decide +kernel
theorem dX5_letSnowChange_12 : decode cX5_letSnowChange 12 = .ok (.iload_n 1, 1) := by decide +kernel
theorem dX5_letSnowChange_13 : decode cX5_letSnowChange 13 = .ok (.iconst 4, 1) := by decide +kernel
theorem dX5_letSnowChange_14 : decode cX5_letSnowChange 14 = .ok (.idiv, 1) := by decide +kernel
theorem dX5_letSnowChange_15 : decode cX5_letSnowChange 15 = .ok (.invokevirtual 211, 3) := by decide +kernel
theorem dX5_letSnowChange_18 : decode cX5_letSnowChange 18 = .ok (.istore_n 2, 1) := by decide +kernel
theorem dX5_letSnowChange_19 : decode cX5_letSnowChange 19 = .ok (.aload_n 0, 1) := by decide +kernel
theorem dX5_letSnowChange_20 : decode cX5_letSnowChange 20 = .ok (.getfield 11, 3) := by decide +kernel
theorem dX5_letSnowChange_23 : decode cX5_letSnowChange 23 = .ok (.iload_n 1, 1) := by decide +kernel
theorem dX5_letSnowChange_24 : decode cX5_letSnowChange 24 = .ok (.aaload, 1) := by decide +kernel
theorem dX5_letSnowChange_25 : decode cX5_letSnowChange 25 = .ok (.iload_n 2, 1) := by decide +kernel
theorem dX5_letSnowChange_26 : decode cX5_letSnowChange 26 = .ok (.invokevirtual 214, 3) := by decide +kernel
theorem dX5_letSnowChange_29 : decode cX5_letSnowChange 29 = .ok (.aload_n 0, 1) := by decide +kernel
theorem dX5_letSnowChange_30 : decode cX5_letSnowChange 30 = .ok (.dup, 1) := by decide +kernel
theorem dX5_letSnowChange_31 : decode cX5_letSnowChange 31 = .ok (.getfield 50, 3) := by decide +kernel
theorem dX5_letSnowChange_34 : decode cX5_letSnowChange 34 = .ok (.aload_n 0, 1) := by decide +kernel
theorem dX5_letSnowChange_35 : decode cX5_letSnowChange 35 = .ok (.getfield 11, 3) := by decide +kernel
theorem dX5_letSnowChange_38 : decode cX5_letSnowChange 38 = .ok (.iload_n 1, 1) := by decide +kernel
theorem dX5_letSnowChange_39 : decode cX5_letSnowChange 39 = .ok (.aaload, 1) := by decide +kernel
theorem dX5_letSnowChange_40 : decode cX5_letSnowChange 40 = .ok (.iload_n 2, 1) := by decide +kernel
theorem dX5_letSnowChange_41 : decode cX5_letSnowChange 41 = .ok (.invokevirtual 217, 3) := by decide +kernel
theorem dX5_letSnowChange_44 : decode cX5_letSnowChange 44 = .ok (.iadd, 1) := by decide +kernel
theorem dX5_letSnowChange_45 : decode cX5_letSnowChange 45 = .ok (.putfield 50, 3) := by decide +kernel
theorem dX5_letSnowChange_48 : decode cX5_letSnowChange 48 = .ok (.iinc 1 1, 3) := by decide +kernel
theorem dX5_letSnowChange_51 : decode cX5_letSnowChange 51 = .ok (.goto (-49), 3) := by decide +kernel
theorem dX5_letSnowChange_54 : decode cX5_letSnowChange 54 = .ok (.return_, 1) := by decide +kernel
theorem dX5_takeAbove_0 : decode cX5_takeAbove 0 = .ok (.aload_n 0, 1) := by decide +kernel
theorem dX5_takeAbove_1 : decode cX5_takeAbove 1 = .ok (.getfield 11, 3) := by decide +kernel
theorem dX5_takeAbove_4 : decode cX5_takeAbove 4 = .ok (.iload_n 1, 1) := by decide +kernel
theorem dX5_takeAbove_5 : decode cX5_takeAbove 5 = .ok (.aaload, 1) := by decide +kernel
theorem dX5_takeAbove_6 : decode cX5_takeAbove 6 = .ok (.iload_n 2, 1) := by decide +kernel
theorem dX5_takeAbove_7 : decode cX5_takeAbove 7 = .ok (.invokevirtual 220, 3) := by decide +kernel
theorem dX5_takeAbove_10 : decode cX5_takeAbove 10 = .ok (.istore_n 3, 1) := by decide +kernel
theorem dX5_takeAbove_11 : decode cX5_takeAbove 11 = .ok (.aload_n 0, 1) := by decide +kernel
theorem dX5_takeAbove_12 : decode cX5_takeAbove 12 = .ok (.dup, 1) := by decide +kernel
theorem dX5_takeAbove_13 : decode cX5_takeAbove 13 = .ok (.getfield 53, 3) := by decide +kernel
theorem dX5_takeAbove_16 : decode cX5_takeAbove 16 = .ok (.iload_n 3, 1) := by decide +kernel
theorem dX5_takeAbove_17 : decode cX5_takeAbove 17 = .ok (.iadd, 1) := by decide +kernel
theorem dX5_takeAbove_18 : decode cX5_takeAbove 18 = .ok (.putfield 53, 3) := by decide +kernel
theorem dX5_takeAbove_21 : decode cX5_takeAbove 21 = .ok (.iload_n 3, 1) := by decide +kernel
theorem dX5_takeAbove_22 : decode cX5_takeAbove 22 = .ok (.ireturn, 1) := by decide +kernel
theorem dX5_dangerOf_0 : decode cX5_dangerOf 0 = .ok (.aload_n 0, 1) := by decide +kernel
theorem dX5_dangerOf_1 : decode cX5_dangerOf 1 = .ok (.getfield 11, 3) := by decide +kernel
theorem dX5_dangerOf_4 : decode cX5_dangerOf 4 = .ok (.iload_n 1, 1) := by decide +kernel
theorem dX5_dangerOf_5 : decode cX5_dangerOf 5 = .ok (.aaload, 1) := by decide +kernel
theorem dX5_dangerOf_6 : decode cX5_dangerOf 6 = .ok (.astore_n 2, 1) := by decide +kernel
theorem dX5_dangerOf_7 : decode cX5_dangerOf 7 = .ok (.aload_n 2, 1) := by decide +kernel
theorem dX5_dangerOf_8 : decode cX5_dangerOf 8 = .ok (.aload_n 2, 1) := by decide +kernel
theorem dX5_dangerOf_9 : decode cX5_dangerOf 9 = .ok (.invokevirtual 105, 3) := by decide +kernel
theorem dX5_dangerOf_12 : decode cX5_dangerOf 12 = .ok (.invokevirtual 109, 3) := by decide +kernel
theorem dX5_dangerOf_15 : decode cX5_dangerOf 15 = .ok (.istore_n 3, 1) := by decide +kernel
theorem dX5_dangerOf_16 : decode cX5_dangerOf 16 = .ok (.iload_n 3, 1) := by decide +kernel
theorem dX5_dangerOf_17 : decode cX5_dangerOf 17 = .ok (.ifCond .ne 5, 3) := by decide +kernel
theorem dX5_dangerOf_20 : decode cX5_dangerOf 20 = .ok (.iconst 1, 1) := by decide +kernel
theorem dX5_dangerOf_21 : decode cX5_dangerOf 21 = .ok (.ireturn, 1) := by decide +kernel
theorem dX5_dangerOf_22 : decode cX5_dangerOf 22 = .ok (.iconst 1, 1) := by decide +kernel
theorem dX5_dangerOf_23 : decode cX5_dangerOf 23 = .ok (.iload_n 3, 1) := by decide +kernel
theorem dX5_dangerOf_24 : decode cX5_dangerOf 24 = .ok (.iadd, 1) := by decide +kernel
theorem dX5_dangerOf_25 : decode cX5_dangerOf 25 = .ok (.aload_n 0, 1) := by decide +kernel
theorem dX5_dangerOf_26 : decode cX5_dangerOf 26 = .ok (.iload_n 1, 1) := by decide +kernel
theorem dX5_dangerOf_27 : decode cX5_dangerOf 27 = .ok (.iconst 4, 1) := by decide +kernel
theorem dX5_dangerOf_28 : decode cX5_dangerOf 28 = .ok (.idiv, 1) := by decide +kernel
theorem dX5_dangerOf_29 : decode cX5_dangerOf 29 = .ok (.invokevirtual 223, 3) := by decide +kernel
theorem dX5_dangerOf_32 : decode cX5_dangerOf 32 = .ok (.iadd, 1) := by decide +kernel
theorem dX5_dangerOf_33 : decode cX5_dangerOf 33 = .ok (.aload_n 2, 1) := by decide +kernel
theorem dX5_dangerOf_34 : decode cX5_dangerOf 34 = .ok (.aload_n 2, 1) := by decide +kernel
theorem dX5_dangerOf_35 : decode cX5_dangerOf 35 = .ok (.invokevirtual 105, 3) := by decide +kernel
theorem dX5_dangerOf_38 : decode cX5_dangerOf 38 = .ok (.invokevirtual 112, 3) := by decide +kernel
theorem dX5_dangerOf_41 : decode cX5_dangerOf 41 = .ok (.iadd, 1) := by decide +kernel
theorem dX5_dangerOf_42 : decode cX5_dangerOf 42 = .ok (.iconst 1, 1) := by decide +kernel
theorem dX5_dangerOf_43 : decode cX5_dangerOf 43 = .ok (.isub, 1) := by decide +kernel
theorem dX5_dangerOf_44 : decode cX5_dangerOf 44 = .ok (.istore 4, 2) := by decide +kernel
theorem dX5_dangerOf_46 : decode cX5_dangerOf 46 = .ok (.iconst 1, 1) := by decide +kernel
theorem dX5_dangerOf_47 : decode cX5_dangerOf 47 = .ok (.iconst 5, 1) := by decide +kernel
theorem dX5_dangerOf_48 : decode cX5_dangerOf 48 = .ok (.iload 4, 2) := by decide +kernel
theorem dX5_dangerOf_50 : decode cX5_dangerOf 50 = .ok (.invokestatic 226, 3) := by decide +kernel
theorem dX5_dangerOf_53 : decode cX5_dangerOf 53 = .ok (.invokestatic 231, 3) := by decide +kernel
theorem dX5_dangerOf_56 : decode cX5_dangerOf 56 = .ok (.ireturn, 1) := by decide +kernel
theorem dX5_spreadAt_0 : decode cX5_spreadAt 0 = .ok (.iconst 0, 1) := by decide +kernel
theorem dX5_spreadAt_1 : decode cX5_spreadAt 1 = .ok (.istore_n 2, 1) := by decide +kernel
theorem dX5_spreadAt_2 : decode cX5_spreadAt 2 = .ok (.iconst 0, 1) := by decide +kernel
theorem dX5_spreadAt_3 : decode cX5_spreadAt 3 = .ok (.istore_n 3, 1) := by decide +kernel
theorem dX5_spreadAt_4 : decode cX5_spreadAt 4 = .ok (.iload_n 3, 1) := by decide +kernel
theorem dX5_spreadAt_5 : decode cX5_spreadAt 5 = .ok (.iconst 4, 1) := by decide +kernel
theorem dX5_spreadAt_6 : decode cX5_spreadAt 6 = .ok (.if_icmp .ge 38, 3) := by decide +kernel
theorem dX5_spreadAt_9 : decode cX5_spreadAt 9 = .ok (.aload_n 0, 1) := by decide +kernel
theorem dX5_spreadAt_10 : decode cX5_spreadAt 10 = .ok (.getfield 11, 3) := by decide +kernel
theorem dX5_spreadAt_13 : decode cX5_spreadAt 13 = .ok (.iload_n 1, 1) := by decide +kernel
theorem dX5_spreadAt_14 : decode cX5_spreadAt 14 = .ok (.iconst 4, 1) := by decide +kernel
theorem dX5_spreadAt_15 : decode cX5_spreadAt 15 = .ok (.imul, 1) := by decide +kernel
theorem dX5_spreadAt_16 : decode cX5_spreadAt 16 = .ok (.iload_n 3, 1) := by decide +kernel
theorem dX5_spreadAt_17 : decode cX5_spreadAt 17 = .ok (.iadd, 1) := by decide +kernel
theorem dX5_spreadAt_18 : decode cX5_spreadAt 18 = .ok (.aaload, 1) := by decide +kernel
theorem dX5_spreadAt_19 : decode cX5_spreadAt 19 = .ok (.astore 4, 2) := by decide +kernel
theorem dX5_spreadAt_21 : decode cX5_spreadAt 21 = .ok (.aload 4, 2) := by decide +kernel
theorem dX5_spreadAt_23 : decode cX5_spreadAt 23 = .ok (.aload 4, 2) := by decide +kernel
theorem dX5_spreadAt_25 : decode cX5_spreadAt 25 = .ok (.invokevirtual 105, 3) := by decide +kernel
theorem dX5_spreadAt_28 : decode cX5_spreadAt 28 = .ok (.invokevirtual 109, 3) := by decide +kernel
theorem dX5_spreadAt_31 : decode cX5_spreadAt 31 = .ok (.iconst 2, 1) := by decide +kernel
theorem dX5_spreadAt_32 : decode cX5_spreadAt 32 = .ok (.if_icmp .lt 6, 3) := by decide +kernel
theorem dX5_spreadAt_35 : decode cX5_spreadAt 35 = .ok (.iinc 2 1, 3) := by decide +kernel
theorem dX5_spreadAt_38 : decode cX5_spreadAt 38 = .ok (.iinc 3 1, 3) := by decide +kernel
theorem dX5_spreadAt_41 : decode cX5_spreadAt 41 = .ok (.goto (-37), 3) := by decide +kernel
theorem dX5_spreadAt_44 : decode cX5_spreadAt 44 = .ok (.iload_n 2, 1) := by decide +kernel
theorem dX5_spreadAt_45 : decode cX5_spreadAt 45 = .ok (.iconst 2, 1) := by decide +kernel
theorem dX5_spreadAt_46 : decode cX5_spreadAt 46 = .ok (.if_icmp .lt 7, 3) := by decide +kernel
theorem dX5_spreadAt_49 : decode cX5_spreadAt 49 = .ok (.iconst 1, 1) := by decide +kernel
theorem dX5_spreadAt_50 : decode cX5_spreadAt 50 = .ok (.goto 4, 3) := by decide +kernel
theorem dX5_spreadAt_53 : decode cX5_spreadAt 53 = .ok (.iconst 0, 1) := by decide +kernel
theorem dX5_spreadAt_54 : decode cX5_spreadAt 54 = .ok (.ireturn, 1) := by decide +kernel
theorem dX5_greatestDanger_0 : decode cX5_greatestDanger 0 = .ok (.iconst 1, 1) := by decide +kernel
theorem dX5_greatestDanger_1 : decode cX5_greatestDanger 1 = .ok (.istore_n 1, 1) := by decide +kernel
theorem dX5_greatestDanger_2 : decode cX5_greatestDanger 2 = .ok (.iconst 0, 1) := by decide +kernel
theorem dX5_greatestDanger_3 : decode cX5_greatestDanger 3 = .ok (.istore_n 2, 1) := by decide +kernel
theorem dX5_greatestDanger_4 : decode cX5_greatestDanger 4 = .ok (.iload_n 2, 1) := by decide +kernel
theorem dX5_greatestDanger_5 : decode cX5_greatestDanger 5 = .ok (.bipush 12, 2) := by decide +kernel
theorem dX5_greatestDanger_7 : decode cX5_greatestDanger 7 = .ok (.if_icmp .ge 19, 3) := by decide +kernel
theorem dX5_greatestDanger_10 : decode cX5_greatestDanger 10 = .ok (.iload_n 1, 1) := by decide +kernel
theorem dX5_greatestDanger_11 : decode cX5_greatestDanger 11 = .ok (.aload_n 0, 1) := by decide +kernel
theorem dX5_greatestDanger_12 : decode cX5_greatestDanger 12 = .ok (.iload_n 2, 1) := by decide +kernel
theorem dX5_greatestDanger_13 : decode cX5_greatestDanger 13 = .ok (.invokevirtual 115, 3) := by decide +kernel
theorem dX5_greatestDanger_16 : decode cX5_greatestDanger 16 = .ok (.invokestatic 231, 3) := by decide +kernel
theorem dX5_greatestDanger_19 : decode cX5_greatestDanger 19 = .ok (.istore_n 1, 1) := by decide +kernel
theorem dX5_greatestDanger_20 : decode cX5_greatestDanger 20 = .ok (.iinc 2 1, 3) := by decide +kernel
theorem dX5_greatestDanger_23 : decode cX5_greatestDanger 23 = .ok (.goto (-19), 3) := by decide +kernel
theorem dX5_greatestDanger_26 : decode cX5_greatestDanger 26 = .ok (.iload_n 1, 1) := by decide +kernel
theorem dX5_greatestDanger_27 : decode cX5_greatestDanger 27 = .ok (.ireturn, 1) := by decide +kernel
theorem dX5_massOnSlopes_0 : decode cX5_massOnSlopes 0 = .ok (.iconst 0, 1) := by decide +kernel
theorem dX5_massOnSlopes_1 : decode cX5_massOnSlopes 1 = .ok (.istore_n 1, 1) := by decide +kernel
theorem dX5_massOnSlopes_2 : decode cX5_massOnSlopes 2 = .ok (.iconst 0, 1) := by decide +kernel
theorem dX5_massOnSlopes_3 : decode cX5_massOnSlopes 3 = .ok (.istore_n 2, 1) := by decide +kernel
theorem dX5_massOnSlopes_4 : decode cX5_massOnSlopes 4 = .ok (.iload_n 2, 1) := by decide +kernel
theorem dX5_massOnSlopes_5 : decode cX5_massOnSlopes 5 = .ok (.bipush 12, 2) := by decide +kernel
theorem dX5_massOnSlopes_7 : decode cX5_massOnSlopes 7 = .ok (.if_icmp .ge 22, 3) := by decide +kernel
theorem dX5_massOnSlopes_10 : decode cX5_massOnSlopes 10 = .ok (.iload_n 1, 1) := by decide +kernel
theorem dX5_massOnSlopes_11 : decode cX5_massOnSlopes 11 = .ok (.aload_n 0, 1) := by decide +kernel
theorem dX5_massOnSlopes_12 : decode cX5_massOnSlopes 12 = .ok (.getfield 11, 3) := by decide +kernel
theorem dX5_massOnSlopes_15 : decode cX5_massOnSlopes 15 = .ok (.iload_n 2, 1) := by decide +kernel
theorem dX5_massOnSlopes_16 : decode cX5_massOnSlopes 16 = .ok (.aaload, 1) := by decide +kernel
theorem dX5_massOnSlopes_17 : decode cX5_massOnSlopes 17 = .ok (.iconst (-1), 1) := by decide +kernel
theorem dX5_massOnSlopes_18 : decode cX5_massOnSlopes 18 = .ok (.invokevirtual 99, 3) := by decide +kernel
theorem dX5_massOnSlopes_21 : decode cX5_massOnSlopes 21 = .ok (.iadd, 1) := by decide +kernel
theorem dX5_massOnSlopes_22 : decode cX5_massOnSlopes 22 = .ok (.istore_n 1, 1) := by decide +kernel
theorem dX5_massOnSlopes_23 : decode cX5_massOnSlopes 23 = .ok (.iinc 2 1, 3) := by decide +kernel
theorem dX5_massOnSlopes_26 : decode cX5_massOnSlopes 26 = .ok (.goto (-22), 3) := by decide +kernel
theorem dX5_massOnSlopes_29 : decode cX5_massOnSlopes 29 = .ok (.iload_n 1, 1) := by decide +kernel
theorem dX5_massOnSlopes_30 : decode cX5_massOnSlopes 30 = .ok (.ireturn, 1) := by decide +kernel
theorem dX6_init_0 : decode cX6_init 0 = .ok (.aload_n 0, 1) := by decide +kernel
theorem dX6_init_1 : decode cX6_init 1 = .ok (.invokespecial 1, 3) := by decide +kernel
theorem dX6_init_4 : decode cX6_init 4 = .ok (.aload_n 0, 1) := by decide +kernel
theorem dX6_init_5 : decode cX6_init 5 = .ok (.bipush 12, 2) := by decide +kernel
theorem dX6_init_7 : decode cX6_init 7 = .ok (.newarray .int, 2) := by decide +kernel
theorem dX6_init_9 : decode cX6_init 9 = .ok (.putfield 9, 3) := by decide +kernel
theorem dX6_init_12 : decode cX6_init 12 = .ok (.aload_n 0, 1) := by decide +kernel
theorem dX6_init_13 : decode cX6_init 13 = .ok (.bipush 120, 2) := by decide +kernel
theorem dX6_init_15 : decode cX6_init 15 = .ok (.newarray .int, 2) := by decide +kernel
theorem dX6_init_17 : decode cX6_init 17 = .ok (.putfield 13, 3) := by decide +kernel
theorem dX6_init_20 : decode cX6_init 20 = .ok (.aload_n 0, 1) := by decide +kernel
theorem dX6_init_21 : decode cX6_init 21 = .ok (.bipush 120, 2) := by decide +kernel
theorem dX6_init_23 : decode cX6_init 23 = .ok (.newarray .int, 2) := by decide +kernel
theorem dX6_init_25 : decode cX6_init 25 = .ok (.putfield 16, 3) := by decide +kernel
theorem dX6_init_28 : decode cX6_init 28 = .ok (.aload_n 0, 1) := by decide +kernel
theorem dX6_init_29 : decode cX6_init 29 = .ok (.bipush 120, 2) := by decide +kernel
theorem dX6_init_31 : decode cX6_init 31 = .ok (.newarray .int, 2) := by decide +kernel
theorem dX6_init_33 : decode cX6_init 33 = .ok (.putfield 19, 3) := by decide +kernel
theorem dX6_init_36 : decode cX6_init 36 = .ok (.aload_n 0, 1) := by decide +kernel
theorem dX6_init_37 : decode cX6_init 37 = .ok (.iconst 3, 1) := by decide +kernel
theorem dX6_init_38 : decode cX6_init 38 = .ok (.newarray .int, 2) := by decide +kernel
theorem dX6_init_40 : decode cX6_init 40 = .ok (.dup, 1) := by decide +kernel
theorem dX6_init_41 : decode cX6_init 41 = .ok (.iconst 0, 1) := by decide +kernel
theorem dX6_init_42 : decode cX6_init 42 = .ok (.iconst (-1), 1) := by decide +kernel
theorem dX6_init_43 : decode cX6_init 43 = .ok (.iastore, 1) := by decide +kernel
theorem dX6_init_44 : decode cX6_init 44 = .ok (.dup, 1) := by decide +kernel
theorem dX6_init_45 : decode cX6_init 45 = .ok (.iconst 1, 1) := by decide +kernel
theorem dX6_init_46 : decode cX6_init 46 = .ok (.iconst (-1), 1) := by decide +kernel
theorem dX6_init_47 : decode cX6_init 47 = .ok (.iastore, 1) := by decide +kernel
theorem dX6_init_48 : decode cX6_init 48 = .ok (.dup, 1) := by decide +kernel
theorem dX6_init_49 : decode cX6_init 49 = .ok (.iconst 2, 1) := by decide +kernel
theorem dX6_init_50 : decode cX6_init 50 = .ok (.iconst (-1), 1) := by decide +kernel
theorem dX6_init_51 : decode cX6_init 51 = .ok (.iastore, 1) := by decide +kernel
theorem dX6_init_52 : decode cX6_init 52 = .ok (.putfield 22, 3) := by decide +kernel
theorem dX6_init_55 : decode cX6_init 55 = .ok (.aload_n 0, 1) := by decide +kernel
theorem dX6_init_56 : decode cX6_init 56 = .ok (.iconst 3, 1) := by decide +kernel
theorem dX6_init_57 : decode cX6_init 57 = .ok (.newarray .int, 2) := by decide +kernel
theorem dX6_init_59 : decode cX6_init 59 = .ok (.dup, 1) := by decide +kernel
theorem dX6_init_60 : decode cX6_init 60 = .ok (.iconst 0, 1) := by decide +kernel
theorem dX6_init_61 : decode cX6_init 61 = .ok (.bipush (-100), 2) := by decide +kernel
theorem dX6_init_63 : decode cX6_init 63 = .ok (.iastore, 1) := by decide +kernel
theorem dX6_init_64 : decode cX6_init 64 = .ok (.dup, 1) := by decide +kernel
theorem dX6_init_65 : decode cX6_init 65 = .ok (.iconst 1, 1) := by decide +kernel
theorem dX6_init_66 : decode cX6_init 66 = .ok (.bipush (-100), 2) := by decide +kernel
theorem dX6_init_68 : decode cX6_init 68 = .ok (.iastore, 1) := by decide +kernel
theorem dX6_init_69 : decode cX6_init 69 = .ok (.dup, 1) := by decide +kernel
theorem dX6_init_70 : decode cX6_init 70 = .ok (.iconst 2, 1) := by decide +kernel
theorem dX6_init_71 : decode cX6_init 71 = .ok (.bipush (-100), 2) := by decide +kernel
theorem dX6_init_73 : decode cX6_init 73 = .ok (.iastore, 1) := by decide +kernel
theorem dX6_init_74 : decode cX6_init 74 = .ok (.putfield 25, 3) := by decide +kernel
theorem dX6_init_77 : decode cX6_init 77 = .ok (.aload_n 0, 1) := by decide +kernel
theorem dX6_init_78 : decode cX6_init 78 = .ok (.iconst 3, 1) := by decide +kernel
theorem dX6_init_79 : decode cX6_init 79 = .ok (.newarray .int, 2) := by decide +kernel
theorem dX6_init_81 : decode cX6_init 81 = .ok (.dup, 1) := by decide +kernel
theorem dX6_init_82 : decode cX6_init 82 = .ok (.iconst 0, 1) := by decide +kernel
theorem dX6_init_83 : decode cX6_init 83 = .ok (.bipush (-5), 2) := by decide +kernel
theorem dX6_init_85 : decode cX6_init 85 = .ok (.iastore, 1) := by decide +kernel
theorem dX6_init_86 : decode cX6_init 86 = .ok (.dup, 1) := by decide +kernel
theorem dX6_init_87 : decode cX6_init 87 = .ok (.iconst 1, 1) := by decide +kernel
theorem dX6_init_88 : decode cX6_init 88 = .ok (.bipush (-5), 2) := by decide +kernel
theorem dX6_init_90 : decode cX6_init 90 = .ok (.iastore, 1) := by decide +kernel
theorem dX6_init_91 : decode cX6_init 91 = .ok (.dup, 1) := by decide +kernel
theorem dX6_init_92 : decode cX6_init 92 = .ok (.iconst 2, 1) := by decide +kernel
theorem dX6_init_93 : decode cX6_init 93 = .ok (.bipush (-5), 2) := by decide +kernel
theorem dX6_init_95 : decode cX6_init 95 = .ok (.iastore, 1) := by decide +kernel
theorem dX6_init_96 : decode cX6_init 96 = .ok (.putfield 28, 3) := by decide +kernel
theorem dX6_init_99 : decode cX6_init 99 = .ok (.aload_n 0, 1) := by decide +kernel
theorem dX6_init_100 : decode cX6_init 100 = .ok (.bipush 12, 2) := by decide +kernel
theorem dX6_init_102 : decode cX6_init 102 = .ok (.newarray .boolean, 2) := by decide +kernel
theorem dX6_init_104 : decode cX6_init 104 = .ok (.putfield 31, 3) := by decide +kernel
theorem dX6_init_107 : decode cX6_init 107 = .ok (.aload_n 0, 1) := by decide +kernel
theorem dX6_init_108 : decode cX6_init 108 = .ok (.bipush 12, 2) := by decide +kernel
theorem dX6_init_110 : decode cX6_init 110 = .ok (.newarray .int, 2) := by decide +kernel
theorem dX6_init_112 : decode cX6_init 112 = .ok (.putfield 35, 3) := by decide +kernel
theorem dX6_init_115 : decode cX6_init 115 = .ok (.aload_n 0, 1) := by decide +kernel
theorem dX6_init_116 : decode cX6_init 116 = .ok (.iconst 4, 1) := by decide +kernel
theorem dX6_init_117 : decode cX6_init 117 = .ok (.newarray .int, 2) := by decide +kernel
theorem dX6_init_119 : decode cX6_init 119 = .ok (.putfield 38, 3) := by decide +kernel
theorem dX6_init_122 : decode cX6_init 122 = .ok (.aload_n 0, 1) := by decide +kernel
theorem dX6_init_123 : decode cX6_init 123 = .ok (.bipush 10, 2) := by decide +kernel
theorem dX6_init_125 : decode cX6_init 125 = .ok (.newarray .int, 2) := by decide +kernel
theorem dX6_init_127 : decode cX6_init 127 = .ok (.putfield 41, 3) := by decide +kernel
theorem dX6_init_130 : decode cX6_init 130 = .ok (.aload_n 0, 1) := by decide +kernel
theorem dX6_init_131 : decode cX6_init 131 = .ok (.bipush 10, 2) := by decide +kernel
theorem dX6_init_133 : decode cX6_init 133 = .ok (.newarray .int, 2) := by decide +kernel
theorem dX6_init_135 : decode cX6_init 135 = .ok (.putfield 44, 3) := by decide +kernel
theorem dX6_init_138 : decode cX6_init 138 = .ok (.aload_n 0, 1) := by decide +kernel
theorem dX6_init_139 : decode cX6_init 139 = .ok (.bipush 6, 2) := by decide +kernel
theorem dX6_init_141 : decode cX6_init 141 = .ok (.newarray .int, 2) := by decide +kernel
theorem dX6_init_143 : decode cX6_init 143 = .ok (.putfield 47, 3) := by decide +kernel
theorem dX6_init_146 : decode cX6_init 146 = .ok (.aload_n 0, 1) := by decide +kernel
theorem dX6_init_147 : decode cX6_init 147 = .ok (.bipush 6, 2) := by decide +kernel
theorem dX6_init_149 : decode cX6_init 149 = .ok (.newarray .int, 2) := by decide +kernel
theorem dX6_init_151 : decode cX6_init 151 = .ok (.putfield 50, 3) := by decide +kernel
theorem dX6_init_154 : decode cX6_init 154 = .ok (.aload_n 0, 1) := by decide +kernel
theorem dX6_init_155 : decode cX6_init 155 = .ok (.bipush 77, 2) := by decide +kernel
theorem dX6_init_157 : decode cX6_init 157 = .ok (.newarray .int, 2) := by decide +kernel
theorem dX6_init_159 : decode cX6_init 159 = .ok (.putfield 53, 3) := by decide +kernel
theorem dX6_init_162 : decode cX6_init 162 = .ok (.return_, 1) := by decide +kernel
theorem dX6_in_0 : decode cX6_in 0 = .ok (.iload_n 0, 1) := by decide +kernel
theorem dX6_in_1 : decode cX6_in 1 = .ok (.iload_n 1, 1) := by decide +kernel
theorem dX6_in_2 : decode cX6_in 2 = .ok (.if_icmp .lt 12, 3) := by decide +kernel
theorem dX6_in_5 : decode cX6_in 5 = .ok (.iload_n 0, 1) := by decide +kernel
theorem dX6_in_6 : decode cX6_in 6 = .ok (.iload_n 2, 1) := by decide +kernel
theorem dX6_in_7 : decode cX6_in 7 = .ok (.if_icmp .gt 7, 3) := by decide +kernel
theorem dX6_in_10 : decode cX6_in 10 = .ok (.iconst 1, 1) := by decide +kernel
theorem dX6_in_11 : decode cX6_in 11 = .ok (.goto 4, 3) := by decide +kernel
theorem dX6_in_14 : decode cX6_in 14 = .ok (.iconst 0, 1) := by decide +kernel
theorem dX6_in_15 : decode cX6_in 15 = .ok (.ireturn, 1) := by decide +kernel
theorem dX6_isClass_0 : decode cX6_isClass 0 = .ok (.iload_n 0, 1) := by decide +kernel
theorem dX6_isClass_1 : decode cX6_isClass 1 = .ok (.iconst 0, 1) := by decide +kernel
theorem dX6_isClass_2 : decode cX6_isClass 2 = .ok (.bipush 11, 2) := by decide +kernel
theorem dX6_isClass_4 : decode cX6_isClass 4 = .ok (.invokestatic 56, 3) := by decide +kernel
theorem dX6_isClass_7 : decode cX6_isClass 7 = .ok (.ireturn, 1) := by decide +kernel
theorem dX6_snow_0 : decode cX6_snow 0 = .ok (.iload_n 1, 1) := by decide +kernel
theorem dX6_snow_1 : decode cX6_snow 1 = .ok (.iconst 0, 1) := by decide +kernel
theorem dX6_snow_2 : decode cX6_snow 2 = .ok (.iconst 2, 1) := by decide +kernel
theorem dX6_snow_3 : decode cX6_snow 3 = .ok (.invokestatic 56, 3) := by decide +kernel
theorem dX6_snow_6 : decode cX6_snow 6 = .ok (.ifCond .eq 24, 3) := by decide +kernel
theorem dX6_snow_9 : decode cX6_snow 9 = .ok (.iload_n 2, 1) := by decide +kernel
theorem dX6_snow_10 : decode cX6_snow 10 = .ok (.iconst (-1), 1) := by decide +kernel
theorem dX6_snow_11 : decode cX6_snow 11 = .ok (.sipush 200, 3) := by decide +kernel
theorem dX6_snow_14 : decode cX6_snow 14 = .ok (.invokestatic 56, 3) := by decide +kernel
theorem dX6_snow_17 : decode cX6_snow 17 = .ok (.ifCond .eq 13, 3) := by decide +kernel
theorem dX6_snow_20 : decode cX6_snow 20 = .ok (.aload_n 0, 1) := by decide +kernel
theorem dX6_snow_21 : decode cX6_snow 21 = .ok (.getfield 60, 3) := by decide +kernel
theorem dX6_snow_24 : decode cX6_snow 24 = .ok (.sipush 400, 3) := by decide +kernel
theorem dX6_snow_27 : decode cX6_snow 27 = .ok (.if_icmp .ne 5, 3) := by decide +kernel
theorem dX6_snow_30 : decode cX6_snow 30 = .ok (.iconst 0, 1) := by decide +kernel
theorem dX6_snow_31 : decode cX6_snow 31 = .ok (.ireturn, 1) := by decide +kernel
theorem dX6_snow_32 : decode cX6_snow 32 = .ok (.aload_n 0, 1) := by decide +kernel
theorem dX6_snow_33 : decode cX6_snow 33 = .ok (.getfield 22, 3) := by decide +kernel
theorem dX6_snow_36 : decode cX6_snow 36 = .ok (.iload_n 1, 1) := by decide +kernel
theorem dX6_snow_37 : decode cX6_snow 37 = .ok (.iload_n 2, 1) := by decide +kernel
theorem dX6_snow_38 : decode cX6_snow 38 = .ok (.iastore, 1) := by decide +kernel
theorem dX6_snow_39 : decode cX6_snow 39 = .ok (.iconst 1, 1) := by decide +kernel
theorem dX6_snow_40 : decode cX6_snow 40 = .ok (.ireturn, 1) := by decide +kernel
theorem dX6_warmth_0 : decode cX6_warmth 0 = .ok (.iload_n 1, 1) := by decide +kernel
theorem dX6_warmth_1 : decode cX6_warmth 1 = .ok (.iconst 0, 1) := by decide +kernel
theorem dX6_warmth_2 : decode cX6_warmth 2 = .ok (.iconst 2, 1) := by decide +kernel
theorem dX6_warmth_3 : decode cX6_warmth 3 = .ok (.invokestatic 56, 3) := by decide +kernel
theorem dX6_warmth_6 : decode cX6_warmth 6 = .ok (.ifCond .eq 30, 3) := by decide +kernel
theorem dX6_warmth_9 : decode cX6_warmth 9 = .ok (.iload_n 2, 1) := by decide +kernel
theorem dX6_warmth_10 : decode cX6_warmth 10 = .ok (.bipush (-100), 2) := by decide +kernel
theorem dX6_warmth_12 : decode cX6_warmth 12 = .ok (.if_icmp .eq 14, 3) := by decide +kernel
theorem dX6_warmth_15 : decode cX6_warmth 15 = .ok (.iload_n 2, 1) := by decide +kernel
theorem dX6_warmth_16 : decode cX6_warmth 16 = .ok (.bipush (-30), 2) := by decide +kernel
theorem dX6_warmth_18 : decode cX6_warmth 18 = .ok (.bipush 10, 2) := by decide +kernel
theorem dX6_warmth_20 : decode cX6_warmth 20 = .ok (.invokestatic 56, 3) := by decide +kernel
theorem dX6_warmth_23 : decode cX6_warmth 23 = .ok (.ifCond .eq 13, 3) := by decide +kernel
theorem dX6_warmth_26 : decode cX6_warmth 26 = .ok (.aload_n 0, 1) := by decide +kernel
theorem dX6_warmth_27 : decode cX6_warmth 27 = .ok (.getfield 60, 3) := by decide +kernel
theorem dX6_warmth_30 : decode cX6_warmth 30 = .ok (.sipush 400, 3) := by decide +kernel
theorem dX6_warmth_33 : decode cX6_warmth 33 = .ok (.if_icmp .ne 5, 3) := by decide +kernel
theorem dX6_warmth_36 : decode cX6_warmth 36 = .ok (.iconst 0, 1) := by decide +kernel
theorem dX6_warmth_37 : decode cX6_warmth 37 = .ok (.ireturn, 1) := by decide +kernel
theorem dX6_warmth_38 : decode cX6_warmth 38 = .ok (.aload_n 0, 1) := by decide +kernel
theorem dX6_warmth_39 : decode cX6_warmth 39 = .ok (.getfield 25, 3) := by decide +kernel
theorem dX6_warmth_42 : decode cX6_warmth 42 = .ok (.iload_n 1, 1) := by decide +kernel
theorem dX6_warmth_43 : decode cX6_warmth 43 = .ok (.iload_n 2, 1) := by decide +kernel
theorem dX6_warmth_44 : decode cX6_warmth 44 = .ok (.iastore, 1) := by decide +kernel
theorem dX6_warmth_45 : decode cX6_warmth 45 = .ok (.iconst 1, 1) := by decide +kernel
theorem dX6_warmth_46 : decode cX6_warmth 46 = .ok (.ireturn, 1) := by decide +kernel
theorem dX6_wind_0 : decode cX6_wind 0 = .ok (.iload_n 1, 1) := by decide +kernel
theorem dX6_wind_1 : decode cX6_wind 1 = .ok (.iconst 0, 1) := by decide +kernel
theorem dX6_wind_2 : decode cX6_wind 2 = .ok (.iconst 3, 1) := by decide +kernel
theorem dX6_wind_3 : decode cX6_wind 3 = .ok (.invokestatic 56, 3) := by decide +kernel
theorem dX6_wind_6 : decode cX6_wind 6 = .ok (.ifCond .eq 23, 3) := by decide +kernel
theorem dX6_wind_9 : decode cX6_wind 9 = .ok (.iload_n 2, 1) := by decide +kernel
theorem dX6_wind_10 : decode cX6_wind 10 = .ok (.iconst 0, 1) := by decide +kernel
theorem dX6_wind_11 : decode cX6_wind 11 = .ok (.bipush 9, 2) := by decide +kernel
theorem dX6_wind_13 : decode cX6_wind 13 = .ok (.invokestatic 56, 3) := by decide +kernel
theorem dX6_wind_16 : decode cX6_wind 16 = .ok (.ifCond .eq 13, 3) := by decide +kernel
theorem dX6_wind_19 : decode cX6_wind 19 = .ok (.aload_n 0, 1) := by decide +kernel
theorem dX6_wind_20 : decode cX6_wind 20 = .ok (.getfield 60, 3) := by decide +kernel
theorem dX6_wind_23 : decode cX6_wind 23 = .ok (.sipush 400, 3) := by decide +kernel
theorem dX6_wind_26 : decode cX6_wind 26 = .ok (.if_icmp .ne 5, 3) := by decide +kernel
theorem dX6_wind_29 : decode cX6_wind 29 = .ok (.iconst 0, 1) := by decide +kernel
theorem dX6_wind_30 : decode cX6_wind 30 = .ok (.ireturn, 1) := by decide +kernel
theorem dX6_wind_31 : decode cX6_wind 31 = .ok (.aload_n 0, 1) := by decide +kernel
theorem dX6_wind_32 : decode cX6_wind 32 = .ok (.iload_n 1, 1) := by decide +kernel
theorem dX6_wind_33 : decode cX6_wind 33 = .ok (.putfield 64, 3) := by decide +kernel
theorem dX6_wind_36 : decode cX6_wind 36 = .ok (.aload_n 0, 1) := by decide +kernel
theorem dX6_wind_37 : decode cX6_wind 37 = .ok (.iload_n 2, 1) := by decide +kernel
theorem dX6_wind_38 : decode cX6_wind 38 = .ok (.putfield 67, 3) := by decide +kernel
theorem dX6_wind_41 : decode cX6_wind 41 = .ok (.iconst 1, 1) := by decide +kernel
theorem dX6_wind_42 : decode cX6_wind 42 = .ok (.ireturn, 1) := by decide +kernel
theorem dX6_falls_0 : decode cX6_falls 0 = .ok (.bipush 10, 2) := by decide +kernel
theorem dX6_falls_2 : decode cX6_falls 2 = .ok (.iload_n 1, 1) := by decide +kernel
theorem dX6_falls_3 : decode cX6_falls 3 = .ok (.imul, 1) := by decide +kernel
theorem dX6_falls_4 : decode cX6_falls 4 = .ok (.istore_n 3, 1) := by decide +kernel
theorem dX6_falls_5 : decode cX6_falls 5 = .ok (.aload_n 0, 1) := by decide +kernel
theorem dX6_falls_6 : decode cX6_falls 6 = .ok (.getfield 9, 3) := by decide +kernel
theorem dX6_falls_9 : decode cX6_falls 9 = .ok (.iload_n 1, 1) := by decide +kernel
theorem dX6_falls_10 : decode cX6_falls 10 = .ok (.iaload, 1) := by decide +kernel
theorem dX6_falls_11 : decode cX6_falls 11 = .ok (.bipush 10, 2) := by decide +kernel
theorem dX6_falls_13 : decode cX6_falls 13 = .ok (.if_icmp .ne 139, 3) := by decide +kernel
theorem dX6_falls_16 : decode cX6_falls 16 = .ok (.aload_n 0, 1) := by decide +kernel
theorem dX6_falls_17 : decode cX6_falls 17 = .ok (.getfield 16, 3) := by decide +kernel
theorem dX6_falls_20 : decode cX6_falls 20 = .ok (.iload_n 3, 1) := by decide +kernel
theorem dX6_falls_21 : decode cX6_falls 21 = .ok (.iconst 1, 1) := by decide +kernel
theorem dX6_falls_22 : decode cX6_falls 22 = .ok (.iadd, 1) := by decide +kernel
theorem dX6_falls_23 : decode cX6_falls 23 = .ok (.dup2, 1) := by decide +kernel
theorem dX6_falls_24 : decode cX6_falls 24 = .ok (.iaload, 1) := by decide +kernel
theorem dX6_falls_25 : decode cX6_falls 25 = .ok (.aload_n 0, 1) := by decide +kernel
theorem dX6_falls_26 : decode cX6_falls 26 = .ok (.getfield 16, 3) := by decide +kernel
theorem dX6_falls_29 : decode cX6_falls 29 = .ok (.iload_n 3, 1) := by decide +kernel
theorem dX6_falls_30 : decode cX6_falls 30 = .ok (.iaload, 1) := by decide +kernel
theorem dX6_falls_31 : decode cX6_falls 31 = .ok (.iadd, 1) := by decide +kernel
theorem dX6_falls_32 : decode cX6_falls 32 = .ok (.iastore, 1) := by decide +kernel
theorem dX6_falls_33 : decode cX6_falls 33 = .ok (.aload_n 0, 1) := by decide +kernel
theorem dX6_falls_34 : decode cX6_falls 34 = .ok (.getfield 19, 3) := by decide +kernel
theorem dX6_falls_37 : decode cX6_falls 37 = .ok (.iload_n 3, 1) := by decide +kernel
theorem dX6_falls_38 : decode cX6_falls 38 = .ok (.iaload, 1) := by decide +kernel
theorem dX6_falls_39 : decode cX6_falls 39 = .ok (.aload_n 0, 1) := by decide +kernel
theorem dX6_falls_40 : decode cX6_falls 40 = .ok (.getfield 19, 3) := by decide +kernel
theorem dX6_falls_43 : decode cX6_falls 43 = .ok (.iload_n 3, 1) := by decide +kernel
theorem dX6_falls_44 : decode cX6_falls 44 = .ok (.iconst 1, 1) := by decide +kernel
theorem dX6_falls_45 : decode cX6_falls 45 = .ok (.iadd, 1) := by decide +kernel
theorem dX6_falls_46 : decode cX6_falls 46 = .ok (.iaload, 1) := by decide +kernel
theorem dX6_falls_47 : decode cX6_falls 47 = .ok (.if_icmp .le 17, 3) := by decide +kernel
theorem dX6_falls_50 : decode cX6_falls 50 = .ok (.aload_n 0, 1) := by decide +kernel
theorem dX6_falls_51 : decode cX6_falls 51 = .ok (.getfield 19, 3) := by decide +kernel
theorem dX6_falls_54 : decode cX6_falls 54 = .ok (.iload_n 3, 1) := by decide +kernel
theorem dX6_falls_55 : decode cX6_falls 55 = .ok (.iconst 1, 1) := by decide +kernel
theorem dX6_falls_56 : decode cX6_falls 56 = .ok (.iadd, 1) := by decide +kernel
theorem dX6_falls_57 : decode cX6_falls 57 = .ok (.aload_n 0, 1) := by decide +kernel
theorem dX6_falls_58 : decode cX6_falls 58 = .ok (.getfield 19, 3) := by decide +kernel
theorem dX6_falls_61 : decode cX6_falls 61 = .ok (.iload_n 3, 1) := by decide +kernel
theorem dX6_falls_62 : decode cX6_falls 62 = .ok (.iaload, 1) := by decide +kernel
theorem dX6_falls_63 : decode cX6_falls 63 = .ok (.iastore, 1) := by decide +kernel
theorem dX6_falls_64 : decode cX6_falls 64 = .ok (.iconst 0, 1) := by decide +kernel
theorem dX6_falls_65 : decode cX6_falls 65 = .ok (.istore 4, 2) := by decide +kernel
theorem dX6_falls_67 : decode cX6_falls 67 = .ok (.iload 4, 2) := by decide +kernel
theorem dX6_falls_69 : decode cX6_falls 69 = .ok (.iconst 1, 1) := by decide +kernel
theorem dX6_falls_70 : decode cX6_falls 70 = .ok (.iadd, 1) := by decide +kernel
theorem dX6_falls_71 : decode cX6_falls 71 = .ok (.bipush 10, 2) := by decide +kernel
theorem dX6_falls_73 : decode cX6_falls 73 = .ok (.if_icmp .ge 69, 3) := by decide +kernel
theorem dX6_falls_76 : decode cX6_falls 76 = .ok (.aload_n 0, 1) := by decide +kernel
theorem dX6_falls_77 : decode cX6_falls 77 = .ok (.getfield 13, 3) := by decide +kernel
theorem dX6_falls_80 : decode cX6_falls 80 = .ok (.iload_n 3, 1) := by decide +kernel
theorem dX6_falls_81 : decode cX6_falls 81 = .ok (.iload 4, 2) := by decide +kernel
theorem dX6_falls_83 : decode cX6_falls 83 = .ok (.iadd, 1) := by decide +kernel
theorem dX6_falls_84 : decode cX6_falls 84 = .ok (.aload_n 0, 1) := by decide +kernel
theorem dX6_falls_85 : decode cX6_falls 85 = .ok (.getfield 13, 3) := by decide +kernel
theorem dX6_falls_88 : decode cX6_falls 88 = .ok (.iload_n 3, 1) := by decide +kernel
theorem dX6_falls_89 : decode cX6_falls 89 = .ok (.iload 4, 2) := by decide +kernel
theorem dX6_falls_91 : decode cX6_falls 91 = .ok (.iadd, 1) := by decide +kernel
theorem dX6_falls_92 : decode cX6_falls 92 = .ok (.iconst 1, 1) := by decide +kernel
theorem dX6_falls_93 : decode cX6_falls 93 = .ok (.iadd, 1) := by decide +kernel
theorem dX6_falls_94 : decode cX6_falls 94 = .ok (.iaload, 1) := by decide +kernel
theorem dX6_falls_95 : decode cX6_falls 95 = .ok (.iastore, 1) := by decide +kernel
theorem dX6_falls_96 : decode cX6_falls 96 = .ok (.aload_n 0, 1) := by decide +kernel
theorem dX6_falls_97 : decode cX6_falls 97 = .ok (.getfield 16, 3) := by decide +kernel
theorem dX6_falls_100 : decode cX6_falls 100 = .ok (.iload_n 3, 1) := by decide +kernel
theorem dX6_falls_101 : decode cX6_falls 101 = .ok (.iload 4, 2) := by decide +kernel
theorem dX6_falls_103 : decode cX6_falls 103 = .ok (.iadd, 1) := by decide +kernel
theorem dX6_falls_104 : decode cX6_falls 104 = .ok (.aload_n 0, 1) := by decide +kernel
theorem dX6_falls_105 : decode cX6_falls 105 = .ok (.getfield 16, 3) := by decide +kernel
theorem dX6_falls_108 : decode cX6_falls 108 = .ok (.iload_n 3, 1) := by decide +kernel
theorem dX6_falls_109 : decode cX6_falls 109 = .ok (.iload 4, 2) := by decide +kernel
theorem dX6_falls_111 : decode cX6_falls 111 = .ok (.iadd, 1) := by decide +kernel
theorem dX6_falls_112 : decode cX6_falls 112 = .ok (.iconst 1, 1) := by decide +kernel
theorem dX6_falls_113 : decode cX6_falls 113 = .ok (.iadd, 1) := by decide +kernel
theorem dX6_falls_114 : decode cX6_falls 114 = .ok (.iaload, 1) := by decide +kernel
theorem dX6_falls_115 : decode cX6_falls 115 = .ok (.iastore, 1) := by decide +kernel
theorem dX6_falls_116 : decode cX6_falls 116 = .ok (.aload_n 0, 1) := by decide +kernel
theorem dX6_falls_117 : decode cX6_falls 117 = .ok (.getfield 19, 3) := by decide +kernel
theorem dX6_falls_120 : decode cX6_falls 120 = .ok (.iload_n 3, 1) := by decide +kernel
theorem dX6_falls_121 : decode cX6_falls 121 = .ok (.iload 4, 2) := by decide +kernel
theorem dX6_falls_123 : decode cX6_falls 123 = .ok (.iadd, 1) := by decide +kernel
theorem dX6_falls_124 : decode cX6_falls 124 = .ok (.aload_n 0, 1) := by decide +kernel
theorem dX6_falls_125 : decode cX6_falls 125 = .ok (.getfield 19, 3) := by decide +kernel
theorem dX6_falls_128 : decode cX6_falls 128 = .ok (.iload_n 3, 1) := by decide +kernel
theorem dX6_falls_129 : decode cX6_falls 129 = .ok (.iload 4, 2) := by decide +kernel
theorem dX6_falls_131 : decode cX6_falls 131 = .ok (.iadd, 1) := by decide +kernel
theorem dX6_falls_132 : decode cX6_falls 132 = .ok (.iconst 1, 1) := by decide +kernel
theorem dX6_falls_133 : decode cX6_falls 133 = .ok (.iadd, 1) := by decide +kernel
theorem dX6_falls_134 : decode cX6_falls 134 = .ok (.iaload, 1) := by decide +kernel
theorem dX6_falls_135 : decode cX6_falls 135 = .ok (.iastore, 1) := by decide +kernel
theorem dX6_falls_136 : decode cX6_falls 136 = .ok (.iinc 4 1, 3) := by decide +kernel
theorem dX6_falls_139 : decode cX6_falls 139 = .ok (.goto (-72), 3) := by decide +kernel
theorem dX6_falls_142 : decode cX6_falls 142 = .ok (.aload_n 0, 1) := by decide +kernel
theorem dX6_falls_143 : decode cX6_falls 143 = .ok (.getfield 9, 3) := by decide +kernel
theorem dX6_falls_146 : decode cX6_falls 146 = .ok (.iload_n 1, 1) := by decide +kernel
theorem dX6_falls_147 : decode cX6_falls 147 = .ok (.dup2, 1) := by decide +kernel
theorem dX6_falls_148 : decode cX6_falls 148 = .ok (.iaload, 1) := by decide +kernel
theorem dX6_falls_149 : decode cX6_falls 149 = .ok (.iconst 1, 1) := by decide +kernel
theorem dX6_falls_150 : decode cX6_falls 150 = .ok (.isub, 1) := by decide +kernel
theorem dX6_falls_151 : decode cX6_falls 151 = .ok (.iastore, 1) := by decide +kernel
theorem dX6_falls_152 : decode cX6_falls 152 = .ok (.aload_n 0, 1) := by decide +kernel
theorem dX6_falls_153 : decode cX6_falls 153 = .ok (.getfield 13, 3) := by decide +kernel
theorem dX6_falls_156 : decode cX6_falls 156 = .ok (.iload_n 3, 1) := by decide +kernel
theorem dX6_falls_157 : decode cX6_falls 157 = .ok (.aload_n 0, 1) := by decide +kernel
theorem dX6_falls_158 : decode cX6_falls 158 = .ok (.getfield 9, 3) := by decide +kernel
theorem dX6_falls_161 : decode cX6_falls 161 = .ok (.iload_n 1, 1) := by decide +kernel
theorem dX6_falls_162 : decode cX6_falls 162 = .ok (.iaload, 1) := by decide +kernel
theorem dX6_falls_163 : decode cX6_falls 163 = .ok (.iadd, 1) := by decide +kernel
theorem dX6_falls_164 : decode cX6_falls 164 = .ok (.iconst 0, 1) := by decide +kernel
theorem dX6_falls_165 : decode cX6_falls 165 = .ok (.iastore, 1) := by decide +kernel
theorem dX6_falls_166 : decode cX6_falls 166 = .ok (.aload_n 0, 1) := by decide +kernel
theorem dX6_falls_167 : decode cX6_falls 167 = .ok (.getfield 16, 3) := by decide +kernel
theorem dX6_falls_170 : decode cX6_falls 170 = .ok (.iload_n 3, 1) := by decide +kernel
theorem dX6_falls_171 : decode cX6_falls 171 = .ok (.aload_n 0, 1) := by decide +kernel
theorem dX6_falls_172 : decode cX6_falls 172 = .ok (.getfield 9, 3) := by decide +kernel
theorem dX6_falls_175 : decode cX6_falls 175 = .ok (.iload_n 1, 1) := by decide +kernel
theorem dX6_falls_176 : decode cX6_falls 176 = .ok (.iaload, 1) := by decide +kernel
theorem dX6_falls_177 : decode cX6_falls 177 = .ok (.iadd, 1) := by decide +kernel
theorem dX6_falls_178 : decode cX6_falls 178 = .ok (.iload_n 2, 1) := by decide +kernel
theorem dX6_falls_179 : decode cX6_falls 179 = .ok (.iastore, 1) := by decide +kernel
theorem dX6_falls_180 : decode cX6_falls 180 = .ok (.aload_n 0, 1) := by decide +kernel
theorem dX6_falls_181 : decode cX6_falls 181 = .ok (.getfield 19, 3) := by decide +kernel
theorem dX6_falls_184 : decode cX6_falls 184 = .ok (.iload_n 3, 1) := by decide +kernel
theorem dX6_falls_185 : decode cX6_falls 185 = .ok (.aload_n 0, 1) := by decide +kernel
theorem dX6_falls_186 : decode cX6_falls 186 = .ok (.getfield 9, 3) := by decide +kernel
theorem dX6_falls_189 : decode cX6_falls 189 = .ok (.iload_n 1, 1) := by decide +kernel
theorem dX6_falls_190 : decode cX6_falls 190 = .ok (.iaload, 1) := by decide +kernel
theorem dX6_falls_191 : decode cX6_falls 191 = .ok (.iadd, 1) := by decide +kernel
theorem dX6_falls_192 : decode cX6_falls 192 = .ok (.iconst 0, 1) := by decide +kernel
theorem dX6_falls_193 : decode cX6_falls 193 = .ok (.iastore, 1) := by decide +kernel
theorem dX6_falls_194 : decode cX6_falls 194 = .ok (.aload_n 0, 1) := by decide +kernel
theorem dX6_falls_195 : decode cX6_falls 195 = .ok (.getfield 9, 3) := by decide +kernel
theorem dX6_falls_198 : decode cX6_falls 198 = .ok (.iload_n 1, 1) := by decide +kernel
theorem dX6_falls_199 : decode cX6_falls 199 = .ok (.dup2, 1) := by decide +kernel
theorem dX6_falls_200 : decode cX6_falls 200 = .ok (.iaload, 1) := by decide +kernel
theorem dX6_falls_201 : decode cX6_falls 201 = .ok (.iconst 1, 1) := by decide +kernel
theorem dX6_falls_202 : decode cX6_falls 202 = .ok (.iadd, 1) := by decide +kernel
theorem dX6_falls_203 : decode cX6_falls 203 = .ok (.iastore, 1) := by decide +kernel
theorem dX6_falls_204 : decode cX6_falls 204 = .ok (.return_, 1) := by decide +kernel
theorem dX6_snowAt_0 : decode cX6_snowAt 0 = .ok (.aload_n 0, 1) := by decide +kernel
theorem dX6_snowAt_1 : decode cX6_snowAt 1 = .ok (.getfield 22, 3) := by decide +kernel
theorem dX6_snowAt_4 : decode cX6_snowAt 4 = .ok (.iload_n 1, 1) := by decide +kernel
theorem dX6_snowAt_5 : decode cX6_snowAt 5 = .ok (.iaload, 1) := by decide +kernel
theorem dX6_snowAt_6 : decode cX6_snowAt 6 = .ok (.iconst (-1), 1) := by decide +kernel
theorem dX6_snowAt_7 : decode cX6_snowAt 7 = .ok (.if_icmp .eq 10, 3) := by decide +kernel
theorem dX6_snowAt_10 : decode cX6_snowAt 10 = .ok (.aload_n 0, 1) := by decide +kernel
theorem dX6_snowAt_11 : decode cX6_snowAt 11 = .ok (.getfield 22, 3) := by decide +kernel
theorem dX6_snowAt_14 : decode cX6_snowAt 14 = .ok (.iload_n 1, 1) := by decide +kernel
theorem dX6_snowAt_15 : decode cX6_snowAt 15 = .ok (.iaload, 1) := by decide +kernel
theorem dX6_snowAt_16 : decode cX6_snowAt 16 = .ok (.ireturn, 1) := by decide +kernel
theorem dX6_snowAt_17 : decode cX6_snowAt 17 = .ok (.iconst 0, 1) := by decide +kernel
theorem dX6_snowAt_18 : decode cX6_snowAt 18 = .ok (.istore_n 2, 1) := by decide +kernel
theorem dX6_snowAt_19 : decode cX6_snowAt 19 = .ok (.iconst 0, 1) := by decide +kernel
theorem dX6_snowAt_20 : decode cX6_snowAt 20 = .ok (.istore_n 3, 1) := by decide +kernel
theorem dX6_snowAt_21 : decode cX6_snowAt 21 = .ok (.iconst 0, 1) := by decide +kernel
theorem dX6_snowAt_22 : decode cX6_snowAt 22 = .ok (.istore 4, 2) := by decide +kernel
theorem dX6_snowAt_24 : decode cX6_snowAt 24 = .ok (.iload 4, 2) := by decide +kernel
theorem dX6_snowAt_26 : decode cX6_snowAt 26 = .ok (.iconst 3, 1) := by decide +kernel
theorem dX6_snowAt_27 : decode cX6_snowAt 27 = .ok (.if_icmp .ge 36, 3) := by decide +kernel
theorem dX6_snowAt_30 : decode cX6_snowAt 30 = .ok (.aload_n 0, 1) := by decide +kernel
theorem dX6_snowAt_31 : decode cX6_snowAt 31 = .ok (.getfield 22, 3) := by decide +kernel
theorem dX6_snowAt_34 : decode cX6_snowAt 34 = .ok (.iload 4, 2) := by decide +kernel
theorem dX6_snowAt_36 : decode cX6_snowAt 36 = .ok (.iaload, 1) := by decide +kernel
theorem dX6_snowAt_37 : decode cX6_snowAt 37 = .ok (.iconst (-1), 1) := by decide +kernel
theorem dX6_snowAt_38 : decode cX6_snowAt 38 = .ok (.if_icmp .ne 6, 3) := by decide +kernel
theorem dX6_snowAt_41 : decode cX6_snowAt 41 = .ok (.goto 16, 3) := by decide +kernel
theorem dX6_snowAt_44 : decode cX6_snowAt 44 = .ok (.iinc 2 1, 3) := by decide +kernel
theorem dX6_snowAt_47 : decode cX6_snowAt 47 = .ok (.iload_n 3, 1) := by decide +kernel
theorem dX6_snowAt_48 : decode cX6_snowAt 48 = .ok (.aload_n 0, 1) := by decide +kernel
theorem dX6_snowAt_49 : decode cX6_snowAt 49 = .ok (.getfield 22, 3) := by decide +kernel
theorem dX6_snowAt_52 : decode cX6_snowAt 52 = .ok (.iload 4, 2) := by decide +kernel
theorem dX6_snowAt_54 : decode cX6_snowAt 54 = .ok (.iaload, 1) := by decide +kernel
theorem dX6_snowAt_55 : decode cX6_snowAt 55 = .ok (.iadd, 1) := by decide +kernel
theorem dX6_snowAt_56 : decode cX6_snowAt 56 = .ok (.istore_n 3, 1) := by decide +kernel
theorem dX6_snowAt_57 : decode cX6_snowAt 57 = .ok (.iinc 4 1, 3) := by decide +kernel
theorem dX6_snowAt_60 : decode cX6_snowAt 60 = .ok (.goto (-36), 3) := by decide +kernel
theorem dX6_snowAt_63 : decode cX6_snowAt 63 = .ok (.iload_n 2, 1) := by decide +kernel
theorem dX6_snowAt_64 : decode cX6_snowAt 64 = .ok (.ifCond .ne 7, 3) := by decide +kernel
theorem dX6_snowAt_67 : decode cX6_snowAt 67 = .ok (.iconst 0, 1) := by decide +kernel
theorem dX6_snowAt_68 : decode cX6_snowAt 68 = .ok (.goto 6, 3) := by decide +kernel
theorem dX6_snowAt_71 : decode cX6_snowAt 71 = .ok (.iload_n 3, 1) := by decide +kernel
theorem dX6_snowAt_72 : decode cX6_snowAt 72 = .ok (.iload_n 2, 1) := by decide +kernel
theorem dX6_snowAt_73 : decode cX6_snowAt 73 = .ok (.idiv, 1) := by decide +kernel
theorem dX6_snowAt_74 : decode cX6_snowAt 74 = .ok (.ireturn, 1) := by decide +kernel
theorem dX6_top_0 : decode cX6_top 0 = .ok (.bipush 10, 2) := by decide +kernel
theorem dX6_top_2 : decode cX6_top 2 = .ok (.iload_n 1, 1) := by decide +kernel
theorem dX6_top_3 : decode cX6_top 3 = .ok (.imul, 1) := by decide +kernel
theorem dX6_top_4 : decode cX6_top 4 = .ok (.aload_n 0, 1) := by decide +kernel
theorem dX6_top_5 : decode cX6_top 5 = .ok (.getfield 9, 3) := by decide +kernel
theorem dX6_top_8 : decode cX6_top 8 = .ok (.iload_n 1, 1) := by decide +kernel
theorem dX6_top_9 : decode cX6_top 9 = .ok (.iaload, 1) := by decide +kernel
theorem dX6_top_10 : decode cX6_top 10 = .ok (.iadd, 1) := by decide +kernel
theorem dX6_top_11 : decode cX6_top 11 = .ok (.iconst 1, 1) := by decide +kernel
theorem dX6_top_12 : decode cX6_top 12 = .ok (.isub, 1) := by decide +kernel
theorem dX6_top_13 : decode cX6_top 13 = .ok (.ireturn, 1) := by decide +kernel
theorem dX6_isNewOn_0 : decode cX6_isNewOn 0 = .ok (.aload_n 0, 1) := by decide +kernel
theorem dX6_isNewOn_1 : decode cX6_isNewOn 1 = .ok (.getfield 9, 3) := by decide +kernel
theorem dX6_isNewOn_4 : decode cX6_isNewOn 4 = .ok (.iload_n 1, 1) := by decide +kernel
theorem dX6_isNewOn_5 : decode cX6_isNewOn 5 = .ok (.iaload, 1) := by decide +kernel
theorem dX6_isNewOn_6 : decode cX6_isNewOn 6 = .ok (.ifCond .le 20, 3) := by decide +kernel
theorem dX6_isNewOn_9 : decode cX6_isNewOn 9 = .ok (.aload_n 0, 1) := by decide +kernel
theorem dX6_isNewOn_10 : decode cX6_isNewOn 10 = .ok (.getfield 13, 3) := by decide +kernel
theorem dX6_isNewOn_13 : decode cX6_isNewOn 13 = .ok (.aload_n 0, 1) := by decide +kernel
theorem dX6_isNewOn_14 : decode cX6_isNewOn 14 = .ok (.iload_n 1, 1) := by decide +kernel
theorem dX6_isNewOn_15 : decode cX6_isNewOn 15 = .ok (.invokevirtual 70, 3) := by decide +kernel
theorem dX6_isNewOn_18 : decode cX6_isNewOn 18 = .ok (.iaload, 1) := by decide +kernel
theorem dX6_isNewOn_19 : decode cX6_isNewOn 19 = .ok (.ifCond .ne 7, 3) := by decide +kernel
theorem dX6_isNewOn_22 : decode cX6_isNewOn 22 = .ok (.iconst 1, 1) := by decide +kernel
theorem dX6_isNewOn_23 : decode cX6_isNewOn 23 = .ok (.goto 4, 3) := by decide +kernel
theorem dX6_isNewOn_26 : decode cX6_isNewOn 26 = .ok (.iconst 0, 1) := by decide +kernel
theorem dX6_isNewOn_27 : decode cX6_isNewOn 27 = .ok (.ireturn, 1) := by decide +kernel
theorem dX6_drifts_0 : decode cX6_drifts 0 = .ok (.aload_n 0, 1) := by decide +kernel
theorem dX6_drifts_1 : decode cX6_drifts 1 = .ok (.iload_n 1, 1) := by decide +kernel
theorem dX6_drifts_2 : decode cX6_drifts 2 = .ok (.invokevirtual 74, 3) := by decide +kernel
theorem dX6_drifts_5 : decode cX6_drifts 5 = .ok (.ifCond .ne 4, 3) := by decide +kernel
theorem dX6_drifts_8 : decode cX6_drifts 8 = .ok (.return_, 1) := by decide +kernel
theorem dX6_drifts_9 : decode cX6_drifts 9 = .ok (.aload_n 0, 1) := by decide +kernel
theorem dX6_drifts_10 : decode cX6_drifts 10 = .ok (.getfield 16, 3) := by decide +kernel
theorem dX6_drifts_13 : decode cX6_drifts 13 = .ok (.aload_n 0, 1) := by decide +kernel
theorem dX6_drifts_14 : decode cX6_drifts 14 = .ok (.iload_n 1, 1) := by decide +kernel
theorem dX6_drifts_15 : decode cX6_drifts 15 = .ok (.invokevirtual 70, 3) := by decide +kernel
theorem dX6_drifts_18 : decode cX6_drifts 18 = .ok (.iaload, 1) := by decide +kernel
theorem dX6_drifts_19 : decode cX6_drifts 19 = .ok (.aload_n 0, 1) := by decide +kernel
theorem dX6_drifts_20 : decode cX6_drifts 20 = .ok (.getfield 67, 3) := by decide +kernel
theorem dX6_drifts_23 : decode cX6_drifts 23 = .ok (.imul, 1) := by decide +kernel
theorem dX6_drifts_24 : decode cX6_drifts 24 = .ok (.iconst 4, 1) := by decide +kernel
theorem dX6_drifts_25 : decode cX6_drifts 25 = .ok (.imul, 1) := by decide +kernel
theorem dX6_drifts_26 : decode cX6_drifts 26 = .ok (.bipush 100, 2) := by decide +kernel
theorem dX6_drifts_28 : decode cX6_drifts 28 = .ok (.idiv, 1) := by decide +kernel
theorem dX6_drifts_29 : decode cX6_drifts 29 = .ok (.istore_n 3, 1) := by decide +kernel
theorem dX6_drifts_30 : decode cX6_drifts 30 = .ok (.iload_n 3, 1) := by decide +kernel
theorem dX6_drifts_31 : decode cX6_drifts 31 = .ok (.ifCond .ne 4, 3) := by decide +kernel
theorem dX6_drifts_34 : decode cX6_drifts 34 = .ok (.return_, 1) := by decide +kernel
theorem dX6_drifts_35 : decode cX6_drifts 35 = .ok (.aload_n 0, 1) := by decide +kernel
theorem dX6_drifts_36 : decode cX6_drifts 36 = .ok (.getfield 16, 3) := by decide +kernel
theorem dX6_drifts_39 : decode cX6_drifts 39 = .ok (.aload_n 0, 1) := by decide +kernel
theorem dX6_drifts_40 : decode cX6_drifts 40 = .ok (.iload_n 1, 1) := by decide +kernel
theorem dX6_drifts_41 : decode cX6_drifts 41 = .ok (.invokevirtual 70, 3) := by decide +kernel
theorem dX6_drifts_44 : decode cX6_drifts 44 = .ok (.dup2, 1) := by decide +kernel
theorem dX6_drifts_45 : decode cX6_drifts 45 = .ok (.iaload, 1) := by decide +kernel
theorem dX6_drifts_46 : decode cX6_drifts 46 = .ok (.iload_n 3, 1) := by decide +kernel
theorem dX6_drifts_47 : decode cX6_drifts 47 = .ok (.isub, 1) := by decide +kernel
theorem dX6_drifts_48 : decode cX6_drifts 48 = .ok (.iastore, 1) := by decide +kernel
theorem dX6_drifts_49 : decode cX6_drifts 49 = .ok (.aload_n 0, 1) := by decide +kernel
theorem dX6_drifts_50 : decode cX6_drifts 50 = .ok (.iload_n 2, 1) := by decide +kernel
theorem dX6_drifts_51 : decode cX6_drifts 51 = .ok (.invokevirtual 74, 3) := by decide +kernel
theorem dX6_drifts_54 : decode cX6_drifts 54 = .ok (.ifCond .eq 20, 3) := by decide +kernel
theorem dX6_drifts_57 : decode cX6_drifts 57 = .ok (.aload_n 0, 1) := by decide +kernel
theorem dX6_drifts_58 : decode cX6_drifts 58 = .ok (.getfield 16, 3) := by decide +kernel
theorem dX6_drifts_61 : decode cX6_drifts 61 = .ok (.aload_n 0, 1) := by decide +kernel
theorem dX6_drifts_62 : decode cX6_drifts 62 = .ok (.iload_n 2, 1) := by decide +kernel
theorem dX6_drifts_63 : decode cX6_drifts 63 = .ok (.invokevirtual 70, 3) := by decide +kernel
theorem dX6_drifts_66 : decode cX6_drifts 66 = .ok (.dup2, 1) := by decide +kernel
theorem dX6_drifts_67 : decode cX6_drifts 67 = .ok (.iaload, 1) := by decide +kernel
theorem dX6_drifts_68 : decode cX6_drifts 68 = .ok (.iload_n 3, 1) := by decide +kernel
theorem dX6_drifts_69 : decode cX6_drifts 69 = .ok (.iadd, 1) := by decide +kernel
theorem dX6_drifts_70 : decode cX6_drifts 70 = .ok (.iastore, 1) := by decide +kernel
theorem dX6_drifts_71 : decode cX6_drifts 71 = .ok (.goto 9, 3) := by decide +kernel
theorem dX6_drifts_74 : decode cX6_drifts 74 = .ok (.aload_n 0, 1) := by decide +kernel
theorem dX6_drifts_75 : decode cX6_drifts 75 = .ok (.iload_n 2, 1) := by decide +kernel
theorem dX6_drifts_76 : decode cX6_drifts 76 = .ok (.iload_n 3, 1) := by decide +kernel
theorem dX6_drifts_77 : decode cX6_drifts 77 = .ok (.invokevirtual 78, 3) := by decide +kernel
theorem dX6_drifts_80 : decode cX6_drifts 80 = .ok (.return_, 1) := by decide +kernel
theorem dX6_ages_0 : decode cX6_ages 0 = .ok (.bipush 10, 2) := by decide +kernel
theorem dX6_ages_2 : decode cX6_ages 2 = .ok (.iload_n 1, 1) := by decide +kernel
theorem dX6_ages_3 : decode cX6_ages 3 = .ok (.imul, 1) := by decide +kernel
theorem dX6_ages_4 : decode cX6_ages 4 = .ok (.istore_n 2, 1) := by decide +kernel
theorem dX6_ages_5 : decode cX6_ages 5 = .ok (.iload_n 2, 1) := by decide +kernel
theorem dX6_ages_6 : decode cX6_ages 6 = .ok (.bipush 10, 2) := by decide +kernel
theorem dX6_ages_8 : decode cX6_ages 8 = .ok (.iload_n 1, 1) := by decide +kernel
theorem dX6_ages_9 : decode cX6_ages 9 = .ok (.imul, 1) := by decide +kernel
theorem dX6_ages_10 : decode cX6_ages 10 = .ok (.aload_n 0, 1) := by decide +kernel
theorem dX6_ages_11 : decode cX6_ages 11 = .ok (.getfield 9, 3) := by decide +kernel
theorem dX6_ages_14 : decode cX6_ages 14 = .ok (.iload_n 1, 1) := by decide +kernel
theorem dX6_ages_15 : decode cX6_ages 15 = .ok (.iaload, 1) := by decide +kernel
theorem dX6_ages_16 : decode cX6_ages 16 = .ok (.iadd, 1) := by decide +kernel
theorem dX6_ages_17 : decode cX6_ages 17 = .ok (.if_icmp .ge 92, 3) := by decide +kernel
theorem dX6_ages_20 : decode cX6_ages 20 = .ok (.aload_n 0, 1) := by decide +kernel
theorem dX6_ages_21 : decode cX6_ages 21 = .ok (.getfield 13, 3) := by decide +kernel
theorem dX6_ages_24 : decode cX6_ages 24 = .ok (.iload_n 2, 1) := by decide +kernel
theorem dX6_ages_25 : decode cX6_ages 25 = .ok (.iaload, 1) := by decide +kernel
theorem dX6_ages_26 : decode cX6_ages 26 = .ok (.ifCond .ne 49, 3) := by decide +kernel
theorem dX6_ages_29 : decode cX6_ages 29 = .ok (.aload_n 0, 1) := by decide +kernel
theorem dX6_ages_30 : decode cX6_ages 30 = .ok (.getfield 19, 3) := by decide +kernel
theorem dX6_ages_33 : decode cX6_ages 33 = .ok (.iload_n 2, 1) := by decide +kernel
theorem dX6_ages_34 : decode cX6_ages 34 = .ok (.iaload, 1) := by decide +kernel
theorem dX6_ages_35 : decode cX6_ages 35 = .ok (.iconst 3, 1) := by decide +kernel
theorem dX6_ages_36 : decode cX6_ages 36 = .ok (.if_icmp .lt 39, 3) := by decide +kernel
theorem dX6_ages_39 : decode cX6_ages 39 = .ok (.aload_n 0, 1) := by decide +kernel
theorem dX6_ages_40 : decode cX6_ages 40 = .ok (.getfield 13, 3) := by decide +kernel
theorem dX6_ages_43 : decode cX6_ages 43 = .ok (.iload_n 2, 1) := by decide +kernel
theorem dX6_ages_44 : decode cX6_ages 44 = .ok (.aload_n 0, 1) := by decide +kernel
theorem dX6_ages_45 : decode cX6_ages 45 = .ok (.getfield 28, 3) := by decide +kernel
theorem dX6_ages_48 : decode cX6_ages 48 = .ok (.iload_n 1, 1) := by decide +kernel
theorem dX6_ages_49 : decode cX6_ages 49 = .ok (.iconst 4, 1) := by decide +kernel
theorem dX6_ages_50 : decode cX6_ages 50 = .ok (.idiv, 1) := by decide +kernel
theorem dX6_ages_51 : decode cX6_ages 51 = .ok (.iaload, 1) := by decide +kernel
theorem dX6_ages_52 : decode cX6_ages 52 = .ok (.bipush (-8), 2) := by decide +kernel
theorem dX6_ages_54 : decode cX6_ages 54 = .ok (.if_icmp .gt 15, 3) := by decide +kernel
theorem dX6_ages_57 : decode cX6_ages 57 = .ok (.aload_n 0, 1) := by decide +kernel
theorem dX6_ages_58 : decode cX6_ages 58 = .ok (.getfield 16, 3) := by decide +kernel
theorem dX6_ages_61 : decode cX6_ages 61 = .ok (.iload_n 2, 1) := by decide +kernel
theorem dX6_ages_62 : decode cX6_ages 62 = .ok (.iaload, 1) := by decide +kernel
theorem dX6_ages_63 : decode cX6_ages 63 = .ok (.sipush 300, 3) := by decide +kernel
theorem dX6_ages_66 : decode cX6_ages 66 = .ok (.if_icmp .lt 7, 3) := by decide +kernel
theorem dX6_ages_69 : decode cX6_ages 69 = .ok (.iconst 1, 1) := by decide +kernel
theorem dX6_ages_70 : decode cX6_ages 70 = .ok (.goto 4, 3) := by decide +kernel
theorem dX6_ages_73 : decode cX6_ages 73 = .ok (.iconst 2, 1) := by decide +kernel
theorem dX6_ages_74 : decode cX6_ages 74 = .ok (.iastore, 1) := by decide +kernel
theorem dX6_ages_75 : decode cX6_ages 75 = .ok (.aload_n 0, 1) := by decide +kernel
theorem dX6_ages_76 : decode cX6_ages 76 = .ok (.getfield 13, 3) := by decide +kernel
theorem dX6_ages_79 : decode cX6_ages 79 = .ok (.iload_n 2, 1) := by decide +kernel
theorem dX6_ages_80 : decode cX6_ages 80 = .ok (.iaload, 1) := by decide +kernel
theorem dX6_ages_81 : decode cX6_ages 81 = .ok (.iconst 2, 1) := by decide +kernel
theorem dX6_ages_82 : decode cX6_ages 82 = .ok (.if_icmp .ne 21, 3) := by decide +kernel
theorem dX6_ages_85 : decode cX6_ages 85 = .ok (.aload_n 0, 1) := by decide +kernel
theorem dX6_ages_86 : decode cX6_ages 86 = .ok (.getfield 19, 3) := by decide +kernel
theorem dX6_ages_89 : decode cX6_ages 89 = .ok (.iload_n 2, 1) := by decide +kernel
theorem dX6_ages_90 : decode cX6_ages 90 = .ok (.iaload, 1) := by decide +kernel
theorem dX6_ages_91 : decode cX6_ages 91 = .ok (.bipush 20, 2) := by decide +kernel
theorem dX6_ages_93 : decode cX6_ages 93 = .ok (.if_icmp .lt 10, 3) := by decide +kernel
theorem dX6_ages_96 : decode cX6_ages 96 = .ok (.aload_n 0, 1) := by decide +kernel
theorem dX6_ages_97 : decode cX6_ages 97 = .ok (.getfield 13, 3) := by decide +kernel
theorem dX6_ages_100 : decode cX6_ages 100 = .ok (.iload_n 2, 1) := by decide +kernel
theorem dX6_ages_101 : decode cX6_ages 101 = .ok (.iconst 1, 1) := by decide +kernel
theorem dX6_ages_102 : decode cX6_ages 102 = .ok (.iastore, 1) := by decide +kernel
theorem dX6_ages_103 : decode cX6_ages 103 = .ok (.iinc 2 1, 3) := by decide +kernel
theorem dX6_ages_106 : decode cX6_ages 106 = .ok (.goto (-101), 3) := by decide +kernel
theorem dX6_ages_109 : decode cX6_ages 109 = .ok (.return_, 1) := by decide +kernel
theorem dX6_melts_0 : decode cX6_melts 0 = .ok (.bipush 6, 2) := by decide +kernel
theorem dX6_melts_2 : decode cX6_melts 2 = .ok (.aload_n 0, 1) := by decide +kernel
theorem dX6_melts_3 : decode cX6_melts 3 = .ok (.getfield 28, 3) := by decide +kernel
theorem dX6_melts_6 : decode cX6_melts 6 = .ok (.iload_n 1, 1) := by decide +kernel
theorem dX6_melts_7 : decode cX6_melts 7 = .ok (.iconst 4, 1) := by decide +kernel
theorem dX6_melts_8 : decode cX6_melts 8 = .ok (.idiv, 1) := by decide +kernel
theorem dX6_melts_9 : decode cX6_melts 9 = .ok (.iaload, 1) := by decide +kernel
theorem dX6_melts_10 : decode cX6_melts 10 = .ok (.imul, 1) := by decide +kernel
theorem dX6_melts_11 : decode cX6_melts 11 = .ok (.istore_n 2, 1) := by decide +kernel
theorem dX6_melts_12 : decode cX6_melts 12 = .ok (.iload_n 2, 1) := by decide +kernel
theorem dX6_melts_13 : decode cX6_melts 13 = .ok (.ifCond .gt 4, 3) := by decide +kernel
theorem dX6_melts_16 : decode cX6_melts 16 = .ok (.return_, 1) := by decide +kernel
theorem dX6_melts_17 : decode cX6_melts 17 = .ok (.iload_n 2, 1) := by decide +kernel
theorem dX6_melts_18 : decode cX6_melts 18 = .ok (.ifCond .le 95, 3) := by decide +kernel
theorem dX6_melts_21 : decode cX6_melts 21 = .ok (.aload_n 0, 1) := by decide +kernel
theorem dX6_melts_22 : decode cX6_melts 22 = .ok (.getfield 9, 3) := by decide +kernel
theorem dX6_melts_25 : decode cX6_melts 25 = .ok (.iload_n 1, 1) := by decide +kernel
theorem dX6_melts_26 : decode cX6_melts 26 = .ok (.iaload, 1) := by decide +kernel
theorem dX6_melts_27 : decode cX6_melts 27 = .ok (.ifCond .le 86, 3) := by decide +kernel
theorem dX6_melts_30 : decode cX6_melts 30 = .ok (.aload_n 0, 1) := by decide +kernel
theorem dX6_melts_31 : decode cX6_melts 31 = .ok (.getfield 16, 3) := by decide +kernel
theorem dX6_melts_34 : decode cX6_melts 34 = .ok (.aload_n 0, 1) := by decide +kernel
theorem dX6_melts_35 : decode cX6_melts 35 = .ok (.iload_n 1, 1) := by decide +kernel
theorem dX6_melts_36 : decode cX6_melts 36 = .ok (.invokevirtual 70, 3) := by decide +kernel
theorem dX6_melts_39 : decode cX6_melts 39 = .ok (.iaload, 1) := by decide +kernel
theorem dX6_melts_40 : decode cX6_melts 40 = .ok (.iload_n 2, 1) := by decide +kernel
theorem dX6_melts_41 : decode cX6_melts 41 = .ok (.if_icmp .ge 16, 3) := by decide +kernel
theorem dX6_melts_44 : decode cX6_melts 44 = .ok (.aload_n 0, 1) := by decide +kernel
theorem dX6_melts_45 : decode cX6_melts 45 = .ok (.getfield 16, 3) := by decide +kernel
theorem dX6_melts_48 : decode cX6_melts 48 = .ok (.aload_n 0, 1) := by decide +kernel
theorem dX6_melts_49 : decode cX6_melts 49 = .ok (.iload_n 1, 1) := by decide +kernel
theorem dX6_melts_50 : decode cX6_melts 50 = .ok (.invokevirtual 70, 3) := by decide +kernel
theorem dX6_melts_53 : decode cX6_melts 53 = .ok (.iaload, 1) := by decide +kernel
theorem dX6_melts_54 : decode cX6_melts 54 = .ok (.goto 4, 3) := by decide +kernel
theorem dX6_melts_57 : decode cX6_melts 57 = .ok (.iload_n 2, 1) := by decide +kernel
theorem dX6_melts_58 : decode cX6_melts 58 = .ok (.istore_n 3, 1) := by decide +kernel
theorem dX6_melts_59 : decode cX6_melts 59 = .ok (.aload_n 0, 1) := by decide +kernel
theorem dX6_melts_60 : decode cX6_melts 60 = .ok (.getfield 16, 3) := by decide +kernel
theorem dX6_melts_63 : decode cX6_melts 63 = .ok (.aload_n 0, 1) := by decide +kernel
theorem dX6_melts_64 : decode cX6_melts 64 = .ok (.iload_n 1, 1) := by decide +kernel
theorem dX6_melts_65 : decode cX6_melts 65 = .ok (.invokevirtual 70, 3) := by decide +kernel
theorem dX6_melts_68 : decode cX6_melts 68 = .ok (.dup2, 1) := by decide +kernel
theorem dX6_melts_69 : decode cX6_melts 69 = .ok (.iaload, 1) := by decide +kernel
theorem dX6_melts_70 : decode cX6_melts 70 = .ok (.iload_n 3, 1) := by decide +kernel
theorem dX6_melts_71 : decode cX6_melts 71 = .ok (.isub, 1) := by decide +kernel
theorem dX6_melts_72 : decode cX6_melts 72 = .ok (.iastore, 1) := by decide +kernel
theorem dX6_melts_73 : decode cX6_melts 73 = .ok (.aload_n 0, 1) := by decide +kernel
theorem dX6_melts_74 : decode cX6_melts 74 = .ok (.dup, 1) := by decide +kernel
theorem dX6_melts_75 : decode cX6_melts 75 = .ok (.getfield 82, 3) := by decide +kernel
theorem dX6_melts_78 : decode cX6_melts 78 = .ok (.iload_n 3, 1) := by decide +kernel
theorem dX6_melts_79 : decode cX6_melts 79 = .ok (.iadd, 1) := by decide +kernel
theorem dX6_melts_80 : decode cX6_melts 80 = .ok (.putfield 82, 3) := by decide +kernel
theorem dX6_melts_83 : decode cX6_melts 83 = .ok (.iload_n 2, 1) := by decide +kernel
theorem dX6_melts_84 : decode cX6_melts 84 = .ok (.iload_n 3, 1) := by decide +kernel
theorem dX6_melts_85 : decode cX6_melts 85 = .ok (.isub, 1) := by decide +kernel
theorem dX6_melts_86 : decode cX6_melts 86 = .ok (.istore_n 2, 1) := by decide +kernel
theorem dX6_melts_87 : decode cX6_melts 87 = .ok (.aload_n 0, 1) := by decide +kernel
theorem dX6_melts_88 : decode cX6_melts 88 = .ok (.getfield 16, 3) := by decide +kernel
theorem dX6_melts_91 : decode cX6_melts 91 = .ok (.aload_n 0, 1) := by decide +kernel
theorem dX6_melts_92 : decode cX6_melts 92 = .ok (.iload_n 1, 1) := by decide +kernel
theorem dX6_melts_93 : decode cX6_melts 93 = .ok (.invokevirtual 70, 3) := by decide +kernel
theorem dX6_melts_96 : decode cX6_melts 96 = .ok (.iaload, 1) := by decide +kernel
theorem dX6_melts_97 : decode cX6_melts 97 = .ok (.ifCond .ne 13, 3) := by decide +kernel
theorem dX6_melts_100 : decode cX6_melts 100 = .ok (.aload_n 0, 1) := by decide +kernel
theorem dX6_melts_101 : decode cX6_melts 101 = .ok (.getfield 9, 3) := by decide +kernel
theorem dX6_melts_104 : decode cX6_melts 104 = .ok (.iload_n 1, 1) := by decide +kernel
theorem dX6_melts_105 : decode cX6_melts 105 = .ok (.dup2, 1) := by decide +kernel
theorem dX6_melts_106 : decode cX6_melts 106 = .ok (.iaload, 1) := by decide +kernel
theorem dX6_melts_107 : decode cX6_melts 107 = .ok (.iconst 1, 1) := by decide +kernel
theorem dX6_melts_108 : decode cX6_melts 108 = .ok (.isub, 1) := by decide +kernel
theorem dX6_melts_109 : decode cX6_melts 109 = .ok (.iastore, 1) := by decide +kernel
theorem dX6_melts_110 : decode cX6_melts 110 = .ok (.goto (-93), 3) := by decide +kernel
theorem dX6_melts_113 : decode cX6_melts 113 = .ok (.aload_n 0, 1) := by decide +kernel
theorem dX6_melts_114 : decode cX6_melts 114 = .ok (.getfield 9, 3) := by decide +kernel
theorem dX6_melts_117 : decode cX6_melts 117 = .ok (.iload_n 1, 1) := by decide +kernel
theorem dX6_melts_118 : decode cX6_melts 118 = .ok (.iaload, 1) := by decide +kernel
theorem dX6_melts_119 : decode cX6_melts 119 = .ok (.ifCond .le 14, 3) := by decide +kernel
theorem dX6_melts_122 : decode cX6_melts 122 = .ok (.aload_n 0, 1) := by decide +kernel
theorem dX6_melts_123 : decode cX6_melts 123 = .ok (.getfield 13, 3) := by decide +kernel
theorem dX6_melts_126 : decode cX6_melts 126 = .ok (.aload_n 0, 1) := by decide +kernel
theorem dX6_melts_127 : decode cX6_melts 127 = .ok (.iload_n 1, 1) := by decide +kernel
theorem dX6_melts_128 : decode cX6_melts 128 = .ok (.invokevirtual 70, 3) := by decide +kernel
theorem dX6_melts_131 : decode cX6_melts 131 = .ok (.iconst 3, 1) := by decide +kernel
theorem dX6_melts_132 : decode cX6_melts 132 = .ok (.iastore, 1) := by decide +kernel
theorem dX6_melts_133 : decode cX6_melts 133 = .ok (.return_, 1) := by decide +kernel
theorem dX6_judges_0 : decode cX6_judges 0 = .ok (.iconst 0, 1) := by decide +kernel
theorem dX6_judges_1 : decode cX6_judges 1 = .ok (.istore_n 1, 1) := by decide +kernel
theorem dX6_judges_2 : decode cX6_judges 2 = .ok (.iload_n 1, 1) := by decide +kernel
theorem dX6_judges_3 : decode cX6_judges 3 = .ok (.bipush 12, 2) := by decide +kernel
theorem dX6_judges_5 : decode cX6_judges 5 = .ok (.if_icmp .ge 71, 3) := by decide +kernel
theorem dX6_judges_8 : decode cX6_judges 8 = .ok (.aload_n 0, 1) := by decide +kernel
theorem dX6_judges_9 : decode cX6_judges 9 = .ok (.getfield 35, 3) := by decide +kernel
theorem dX6_judges_12 : decode cX6_judges 12 = .ok (.iload_n 1, 1) := by decide +kernel
theorem dX6_judges_13 : decode cX6_judges 13 = .ok (.iaload, 1) := by decide +kernel
theorem dX6_judges_14 : decode cX6_judges 14 = .ok (.ifCond .le 42, 3) := by decide +kernel
theorem dX6_judges_17 : decode cX6_judges 17 = .ok (.aload_n 0, 1) := by decide +kernel
theorem dX6_judges_18 : decode cX6_judges 18 = .ok (.getfield 38, 3) := by decide +kernel
theorem dX6_judges_21 : decode cX6_judges 21 = .ok (.aload_n 0, 1) := by decide +kernel
theorem dX6_judges_22 : decode cX6_judges 22 = .ok (.getfield 35, 3) := by decide +kernel
theorem dX6_judges_25 : decode cX6_judges 25 = .ok (.iload_n 1, 1) := by decide +kernel
theorem dX6_judges_26 : decode cX6_judges 26 = .ok (.iaload, 1) := by decide +kernel
theorem dX6_judges_27 : decode cX6_judges 27 = .ok (.iconst 3, 1) := by decide +kernel
theorem dX6_judges_28 : decode cX6_judges 28 = .ok (.if_icmp .lt 7, 3) := by decide +kernel
theorem dX6_judges_31 : decode cX6_judges 31 = .ok (.iconst 0, 1) := by decide +kernel
theorem dX6_judges_32 : decode cX6_judges 32 = .ok (.goto 4, 3) := by decide +kernel
theorem dX6_judges_35 : decode cX6_judges 35 = .ok (.iconst 2, 1) := by decide +kernel
theorem dX6_judges_36 : decode cX6_judges 36 = .ok (.aload_n 0, 1) := by decide +kernel
theorem dX6_judges_37 : decode cX6_judges 37 = .ok (.getfield 31, 3) := by decide +kernel
theorem dX6_judges_40 : decode cX6_judges 40 = .ok (.iload_n 1, 1) := by decide +kernel
theorem dX6_judges_41 : decode cX6_judges 41 = .ok (.baload, 1) := by decide +kernel
theorem dX6_judges_42 : decode cX6_judges 42 = .ok (.ifCond .eq 7, 3) := by decide +kernel
theorem dX6_judges_45 : decode cX6_judges 45 = .ok (.iconst 0, 1) := by decide +kernel
theorem dX6_judges_46 : decode cX6_judges 46 = .ok (.goto 4, 3) := by decide +kernel
theorem dX6_judges_49 : decode cX6_judges 49 = .ok (.iconst 1, 1) := by decide +kernel
theorem dX6_judges_50 : decode cX6_judges 50 = .ok (.iadd, 1) := by decide +kernel
theorem dX6_judges_51 : decode cX6_judges 51 = .ok (.dup2, 1) := by decide +kernel
theorem dX6_judges_52 : decode cX6_judges 52 = .ok (.iaload, 1) := by decide +kernel
theorem dX6_judges_53 : decode cX6_judges 53 = .ok (.iconst 1, 1) := by decide +kernel
theorem dX6_judges_54 : decode cX6_judges 54 = .ok (.iadd, 1) := by decide +kernel
theorem dX6_judges_55 : decode cX6_judges 55 = .ok (.iastore, 1) := by decide +kernel
theorem dX6_judges_56 : decode cX6_judges 56 = .ok (.aload_n 0, 1) := by decide +kernel
theorem dX6_judges_57 : decode cX6_judges 57 = .ok (.getfield 35, 3) := by decide +kernel
theorem dX6_judges_60 : decode cX6_judges 60 = .ok (.iload_n 1, 1) := by decide +kernel
theorem dX6_judges_61 : decode cX6_judges 61 = .ok (.iconst 0, 1) := by decide +kernel
theorem dX6_judges_62 : decode cX6_judges 62 = .ok (.iastore, 1) := by decide +kernel
theorem dX6_judges_63 : decode cX6_judges 63 = .ok (.aload_n 0, 1) := by decide +kernel
theorem dX6_judges_64 : decode cX6_judges 64 = .ok (.getfield 31, 3) := by decide +kernel
theorem dX6_judges_67 : decode cX6_judges 67 = .ok (.iload_n 1, 1) := by decide +kernel
theorem dX6_judges_68 : decode cX6_judges 68 = .ok (.iconst 0, 1) := by decide +kernel
theorem dX6_judges_69 : decode cX6_judges 69 = .ok (.bastore, 1) := by decide +kernel
theorem dX6_judges_70 : decode cX6_judges 70 = .ok (.iinc 1 1, 3) := by decide +kernel
theorem dX6_judges_73 : decode cX6_judges 73 = .ok (.goto (-71), 3) := by decide +kernel
theorem dX6_judges_76 : decode cX6_judges 76 = .ok (.return_, 1) := by decide +kernel
theorem dX6_day_0 : decode cX6_day 0 = .ok (.aload_n 0, 1) := by decide +kernel
theorem dX6_day_1 : decode cX6_day 1 = .ok (.invokevirtual 85, 3) := by decide +kernel
theorem dX6_day_4 : decode cX6_day 4 = .ok (.iconst 0, 1) := by decide +kernel
theorem dX6_day_5 : decode cX6_day 5 = .ok (.istore_n 1, 1) := by decide +kernel
theorem dX6_day_6 : decode cX6_day 6 = .ok (.iload_n 1, 1) := by decide +kernel
theorem dX6_day_7 : decode cX6_day 7 = .ok (.iconst 3, 1) := by decide +kernel
theorem dX6_day_8 : decode cX6_day 8 = .ok (.if_icmp .ge 32, 3) := by decide +kernel
theorem dX6_day_11 : decode cX6_day 11 = .ok (.aload_n 0, 1) := by decide +kernel
theorem dX6_day_12 : decode cX6_day 12 = .ok (.getfield 25, 3) := by decide +kernel
theorem dX6_day_15 : decode cX6_day 15 = .ok (.iload_n 1, 1) := by decide +kernel
theorem dX6_day_16 : decode cX6_day 16 = .ok (.iaload, 1) := by decide +kernel
theorem dX6_day_17 : decode cX6_day 17 = .ok (.bipush (-100), 2) := by decide +kernel
theorem dX6_day_19 : decode cX6_day 19 = .ok (.if_icmp .eq 15, 3) := by decide +kernel
theorem dX6_day_22 : decode cX6_day 22 = .ok (.aload_n 0, 1) := by decide +kernel
theorem dX6_day_23 : decode cX6_day 23 = .ok (.getfield 28, 3) := by decide +kernel
theorem dX6_day_26 : decode cX6_day 26 = .ok (.iload_n 1, 1) := by decide +kernel
theorem dX6_day_27 : decode cX6_day 27 = .ok (.aload_n 0, 1) := by decide +kernel
theorem dX6_day_28 : decode cX6_day 28 = .ok (.getfield 25, 3) := by decide +kernel
theorem dX6_day_31 : decode cX6_day 31 = .ok (.iload_n 1, 1) := by decide +kernel
theorem dX6_day_32 : decode cX6_day 32 = .ok (.iaload, 1) := by decide +kernel
theorem dX6_day_33 : decode cX6_day 33 = .ok (.iastore, 1) := by decide +kernel
theorem dX6_day_34 : decode cX6_day 34 = .ok (.iinc 1 1, 3) := by decide +kernel
theorem dX6_day_37 : decode cX6_day 37 = .ok (.goto (-31), 3) := by decide +kernel
theorem dX6_day_40 : decode cX6_day 40 = .ok (.iconst 0, 1) := by decide +kernel
theorem dX6_day_41 : decode cX6_day 41 = .ok (.istore_n 1, 1) := by decide +kernel
theorem dX6_day_42 : decode cX6_day 42 = .ok (.iload_n 1, 1) := by decide +kernel
theorem dX6_day_43 : decode cX6_day 43 = .ok (.bipush 12, 2) := by decide +kernel
theorem dX6_day_45 : decode cX6_day 45 = .ok (.if_icmp .ge 79, 3) := by decide +kernel
theorem dX6_day_48 : decode cX6_day 48 = .ok (.bipush 10, 2) := by decide +kernel
theorem dX6_day_50 : decode cX6_day 50 = .ok (.iload_n 1, 1) := by decide +kernel
theorem dX6_day_51 : decode cX6_day 51 = .ok (.imul, 1) := by decide +kernel
theorem dX6_day_52 : decode cX6_day 52 = .ok (.istore_n 2, 1) := by decide +kernel
theorem dX6_day_53 : decode cX6_day 53 = .ok (.iload_n 2, 1) := by decide +kernel
theorem dX6_day_54 : decode cX6_day 54 = .ok (.bipush 10, 2) := by decide +kernel
theorem dX6_day_56 : decode cX6_day 56 = .ok (.iload_n 1, 1) := by decide +kernel
theorem dX6_day_57 : decode cX6_day 57 = .ok (.imul, 1) := by decide +kernel
theorem dX6_day_58 : decode cX6_day 58 = .ok (.aload_n 0, 1) := by decide +kernel
theorem dX6_day_59 : decode cX6_day 59 = .ok (.getfield 9, 3) := by decide +kernel
theorem dX6_day_62 : decode cX6_day 62 = .ok (.iload_n 1, 1) := by decide +kernel
theorem dX6_day_63 : decode cX6_day 63 = .ok (.iaload, 1) := by decide +kernel
theorem dX6_day_64 : decode cX6_day 64 = .ok (.iadd, 1) := by decide +kernel
theorem dX6_day_65 : decode cX6_day 65 = .ok (.if_icmp .ge 19, 3) := by decide +kernel
theorem dX6_day_68 : decode cX6_day 68 = .ok (.aload_n 0, 1) := by decide +kernel
theorem dX6_day_69 : decode cX6_day 69 = .ok (.getfield 19, 3) := by decide +kernel
theorem dX6_day_72 : decode cX6_day 72 = .ok (.iload_n 2, 1) := by decide +kernel
theorem dX6_day_73 : decode cX6_day 73 = .ok (.dup2, 1) := by decide +kernel
theorem dX6_day_74 : decode cX6_day 74 = .ok (.iaload, 1) := by decide +kernel
theorem dX6_day_75 : decode cX6_day 75 = .ok (.iconst 1, 1) := by decide +kernel
theorem dX6_day_76 : decode cX6_day 76 = .ok (.iadd, 1) := by decide +kernel
theorem dX6_day_77 : decode cX6_day 77 = .ok (.iastore, 1) := by decide +kernel
theorem dX6_day_78 : decode cX6_day 78 = .ok (.iinc 2 1, 3) := by decide +kernel
theorem dX6_day_81 : decode cX6_day 81 = .ok (.goto (-28), 3) := by decide +kernel
theorem dX6_day_84 : decode cX6_day 84 = .ok (.bipush 10, 2) := by decide +kernel
theorem dX6_day_86 : decode cX6_day 86 = .ok (.aload_n 0, 1) := by decide +kernel
theorem dX6_day_87 : decode cX6_day 87 = .ok (.iload_n 1, 1) := by decide +kernel
theorem dX6_day_88 : decode cX6_day 88 = .ok (.iconst 4, 1) := by decide +kernel
theorem dX6_day_89 : decode cX6_day 89 = .ok (.idiv, 1) := by decide +kernel
theorem dX6_day_90 : decode cX6_day 90 = .ok (.invokevirtual 88, 3) := by decide +kernel
theorem dX6_day_93 : decode cX6_day 93 = .ok (.imul, 1) := by decide +kernel
theorem dX6_day_94 : decode cX6_day 94 = .ok (.istore_n 2, 1) := by decide +kernel
theorem dX6_day_95 : decode cX6_day 95 = .ok (.iload_n 2, 1) := by decide +kernel
theorem dX6_day_96 : decode cX6_day 96 = .ok (.ifCond .ne 6, 3) := by decide +kernel
theorem dX6_day_99 : decode cX6_day 99 = .ok (.goto 19, 3) := by decide +kernel
theorem dX6_day_102 : decode cX6_day 102 = .ok (.aload_n 0, 1) := by decide +kernel
theorem dX6_day_103 : decode cX6_day 103 = .ok (.iload_n 1, 1) := by decide +kernel
theorem dX6_day_104 : decode cX6_day 104 = .ok (.iload_n 2, 1) := by decide +kernel
theorem dX6_day_105 : decode cX6_day 105 = .ok (.invokevirtual 78, 3) := by decide +kernel
theorem dX6_day_108 : decode cX6_day 108 = .ok (.aload_n 0, 1) := by decide +kernel
theorem dX6_day_109 : decode cX6_day 109 = .ok (.dup, 1) := by decide +kernel
theorem dX6_day_110 : decode cX6_day 110 = .ok (.getfield 91, 3) := by decide +kernel
theorem dX6_day_113 : decode cX6_day 113 = .ok (.iload_n 2, 1) := by decide +kernel
theorem dX6_day_114 : decode cX6_day 114 = .ok (.iadd, 1) := by decide +kernel
theorem dX6_day_115 : decode cX6_day 115 = .ok (.putfield 91, 3) := by decide +kernel
theorem dX6_day_118 : decode cX6_day 118 = .ok (.iinc 1 1, 3) := by decide +kernel
theorem dX6_day_121 : decode cX6_day 121 = .ok (.goto (-79), 3) := by decide +kernel
theorem dX6_day_124 : decode cX6_day 124 = .ok (.iconst 0, 1) := by decide +kernel
theorem dX6_day_125 : decode cX6_day 125 = .ok (.istore_n 1, 1) := by decide +kernel
theorem dX6_day_126 : decode cX6_day 126 = .ok (.iload_n 1, 1) := by decide +kernel
theorem dX6_day_127 : decode cX6_day 127 = .ok (.iconst 3, 1) := by decide +kernel
theorem dX6_day_128 : decode cX6_day 128 = .ok (.if_icmp .ge 41, 3) := by decide +kernel
theorem dX6_day_131 : decode cX6_day 131 = .ok (.aload_n 0, 1) := by decide +kernel
theorem dX6_day_132 : decode cX6_day 132 = .ok (.getfield 67, 3) := by decide +kernel
theorem dX6_day_135 : decode cX6_day 135 = .ok (.iconst 3, 1) := by decide +kernel
theorem dX6_day_136 : decode cX6_day 136 = .ok (.if_icmp .le 33, 3) := by decide +kernel
theorem dX6_day_139 : decode cX6_day 139 = .ok (.aload_n 0, 1) := by decide +kernel
theorem dX6_day_140 : decode cX6_day 140 = .ok (.iconst 4, 1) := by decide +kernel
theorem dX6_day_141 : decode cX6_day 141 = .ok (.iload_n 1, 1) := by decide +kernel
theorem dX6_day_142 : decode cX6_day 142 = .ok (.imul, 1) := by decide +kernel
theorem dX6_day_143 : decode cX6_day 143 = .ok (.aload_n 0, 1) := by decide +kernel
theorem dX6_day_144 : decode cX6_day 144 = .ok (.getfield 64, 3) := by decide +kernel
theorem dX6_day_147 : decode cX6_day 147 = .ok (.iadd, 1) := by decide +kernel
theorem dX6_day_148 : decode cX6_day 148 = .ok (.iconst 4, 1) := by decide +kernel
theorem dX6_day_149 : decode cX6_day 149 = .ok (.iload_n 1, 1) := by decide +kernel
theorem dX6_day_150 : decode cX6_day 150 = .ok (.imul, 1) := by decide +kernel
theorem dX6_day_151 : decode cX6_day 151 = .ok (.aload_n 0, 1) := by decide +kernel
theorem dX6_day_152 : decode cX6_day 152 = .ok (.getfield 64, 3) := by decide +kernel
theorem dX6_day_155 : decode cX6_day 155 = .ok (.iconst 2, 1) := by decide +kernel
theorem dX6_day_156 : decode cX6_day 156 = .ok (.iadd, 1) := by decide +kernel
theorem dX6_day_157 : decode cX6_day 157 = .ok (.iconst 4, 1) := by decide +kernel
theorem dX6_day_158 : decode cX6_day 158 = .ok (.irem, 1) := by decide +kernel
theorem dX6_day_159 : decode cX6_day 159 = .ok (.iadd, 1) := by decide +kernel
theorem dX6_day_160 : decode cX6_day 160 = .ok (.invokevirtual 94, 3) := by decide +kernel
theorem dX6_day_163 : decode cX6_day 163 = .ok (.iinc 1 1, 3) := by decide +kernel
theorem dX6_day_166 : decode cX6_day 166 = .ok (.goto (-40), 3) := by decide +kernel
theorem dX6_day_169 : decode cX6_day 169 = .ok (.iconst 0, 1) := by decide +kernel
theorem dX6_day_170 : decode cX6_day 170 = .ok (.istore_n 1, 1) := by decide +kernel
theorem dX6_day_171 : decode cX6_day 171 = .ok (.iload_n 1, 1) := by decide +kernel
theorem dX6_day_172 : decode cX6_day 172 = .ok (.bipush 12, 2) := by decide +kernel
theorem dX6_day_174 : decode cX6_day 174 = .ok (.if_icmp .ge 19, 3) := by decide +kernel
theorem dX6_day_177 : decode cX6_day 177 = .ok (.aload_n 0, 1) := by decide +kernel
theorem dX6_day_178 : decode cX6_day 178 = .ok (.iload_n 1, 1) := by decide +kernel
theorem dX6_day_179 : decode cX6_day 179 = .ok (.invokevirtual 97, 3) := by decide +kernel
theorem dX6_day_182 : decode cX6_day 182 = .ok (.aload_n 0, 1) := by decide +kernel
theorem dX6_day_183 : decode cX6_day 183 = .ok (.iload_n 1, 1) := by decide +kernel
theorem dX6_day_184 : decode cX6_day 184 = .ok (.invokevirtual 101, 3) := by decide +kernel
theorem dX6_day_187 : decode cX6_day 187 = .ok (.iinc 1 1, 3) := by decide +kernel
theorem dX6_day_190 : decode cX6_day 190 = .ok (.goto (-19), 3) := by decide +kernel
theorem dX6_day_193 : decode cX6_day 193 = .ok (.aload_n 0, 1) := by decide +kernel
theorem dX6_day_194 : decode cX6_day 194 = .ok (.dup, 1) := by decide +kernel
theorem dX6_day_195 : decode cX6_day 195 = .ok (.getfield 60, 3) := by decide +kernel
theorem dX6_day_198 : decode cX6_day 198 = .ok (.iconst 1, 1) := by decide +kernel
theorem dX6_day_199 : decode cX6_day 199 = .ok (.iadd, 1) := by decide +kernel
theorem dX6_day_200 : decode cX6_day 200 = .ok (.putfield 60, 3) := by decide +kernel
theorem dX6_day_203 : decode cX6_day 203 = .ok (.iconst 0, 1) := by decide +kernel
theorem dX6_day_204 : decode cX6_day 204 = .ok (.istore_n 1, 1) := by decide +kernel
theorem dX6_day_205 : decode cX6_day 205 = .ok (.iload_n 1, 1) := by decide +kernel
theorem dX6_day_206 : decode cX6_day 206 = .ok (.iconst 3, 1) := by decide +kernel
theorem dX6_day_207 : decode cX6_day 207 = .ok (.if_icmp .ge 24, 3) := by decide +kernel
theorem dX6_day_210 : decode cX6_day 210 = .ok (.aload_n 0, 1) := by decide +kernel
theorem dX6_day_211 : decode cX6_day 211 = .ok (.getfield 22, 3) := by decide +kernel
theorem dX6_day_214 : decode cX6_day 214 = .ok (.iload_n 1, 1) := by decide +kernel
theorem dX6_day_215 : decode cX6_day 215 = .ok (.iconst (-1), 1) := by decide +kernel
theorem dX6_day_216 : decode cX6_day 216 = .ok (.iastore, 1) := by decide +kernel
theorem dX6_day_217 : decode cX6_day 217 = .ok (.aload_n 0, 1) := by decide +kernel
theorem dX6_day_218 : decode cX6_day 218 = .ok (.getfield 25, 3) := by decide +kernel
theorem dX6_day_221 : decode cX6_day 221 = .ok (.iload_n 1, 1) := by decide +kernel
theorem dX6_day_222 : decode cX6_day 222 = .ok (.bipush (-100), 2) := by decide +kernel
theorem dX6_day_224 : decode cX6_day 224 = .ok (.iastore, 1) := by decide +kernel
theorem dX6_day_225 : decode cX6_day 225 = .ok (.iinc 1 1, 3) := by decide +kernel
theorem dX6_day_228 : decode cX6_day 228 = .ok (.goto (-23), 3) := by decide +kernel
theorem dX6_day_231 : decode cX6_day 231 = .ok (.aload_n 0, 1) := by decide +kernel
theorem dX6_day_232 : decode cX6_day 232 = .ok (.iconst 0, 1) := by decide +kernel
theorem dX6_day_233 : decode cX6_day 233 = .ok (.putfield 67, 3) := by decide +kernel
theorem dX6_day_236 : decode cX6_day 236 = .ok (.return_, 1) := by decide +kernel
theorem dX6_go_0 : decode cX6_go 0 = .ok (.iload_n 1, 1) := by decide +kernel
theorem dX6_go_1 : decode cX6_go 1 = .ok (.iconst 0, 1) := by decide +kernel
theorem dX6_go_2 : decode cX6_go 2 = .ok (.bipush 30, 2) := by decide +kernel
theorem dX6_go_4 : decode cX6_go 4 = .ok (.invokestatic 56, 3) := by decide +kernel
theorem dX6_go_7 : decode cX6_go 7 = .ok (.ifCond .ne 5, 3) := by decide +kernel
theorem dX6_go_10 : decode cX6_go 10 = .ok (.iconst (-1), 1) := by decide +kernel
theorem dX6_go_11 : decode cX6_go 11 = .ok (.ireturn, 1) := by decide +kernel
theorem dX6_go_12 : decode cX6_go 12 = .ok (.iconst 0, 1) := by decide +kernel
theorem dX6_go_13 : decode cX6_go 13 = .ok (.istore_n 2, 1) := by decide +kernel
theorem dX6_go_14 : decode cX6_go 14 = .ok (.iload_n 2, 1) := by decide +kernel
theorem dX6_go_15 : decode cX6_go 15 = .ok (.iload_n 1, 1) := by decide +kernel
theorem dX6_go_16 : decode cX6_go 16 = .ok (.if_icmp .ge 23, 3) := by decide +kernel
theorem dX6_go_19 : decode cX6_go 19 = .ok (.aload_n 0, 1) := by decide +kernel
theorem dX6_go_20 : decode cX6_go 20 = .ok (.getfield 60, 3) := by decide +kernel
theorem dX6_go_23 : decode cX6_go 23 = .ok (.sipush 400, 3) := by decide +kernel
theorem dX6_go_26 : decode cX6_go 26 = .ok (.if_icmp .ge 13, 3) := by decide +kernel
theorem dX6_go_29 : decode cX6_go 29 = .ok (.aload_n 0, 1) := by decide +kernel
theorem dX6_go_30 : decode cX6_go 30 = .ok (.invokevirtual 104, 3) := by decide +kernel
theorem dX6_go_33 : decode cX6_go 33 = .ok (.iinc 2 1, 3) := by decide +kernel
theorem dX6_go_36 : decode cX6_go 36 = .ok (.goto (-22), 3) := by decide +kernel
theorem dX6_go_39 : decode cX6_go 39 = .ok (.aload_n 0, 1) := by decide +kernel
theorem dX6_go_40 : decode cX6_go 40 = .ok (.getfield 60, 3) := by decide +kernel
theorem dX6_go_43 : decode cX6_go 43 = .ok (.ireturn, 1) := by decide +kernel
theorem dX6_load_0 : decode cX6_load 0 = .ok (.iconst 0, 1) := by decide +kernel
theorem dX6_load_1 : decode cX6_load 1 = .ok (.istore_n 3, 1) := by decide +kernel
theorem dX6_load_2 : decode cX6_load 2 = .ok (.iload_n 2, 1) := by decide +kernel
theorem dX6_load_3 : decode cX6_load 3 = .ok (.iconst 1, 1) := by decide +kernel
theorem dX6_load_4 : decode cX6_load 4 = .ok (.iadd, 1) := by decide +kernel
theorem dX6_load_5 : decode cX6_load 5 = .ok (.istore 4, 2) := by decide +kernel
theorem dX6_load_7 : decode cX6_load 7 = .ok (.iload 4, 2) := by decide +kernel
theorem dX6_load_9 : decode cX6_load 9 = .ok (.aload_n 0, 1) := by decide +kernel
theorem dX6_load_10 : decode cX6_load 10 = .ok (.getfield 9, 3) := by decide +kernel
theorem dX6_load_13 : decode cX6_load 13 = .ok (.iload_n 1, 1) := by decide +kernel
theorem dX6_load_14 : decode cX6_load 14 = .ok (.iaload, 1) := by decide +kernel
theorem dX6_load_15 : decode cX6_load 15 = .ok (.if_icmp .ge 24, 3) := by decide +kernel
theorem dX6_load_18 : decode cX6_load 18 = .ok (.iload_n 3, 1) := by decide +kernel
theorem dX6_load_19 : decode cX6_load 19 = .ok (.aload_n 0, 1) := by decide +kernel
theorem dX6_load_20 : decode cX6_load 20 = .ok (.getfield 16, 3) := by decide +kernel
theorem dX6_load_23 : decode cX6_load 23 = .ok (.bipush 10, 2) := by decide +kernel
theorem dX6_load_25 : decode cX6_load 25 = .ok (.iload_n 1, 1) := by decide +kernel
theorem dX6_load_26 : decode cX6_load 26 = .ok (.imul, 1) := by decide +kernel
theorem dX6_load_27 : decode cX6_load 27 = .ok (.iload 4, 2) := by decide +kernel
theorem dX6_load_29 : decode cX6_load 29 = .ok (.iadd, 1) := by decide +kernel
theorem dX6_load_30 : decode cX6_load 30 = .ok (.iaload, 1) := by decide +kernel
theorem dX6_load_31 : decode cX6_load 31 = .ok (.iadd, 1) := by decide +kernel
theorem dX6_load_32 : decode cX6_load 32 = .ok (.istore_n 3, 1) := by decide +kernel
theorem dX6_load_33 : decode cX6_load 33 = .ok (.iinc 4 1, 3) := by decide +kernel
theorem dX6_load_36 : decode cX6_load 36 = .ok (.goto (-29), 3) := by decide +kernel
theorem dX6_load_39 : decode cX6_load 39 = .ok (.iload_n 3, 1) := by decide +kernel
theorem dX6_load_40 : decode cX6_load 40 = .ok (.ireturn, 1) := by decide +kernel
theorem dX6_index_0 : decode cX6_index 0 = .ok (.aload_n 0, 1) := by decide +kernel
theorem dX6_index_1 : decode cX6_index 1 = .ok (.iload_n 1, 1) := by decide +kernel
theorem dX6_index_2 : decode cX6_index 2 = .ok (.iload_n 2, 1) := by decide +kernel
theorem dX6_index_3 : decode cX6_index 3 = .ok (.invokevirtual 107, 3) := by decide +kernel
theorem dX6_index_6 : decode cX6_index 6 = .ok (.istore_n 3, 1) := by decide +kernel
theorem dX6_index_7 : decode cX6_index 7 = .ok (.iload_n 3, 1) := by decide +kernel
theorem dX6_index_8 : decode cX6_index 8 = .ok (.ifCond .ne 5, 3) := by decide +kernel
theorem dX6_index_11 : decode cX6_index 11 = .ok (.iconst (-1), 1) := by decide +kernel
theorem dX6_index_12 : decode cX6_index 12 = .ok (.ireturn, 1) := by decide +kernel
theorem dX6_index_13 : decode cX6_index 13 = .ok (.bipush 10, 2) := by decide +kernel
theorem dX6_index_15 : decode cX6_index 15 = .ok (.iload_n 1, 1) := by decide +kernel
theorem dX6_index_16 : decode cX6_index 16 = .ok (.imul, 1) := by decide +kernel
theorem dX6_index_17 : decode cX6_index 17 = .ok (.iload_n 2, 1) := by decide +kernel
theorem dX6_index_18 : decode cX6_index 18 = .ok (.iadd, 1) := by decide +kernel
theorem dX6_index_19 : decode cX6_index 19 = .ok (.istore 4, 2) := by decide +kernel
theorem dX6_index_21 : decode cX6_index 21 = .ok (.aload_n 0, 1) := by decide +kernel
theorem dX6_index_22 : decode cX6_index 22 = .ok (.getfield 13, 3) := by decide +kernel
theorem dX6_index_25 : decode cX6_index 25 = .ok (.iload 4, 2) := by decide +kernel
theorem dX6_index_27 : decode cX6_index 27 = .ok (.iaload, 1) := by decide +kernel
theorem dX6_index_28 : decode cX6_index 28 = .ok (.ifCond .ne 9, 3) := by decide +kernel
theorem dX6_index_31 : decode cX6_index 31 = .ok (.sipush 400, 3) := by decide +kernel
theorem dX6_index_34 : decode cX6_index 34 = .ok (.goto 51, 3) := by decide +kernel
theorem dX6_index_37 : decode cX6_index 37 = .ok (.aload_n 0, 1) := by decide +kernel
theorem dX6_index_38 : decode cX6_index 38 = .ok (.getfield 13, 3) := by decide +kernel
theorem dX6_index_41 : decode cX6_index 41 = .ok (.iload 4, 2) := by decide +kernel
theorem dX6_index_43 : decode cX6_index 43 = .ok (.iaload, 1) := by decide +kernel
theorem dX6_index_44 : decode cX6_index 44 = .ok (.iconst 1, 1) := by decide +kernel
theorem dX6_index_45 : decode cX6_index 45 = .ok (.if_icmp .ne 9, 3) := by decide +kernel
theorem dX6_index_48 : decode cX6_index 48 = .ok (.sipush 900, 3) := by decide +kernel
theorem dX6_index_51 : decode cX6_index 51 = .ok (.goto 34, 3) := by decide +kernel
theorem dX6_index_54 : decode cX6_index 54 = .ok (.aload_n 0, 1) := by decide +kernel
theorem dX6_index_55 : decode cX6_index 55 = .ok (.getfield 13, 3) := by decide +kernel
theorem dX6_index_58 : decode cX6_index 58 = .ok (.iload 4, 2) := by decide +kernel
theorem dX6_index_60 : decode cX6_index 60 = .ok (.iaload, 1) := by decide +kernel
theorem dX6_index_61 : decode cX6_index 61 = .ok (.iconst 2, 1) := by decide +kernel
theorem dX6_index_62 : decode cX6_index 62 = .ok (.if_icmp .ne 20, 3) := by decide +kernel
theorem dX6_index_65 : decode cX6_index 65 = .ok (.sipush 250, 3) := by decide +kernel
theorem dX6_index_68 : decode cX6_index 68 = .ok (.bipush 15, 2) := by decide +kernel
theorem dX6_index_70 : decode cX6_index 70 = .ok (.aload_n 0, 1) := by decide +kernel
theorem dX6_index_71 : decode cX6_index 71 = .ok (.getfield 19, 3) := by decide +kernel
theorem dX6_index_74 : decode cX6_index 74 = .ok (.iload 4, 2) := by decide +kernel
theorem dX6_index_76 : decode cX6_index 76 = .ok (.iaload, 1) := by decide +kernel
theorem dX6_index_77 : decode cX6_index 77 = .ok (.imul, 1) := by decide +kernel
theorem dX6_index_78 : decode cX6_index 78 = .ok (.iadd, 1) := by decide +kernel
theorem dX6_index_79 : decode cX6_index 79 = .ok (.goto 6, 3) := by decide +kernel
theorem dX6_index_82 : decode cX6_index 82 = .ok (.sipush 3000, 3) := by decide +kernel
theorem dX6_index_85 : decode cX6_index 85 = .ok (.istore 5, 2) := by decide +kernel
theorem dX6_index_87 : decode cX6_index 87 = .ok (.bipush 100, 2) := by decide +kernel
theorem dX6_index_89 : decode cX6_index 89 = .ok (.iload 5, 2) := by decide +kernel
theorem dX6_index_91 : decode cX6_index 91 = .ok (.imul, 1) := by decide +kernel
theorem dX6_index_92 : decode cX6_index 92 = .ok (.iload_n 3, 1) := by decide +kernel
theorem dX6_index_93 : decode cX6_index 93 = .ok (.idiv, 1) := by decide +kernel
theorem dX6_index_94 : decode cX6_index 94 = .ok (.istore 6, 2) := by decide +kernel
theorem dX6_index_96 : decode cX6_index 96 = .ok (.iload 6, 2) := by decide +kernel
theorem dX6_index_98 : decode cX6_index 98 = .ok (.sipush 999, 3) := by decide +kernel
theorem dX6_index_101 : decode cX6_index 101 = .ok (.if_icmp .le 9, 3) := by decide +kernel
theorem dX6_index_104 : decode cX6_index 104 = .ok (.sipush 999, 3) := by decide +kernel
theorem dX6_index_107 : decode cX6_index 107 = .ok (.goto 5, 3) := by decide +kernel
theorem dX6_index_110 : decode cX6_index 110 = .ok (.iload 6, 2) := by decide +kernel
theorem dX6_index_112 : decode cX6_index 112 = .ok (.ireturn, 1) := by decide +kernel
theorem dX6_layer_0 : decode cX6_layer 0 = .ok (.iload_n 1, 1) := by decide +kernel
theorem dX6_layer_1 : decode cX6_layer 1 = .ok (.invokestatic 111, 3) := by decide +kernel
theorem dX6_layer_4 : decode cX6_layer 4 = .ok (.ifCond .eq 19, 3) := by decide +kernel
theorem dX6_layer_7 : decode cX6_layer 7 = .ok (.iload_n 2, 1) := by decide +kernel
theorem dX6_layer_8 : decode cX6_layer 8 = .ok (.iconst 0, 1) := by decide +kernel
theorem dX6_layer_9 : decode cX6_layer 9 = .ok (.aload_n 0, 1) := by decide +kernel
theorem dX6_layer_10 : decode cX6_layer 10 = .ok (.getfield 9, 3) := by decide +kernel
theorem dX6_layer_13 : decode cX6_layer 13 = .ok (.iload_n 1, 1) := by decide +kernel
theorem dX6_layer_14 : decode cX6_layer 14 = .ok (.iaload, 1) := by decide +kernel
theorem dX6_layer_15 : decode cX6_layer 15 = .ok (.iconst 1, 1) := by decide +kernel
theorem dX6_layer_16 : decode cX6_layer 16 = .ok (.isub, 1) := by decide +kernel
theorem dX6_layer_17 : decode cX6_layer 17 = .ok (.invokestatic 56, 3) := by decide +kernel
theorem dX6_layer_20 : decode cX6_layer 20 = .ok (.ifCond .ne 5, 3) := by decide +kernel
theorem dX6_layer_23 : decode cX6_layer 23 = .ok (.iconst (-1), 1) := by decide +kernel
theorem dX6_layer_24 : decode cX6_layer 24 = .ok (.ireturn, 1) := by decide +kernel
theorem dX6_layer_25 : decode cX6_layer 25 = .ok (.bipush 10, 2) := by decide +kernel
theorem dX6_layer_27 : decode cX6_layer 27 = .ok (.iload_n 1, 1) := by decide +kernel
theorem dX6_layer_28 : decode cX6_layer 28 = .ok (.imul, 1) := by decide +kernel
theorem dX6_layer_29 : decode cX6_layer 29 = .ok (.iload_n 2, 1) := by decide +kernel
theorem dX6_layer_30 : decode cX6_layer 30 = .ok (.iadd, 1) := by decide +kernel
theorem dX6_layer_31 : decode cX6_layer 31 = .ok (.istore 4, 2) := by decide +kernel
theorem dX6_layer_33 : decode cX6_layer 33 = .ok (.iload_n 3, 1) := by decide +kernel
theorem dX6_layer_34 : decode cX6_layer 34 = .ok (.tableswitch 72 0 4 #[34, 42, 50, 58, 65], 34) := by decide +kernel
theorem dX6_layer_68 : decode cX6_layer 68 = .ok (.aload_n 0, 1) := by decide +kernel
theorem dX6_layer_69 : decode cX6_layer 69 = .ok (.getfield 13, 3) := by decide +kernel
theorem dX6_layer_72 : decode cX6_layer 72 = .ok (.iload 4, 2) := by decide +kernel
theorem dX6_layer_74 : decode cX6_layer 74 = .ok (.iaload, 1) := by decide +kernel
theorem dX6_layer_75 : decode cX6_layer 75 = .ok (.ireturn, 1) := by decide +kernel
theorem dX6_layer_76 : decode cX6_layer 76 = .ok (.aload_n 0, 1) := by decide +kernel
theorem dX6_layer_77 : decode cX6_layer 77 = .ok (.getfield 16, 3) := by decide +kernel
theorem dX6_layer_80 : decode cX6_layer 80 = .ok (.iload 4, 2) := by decide +kernel
theorem dX6_layer_82 : decode cX6_layer 82 = .ok (.iaload, 1) := by decide +kernel
theorem dX6_layer_83 : decode cX6_layer 83 = .ok (.ireturn, 1) := by decide +kernel
theorem dX6_layer_84 : decode cX6_layer 84 = .ok (.aload_n 0, 1) := by decide +kernel
theorem dX6_layer_85 : decode cX6_layer 85 = .ok (.getfield 19, 3) := by decide +kernel
theorem dX6_layer_88 : decode cX6_layer 88 = .ok (.iload 4, 2) := by decide +kernel
theorem dX6_layer_90 : decode cX6_layer 90 = .ok (.iaload, 1) := by decide +kernel
theorem dX6_layer_91 : decode cX6_layer 91 = .ok (.ireturn, 1) := by decide +kernel
theorem dX6_layer_92 : decode cX6_layer 92 = .ok (.aload_n 0, 1) := by decide +kernel
theorem dX6_layer_93 : decode cX6_layer 93 = .ok (.iload_n 1, 1) := by decide +kernel
theorem dX6_layer_94 : decode cX6_layer 94 = .ok (.iload_n 2, 1) := by decide +kernel
theorem dX6_layer_95 : decode cX6_layer 95 = .ok (.invokevirtual 107, 3) := by decide +kernel
theorem dX6_layer_98 : decode cX6_layer 98 = .ok (.ireturn, 1) := by decide +kernel
theorem dX6_layer_99 : decode cX6_layer 99 = .ok (.aload_n 0, 1) := by decide +kernel
theorem dX6_layer_100 : decode cX6_layer 100 = .ok (.iload_n 1, 1) := by decide +kernel
theorem dX6_layer_101 : decode cX6_layer 101 = .ok (.iload_n 2, 1) := by decide +kernel
theorem dX6_layer_102 : decode cX6_layer 102 = .ok (.invokevirtual 114, 3) := by decide +kernel
theorem dX6_layer_105 : decode cX6_layer 105 = .ok (.ireturn, 1) := by decide +kernel
theorem dX6_layer_106 : decode cX6_layer 106 = .ok (.iconst (-1), 1) := by decide +kernel
theorem dX6_layer_107 : decode cX6_layer 107 = .ok (.ireturn, 1) := by decide +kernel
theorem dX6_why_0 : decode cX6_why 0 = .ok (.iconst (-1), 1) := by decide +kernel
theorem dX6_why_1 : decode cX6_why 1 = .ok (.istore_n 2, 1) := by decide +kernel
theorem dX6_why_2 : decode cX6_why 2 = .ok (.iconst 0, 1) := by decide +kernel
theorem dX6_why_3 : decode cX6_why 3 = .ok (.istore_n 3, 1) := by decide +kernel
theorem dX6_why_4 : decode cX6_why 4 = .ok (.iload_n 3, 1) := by decide +kernel
theorem dX6_why_5 : decode cX6_why 5 = .ok (.aload_n 0, 1) := by decide +kernel
theorem dX6_why_6 : decode cX6_why 6 = .ok (.getfield 9, 3) := by decide +kernel
theorem dX6_why_9 : decode cX6_why 9 = .ok (.iload_n 1, 1) := by decide +kernel
theorem dX6_why_10 : decode cX6_why 10 = .ok (.iaload, 1) := by decide +kernel
theorem dX6_why_11 : decode cX6_why 11 = .ok (.if_icmp .ge 41, 3) := by decide +kernel
theorem dX6_why_14 : decode cX6_why 14 = .ok (.aload_n 0, 1) := by decide +kernel
theorem dX6_why_15 : decode cX6_why 15 = .ok (.iload_n 1, 1) := by decide +kernel
theorem dX6_why_16 : decode cX6_why 16 = .ok (.iload_n 3, 1) := by decide +kernel
theorem dX6_why_17 : decode cX6_why 17 = .ok (.invokevirtual 114, 3) := by decide +kernel
theorem dX6_why_20 : decode cX6_why 20 = .ok (.iconst (-1), 1) := by decide +kernel
theorem dX6_why_21 : decode cX6_why 21 = .ok (.if_icmp .eq 25, 3) := by decide +kernel
theorem dX6_why_24 : decode cX6_why 24 = .ok (.iload_n 2, 1) := by decide +kernel
theorem dX6_why_25 : decode cX6_why 25 = .ok (.iconst (-1), 1) := by decide +kernel
theorem dX6_why_26 : decode cX6_why 26 = .ok (.if_icmp .eq 18, 3) := by decide +kernel
theorem dX6_why_29 : decode cX6_why 29 = .ok (.aload_n 0, 1) := by decide +kernel
theorem dX6_why_30 : decode cX6_why 30 = .ok (.iload_n 1, 1) := by decide +kernel
theorem dX6_why_31 : decode cX6_why 31 = .ok (.iload_n 3, 1) := by decide +kernel
theorem dX6_why_32 : decode cX6_why 32 = .ok (.invokevirtual 114, 3) := by decide +kernel
theorem dX6_why_35 : decode cX6_why 35 = .ok (.aload_n 0, 1) := by decide +kernel
theorem dX6_why_36 : decode cX6_why 36 = .ok (.iload_n 1, 1) := by decide +kernel
theorem dX6_why_37 : decode cX6_why 37 = .ok (.iload_n 2, 1) := by decide +kernel
theorem dX6_why_38 : decode cX6_why 38 = .ok (.invokevirtual 114, 3) := by decide +kernel
theorem dX6_why_41 : decode cX6_why 41 = .ok (.if_icmp .gt 5, 3) := by decide +kernel
theorem dX6_why_44 : decode cX6_why 44 = .ok (.iload_n 3, 1) := by decide +kernel
theorem dX6_why_45 : decode cX6_why 45 = .ok (.istore_n 2, 1) := by decide +kernel
theorem dX6_why_46 : decode cX6_why 46 = .ok (.iinc 3 1, 3) := by decide +kernel
theorem dX6_why_49 : decode cX6_why 49 = .ok (.goto (-45), 3) := by decide +kernel
theorem dX6_why_52 : decode cX6_why 52 = .ok (.iload_n 2, 1) := by decide +kernel
theorem dX6_why_53 : decode cX6_why 53 = .ok (.ireturn, 1) := by decide +kernel
theorem dX6_likely_0 : decode cX6_likely 0 = .ok (.aload_n 0, 1) := by decide +kernel
theorem dX6_likely_1 : decode cX6_likely 1 = .ok (.iload_n 1, 1) := by decide +kernel
theorem dX6_likely_2 : decode cX6_likely 2 = .ok (.invokevirtual 117, 3) := by decide +kernel
theorem dX6_likely_5 : decode cX6_likely 5 = .ok (.istore_n 2, 1) := by decide +kernel
theorem dX6_likely_6 : decode cX6_likely 6 = .ok (.iload_n 2, 1) := by decide +kernel
theorem dX6_likely_7 : decode cX6_likely 7 = .ok (.iconst (-1), 1) := by decide +kernel
theorem dX6_likely_8 : decode cX6_likely 8 = .ok (.if_icmp .ne 9, 3) := by decide +kernel
theorem dX6_likely_11 : decode cX6_likely 11 = .ok (.sipush 999, 3) := by decide +kernel
theorem dX6_likely_14 : decode cX6_likely 14 = .ok (.goto 9, 3) := by decide +kernel
theorem dX6_likely_17 : decode cX6_likely 17 = .ok (.aload_n 0, 1) := by decide +kernel
theorem dX6_likely_18 : decode cX6_likely 18 = .ok (.iload_n 1, 1) := by decide +kernel
theorem dX6_likely_19 : decode cX6_likely 19 = .ok (.iload_n 2, 1) := by decide +kernel
theorem dX6_likely_20 : decode cX6_likely 20 = .ok (.invokevirtual 114, 3) := by decide +kernel
theorem dX6_likely_23 : decode cX6_likely 23 = .ok (.istore_n 3, 1) := by decide +kernel
theorem dX6_likely_24 : decode cX6_likely 24 = .ok (.iload_n 3, 1) := by decide +kernel
theorem dX6_likely_25 : decode cX6_likely 25 = .ok (.bipush 100, 2) := by decide +kernel
theorem dX6_likely_27 : decode cX6_likely 27 = .ok (.if_icmp .ge 7, 3) := by decide +kernel
theorem dX6_likely_30 : decode cX6_likely 30 = .ok (.iconst 3, 1) := by decide +kernel
theorem dX6_likely_31 : decode cX6_likely 31 = .ok (.goto 26, 3) := by decide +kernel
theorem dX6_likely_34 : decode cX6_likely 34 = .ok (.iload_n 3, 1) := by decide +kernel
theorem dX6_likely_35 : decode cX6_likely 35 = .ok (.sipush 150, 3) := by decide +kernel
theorem dX6_likely_38 : decode cX6_likely 38 = .ok (.if_icmp .ge 7, 3) := by decide +kernel
theorem dX6_likely_41 : decode cX6_likely 41 = .ok (.iconst 2, 1) := by decide +kernel
theorem dX6_likely_42 : decode cX6_likely 42 = .ok (.goto 15, 3) := by decide +kernel
theorem dX6_likely_45 : decode cX6_likely 45 = .ok (.iload_n 3, 1) := by decide +kernel
theorem dX6_likely_46 : decode cX6_likely 46 = .ok (.sipush 300, 3) := by decide +kernel
theorem dX6_likely_49 : decode cX6_likely 49 = .ok (.if_icmp .ge 7, 3) := by decide +kernel
theorem dX6_likely_52 : decode cX6_likely 52 = .ok (.iconst 1, 1) := by decide +kernel
theorem dX6_likely_53 : decode cX6_likely 53 = .ok (.goto 4, 3) := by decide +kernel
theorem dX6_likely_56 : decode cX6_likely 56 = .ok (.iconst 0, 1) := by decide +kernel
theorem dX6_likely_57 : decode cX6_likely 57 = .ok (.ireturn, 1) := by decide +kernel
theorem dX6_size_0 : decode cX6_size 0 = .ok (.aload_n 0, 1) := by decide +kernel
theorem dX6_size_1 : decode cX6_size 1 = .ok (.iload_n 1, 1) := by decide +kernel
theorem dX6_size_2 : decode cX6_size 2 = .ok (.invokevirtual 117, 3) := by decide +kernel
theorem dX6_size_5 : decode cX6_size 5 = .ok (.istore_n 2, 1) := by decide +kernel
theorem dX6_size_6 : decode cX6_size 6 = .ok (.iload_n 2, 1) := by decide +kernel
theorem dX6_size_7 : decode cX6_size 7 = .ok (.iconst (-1), 1) := by decide +kernel
theorem dX6_size_8 : decode cX6_size 8 = .ok (.if_icmp .ne 7, 3) := by decide +kernel
theorem dX6_size_11 : decode cX6_size 11 = .ok (.iconst 0, 1) := by decide +kernel
theorem dX6_size_12 : decode cX6_size 12 = .ok (.goto 9, 3) := by decide +kernel
theorem dX6_size_15 : decode cX6_size 15 = .ok (.aload_n 0, 1) := by decide +kernel
theorem dX6_size_16 : decode cX6_size 16 = .ok (.iload_n 1, 1) := by decide +kernel
theorem dX6_size_17 : decode cX6_size 17 = .ok (.iload_n 2, 1) := by decide +kernel
theorem dX6_size_18 : decode cX6_size 18 = .ok (.invokevirtual 107, 3) := by decide +kernel
theorem dX6_size_21 : decode cX6_size 21 = .ok (.istore_n 3, 1) := by decide +kernel
theorem dX6_size_22 : decode cX6_size 22 = .ok (.iload_n 3, 1) := by decide +kernel
theorem dX6_size_23 : decode cX6_size 23 = .ok (.sipush 500, 3) := by decide +kernel
theorem dX6_size_26 : decode cX6_size 26 = .ok (.if_icmp .lt 7, 3) := by decide +kernel
theorem dX6_size_29 : decode cX6_size 29 = .ok (.iconst 2, 1) := by decide +kernel
theorem dX6_size_30 : decode cX6_size 30 = .ok (.goto 15, 3) := by decide +kernel
theorem dX6_size_33 : decode cX6_size 33 = .ok (.iload_n 3, 1) := by decide +kernel
theorem dX6_size_34 : decode cX6_size 34 = .ok (.sipush 200, 3) := by decide +kernel
theorem dX6_size_37 : decode cX6_size 37 = .ok (.if_icmp .lt 7, 3) := by decide +kernel
theorem dX6_size_40 : decode cX6_size 40 = .ok (.iconst 1, 1) := by decide +kernel
theorem dX6_size_41 : decode cX6_size 41 = .ok (.goto 4, 3) := by decide +kernel
theorem dX6_size_44 : decode cX6_size 44 = .ok (.iconst 0, 1) := by decide +kernel
theorem dX6_size_45 : decode cX6_size 45 = .ok (.ireturn, 1) := by decide +kernel
theorem dX6_danger_0 : decode cX6_danger 0 = .ok (.aload_n 0, 1) := by decide +kernel
theorem dX6_danger_1 : decode cX6_danger 1 = .ok (.iload_n 1, 1) := by decide +kernel
theorem dX6_danger_2 : decode cX6_danger 2 = .ok (.invokevirtual 120, 3) := by decide +kernel
theorem dX6_danger_5 : decode cX6_danger 5 = .ok (.ifCond .ne 5, 3) := by decide +kernel
theorem dX6_danger_8 : decode cX6_danger 8 = .ok (.iconst 1, 1) := by decide +kernel
theorem dX6_danger_9 : decode cX6_danger 9 = .ok (.ireturn, 1) := by decide +kernel
theorem dX6_danger_10 : decode cX6_danger 10 = .ok (.iconst 0, 1) := by decide +kernel
theorem dX6_danger_11 : decode cX6_danger 11 = .ok (.istore_n 2, 1) := by decide +kernel
theorem dX6_danger_12 : decode cX6_danger 12 = .ok (.iconst 0, 1) := by decide +kernel
theorem dX6_danger_13 : decode cX6_danger 13 = .ok (.istore_n 3, 1) := by decide +kernel
theorem dX6_danger_14 : decode cX6_danger 14 = .ok (.iload_n 3, 1) := by decide +kernel
theorem dX6_danger_15 : decode cX6_danger 15 = .ok (.iconst 4, 1) := by decide +kernel
theorem dX6_danger_16 : decode cX6_danger 16 = .ok (.if_icmp .ge 32, 3) := by decide +kernel
theorem dX6_danger_19 : decode cX6_danger 19 = .ok (.iload_n 2, 1) := by decide +kernel
theorem dX6_danger_20 : decode cX6_danger 20 = .ok (.aload_n 0, 1) := by decide +kernel
theorem dX6_danger_21 : decode cX6_danger 21 = .ok (.iload_n 1, 1) := by decide +kernel
theorem dX6_danger_22 : decode cX6_danger 22 = .ok (.iconst 4, 1) := by decide +kernel
theorem dX6_danger_23 : decode cX6_danger 23 = .ok (.idiv, 1) := by decide +kernel
theorem dX6_danger_24 : decode cX6_danger 24 = .ok (.iconst 4, 1) := by decide +kernel
theorem dX6_danger_25 : decode cX6_danger 25 = .ok (.imul, 1) := by decide +kernel
theorem dX6_danger_26 : decode cX6_danger 26 = .ok (.iload_n 3, 1) := by decide +kernel
theorem dX6_danger_27 : decode cX6_danger 27 = .ok (.iadd, 1) := by decide +kernel
theorem dX6_danger_28 : decode cX6_danger 28 = .ok (.invokevirtual 120, 3) := by decide +kernel
theorem dX6_danger_31 : decode cX6_danger 31 = .ok (.iconst 2, 1) := by decide +kernel
theorem dX6_danger_32 : decode cX6_danger 32 = .ok (.if_icmp .lt 7, 3) := by decide +kernel
theorem dX6_danger_35 : decode cX6_danger 35 = .ok (.iconst 1, 1) := by decide +kernel
theorem dX6_danger_36 : decode cX6_danger 36 = .ok (.goto 4, 3) := by decide +kernel
theorem dX6_danger_39 : decode cX6_danger 39 = .ok (.iconst 0, 1) := by decide +kernel
theorem dX6_danger_40 : decode cX6_danger 40 = .ok (.iadd, 1) := by decide +kernel
theorem dX6_danger_41 : decode cX6_danger 41 = .ok (.istore_n 2, 1) := by decide +kernel
theorem dX6_danger_42 : decode cX6_danger 42 = .ok (.iinc 3 1, 3) := by decide +kernel
theorem dX6_danger_45 : decode cX6_danger 45 = .ok (.goto (-31), 3) := by decide +kernel
theorem dX6_danger_48 : decode cX6_danger 48 = .ok (.iconst 1, 1) := by decide +kernel
theorem dX6_danger_49 : decode cX6_danger 49 = .ok (.aload_n 0, 1) := by decide +kernel
theorem dX6_danger_50 : decode cX6_danger 50 = .ok (.iload_n 1, 1) := by decide +kernel
theorem dX6_danger_51 : decode cX6_danger 51 = .ok (.invokevirtual 120, 3) := by decide +kernel
theorem dX6_danger_54 : decode cX6_danger 54 = .ok (.iadd, 1) := by decide +kernel
theorem dX6_danger_55 : decode cX6_danger 55 = .ok (.iload_n 2, 1) := by decide +kernel
theorem dX6_danger_56 : decode cX6_danger 56 = .ok (.iconst 2, 1) := by decide +kernel
theorem dX6_danger_57 : decode cX6_danger 57 = .ok (.if_icmp .lt 7, 3) := by decide +kernel
theorem dX6_danger_60 : decode cX6_danger 60 = .ok (.iconst 1, 1) := by decide +kernel
theorem dX6_danger_61 : decode cX6_danger 61 = .ok (.goto 4, 3) := by decide +kernel
theorem dX6_danger_64 : decode cX6_danger 64 = .ok (.iconst 0, 1) := by decide +kernel
theorem dX6_danger_65 : decode cX6_danger 65 = .ok (.iadd, 1) := by decide +kernel
theorem dX6_danger_66 : decode cX6_danger 66 = .ok (.aload_n 0, 1) := by decide +kernel
theorem dX6_danger_67 : decode cX6_danger 67 = .ok (.iload_n 1, 1) := by decide +kernel
theorem dX6_danger_68 : decode cX6_danger 68 = .ok (.invokevirtual 123, 3) := by decide +kernel
theorem dX6_danger_71 : decode cX6_danger 71 = .ok (.iadd, 1) := by decide +kernel
theorem dX6_danger_72 : decode cX6_danger 72 = .ok (.iconst 1, 1) := by decide +kernel
theorem dX6_danger_73 : decode cX6_danger 73 = .ok (.isub, 1) := by decide +kernel
theorem dX6_danger_74 : decode cX6_danger 74 = .ok (.istore_n 3, 1) := by decide +kernel
theorem dX6_danger_75 : decode cX6_danger 75 = .ok (.iload_n 3, 1) := by decide +kernel
theorem dX6_danger_76 : decode cX6_danger 76 = .ok (.iconst 5, 1) := by decide +kernel
theorem dX6_danger_77 : decode cX6_danger 77 = .ok (.if_icmp .le 7, 3) := by decide +kernel
theorem dX6_danger_80 : decode cX6_danger 80 = .ok (.iconst 5, 1) := by decide +kernel
theorem dX6_danger_81 : decode cX6_danger 81 = .ok (.goto 13, 3) := by decide +kernel
theorem dX6_danger_84 : decode cX6_danger 84 = .ok (.iload_n 3, 1) := by decide +kernel
theorem dX6_danger_85 : decode cX6_danger 85 = .ok (.iconst 1, 1) := by decide +kernel
theorem dX6_danger_86 : decode cX6_danger 86 = .ok (.if_icmp .ge 7, 3) := by decide +kernel
theorem dX6_danger_89 : decode cX6_danger 89 = .ok (.iconst 1, 1) := by decide +kernel
theorem dX6_danger_90 : decode cX6_danger 90 = .ok (.goto 4, 3) := by decide +kernel
theorem dX6_danger_93 : decode cX6_danger 93 = .ok (.iload_n 3, 1) := by decide +kernel
theorem dX6_danger_94 : decode cX6_danger 94 = .ok (.ireturn, 1) := by decide +kernel
theorem dX6_all_0 : decode cX6_all 0 = .ok (.aload_n 0, 1) := by decide +kernel
theorem dX6_all_1 : decode cX6_all 1 = .ok (.getfield 9, 3) := by decide +kernel
theorem dX6_all_4 : decode cX6_all 4 = .ok (.iload_n 1, 1) := by decide +kernel
theorem dX6_all_5 : decode cX6_all 5 = .ok (.iaload, 1) := by decide +kernel
theorem dX6_all_6 : decode cX6_all 6 = .ok (.ifCond .ne 7, 3) := by decide +kernel
theorem dX6_all_9 : decode cX6_all 9 = .ok (.iconst 0, 1) := by decide +kernel
theorem dX6_all_10 : decode cX6_all 10 = .ok (.goto 19, 3) := by decide +kernel
theorem dX6_all_13 : decode cX6_all 13 = .ok (.aload_n 0, 1) := by decide +kernel
theorem dX6_all_14 : decode cX6_all 14 = .ok (.getfield 16, 3) := by decide +kernel
theorem dX6_all_17 : decode cX6_all 17 = .ok (.bipush 10, 2) := by decide +kernel
theorem dX6_all_19 : decode cX6_all 19 = .ok (.iload_n 1, 1) := by decide +kernel
theorem dX6_all_20 : decode cX6_all 20 = .ok (.imul, 1) := by decide +kernel
theorem dX6_all_21 : decode cX6_all 21 = .ok (.iaload, 1) := by decide +kernel
theorem dX6_all_22 : decode cX6_all 22 = .ok (.aload_n 0, 1) := by decide +kernel
theorem dX6_all_23 : decode cX6_all 23 = .ok (.iload_n 1, 1) := by decide +kernel
theorem dX6_all_24 : decode cX6_all 24 = .ok (.iconst 0, 1) := by decide +kernel
theorem dX6_all_25 : decode cX6_all 25 = .ok (.invokevirtual 107, 3) := by decide +kernel
theorem dX6_all_28 : decode cX6_all 28 = .ok (.iadd, 1) := by decide +kernel
theorem dX6_all_29 : decode cX6_all 29 = .ok (.ireturn, 1) := by decide +kernel
theorem dX6_told_0 : decode cX6_told 0 = .ok (.iload_n 1, 1) := by decide +kernel
theorem dX6_told_1 : decode cX6_told 1 = .ok (.invokestatic 111, 3) := by decide +kernel
theorem dX6_told_4 : decode cX6_told 4 = .ok (.ifCond .ne 5, 3) := by decide +kernel
theorem dX6_told_7 : decode cX6_told 7 = .ok (.iconst (-1), 1) := by decide +kernel
theorem dX6_told_8 : decode cX6_told 8 = .ok (.ireturn, 1) := by decide +kernel
theorem dX6_told_9 : decode cX6_told 9 = .ok (.iload_n 2, 1) := by decide +kernel
theorem dX6_told_10 : decode cX6_told 10 = .ok (.tableswitch 75 0 5 #[38, 45, 51, 57, 63, 69], 38) := by decide +kernel
theorem dX6_told_48 : decode cX6_told 48 = .ok (.aload_n 0, 1) := by decide +kernel
theorem dX6_told_49 : decode cX6_told 49 = .ok (.getfield 9, 3) := by decide +kernel
theorem dX6_told_52 : decode cX6_told 52 = .ok (.iload_n 1, 1) := by decide +kernel
theorem dX6_told_53 : decode cX6_told 53 = .ok (.iaload, 1) := by decide +kernel
theorem dX6_told_54 : decode cX6_told 54 = .ok (.ireturn, 1) := by decide +kernel
theorem dX6_told_55 : decode cX6_told 55 = .ok (.aload_n 0, 1) := by decide +kernel
theorem dX6_told_56 : decode cX6_told 56 = .ok (.iload_n 1, 1) := by decide +kernel
theorem dX6_told_57 : decode cX6_told 57 = .ok (.invokevirtual 126, 3) := by decide +kernel
theorem dX6_told_60 : decode cX6_told 60 = .ok (.ireturn, 1) := by decide +kernel
theorem dX6_told_61 : decode cX6_told 61 = .ok (.aload_n 0, 1) := by decide +kernel
theorem dX6_told_62 : decode cX6_told 62 = .ok (.iload_n 1, 1) := by decide +kernel
theorem dX6_told_63 : decode cX6_told 63 = .ok (.invokevirtual 120, 3) := by decide +kernel
theorem dX6_told_66 : decode cX6_told 66 = .ok (.ireturn, 1) := by decide +kernel
theorem dX6_told_67 : decode cX6_told 67 = .ok (.aload_n 0, 1) := by decide +kernel
theorem dX6_told_68 : decode cX6_told 68 = .ok (.iload_n 1, 1) := by decide +kernel
theorem dX6_told_69 : decode cX6_told 69 = .ok (.invokevirtual 123, 3) := by decide +kernel
theorem dX6_told_72 : decode cX6_told 72 = .ok (.ireturn, 1) := by decide +kernel
theorem dX6_told_73 : decode cX6_told 73 = .ok (.aload_n 0, 1) := by decide +kernel
theorem dX6_told_74 : decode cX6_told 74 = .ok (.iload_n 1, 1) := by decide +kernel
theorem dX6_told_75 : decode cX6_told 75 = .ok (.invokevirtual 129, 3) := by decide +kernel
theorem dX6_told_78 : decode cX6_told 78 = .ok (.ireturn, 1) := by decide +kernel
theorem dX6_told_79 : decode cX6_told 79 = .ok (.aload_n 0, 1) := by decide +kernel
theorem dX6_told_80 : decode cX6_told 80 = .ok (.iload_n 1, 1) := by decide +kernel
theorem dX6_told_81 : decode cX6_told 81 = .ok (.invokevirtual 117, 3) := by decide +kernel
theorem dX6_told_84 : decode cX6_told 84 = .ok (.ireturn, 1) := by decide +kernel
theorem dX6_told_85 : decode cX6_told 85 = .ok (.iconst (-1), 1) := by decide +kernel
theorem dX6_told_86 : decode cX6_told 86 = .ok (.ireturn, 1) := by decide +kernel
theorem dX6_slides_0 : decode cX6_slides 0 = .ok (.aload_n 0, 1) := by decide +kernel
theorem dX6_slides_1 : decode cX6_slides 1 = .ok (.iload_n 1, 1) := by decide +kernel
theorem dX6_slides_2 : decode cX6_slides 2 = .ok (.iload_n 2, 1) := by decide +kernel
theorem dX6_slides_3 : decode cX6_slides 3 = .ok (.invokevirtual 107, 3) := by decide +kernel
theorem dX6_slides_6 : decode cX6_slides 6 = .ok (.istore_n 3, 1) := by decide +kernel
theorem dX6_slides_7 : decode cX6_slides 7 = .ok (.aload_n 0, 1) := by decide +kernel
theorem dX6_slides_8 : decode cX6_slides 8 = .ok (.getfield 9, 3) := by decide +kernel
theorem dX6_slides_11 : decode cX6_slides 11 = .ok (.iload_n 1, 1) := by decide +kernel
theorem dX6_slides_12 : decode cX6_slides 12 = .ok (.iload_n 2, 1) := by decide +kernel
theorem dX6_slides_13 : decode cX6_slides 13 = .ok (.iconst 1, 1) := by decide +kernel
theorem dX6_slides_14 : decode cX6_slides 14 = .ok (.iadd, 1) := by decide +kernel
theorem dX6_slides_15 : decode cX6_slides 15 = .ok (.iastore, 1) := by decide +kernel
theorem dX6_slides_16 : decode cX6_slides 16 = .ok (.aload_n 0, 1) := by decide +kernel
theorem dX6_slides_17 : decode cX6_slides 17 = .ok (.dup, 1) := by decide +kernel
theorem dX6_slides_18 : decode cX6_slides 18 = .ok (.getfield 132, 3) := by decide +kernel
theorem dX6_slides_21 : decode cX6_slides 21 = .ok (.iload_n 3, 1) := by decide +kernel
theorem dX6_slides_22 : decode cX6_slides 22 = .ok (.iadd, 1) := by decide +kernel
theorem dX6_slides_23 : decode cX6_slides 23 = .ok (.putfield 132, 3) := by decide +kernel
theorem dX6_slides_26 : decode cX6_slides 26 = .ok (.iload_n 3, 1) := by decide +kernel
theorem dX6_slides_27 : decode cX6_slides 27 = .ok (.ireturn, 1) := by decide +kernel
theorem dX6_slide_0 : decode cX6_slide 0 = .ok (.iload_n 1, 1) := by decide +kernel
theorem dX6_slide_1 : decode cX6_slide 1 = .ok (.invokestatic 111, 3) := by decide +kernel
theorem dX6_slide_4 : decode cX6_slide 4 = .ok (.ifCond .eq 19, 3) := by decide +kernel
theorem dX6_slide_7 : decode cX6_slide 7 = .ok (.iload_n 2, 1) := by decide +kernel
theorem dX6_slide_8 : decode cX6_slide 8 = .ok (.iconst 0, 1) := by decide +kernel
theorem dX6_slide_9 : decode cX6_slide 9 = .ok (.aload_n 0, 1) := by decide +kernel
theorem dX6_slide_10 : decode cX6_slide 10 = .ok (.getfield 9, 3) := by decide +kernel
theorem dX6_slide_13 : decode cX6_slide 13 = .ok (.iload_n 1, 1) := by decide +kernel
theorem dX6_slide_14 : decode cX6_slide 14 = .ok (.iaload, 1) := by decide +kernel
theorem dX6_slide_15 : decode cX6_slide 15 = .ok (.iconst 2, 1) := by decide +kernel
theorem dX6_slide_16 : decode cX6_slide 16 = .ok (.isub, 1) := by decide +kernel
theorem dX6_slide_17 : decode cX6_slide 17 = .ok (.invokestatic 56, 3) := by decide +kernel
theorem dX6_slide_20 : decode cX6_slide 20 = .ok (.ifCond .ne 5, 3) := by decide +kernel
theorem dX6_slide_23 : decode cX6_slide 23 = .ok (.iconst (-1), 1) := by decide +kernel
theorem dX6_slide_24 : decode cX6_slide 24 = .ok (.ireturn, 1) := by decide +kernel
theorem dX6_slide_25 : decode cX6_slide 25 = .ok (.aload_n 0, 1) := by decide +kernel
theorem dX6_slide_26 : decode cX6_slide 26 = .ok (.getfield 31, 3) := by decide +kernel
theorem dX6_slide_29 : decode cX6_slide 29 = .ok (.iload_n 1, 1) := by decide +kernel
theorem dX6_slide_30 : decode cX6_slide 30 = .ok (.iconst 1, 1) := by decide +kernel
theorem dX6_slide_31 : decode cX6_slide 31 = .ok (.bastore, 1) := by decide +kernel
theorem dX6_slide_32 : decode cX6_slide 32 = .ok (.aload_n 0, 1) := by decide +kernel
theorem dX6_slide_33 : decode cX6_slide 33 = .ok (.iload_n 1, 1) := by decide +kernel
theorem dX6_slide_34 : decode cX6_slide 34 = .ok (.iload_n 2, 1) := by decide +kernel
theorem dX6_slide_35 : decode cX6_slide 35 = .ok (.invokevirtual 135, 3) := by decide +kernel
theorem dX6_slide_38 : decode cX6_slide 38 = .ok (.ireturn, 1) := by decide +kernel
theorem dX6_shot_0 : decode cX6_shot 0 = .ok (.iload_n 1, 1) := by decide +kernel
theorem dX6_shot_1 : decode cX6_shot 1 = .ok (.invokestatic 111, 3) := by decide +kernel
theorem dX6_shot_4 : decode cX6_shot 4 = .ok (.ifCond .ne 5, 3) := by decide +kernel
theorem dX6_shot_7 : decode cX6_shot 7 = .ok (.iconst (-1), 1) := by decide +kernel
theorem dX6_shot_8 : decode cX6_shot 8 = .ok (.ireturn, 1) := by decide +kernel
theorem dX6_shot_9 : decode cX6_shot 9 = .ok (.aload_n 0, 1) := by decide +kernel
theorem dX6_shot_10 : decode cX6_shot 10 = .ok (.iload_n 1, 1) := by decide +kernel
theorem dX6_shot_11 : decode cX6_shot 11 = .ok (.invokevirtual 120, 3) := by decide +kernel
theorem dX6_shot_14 : decode cX6_shot 14 = .ok (.iconst 2, 1) := by decide +kernel
theorem dX6_shot_15 : decode cX6_shot 15 = .ok (.if_icmp .lt 16, 3) := by decide +kernel
theorem dX6_shot_18 : decode cX6_shot 18 = .ok (.aload_n 0, 1) := by decide +kernel
theorem dX6_shot_19 : decode cX6_shot 19 = .ok (.iload_n 1, 1) := by decide +kernel
theorem dX6_shot_20 : decode cX6_shot 20 = .ok (.aload_n 0, 1) := by decide +kernel
theorem dX6_shot_21 : decode cX6_shot 21 = .ok (.iload_n 1, 1) := by decide +kernel
theorem dX6_shot_22 : decode cX6_shot 22 = .ok (.invokevirtual 117, 3) := by decide +kernel
theorem dX6_shot_25 : decode cX6_shot 25 = .ok (.invokevirtual 135, 3) := by decide +kernel
theorem dX6_shot_28 : decode cX6_shot 28 = .ok (.goto 4, 3) := by decide +kernel
theorem dX6_shot_31 : decode cX6_shot 31 = .ok (.iconst 0, 1) := by decide +kernel
theorem dX6_shot_32 : decode cX6_shot 32 = .ok (.ireturn, 1) := by decide +kernel
theorem dX6_path_0 : decode cX6_path 0 = .ok (.iload_n 1, 1) := by decide +kernel
theorem dX6_path_1 : decode cX6_path 1 = .ok (.invokestatic 111, 3) := by decide +kernel
theorem dX6_path_4 : decode cX6_path 4 = .ok (.ifCond .eq 21, 3) := by decide +kernel
theorem dX6_path_7 : decode cX6_path 7 = .ok (.iload_n 2, 1) := by decide +kernel
theorem dX6_path_8 : decode cX6_path 8 = .ok (.iconst 0, 1) := by decide +kernel
theorem dX6_path_9 : decode cX6_path 9 = .ok (.iconst 2, 1) := by decide +kernel
theorem dX6_path_10 : decode cX6_path 10 = .ok (.invokestatic 56, 3) := by decide +kernel
theorem dX6_path_13 : decode cX6_path 13 = .ok (.ifCond .eq 12, 3) := by decide +kernel
theorem dX6_path_16 : decode cX6_path 16 = .ok (.aload_n 0, 1) := by decide +kernel
theorem dX6_path_17 : decode cX6_path 17 = .ok (.getfield 138, 3) := by decide +kernel
theorem dX6_path_20 : decode cX6_path 20 = .ok (.bipush 10, 2) := by decide +kernel
theorem dX6_path_22 : decode cX6_path 22 = .ok (.if_icmp .ne 5, 3) := by decide +kernel
theorem dX6_path_25 : decode cX6_path 25 = .ok (.iconst (-1), 1) := by decide +kernel
theorem dX6_path_26 : decode cX6_path 26 = .ok (.ireturn, 1) := by decide +kernel
theorem dX6_path_27 : decode cX6_path 27 = .ok (.aload_n 0, 1) := by decide +kernel
theorem dX6_path_28 : decode cX6_path 28 = .ok (.getfield 41, 3) := by decide +kernel
theorem dX6_path_31 : decode cX6_path 31 = .ok (.aload_n 0, 1) := by decide +kernel
theorem dX6_path_32 : decode cX6_path 32 = .ok (.getfield 138, 3) := by decide +kernel
theorem dX6_path_35 : decode cX6_path 35 = .ok (.iload_n 1, 1) := by decide +kernel
theorem dX6_path_36 : decode cX6_path 36 = .ok (.iastore, 1) := by decide +kernel
theorem dX6_path_37 : decode cX6_path 37 = .ok (.aload_n 0, 1) := by decide +kernel
theorem dX6_path_38 : decode cX6_path 38 = .ok (.getfield 44, 3) := by decide +kernel
theorem dX6_path_41 : decode cX6_path 41 = .ok (.aload_n 0, 1) := by decide +kernel
theorem dX6_path_42 : decode cX6_path 42 = .ok (.getfield 138, 3) := by decide +kernel
theorem dX6_path_45 : decode cX6_path 45 = .ok (.iload_n 2, 1) := by decide +kernel
theorem dX6_path_46 : decode cX6_path 46 = .ok (.iastore, 1) := by decide +kernel
theorem dX6_path_47 : decode cX6_path 47 = .ok (.aload_n 0, 1) := by decide +kernel
theorem dX6_path_48 : decode cX6_path 48 = .ok (.dup, 1) := by decide +kernel
theorem dX6_path_49 : decode cX6_path 49 = .ok (.getfield 138, 3) := by decide +kernel
theorem dX6_path_52 : decode cX6_path 52 = .ok (.iconst 1, 1) := by decide +kernel
theorem dX6_path_53 : decode cX6_path 53 = .ok (.iadd, 1) := by decide +kernel
theorem dX6_path_54 : decode cX6_path 54 = .ok (.putfield 138, 3) := by decide +kernel
theorem dX6_path_57 : decode cX6_path 57 = .ok (.aload_n 0, 1) := by decide +kernel
theorem dX6_path_58 : decode cX6_path 58 = .ok (.getfield 138, 3) := by decide +kernel
theorem dX6_path_61 : decode cX6_path 61 = .ok (.iconst 1, 1) := by decide +kernel
theorem dX6_path_62 : decode cX6_path 62 = .ok (.isub, 1) := by decide +kernel
theorem dX6_path_63 : decode cX6_path 63 = .ok (.ireturn, 1) := by decide +kernel
theorem dX6_shuts_0 : decode cX6_shuts 0 = .ok (.aload_n 0, 1) := by decide +kernel
theorem dX6_shuts_1 : decode cX6_shuts 1 = .ok (.aload_n 0, 1) := by decide +kernel
theorem dX6_shuts_2 : decode cX6_shuts 2 = .ok (.getfield 41, 3) := by decide +kernel
theorem dX6_shuts_5 : decode cX6_shuts 5 = .ok (.iload_n 1, 1) := by decide +kernel
theorem dX6_shuts_6 : decode cX6_shuts 6 = .ok (.iaload, 1) := by decide +kernel
theorem dX6_shuts_7 : decode cX6_shuts 7 = .ok (.invokevirtual 120, 3) := by decide +kernel
theorem dX6_shuts_10 : decode cX6_shuts 10 = .ok (.iconst 2, 1) := by decide +kernel
theorem dX6_shuts_11 : decode cX6_shuts 11 = .ok (.if_icmp .lt 26, 3) := by decide +kernel
theorem dX6_shuts_14 : decode cX6_shuts 14 = .ok (.aload_n 0, 1) := by decide +kernel
theorem dX6_shuts_15 : decode cX6_shuts 15 = .ok (.aload_n 0, 1) := by decide +kernel
theorem dX6_shuts_16 : decode cX6_shuts 16 = .ok (.getfield 41, 3) := by decide +kernel
theorem dX6_shuts_19 : decode cX6_shuts 19 = .ok (.iload_n 1, 1) := by decide +kernel
theorem dX6_shuts_20 : decode cX6_shuts 20 = .ok (.iaload, 1) := by decide +kernel
theorem dX6_shuts_21 : decode cX6_shuts 21 = .ok (.invokevirtual 123, 3) := by decide +kernel
theorem dX6_shuts_24 : decode cX6_shuts 24 = .ok (.aload_n 0, 1) := by decide +kernel
theorem dX6_shuts_25 : decode cX6_shuts 25 = .ok (.getfield 44, 3) := by decide +kernel
theorem dX6_shuts_28 : decode cX6_shuts 28 = .ok (.iload_n 1, 1) := by decide +kernel
theorem dX6_shuts_29 : decode cX6_shuts 29 = .ok (.iaload, 1) := by decide +kernel
theorem dX6_shuts_30 : decode cX6_shuts 30 = .ok (.if_icmp .lt 7, 3) := by decide +kernel
theorem dX6_shuts_33 : decode cX6_shuts 33 = .ok (.iconst 1, 1) := by decide +kernel
theorem dX6_shuts_34 : decode cX6_shuts 34 = .ok (.goto 4, 3) := by decide +kernel
theorem dX6_shuts_37 : decode cX6_shuts 37 = .ok (.iconst 0, 1) := by decide +kernel
theorem dX6_shuts_38 : decode cX6_shuts 38 = .ok (.ireturn, 1) := by decide +kernel
theorem dX6_shut_0 : decode cX6_shut 0 = .ok (.iconst 0, 1) := by decide +kernel
theorem dX6_shut_1 : decode cX6_shut 1 = .ok (.istore_n 1, 1) := by decide +kernel
theorem dX6_shut_2 : decode cX6_shut 2 = .ok (.iconst 0, 1) := by decide +kernel
theorem dX6_shut_3 : decode cX6_shut 3 = .ok (.istore_n 2, 1) := by decide +kernel
theorem dX6_shut_4 : decode cX6_shut 4 = .ok (.iload_n 2, 1) := by decide +kernel
theorem dX6_shut_5 : decode cX6_shut 5 = .ok (.aload_n 0, 1) := by decide +kernel
theorem dX6_shut_6 : decode cX6_shut 6 = .ok (.getfield 138, 3) := by decide +kernel
theorem dX6_shut_9 : decode cX6_shut 9 = .ok (.if_icmp .ge 27, 3) := by decide +kernel
theorem dX6_shut_12 : decode cX6_shut 12 = .ok (.iload_n 1, 1) := by decide +kernel
theorem dX6_shut_13 : decode cX6_shut 13 = .ok (.aload_n 0, 1) := by decide +kernel
theorem dX6_shut_14 : decode cX6_shut 14 = .ok (.iload_n 2, 1) := by decide +kernel
theorem dX6_shut_15 : decode cX6_shut 15 = .ok (.invokevirtual 141, 3) := by decide +kernel
theorem dX6_shut_18 : decode cX6_shut 18 = .ok (.ifCond .eq 9, 3) := by decide +kernel
theorem dX6_shut_21 : decode cX6_shut 21 = .ok (.iconst 1, 1) := by decide +kernel
theorem dX6_shut_22 : decode cX6_shut 22 = .ok (.iload_n 2, 1) := by decide +kernel
theorem dX6_shut_23 : decode cX6_shut 23 = .ok (.ishl, 1) := by decide +kernel
theorem dX6_shut_24 : decode cX6_shut 24 = .ok (.goto 4, 3) := by decide +kernel
theorem dX6_shut_27 : decode cX6_shut 27 = .ok (.iconst 0, 1) := by decide +kernel
theorem dX6_shut_28 : decode cX6_shut 28 = .ok (.ior, 1) := by decide +kernel
theorem dX6_shut_29 : decode cX6_shut 29 = .ok (.istore_n 1, 1) := by decide +kernel
theorem dX6_shut_30 : decode cX6_shut 30 = .ok (.iinc 2 1, 3) := by decide +kernel
theorem dX6_shut_33 : decode cX6_shut 33 = .ok (.goto (-29), 3) := by decide +kernel
theorem dX6_shut_36 : decode cX6_shut 36 = .ok (.iload_n 1, 1) := by decide +kernel
theorem dX6_shut_37 : decode cX6_shut 37 = .ok (.ireturn, 1) := by decide +kernel
theorem dX6_shots_0 : decode cX6_shots 0 = .ok (.iconst 0, 1) := by decide +kernel
theorem dX6_shots_1 : decode cX6_shots 1 = .ok (.istore_n 1, 1) := by decide +kernel
theorem dX6_shots_2 : decode cX6_shots 2 = .ok (.iconst 0, 1) := by decide +kernel
theorem dX6_shots_3 : decode cX6_shots 3 = .ok (.istore_n 2, 1) := by decide +kernel
theorem dX6_shots_4 : decode cX6_shots 4 = .ok (.iload_n 2, 1) := by decide +kernel
theorem dX6_shots_5 : decode cX6_shots 5 = .ok (.bipush 12, 2) := by decide +kernel
theorem dX6_shots_7 : decode cX6_shots 7 = .ok (.if_icmp .ge 158, 3) := by decide +kernel
theorem dX6_shots_10 : decode cX6_shots 10 = .ok (.iconst 0, 1) := by decide +kernel
theorem dX6_shots_11 : decode cX6_shots 11 = .ok (.istore_n 3, 1) := by decide +kernel
theorem dX6_shots_12 : decode cX6_shots 12 = .ok (.iconst 0, 1) := by decide +kernel
theorem dX6_shots_13 : decode cX6_shots 13 = .ok (.istore 4, 2) := by decide +kernel
theorem dX6_shots_15 : decode cX6_shots 15 = .ok (.iload 4, 2) := by decide +kernel
theorem dX6_shots_17 : decode cX6_shots 17 = .ok (.aload_n 0, 1) := by decide +kernel
theorem dX6_shots_18 : decode cX6_shots 18 = .ok (.getfield 138, 3) := by decide +kernel
theorem dX6_shots_21 : decode cX6_shots 21 = .ok (.if_icmp .ge 39, 3) := by decide +kernel
theorem dX6_shots_24 : decode cX6_shots 24 = .ok (.iload_n 3, 1) := by decide +kernel
theorem dX6_shots_25 : decode cX6_shots 25 = .ok (.ifCond .ne 23, 3) := by decide +kernel
theorem dX6_shots_28 : decode cX6_shots 28 = .ok (.aload_n 0, 1) := by decide +kernel
theorem dX6_shots_29 : decode cX6_shots 29 = .ok (.getfield 41, 3) := by decide +kernel
theorem dX6_shots_32 : decode cX6_shots 32 = .ok (.iload 4, 2) := by decide +kernel
theorem dX6_shots_34 : decode cX6_shots 34 = .ok (.iaload, 1) := by decide +kernel
theorem dX6_shots_35 : decode cX6_shots 35 = .ok (.iload_n 2, 1) := by decide +kernel
theorem dX6_shots_36 : decode cX6_shots 36 = .ok (.if_icmp .ne 16, 3) := by decide +kernel
theorem dX6_shots_39 : decode cX6_shots 39 = .ok (.aload_n 0, 1) := by decide +kernel
theorem dX6_shots_40 : decode cX6_shots 40 = .ok (.iload 4, 2) := by decide +kernel
theorem dX6_shots_42 : decode cX6_shots 42 = .ok (.invokevirtual 141, 3) := by decide +kernel
theorem dX6_shots_45 : decode cX6_shots 45 = .ok (.ifCond .eq 7, 3) := by decide +kernel
theorem dX6_shots_48 : decode cX6_shots 48 = .ok (.iconst 1, 1) := by decide +kernel
theorem dX6_shots_49 : decode cX6_shots 49 = .ok (.goto 4, 3) := by decide +kernel
theorem dX6_shots_52 : decode cX6_shots 52 = .ok (.iconst 0, 1) := by decide +kernel
theorem dX6_shots_53 : decode cX6_shots 53 = .ok (.istore_n 3, 1) := by decide +kernel
theorem dX6_shots_54 : decode cX6_shots 54 = .ok (.iinc 4 1, 3) := by decide +kernel
theorem dX6_shots_57 : decode cX6_shots 57 = .ok (.goto (-42), 3) := by decide +kernel
theorem dX6_shots_60 : decode cX6_shots 60 = .ok (.iload_n 3, 1) := by decide +kernel
theorem dX6_shots_61 : decode cX6_shots 61 = .ok (.ifCond .ne 6, 3) := by decide +kernel
theorem dX6_shots_64 : decode cX6_shots 64 = .ok (.goto 95, 3) := by decide +kernel
theorem dX6_shots_67 : decode cX6_shots 67 = .ok (.aload_n 0, 1) := by decide +kernel
theorem dX6_shots_68 : decode cX6_shots 68 = .ok (.getfield 9, 3) := by decide +kernel
theorem dX6_shots_71 : decode cX6_shots 71 = .ok (.iload_n 2, 1) := by decide +kernel
theorem dX6_shots_72 : decode cX6_shots 72 = .ok (.iaload, 1) := by decide +kernel
theorem dX6_shots_73 : decode cX6_shots 73 = .ok (.istore 4, 2) := by decide +kernel
theorem dX6_shots_75 : decode cX6_shots 75 = .ok (.aload_n 0, 1) := by decide +kernel
theorem dX6_shots_76 : decode cX6_shots 76 = .ok (.getfield 9, 3) := by decide +kernel
theorem dX6_shots_79 : decode cX6_shots 79 = .ok (.iload_n 2, 1) := by decide +kernel
theorem dX6_shots_80 : decode cX6_shots 80 = .ok (.aload_n 0, 1) := by decide +kernel
theorem dX6_shots_81 : decode cX6_shots 81 = .ok (.iload_n 2, 1) := by decide +kernel
theorem dX6_shots_82 : decode cX6_shots 82 = .ok (.invokevirtual 117, 3) := by decide +kernel
theorem dX6_shots_85 : decode cX6_shots 85 = .ok (.iconst 1, 1) := by decide +kernel
theorem dX6_shots_86 : decode cX6_shots 86 = .ok (.iadd, 1) := by decide +kernel
theorem dX6_shots_87 : decode cX6_shots 87 = .ok (.iastore, 1) := by decide +kernel
theorem dX6_shots_88 : decode cX6_shots 88 = .ok (.iconst 0, 1) := by decide +kernel
theorem dX6_shots_89 : decode cX6_shots 89 = .ok (.istore 5, 2) := by decide +kernel
theorem dX6_shots_91 : decode cX6_shots 91 = .ok (.iconst 0, 1) := by decide +kernel
theorem dX6_shots_92 : decode cX6_shots 92 = .ok (.istore 6, 2) := by decide +kernel
theorem dX6_shots_94 : decode cX6_shots 94 = .ok (.iload 6, 2) := by decide +kernel
theorem dX6_shots_96 : decode cX6_shots 96 = .ok (.aload_n 0, 1) := by decide +kernel
theorem dX6_shots_97 : decode cX6_shots 97 = .ok (.getfield 138, 3) := by decide +kernel
theorem dX6_shots_100 : decode cX6_shots 100 = .ok (.if_icmp .ge 41, 3) := by decide +kernel
theorem dX6_shots_103 : decode cX6_shots 103 = .ok (.iload 5, 2) := by decide +kernel
theorem dX6_shots_105 : decode cX6_shots 105 = .ok (.ifCond .ne 23, 3) := by decide +kernel
theorem dX6_shots_108 : decode cX6_shots 108 = .ok (.aload_n 0, 1) := by decide +kernel
theorem dX6_shots_109 : decode cX6_shots 109 = .ok (.getfield 41, 3) := by decide +kernel
theorem dX6_shots_112 : decode cX6_shots 112 = .ok (.iload 6, 2) := by decide +kernel
theorem dX6_shots_114 : decode cX6_shots 114 = .ok (.iaload, 1) := by decide +kernel
theorem dX6_shots_115 : decode cX6_shots 115 = .ok (.iload_n 2, 1) := by decide +kernel
theorem dX6_shots_116 : decode cX6_shots 116 = .ok (.if_icmp .ne 16, 3) := by decide +kernel
theorem dX6_shots_119 : decode cX6_shots 119 = .ok (.aload_n 0, 1) := by decide +kernel
theorem dX6_shots_120 : decode cX6_shots 120 = .ok (.iload 6, 2) := by decide +kernel
theorem dX6_shots_122 : decode cX6_shots 122 = .ok (.invokevirtual 141, 3) := by decide +kernel
theorem dX6_shots_125 : decode cX6_shots 125 = .ok (.ifCond .eq 7, 3) := by decide +kernel
theorem dX6_shots_128 : decode cX6_shots 128 = .ok (.iconst 1, 1) := by decide +kernel
theorem dX6_shots_129 : decode cX6_shots 129 = .ok (.goto 4, 3) := by decide +kernel
theorem dX6_shots_132 : decode cX6_shots 132 = .ok (.iconst 0, 1) := by decide +kernel
theorem dX6_shots_133 : decode cX6_shots 133 = .ok (.istore 5, 2) := by decide +kernel
theorem dX6_shots_135 : decode cX6_shots 135 = .ok (.iinc 6 1, 3) := by decide +kernel
theorem dX6_shots_138 : decode cX6_shots 138 = .ok (.goto (-44), 3) := by decide +kernel
theorem dX6_shots_141 : decode cX6_shots 141 = .ok (.aload_n 0, 1) := by decide +kernel
theorem dX6_shots_142 : decode cX6_shots 142 = .ok (.getfield 9, 3) := by decide +kernel
theorem dX6_shots_145 : decode cX6_shots 145 = .ok (.iload_n 2, 1) := by decide +kernel
theorem dX6_shots_146 : decode cX6_shots 146 = .ok (.iload 4, 2) := by decide +kernel
theorem dX6_shots_148 : decode cX6_shots 148 = .ok (.iastore, 1) := by decide +kernel
theorem dX6_shots_149 : decode cX6_shots 149 = .ok (.iload 5, 2) := by decide +kernel
theorem dX6_shots_151 : decode cX6_shots 151 = .ok (.ifCond .eq 5, 3) := by decide +kernel
theorem dX6_shots_154 : decode cX6_shots 154 = .ok (.iconst (-1), 1) := by decide +kernel
theorem dX6_shots_155 : decode cX6_shots 155 = .ok (.ireturn, 1) := by decide +kernel
theorem dX6_shots_156 : decode cX6_shots 156 = .ok (.iinc 1 1, 3) := by decide +kernel
theorem dX6_shots_159 : decode cX6_shots 159 = .ok (.iinc 2 1, 3) := by decide +kernel
theorem dX6_shots_162 : decode cX6_shots 162 = .ok (.goto (-158), 3) := by decide +kernel
theorem dX6_shots_165 : decode cX6_shots 165 = .ok (.iload_n 1, 1) := by decide +kernel
theorem dX6_shots_166 : decode cX6_shots 166 = .ok (.ireturn, 1) := by decide +kernel
theorem dX6_pit_0 : decode cX6_pit 0 = .ok (.aload_n 0, 1) := by decide +kernel
theorem dX6_pit_1 : decode cX6_pit 1 = .ok (.getfield 144, 3) := by decide +kernel
theorem dX6_pit_4 : decode cX6_pit 4 = .ok (.istore_n 1, 1) := by decide +kernel
theorem dX6_pit_5 : decode cX6_pit 5 = .ok (.aload_n 0, 1) := by decide +kernel
theorem dX6_pit_6 : decode cX6_pit 6 = .ok (.iconst 0, 1) := by decide +kernel
theorem dX6_pit_7 : decode cX6_pit 7 = .ok (.putfield 144, 3) := by decide +kernel
theorem dX6_pit_10 : decode cX6_pit 10 = .ok (.iload_n 1, 1) := by decide +kernel
theorem dX6_pit_11 : decode cX6_pit 11 = .ok (.ireturn, 1) := by decide +kernel
theorem dX6_seen_0 : decode cX6_seen 0 = .ok (.iload_n 1, 1) := by decide +kernel
theorem dX6_seen_1 : decode cX6_seen 1 = .ok (.iconst 0, 1) := by decide +kernel
theorem dX6_seen_2 : decode cX6_seen 2 = .ok (.iconst 3, 1) := by decide +kernel
theorem dX6_seen_3 : decode cX6_seen 3 = .ok (.invokestatic 56, 3) := by decide +kernel
theorem dX6_seen_6 : decode cX6_seen 6 = .ok (.ifCond .eq 23, 3) := by decide +kernel
theorem dX6_seen_9 : decode cX6_seen 9 = .ok (.iload_n 2, 1) := by decide +kernel
theorem dX6_seen_10 : decode cX6_seen 10 = .ok (.iconst 1, 1) := by decide +kernel
theorem dX6_seen_11 : decode cX6_seen 11 = .ok (.sipush 9999, 3) := by decide +kernel
theorem dX6_seen_14 : decode cX6_seen 14 = .ok (.invokestatic 56, 3) := by decide +kernel
theorem dX6_seen_17 : decode cX6_seen 17 = .ok (.ifCond .eq 12, 3) := by decide +kernel
theorem dX6_seen_20 : decode cX6_seen 20 = .ok (.aload_n 0, 1) := by decide +kernel
theorem dX6_seen_21 : decode cX6_seen 21 = .ok (.getfield 144, 3) := by decide +kernel
theorem dX6_seen_24 : decode cX6_seen 24 = .ok (.bipush 6, 2) := by decide +kernel
theorem dX6_seen_26 : decode cX6_seen 26 = .ok (.if_icmp .ne 5, 3) := by decide +kernel
theorem dX6_seen_29 : decode cX6_seen 29 = .ok (.iconst (-1), 1) := by decide +kernel
theorem dX6_seen_30 : decode cX6_seen 30 = .ok (.ireturn, 1) := by decide +kernel
theorem dX6_seen_31 : decode cX6_seen 31 = .ok (.aload_n 0, 1) := by decide +kernel
theorem dX6_seen_32 : decode cX6_seen 32 = .ok (.getfield 47, 3) := by decide +kernel
theorem dX6_seen_35 : decode cX6_seen 35 = .ok (.aload_n 0, 1) := by decide +kernel
theorem dX6_seen_36 : decode cX6_seen 36 = .ok (.getfield 144, 3) := by decide +kernel
theorem dX6_seen_39 : decode cX6_seen 39 = .ok (.iload_n 1, 1) := by decide +kernel
theorem dX6_seen_40 : decode cX6_seen 40 = .ok (.iastore, 1) := by decide +kernel
theorem dX6_seen_41 : decode cX6_seen 41 = .ok (.aload_n 0, 1) := by decide +kernel
theorem dX6_seen_42 : decode cX6_seen 42 = .ok (.getfield 50, 3) := by decide +kernel
theorem dX6_seen_45 : decode cX6_seen 45 = .ok (.aload_n 0, 1) := by decide +kernel
theorem dX6_seen_46 : decode cX6_seen 46 = .ok (.getfield 144, 3) := by decide +kernel
theorem dX6_seen_49 : decode cX6_seen 49 = .ok (.iload_n 2, 1) := by decide +kernel
theorem dX6_seen_50 : decode cX6_seen 50 = .ok (.iastore, 1) := by decide +kernel
theorem dX6_seen_51 : decode cX6_seen 51 = .ok (.aload_n 0, 1) := by decide +kernel
theorem dX6_seen_52 : decode cX6_seen 52 = .ok (.dup, 1) := by decide +kernel
theorem dX6_seen_53 : decode cX6_seen 53 = .ok (.getfield 144, 3) := by decide +kernel
theorem dX6_seen_56 : decode cX6_seen 56 = .ok (.iconst 1, 1) := by decide +kernel
theorem dX6_seen_57 : decode cX6_seen 57 = .ok (.iadd, 1) := by decide +kernel
theorem dX6_seen_58 : decode cX6_seen 58 = .ok (.putfield 144, 3) := by decide +kernel
theorem dX6_seen_61 : decode cX6_seen 61 = .ok (.aload_n 0, 1) := by decide +kernel
theorem dX6_seen_62 : decode cX6_seen 62 = .ok (.getfield 144, 3) := by decide +kernel
theorem dX6_seen_65 : decode cX6_seen 65 = .ok (.ireturn, 1) := by decide +kernel
theorem dX6_matched_0 : decode cX6_matched 0 = .ok (.iload_n 1, 1) := by decide +kernel
theorem dX6_matched_1 : decode cX6_matched 1 = .ok (.invokestatic 111, 3) := by decide +kernel
theorem dX6_matched_4 : decode cX6_matched 4 = .ok (.ifCond .ne 5, 3) := by decide +kernel
theorem dX6_matched_7 : decode cX6_matched 7 = .ok (.iconst (-1), 1) := by decide +kernel
theorem dX6_matched_8 : decode cX6_matched 8 = .ok (.ireturn, 1) := by decide +kernel
theorem dX6_matched_9 : decode cX6_matched 9 = .ok (.aload_n 0, 1) := by decide +kernel
theorem dX6_matched_10 : decode cX6_matched 10 = .ok (.getfield 9, 3) := by decide +kernel
theorem dX6_matched_13 : decode cX6_matched 13 = .ok (.iload_n 1, 1) := by decide +kernel
theorem dX6_matched_14 : decode cX6_matched 14 = .ok (.iaload, 1) := by decide +kernel
theorem dX6_matched_15 : decode cX6_matched 15 = .ok (.istore_n 2, 1) := by decide +kernel
theorem dX6_matched_16 : decode cX6_matched 16 = .ok (.iconst 0, 1) := by decide +kernel
theorem dX6_matched_17 : decode cX6_matched 17 = .ok (.istore_n 3, 1) := by decide +kernel
theorem dX6_matched_18 : decode cX6_matched 18 = .ok (.iload_n 3, 1) := by decide +kernel
theorem dX6_matched_19 : decode cX6_matched 19 = .ok (.aload_n 0, 1) := by decide +kernel
theorem dX6_matched_20 : decode cX6_matched 20 = .ok (.getfield 144, 3) := by decide +kernel
theorem dX6_matched_23 : decode cX6_matched 23 = .ok (.if_icmp .gt 72, 3) := by decide +kernel
theorem dX6_matched_26 : decode cX6_matched 26 = .ok (.iconst 0, 1) := by decide +kernel
theorem dX6_matched_27 : decode cX6_matched 27 = .ok (.istore 4, 2) := by decide +kernel
theorem dX6_matched_29 : decode cX6_matched 29 = .ok (.iload 4, 2) := by decide +kernel
theorem dX6_matched_31 : decode cX6_matched 31 = .ok (.iload_n 2, 1) := by decide +kernel
theorem dX6_matched_32 : decode cX6_matched 32 = .ok (.if_icmp .gt 57, 3) := by decide +kernel
theorem dX6_matched_35 : decode cX6_matched 35 = .ok (.iload_n 3, 1) := by decide +kernel
theorem dX6_matched_36 : decode cX6_matched 36 = .ok (.ifCond .ne 11, 3) := by decide +kernel
theorem dX6_matched_39 : decode cX6_matched 39 = .ok (.bipush 30, 2) := by decide +kernel
theorem dX6_matched_41 : decode cX6_matched 41 = .ok (.iload 4, 2) := by decide +kernel
theorem dX6_matched_43 : decode cX6_matched 43 = .ok (.imul, 1) := by decide +kernel
theorem dX6_matched_44 : decode cX6_matched 44 = .ok (.goto 23, 3) := by decide +kernel
theorem dX6_matched_47 : decode cX6_matched 47 = .ok (.iload 4, 2) := by decide +kernel
theorem dX6_matched_49 : decode cX6_matched 49 = .ok (.ifCond .ne 10, 3) := by decide +kernel
theorem dX6_matched_52 : decode cX6_matched 52 = .ok (.bipush 30, 2) := by decide +kernel
theorem dX6_matched_54 : decode cX6_matched 54 = .ok (.iload_n 3, 1) := by decide +kernel
theorem dX6_matched_55 : decode cX6_matched 55 = .ok (.imul, 1) := by decide +kernel
theorem dX6_matched_56 : decode cX6_matched 56 = .ok (.goto 11, 3) := by decide +kernel
theorem dX6_matched_59 : decode cX6_matched 59 = .ok (.aload_n 0, 1) := by decide +kernel
theorem dX6_matched_60 : decode cX6_matched 60 = .ok (.iload_n 1, 1) := by decide +kernel
theorem dX6_matched_61 : decode cX6_matched 61 = .ok (.iload_n 3, 1) := by decide +kernel
theorem dX6_matched_62 : decode cX6_matched 62 = .ok (.iload 4, 2) := by decide +kernel
theorem dX6_matched_64 : decode cX6_matched 64 = .ok (.invokevirtual 147, 3) := by decide +kernel
theorem dX6_matched_67 : decode cX6_matched 67 = .ok (.istore 5, 2) := by decide +kernel
theorem dX6_matched_69 : decode cX6_matched 69 = .ok (.aload_n 0, 1) := by decide +kernel
theorem dX6_matched_70 : decode cX6_matched 70 = .ok (.getfield 53, 3) := by decide +kernel
theorem dX6_matched_73 : decode cX6_matched 73 = .ok (.bipush 11, 2) := by decide +kernel
theorem dX6_matched_75 : decode cX6_matched 75 = .ok (.iload_n 3, 1) := by decide +kernel
theorem dX6_matched_76 : decode cX6_matched 76 = .ok (.imul, 1) := by decide +kernel
theorem dX6_matched_77 : decode cX6_matched 77 = .ok (.iload 4, 2) := by decide +kernel
theorem dX6_matched_79 : decode cX6_matched 79 = .ok (.iadd, 1) := by decide +kernel
theorem dX6_matched_80 : decode cX6_matched 80 = .ok (.iload 5, 2) := by decide +kernel
theorem dX6_matched_82 : decode cX6_matched 82 = .ok (.iastore, 1) := by decide +kernel
theorem dX6_matched_83 : decode cX6_matched 83 = .ok (.iinc 4 1, 3) := by decide +kernel
theorem dX6_matched_86 : decode cX6_matched 86 = .ok (.goto (-57), 3) := by decide +kernel
theorem dX6_matched_89 : decode cX6_matched 89 = .ok (.iinc 3 1, 3) := by decide +kernel
theorem dX6_matched_92 : decode cX6_matched 92 = .ok (.goto (-74), 3) := by decide +kernel
theorem dX6_matched_95 : decode cX6_matched 95 = .ok (.aload_n 0, 1) := by decide +kernel
theorem dX6_matched_96 : decode cX6_matched 96 = .ok (.getfield 53, 3) := by decide +kernel
theorem dX6_matched_99 : decode cX6_matched 99 = .ok (.bipush 11, 2) := by decide +kernel
theorem dX6_matched_101 : decode cX6_matched 101 = .ok (.aload_n 0, 1) := by decide +kernel
theorem dX6_matched_102 : decode cX6_matched 102 = .ok (.getfield 144, 3) := by decide +kernel
theorem dX6_matched_105 : decode cX6_matched 105 = .ok (.imul, 1) := by decide +kernel
theorem dX6_matched_106 : decode cX6_matched 106 = .ok (.iload_n 2, 1) := by decide +kernel
theorem dX6_matched_107 : decode cX6_matched 107 = .ok (.iadd, 1) := by decide +kernel
theorem dX6_matched_108 : decode cX6_matched 108 = .ok (.iaload, 1) := by decide +kernel
theorem dX6_matched_109 : decode cX6_matched 109 = .ok (.ireturn, 1) := by decide +kernel
theorem dX6_pairs_0 : decode cX6_pairs 0 = .ok (.bipush 10, 2) := by decide +kernel
theorem dX6_pairs_2 : decode cX6_pairs 2 = .ok (.iload_n 1, 1) := by decide +kernel
theorem dX6_pairs_3 : decode cX6_pairs 3 = .ok (.imul, 1) := by decide +kernel
theorem dX6_pairs_4 : decode cX6_pairs 4 = .ok (.aload_n 0, 1) := by decide +kernel
theorem dX6_pairs_5 : decode cX6_pairs 5 = .ok (.getfield 9, 3) := by decide +kernel
theorem dX6_pairs_8 : decode cX6_pairs 8 = .ok (.iload_n 1, 1) := by decide +kernel
theorem dX6_pairs_9 : decode cX6_pairs 9 = .ok (.iaload, 1) := by decide +kernel
theorem dX6_pairs_10 : decode cX6_pairs 10 = .ok (.iadd, 1) := by decide +kernel
theorem dX6_pairs_11 : decode cX6_pairs 11 = .ok (.iload_n 3, 1) := by decide +kernel
theorem dX6_pairs_12 : decode cX6_pairs 12 = .ok (.isub, 1) := by decide +kernel
theorem dX6_pairs_13 : decode cX6_pairs 13 = .ok (.istore 4, 2) := by decide +kernel
theorem dX6_pairs_15 : decode cX6_pairs 15 = .ok (.aload_n 0, 1) := by decide +kernel
theorem dX6_pairs_16 : decode cX6_pairs 16 = .ok (.getfield 16, 3) := by decide +kernel
theorem dX6_pairs_19 : decode cX6_pairs 19 = .ok (.iload 4, 2) := by decide +kernel
theorem dX6_pairs_21 : decode cX6_pairs 21 = .ok (.iaload, 1) := by decide +kernel
theorem dX6_pairs_22 : decode cX6_pairs 22 = .ok (.aload_n 0, 1) := by decide +kernel
theorem dX6_pairs_23 : decode cX6_pairs 23 = .ok (.getfield 50, 3) := by decide +kernel
theorem dX6_pairs_26 : decode cX6_pairs 26 = .ok (.iload_n 2, 1) := by decide +kernel
theorem dX6_pairs_27 : decode cX6_pairs 27 = .ok (.iconst 1, 1) := by decide +kernel
theorem dX6_pairs_28 : decode cX6_pairs 28 = .ok (.isub, 1) := by decide +kernel
theorem dX6_pairs_29 : decode cX6_pairs 29 = .ok (.iaload, 1) := by decide +kernel
theorem dX6_pairs_30 : decode cX6_pairs 30 = .ok (.isub, 1) := by decide +kernel
theorem dX6_pairs_31 : decode cX6_pairs 31 = .ok (.istore 5, 2) := by decide +kernel
theorem dX6_pairs_33 : decode cX6_pairs 33 = .ok (.aload_n 0, 1) := by decide +kernel
theorem dX6_pairs_34 : decode cX6_pairs 34 = .ok (.getfield 53, 3) := by decide +kernel
theorem dX6_pairs_37 : decode cX6_pairs 37 = .ok (.bipush 11, 2) := by decide +kernel
theorem dX6_pairs_39 : decode cX6_pairs 39 = .ok (.iload_n 2, 1) := by decide +kernel
theorem dX6_pairs_40 : decode cX6_pairs 40 = .ok (.iconst 1, 1) := by decide +kernel
theorem dX6_pairs_41 : decode cX6_pairs 41 = .ok (.isub, 1) := by decide +kernel
theorem dX6_pairs_42 : decode cX6_pairs 42 = .ok (.imul, 1) := by decide +kernel
theorem dX6_pairs_43 : decode cX6_pairs 43 = .ok (.iload_n 3, 1) := by decide +kernel
theorem dX6_pairs_44 : decode cX6_pairs 44 = .ok (.iadd, 1) := by decide +kernel
theorem dX6_pairs_45 : decode cX6_pairs 45 = .ok (.iconst 1, 1) := by decide +kernel
theorem dX6_pairs_46 : decode cX6_pairs 46 = .ok (.isub, 1) := by decide +kernel
theorem dX6_pairs_47 : decode cX6_pairs 47 = .ok (.iaload, 1) := by decide +kernel
theorem dX6_pairs_48 : decode cX6_pairs 48 = .ok (.iload 5, 2) := by decide +kernel
theorem dX6_pairs_50 : decode cX6_pairs 50 = .ok (.ifCond .ge 9, 3) := by decide +kernel
theorem dX6_pairs_53 : decode cX6_pairs 53 = .ok (.iload 5, 2) := by decide +kernel
theorem dX6_pairs_55 : decode cX6_pairs 55 = .ok (.ineg, 1) := by decide +kernel
theorem dX6_pairs_56 : decode cX6_pairs 56 = .ok (.goto 5, 3) := by decide +kernel
theorem dX6_pairs_59 : decode cX6_pairs 59 = .ok (.iload 5, 2) := by decide +kernel
theorem dX6_pairs_61 : decode cX6_pairs 61 = .ok (.bipush 10, 2) := by decide +kernel
theorem dX6_pairs_63 : decode cX6_pairs 63 = .ok (.idiv, 1) := by decide +kernel
theorem dX6_pairs_64 : decode cX6_pairs 64 = .ok (.iadd, 1) := by decide +kernel
theorem dX6_pairs_65 : decode cX6_pairs 65 = .ok (.aload_n 0, 1) := by decide +kernel
theorem dX6_pairs_66 : decode cX6_pairs 66 = .ok (.getfield 13, 3) := by decide +kernel
theorem dX6_pairs_69 : decode cX6_pairs 69 = .ok (.iload 4, 2) := by decide +kernel
theorem dX6_pairs_71 : decode cX6_pairs 71 = .ok (.iaload, 1) := by decide +kernel
theorem dX6_pairs_72 : decode cX6_pairs 72 = .ok (.aload_n 0, 1) := by decide +kernel
theorem dX6_pairs_73 : decode cX6_pairs 73 = .ok (.getfield 47, 3) := by decide +kernel
theorem dX6_pairs_76 : decode cX6_pairs 76 = .ok (.iload_n 2, 1) := by decide +kernel
theorem dX6_pairs_77 : decode cX6_pairs 77 = .ok (.iconst 1, 1) := by decide +kernel
theorem dX6_pairs_78 : decode cX6_pairs 78 = .ok (.isub, 1) := by decide +kernel
theorem dX6_pairs_79 : decode cX6_pairs 79 = .ok (.iaload, 1) := by decide +kernel
theorem dX6_pairs_80 : decode cX6_pairs 80 = .ok (.if_icmp .ne 7, 3) := by decide +kernel
theorem dX6_pairs_83 : decode cX6_pairs 83 = .ok (.iconst 0, 1) := by decide +kernel
theorem dX6_pairs_84 : decode cX6_pairs 84 = .ok (.goto 5, 3) := by decide +kernel
theorem dX6_pairs_87 : decode cX6_pairs 87 = .ok (.bipush 40, 2) := by decide +kernel
theorem dX6_pairs_89 : decode cX6_pairs 89 = .ok (.iadd, 1) := by decide +kernel
theorem dX6_pairs_90 : decode cX6_pairs 90 = .ok (.istore 6, 2) := by decide +kernel
theorem dX6_pairs_92 : decode cX6_pairs 92 = .ok (.aload_n 0, 1) := by decide +kernel
theorem dX6_pairs_93 : decode cX6_pairs 93 = .ok (.getfield 53, 3) := by decide +kernel
theorem dX6_pairs_96 : decode cX6_pairs 96 = .ok (.bipush 11, 2) := by decide +kernel
theorem dX6_pairs_98 : decode cX6_pairs 98 = .ok (.iload_n 2, 1) := by decide +kernel
theorem dX6_pairs_99 : decode cX6_pairs 99 = .ok (.iconst 1, 1) := by decide +kernel
theorem dX6_pairs_100 : decode cX6_pairs 100 = .ok (.isub, 1) := by decide +kernel
theorem dX6_pairs_101 : decode cX6_pairs 101 = .ok (.imul, 1) := by decide +kernel
theorem dX6_pairs_102 : decode cX6_pairs 102 = .ok (.iload_n 3, 1) := by decide +kernel
theorem dX6_pairs_103 : decode cX6_pairs 103 = .ok (.iadd, 1) := by decide +kernel
theorem dX6_pairs_104 : decode cX6_pairs 104 = .ok (.iaload, 1) := by decide +kernel
theorem dX6_pairs_105 : decode cX6_pairs 105 = .ok (.bipush 30, 2) := by decide +kernel
theorem dX6_pairs_107 : decode cX6_pairs 107 = .ok (.iadd, 1) := by decide +kernel
theorem dX6_pairs_108 : decode cX6_pairs 108 = .ok (.istore 7, 2) := by decide +kernel
theorem dX6_pairs_110 : decode cX6_pairs 110 = .ok (.aload_n 0, 1) := by decide +kernel
theorem dX6_pairs_111 : decode cX6_pairs 111 = .ok (.getfield 53, 3) := by decide +kernel
theorem dX6_pairs_114 : decode cX6_pairs 114 = .ok (.bipush 11, 2) := by decide +kernel
theorem dX6_pairs_116 : decode cX6_pairs 116 = .ok (.iload_n 2, 1) := by decide +kernel
theorem dX6_pairs_117 : decode cX6_pairs 117 = .ok (.imul, 1) := by decide +kernel
theorem dX6_pairs_118 : decode cX6_pairs 118 = .ok (.iload_n 3, 1) := by decide +kernel
theorem dX6_pairs_119 : decode cX6_pairs 119 = .ok (.iadd, 1) := by decide +kernel
theorem dX6_pairs_120 : decode cX6_pairs 120 = .ok (.iconst 1, 1) := by decide +kernel
theorem dX6_pairs_121 : decode cX6_pairs 121 = .ok (.isub, 1) := by decide +kernel
theorem dX6_pairs_122 : decode cX6_pairs 122 = .ok (.iaload, 1) := by decide +kernel
theorem dX6_pairs_123 : decode cX6_pairs 123 = .ok (.bipush 30, 2) := by decide +kernel
theorem dX6_pairs_125 : decode cX6_pairs 125 = .ok (.iadd, 1) := by decide +kernel
theorem dX6_pairs_126 : decode cX6_pairs 126 = .ok (.istore 8, 2) := by decide +kernel
theorem dX6_pairs_128 : decode cX6_pairs 128 = .ok (.iload 7, 2) := by decide +kernel
theorem dX6_pairs_130 : decode cX6_pairs 130 = .ok (.iload 8, 2) := by decide +kernel
theorem dX6_pairs_132 : decode cX6_pairs 132 = .ok (.if_icmp .ge 8, 3) := by decide +kernel
theorem dX6_pairs_135 : decode cX6_pairs 135 = .ok (.iload 7, 2) := by decide +kernel
theorem dX6_pairs_137 : decode cX6_pairs 137 = .ok (.goto 5, 3) := by decide +kernel
theorem dX6_pairs_140 : decode cX6_pairs 140 = .ok (.iload 8, 2) := by decide +kernel
theorem dX6_pairs_142 : decode cX6_pairs 142 = .ok (.istore 9, 2) := by decide +kernel
theorem dX6_pairs_144 : decode cX6_pairs 144 = .ok (.iload 6, 2) := by decide +kernel
theorem dX6_pairs_146 : decode cX6_pairs 146 = .ok (.iload 9, 2) := by decide +kernel
theorem dX6_pairs_148 : decode cX6_pairs 148 = .ok (.if_icmp .ge 8, 3) := by decide +kernel
theorem dX6_pairs_151 : decode cX6_pairs 151 = .ok (.iload 6, 2) := by decide +kernel
theorem dX6_pairs_153 : decode cX6_pairs 153 = .ok (.goto 5, 3) := by decide +kernel
theorem dX6_pairs_156 : decode cX6_pairs 156 = .ok (.iload 9, 2) := by decide +kernel
theorem dX6_pairs_158 : decode cX6_pairs 158 = .ok (.ireturn, 1) := by decide +kernel
theorem dX6_nearest_0 : decode cX6_nearest 0 = .ok (.iconst 0, 1) := by decide +kernel
theorem dX6_nearest_1 : decode cX6_nearest 1 = .ok (.istore_n 1, 1) := by decide +kernel
theorem dX6_nearest_2 : decode cX6_nearest 2 = .ok (.iconst 1, 1) := by decide +kernel
theorem dX6_nearest_3 : decode cX6_nearest 3 = .ok (.istore_n 2, 1) := by decide +kernel
theorem dX6_nearest_4 : decode cX6_nearest 4 = .ok (.iload_n 2, 1) := by decide +kernel
theorem dX6_nearest_5 : decode cX6_nearest 5 = .ok (.bipush 12, 2) := by decide +kernel
theorem dX6_nearest_7 : decode cX6_nearest 7 = .ok (.if_icmp .ge 24, 3) := by decide +kernel
theorem dX6_nearest_10 : decode cX6_nearest 10 = .ok (.aload_n 0, 1) := by decide +kernel
theorem dX6_nearest_11 : decode cX6_nearest 11 = .ok (.iload_n 2, 1) := by decide +kernel
theorem dX6_nearest_12 : decode cX6_nearest 12 = .ok (.invokevirtual 151, 3) := by decide +kernel
theorem dX6_nearest_15 : decode cX6_nearest 15 = .ok (.aload_n 0, 1) := by decide +kernel
theorem dX6_nearest_16 : decode cX6_nearest 16 = .ok (.iload_n 1, 1) := by decide +kernel
theorem dX6_nearest_17 : decode cX6_nearest 17 = .ok (.invokevirtual 151, 3) := by decide +kernel
theorem dX6_nearest_20 : decode cX6_nearest 20 = .ok (.if_icmp .ge 5, 3) := by decide +kernel
theorem dX6_nearest_23 : decode cX6_nearest 23 = .ok (.iload_n 2, 1) := by decide +kernel
theorem dX6_nearest_24 : decode cX6_nearest 24 = .ok (.istore_n 1, 1) := by decide +kernel
theorem dX6_nearest_25 : decode cX6_nearest 25 = .ok (.iinc 2 1, 3) := by decide +kernel
theorem dX6_nearest_28 : decode cX6_nearest 28 = .ok (.goto (-24), 3) := by decide +kernel
theorem dX6_nearest_31 : decode cX6_nearest 31 = .ok (.iload_n 1, 1) := by decide +kernel
theorem dX6_nearest_32 : decode cX6_nearest 32 = .ok (.ireturn, 1) := by decide +kernel
theorem dX6_watch_0 : decode cX6_watch 0 = .ok (.iload_n 1, 1) := by decide +kernel
theorem dX6_watch_1 : decode cX6_watch 1 = .ok (.invokestatic 111, 3) := by decide +kernel
theorem dX6_watch_4 : decode cX6_watch 4 = .ok (.ifCond .eq 13, 3) := by decide +kernel
theorem dX6_watch_7 : decode cX6_watch 7 = .ok (.aload_n 0, 1) := by decide +kernel
theorem dX6_watch_8 : decode cX6_watch 8 = .ok (.getfield 60, 3) := by decide +kernel
theorem dX6_watch_11 : decode cX6_watch 11 = .ok (.sipush 400, 3) := by decide +kernel
theorem dX6_watch_14 : decode cX6_watch 14 = .ok (.if_icmp .ne 5, 3) := by decide +kernel
theorem dX6_watch_17 : decode cX6_watch 17 = .ok (.iconst (-1), 1) := by decide +kernel
theorem dX6_watch_18 : decode cX6_watch 18 = .ok (.ireturn, 1) := by decide +kernel
theorem dX6_watch_19 : decode cX6_watch 19 = .ok (.aload_n 0, 1) := by decide +kernel
theorem dX6_watch_20 : decode cX6_watch 20 = .ok (.iload_n 1, 1) := by decide +kernel
theorem dX6_watch_21 : decode cX6_watch 21 = .ok (.invokevirtual 129, 3) := by decide +kernel
theorem dX6_watch_24 : decode cX6_watch 24 = .ok (.istore_n 2, 1) := by decide +kernel
theorem dX6_watch_25 : decode cX6_watch 25 = .ok (.aload_n 0, 1) := by decide +kernel
theorem dX6_watch_26 : decode cX6_watch 26 = .ok (.getfield 35, 3) := by decide +kernel
theorem dX6_watch_29 : decode cX6_watch 29 = .ok (.iload_n 1, 1) := by decide +kernel
theorem dX6_watch_30 : decode cX6_watch 30 = .ok (.iaload, 1) := by decide +kernel
theorem dX6_watch_31 : decode cX6_watch 31 = .ok (.ifCond .ne 10, 3) := by decide +kernel
theorem dX6_watch_34 : decode cX6_watch 34 = .ok (.aload_n 0, 1) := by decide +kernel
theorem dX6_watch_35 : decode cX6_watch 35 = .ok (.getfield 35, 3) := by decide +kernel
theorem dX6_watch_38 : decode cX6_watch 38 = .ok (.iload_n 1, 1) := by decide +kernel
theorem dX6_watch_39 : decode cX6_watch 39 = .ok (.iload_n 2, 1) := by decide +kernel
theorem dX6_watch_40 : decode cX6_watch 40 = .ok (.iastore, 1) := by decide +kernel
theorem dX6_watch_41 : decode cX6_watch 41 = .ok (.iload_n 2, 1) := by decide +kernel
theorem dX6_watch_42 : decode cX6_watch 42 = .ok (.ireturn, 1) := by decide +kernel
theorem dX6_right_0 : decode cX6_right 0 = .ok (.iload_n 1, 1) := by decide +kernel
theorem dX6_right_1 : decode cX6_right 1 = .ok (.iconst 0, 1) := by decide +kernel
theorem dX6_right_2 : decode cX6_right 2 = .ok (.iconst 3, 1) := by decide +kernel
theorem dX6_right_3 : decode cX6_right 3 = .ok (.invokestatic 56, 3) := by decide +kernel
theorem dX6_right_6 : decode cX6_right 6 = .ok (.ifCond .eq 12, 3) := by decide +kernel
theorem dX6_right_9 : decode cX6_right 9 = .ok (.aload_n 0, 1) := by decide +kernel
theorem dX6_right_10 : decode cX6_right 10 = .ok (.getfield 38, 3) := by decide +kernel
theorem dX6_right_13 : decode cX6_right 13 = .ok (.iload_n 1, 1) := by decide +kernel
theorem dX6_right_14 : decode cX6_right 14 = .ok (.iaload, 1) := by decide +kernel
theorem dX6_right_15 : decode cX6_right 15 = .ok (.goto 4, 3) := by decide +kernel
theorem dX6_right_18 : decode cX6_right 18 = .ok (.iconst (-1), 1) := by decide +kernel
theorem dX6_right_19 : decode cX6_right 19 = .ok (.ireturn, 1) := by decide +kernel
theorem dX6_count_0 : decode cX6_count 0 = .ok (.iconst 0, 1) := by decide +kernel
theorem dX6_count_1 : decode cX6_count 1 = .ok (.istore_n 2, 1) := by decide +kernel
theorem dX6_count_2 : decode cX6_count 2 = .ok (.iload_n 1, 1) := by decide +kernel
theorem dX6_count_3 : decode cX6_count 3 = .ok (.tableswitch 134 0 7 #[45, 50, 74, 79, 84, 89, 124, 129], 45) := by decide +kernel
theorem dX6_count_48 : decode cX6_count 48 = .ok (.aload_n 0, 1) := by decide +kernel
theorem dX6_count_49 : decode cX6_count 49 = .ok (.getfield 60, 3) := by decide +kernel
theorem dX6_count_52 : decode cX6_count 52 = .ok (.ireturn, 1) := by decide +kernel
theorem dX6_count_53 : decode cX6_count 53 = .ok (.iconst 0, 1) := by decide +kernel
theorem dX6_count_54 : decode cX6_count 54 = .ok (.istore_n 3, 1) := by decide +kernel
theorem dX6_count_55 : decode cX6_count 55 = .ok (.iload_n 3, 1) := by decide +kernel
theorem dX6_count_56 : decode cX6_count 56 = .ok (.bipush 12, 2) := by decide +kernel
theorem dX6_count_58 : decode cX6_count 58 = .ok (.if_icmp .ge 17, 3) := by decide +kernel
theorem dX6_count_61 : decode cX6_count 61 = .ok (.iload_n 2, 1) := by decide +kernel
theorem dX6_count_62 : decode cX6_count 62 = .ok (.aload_n 0, 1) := by decide +kernel
theorem dX6_count_63 : decode cX6_count 63 = .ok (.iload_n 3, 1) := by decide +kernel
theorem dX6_count_64 : decode cX6_count 64 = .ok (.invokevirtual 126, 3) := by decide +kernel
theorem dX6_count_67 : decode cX6_count 67 = .ok (.iadd, 1) := by decide +kernel
theorem dX6_count_68 : decode cX6_count 68 = .ok (.istore_n 2, 1) := by decide +kernel
theorem dX6_count_69 : decode cX6_count 69 = .ok (.iinc 3 1, 3) := by decide +kernel
theorem dX6_count_72 : decode cX6_count 72 = .ok (.goto (-17), 3) := by decide +kernel
theorem dX6_count_75 : decode cX6_count 75 = .ok (.iload_n 2, 1) := by decide +kernel
theorem dX6_count_76 : decode cX6_count 76 = .ok (.ireturn, 1) := by decide +kernel
theorem dX6_count_77 : decode cX6_count 77 = .ok (.aload_n 0, 1) := by decide +kernel
theorem dX6_count_78 : decode cX6_count 78 = .ok (.getfield 91, 3) := by decide +kernel
theorem dX6_count_81 : decode cX6_count 81 = .ok (.ireturn, 1) := by decide +kernel
theorem dX6_count_82 : decode cX6_count 82 = .ok (.aload_n 0, 1) := by decide +kernel
theorem dX6_count_83 : decode cX6_count 83 = .ok (.getfield 82, 3) := by decide +kernel
theorem dX6_count_86 : decode cX6_count 86 = .ok (.ireturn, 1) := by decide +kernel
theorem dX6_count_87 : decode cX6_count 87 = .ok (.aload_n 0, 1) := by decide +kernel
theorem dX6_count_88 : decode cX6_count 88 = .ok (.getfield 132, 3) := by decide +kernel
theorem dX6_count_91 : decode cX6_count 91 = .ok (.ireturn, 1) := by decide +kernel
theorem dX6_count_92 : decode cX6_count 92 = .ok (.iconst 0, 1) := by decide +kernel
theorem dX6_count_93 : decode cX6_count 93 = .ok (.istore_n 3, 1) := by decide +kernel
theorem dX6_count_94 : decode cX6_count 94 = .ok (.iload_n 3, 1) := by decide +kernel
theorem dX6_count_95 : decode cX6_count 95 = .ok (.bipush 12, 2) := by decide +kernel
theorem dX6_count_97 : decode cX6_count 97 = .ok (.if_icmp .ge 28, 3) := by decide +kernel
theorem dX6_count_100 : decode cX6_count 100 = .ok (.aload_n 0, 1) := by decide +kernel
theorem dX6_count_101 : decode cX6_count 101 = .ok (.iload_n 3, 1) := by decide +kernel
theorem dX6_count_102 : decode cX6_count 102 = .ok (.invokevirtual 129, 3) := by decide +kernel
theorem dX6_count_105 : decode cX6_count 105 = .ok (.iload_n 2, 1) := by decide +kernel
theorem dX6_count_106 : decode cX6_count 106 = .ok (.if_icmp .le 11, 3) := by decide +kernel
theorem dX6_count_109 : decode cX6_count 109 = .ok (.aload_n 0, 1) := by decide +kernel
theorem dX6_count_110 : decode cX6_count 110 = .ok (.iload_n 3, 1) := by decide +kernel
theorem dX6_count_111 : decode cX6_count 111 = .ok (.invokevirtual 129, 3) := by decide +kernel
theorem dX6_count_114 : decode cX6_count 114 = .ok (.goto 4, 3) := by decide +kernel
theorem dX6_count_117 : decode cX6_count 117 = .ok (.iload_n 2, 1) := by decide +kernel
theorem dX6_count_118 : decode cX6_count 118 = .ok (.istore_n 2, 1) := by decide +kernel
theorem dX6_count_119 : decode cX6_count 119 = .ok (.iinc 3 1, 3) := by decide +kernel
theorem dX6_count_122 : decode cX6_count 122 = .ok (.goto (-28), 3) := by decide +kernel
theorem dX6_count_125 : decode cX6_count 125 = .ok (.iload_n 2, 1) := by decide +kernel
theorem dX6_count_126 : decode cX6_count 126 = .ok (.ireturn, 1) := by decide +kernel
theorem dX6_count_127 : decode cX6_count 127 = .ok (.aload_n 0, 1) := by decide +kernel
theorem dX6_count_128 : decode cX6_count 128 = .ok (.getfield 138, 3) := by decide +kernel
theorem dX6_count_131 : decode cX6_count 131 = .ok (.ireturn, 1) := by decide +kernel
theorem dX6_count_132 : decode cX6_count 132 = .ok (.aload_n 0, 1) := by decide +kernel
theorem dX6_count_133 : decode cX6_count 133 = .ok (.getfield 144, 3) := by decide +kernel
theorem dX6_count_136 : decode cX6_count 136 = .ok (.ireturn, 1) := by decide +kernel
theorem dX6_count_137 : decode cX6_count 137 = .ok (.iconst (-1), 1) := by decide +kernel
theorem dX6_count_138 : decode cX6_count 138 = .ok (.ireturn, 1) := by decide +kernel
theorem dJ9_abs_0f7a4_0 : decode cJ9_abs_0f7a4 0 = .ok (.iload_n 0, 1) := by decide +kernel
theorem dJ9_abs_0f7a4_1 : decode cJ9_abs_0f7a4 1 = .ok (.ifCond .ge 8, 3) := by decide +kernel
theorem dJ9_abs_0f7a4_4 : decode cJ9_abs_0f7a4 4 = .ok (.iload_n 0, 1) := by decide +kernel
theorem dJ9_abs_0f7a4_5 : decode cJ9_abs_0f7a4 5 = .ok (.ineg, 1) := by decide +kernel
theorem dJ9_abs_0f7a4_6 : decode cJ9_abs_0f7a4 6 = .ok (.goto 4, 3) := by decide +kernel
theorem dJ9_abs_0f7a4_9 : decode cJ9_abs_0f7a4 9 = .ok (.iload_n 0, 1) := by decide +kernel
theorem dJ9_abs_0f7a4_10 : decode cJ9_abs_0f7a4 10 = .ok (.ireturn, 1) := by decide +kernel
theorem dJ9_max_7cf53_0 : decode cJ9_max_7cf53 0 = .ok (.iload_n 0, 1) := by decide +kernel
theorem dJ9_max_7cf53_1 : decode cJ9_max_7cf53 1 = .ok (.iload_n 1, 1) := by decide +kernel
theorem dJ9_max_7cf53_2 : decode cJ9_max_7cf53 2 = .ok (.if_icmp .lt 7, 3) := by decide +kernel
theorem dJ9_max_7cf53_5 : decode cJ9_max_7cf53 5 = .ok (.iload_n 0, 1) := by decide +kernel
theorem dJ9_max_7cf53_6 : decode cJ9_max_7cf53 6 = .ok (.goto 4, 3) := by decide +kernel
theorem dJ9_max_7cf53_9 : decode cJ9_max_7cf53 9 = .ok (.iload_n 1, 1) := by decide +kernel
theorem dJ9_max_7cf53_10 : decode cJ9_max_7cf53 10 = .ok (.ireturn, 1) := by decide +kernel
theorem dJ9_min_7cf53_0 : decode cJ9_min_7cf53 0 = .ok (.iload_n 0, 1) := by decide +kernel
theorem dJ9_min_7cf53_1 : decode cJ9_min_7cf53 1 = .ok (.iload_n 1, 1) := by decide +kernel
theorem dJ9_min_7cf53_2 : decode cJ9_min_7cf53 2 = .ok (.if_icmp .gt 7, 3) := by decide +kernel
theorem dJ9_min_7cf53_5 : decode cJ9_min_7cf53 5 = .ok (.iload_n 0, 1) := by decide +kernel
theorem dJ9_min_7cf53_6 : decode cJ9_min_7cf53 6 = .ok (.goto 4, 3) := by decide +kernel
theorem dJ9_min_7cf53_9 : decode cJ9_min_7cf53 9 = .ok (.iload_n 1, 1) := by decide +kernel
theorem dJ9_min_7cf53_10 : decode cJ9_min_7cf53 10 = .ok (.ireturn, 1) := by decide +kernel
theorem dL_law_0 : decode cL_law 0 = .ok (.new 7, 3) := by decide +kernel
theorem dL_law_3 : decode cL_law 3 = .ok (.dup, 1) := by decide +kernel
theorem dL_law_4 : decode cL_law 4 = .ok (.invokespecial 9, 3) := by decide +kernel
theorem dL_law_7 : decode cL_law 7 = .ok (.astore_n 1, 1) := by decide +kernel
theorem dL_law_8 : decode cL_law 8 = .ok (.new 10, 3) := by decide +kernel
theorem dL_law_11 : decode cL_law 11 = .ok (.dup, 1) := by decide +kernel
theorem dL_law_12 : decode cL_law 12 = .ok (.invokespecial 12, 3) := by decide +kernel
theorem dL_law_15 : decode cL_law 15 = .ok (.astore_n 2, 1) := by decide +kernel
theorem dL_law_16 : decode cL_law 16 = .ok (.iconst 0, 1) := by decide +kernel
theorem dL_law_17 : decode cL_law 17 = .ok (.istore_n 3, 1) := by decide +kernel
theorem dL_law_18 : decode cL_law 18 = .ok (.iload_n 3, 1) := by decide +kernel
theorem dL_law_19 : decode cL_law 19 = .ok (.aload_n 0, 1) := by decide +kernel
theorem dL_law_20 : decode cL_law 20 = .ok (.arraylength, 1) := by decide +kernel
theorem dL_law_21 : decode cL_law 21 = .ok (.iconst 4, 1) := by decide +kernel
theorem dL_law_22 : decode cL_law 22 = .ok (.isub, 1) := by decide +kernel
theorem dL_law_23 : decode cL_law 23 = .ok (.if_icmp .gt 567, 3) := by decide +kernel
theorem dL_law_26 : decode cL_law 26 = .ok (.aload_n 0, 1) := by decide +kernel
theorem dL_law_27 : decode cL_law 27 = .ok (.iload_n 3, 1) := by decide +kernel
theorem dL_law_28 : decode cL_law 28 = .ok (.iaload, 1) := by decide +kernel
theorem dL_law_29 : decode cL_law 29 = .ok (.bipush 31, 2) := by decide +kernel
theorem dL_law_31 : decode cL_law 31 = .ok (.iand, 1) := by decide +kernel
theorem dL_law_32 : decode cL_law 32 = .ok (.tableswitch 552 0 17 #[88, 121, 154, 187, 210, 253, 286, 319, 342, 375, 388, 401, 414, 447, 470, 483, 506, 529], 88) := by decide +kernel
theorem dL_law_120 : decode cL_law 120 = .ok (.aload_n 1, 1) := by decide +kernel
theorem dL_law_121 : decode cL_law 121 = .ok (.aload_n 0, 1) := by decide +kernel
theorem dL_law_122 : decode cL_law 122 = .ok (.iload_n 3, 1) := by decide +kernel
theorem dL_law_123 : decode cL_law 123 = .ok (.iconst 1, 1) := by decide +kernel
theorem dL_law_124 : decode cL_law 124 = .ok (.iadd, 1) := by decide +kernel
theorem dL_law_125 : decode cL_law 125 = .ok (.iaload, 1) := by decide +kernel
theorem dL_law_126 : decode cL_law 126 = .ok (.aload_n 0, 1) := by decide +kernel
theorem dL_law_127 : decode cL_law 127 = .ok (.iload_n 3, 1) := by decide +kernel
theorem dL_law_128 : decode cL_law 128 = .ok (.iconst 2, 1) := by decide +kernel
theorem dL_law_129 : decode cL_law 129 = .ok (.iadd, 1) := by decide +kernel
theorem dL_law_130 : decode cL_law 130 = .ok (.iaload, 1) := by decide +kernel
theorem dL_law_131 : decode cL_law 131 = .ok (.invokevirtual 13, 3) := by decide +kernel
theorem dL_law_134 : decode cL_law 134 = .ok (.aload_n 2, 1) := by decide +kernel
theorem dL_law_135 : decode cL_law 135 = .ok (.aload_n 0, 1) := by decide +kernel
theorem dL_law_136 : decode cL_law 136 = .ok (.iload_n 3, 1) := by decide +kernel
theorem dL_law_137 : decode cL_law 137 = .ok (.iconst 1, 1) := by decide +kernel
theorem dL_law_138 : decode cL_law 138 = .ok (.iadd, 1) := by decide +kernel
theorem dL_law_139 : decode cL_law 139 = .ok (.iaload, 1) := by decide +kernel
theorem dL_law_140 : decode cL_law 140 = .ok (.aload_n 0, 1) := by decide +kernel
theorem dL_law_141 : decode cL_law 141 = .ok (.iload_n 3, 1) := by decide +kernel
theorem dL_law_142 : decode cL_law 142 = .ok (.iconst 2, 1) := by decide +kernel
theorem dL_law_143 : decode cL_law 143 = .ok (.iadd, 1) := by decide +kernel
theorem dL_law_144 : decode cL_law 144 = .ok (.iaload, 1) := by decide +kernel
theorem dL_law_145 : decode cL_law 145 = .ok (.invokevirtual 17, 3) := by decide +kernel
theorem dL_law_148 : decode cL_law 148 = .ok (.if_icmp .eq 436, 3) := by decide +kernel
theorem dL_law_151 : decode cL_law 151 = .ok (.iconst 0, 1) := by decide +kernel
theorem dL_law_152 : decode cL_law 152 = .ok (.ireturn, 1) := by decide +kernel
theorem dL_law_153 : decode cL_law 153 = .ok (.aload_n 1, 1) := by decide +kernel
theorem dL_law_154 : decode cL_law 154 = .ok (.aload_n 0, 1) := by decide +kernel
theorem dL_law_155 : decode cL_law 155 = .ok (.iload_n 3, 1) := by decide +kernel
theorem dL_law_156 : decode cL_law 156 = .ok (.iconst 1, 1) := by decide +kernel
theorem dL_law_157 : decode cL_law 157 = .ok (.iadd, 1) := by decide +kernel
theorem dL_law_158 : decode cL_law 158 = .ok (.iaload, 1) := by decide +kernel
theorem dL_law_159 : decode cL_law 159 = .ok (.aload_n 0, 1) := by decide +kernel
theorem dL_law_160 : decode cL_law 160 = .ok (.iload_n 3, 1) := by decide +kernel
theorem dL_law_161 : decode cL_law 161 = .ok (.iconst 2, 1) := by decide +kernel
theorem dL_law_162 : decode cL_law 162 = .ok (.iadd, 1) := by decide +kernel
theorem dL_law_163 : decode cL_law 163 = .ok (.iaload, 1) := by decide +kernel
theorem dL_law_164 : decode cL_law 164 = .ok (.invokevirtual 18, 3) := by decide +kernel
theorem dL_law_167 : decode cL_law 167 = .ok (.aload_n 2, 1) := by decide +kernel
theorem dL_law_168 : decode cL_law 168 = .ok (.aload_n 0, 1) := by decide +kernel
theorem dL_law_169 : decode cL_law 169 = .ok (.iload_n 3, 1) := by decide +kernel
theorem dL_law_170 : decode cL_law 170 = .ok (.iconst 1, 1) := by decide +kernel
theorem dL_law_171 : decode cL_law 171 = .ok (.iadd, 1) := by decide +kernel
theorem dL_law_172 : decode cL_law 172 = .ok (.iaload, 1) := by decide +kernel
theorem dL_law_173 : decode cL_law 173 = .ok (.aload_n 0, 1) := by decide +kernel
theorem dL_law_174 : decode cL_law 174 = .ok (.iload_n 3, 1) := by decide +kernel
theorem dL_law_175 : decode cL_law 175 = .ok (.iconst 2, 1) := by decide +kernel
theorem dL_law_176 : decode cL_law 176 = .ok (.iadd, 1) := by decide +kernel
theorem dL_law_177 : decode cL_law 177 = .ok (.iaload, 1) := by decide +kernel
theorem dL_law_178 : decode cL_law 178 = .ok (.invokevirtual 21, 3) := by decide +kernel
theorem dL_law_181 : decode cL_law 181 = .ok (.if_icmp .eq 403, 3) := by decide +kernel
theorem dL_law_184 : decode cL_law 184 = .ok (.iconst 0, 1) := by decide +kernel
theorem dL_law_185 : decode cL_law 185 = .ok (.ireturn, 1) := by decide +kernel
theorem dL_law_186 : decode cL_law 186 = .ok (.aload_n 1, 1) := by decide +kernel
theorem dL_law_187 : decode cL_law 187 = .ok (.aload_n 0, 1) := by decide +kernel
theorem dL_law_188 : decode cL_law 188 = .ok (.iload_n 3, 1) := by decide +kernel
theorem dL_law_189 : decode cL_law 189 = .ok (.iconst 1, 1) := by decide +kernel
theorem dL_law_190 : decode cL_law 190 = .ok (.iadd, 1) := by decide +kernel
theorem dL_law_191 : decode cL_law 191 = .ok (.iaload, 1) := by decide +kernel
theorem dL_law_192 : decode cL_law 192 = .ok (.aload_n 0, 1) := by decide +kernel
theorem dL_law_193 : decode cL_law 193 = .ok (.iload_n 3, 1) := by decide +kernel
theorem dL_law_194 : decode cL_law 194 = .ok (.iconst 2, 1) := by decide +kernel
theorem dL_law_195 : decode cL_law 195 = .ok (.iadd, 1) := by decide +kernel
theorem dL_law_196 : decode cL_law 196 = .ok (.iaload, 1) := by decide +kernel
theorem dL_law_197 : decode cL_law 197 = .ok (.invokevirtual 22, 3) := by decide +kernel
theorem dL_law_200 : decode cL_law 200 = .ok (.aload_n 2, 1) := by decide +kernel
theorem dL_law_201 : decode cL_law 201 = .ok (.aload_n 0, 1) := by decide +kernel
theorem dL_law_202 : decode cL_law 202 = .ok (.iload_n 3, 1) := by decide +kernel
theorem dL_law_203 : decode cL_law 203 = .ok (.iconst 1, 1) := by decide +kernel
theorem dL_law_204 : decode cL_law 204 = .ok (.iadd, 1) := by decide +kernel
theorem dL_law_205 : decode cL_law 205 = .ok (.iaload, 1) := by decide +kernel
theorem dL_law_206 : decode cL_law 206 = .ok (.aload_n 0, 1) := by decide +kernel
theorem dL_law_207 : decode cL_law 207 = .ok (.iload_n 3, 1) := by decide +kernel
theorem dL_law_208 : decode cL_law 208 = .ok (.iconst 2, 1) := by decide +kernel
theorem dL_law_209 : decode cL_law 209 = .ok (.iadd, 1) := by decide +kernel
theorem dL_law_210 : decode cL_law 210 = .ok (.iaload, 1) := by decide +kernel
theorem dL_law_211 : decode cL_law 211 = .ok (.invokevirtual 25, 3) := by decide +kernel
theorem dL_law_214 : decode cL_law 214 = .ok (.if_icmp .eq 370, 3) := by decide +kernel
theorem dL_law_217 : decode cL_law 217 = .ok (.iconst 0, 1) := by decide +kernel
theorem dL_law_218 : decode cL_law 218 = .ok (.ireturn, 1) := by decide +kernel
theorem dL_law_219 : decode cL_law 219 = .ok (.aload_n 1, 1) := by decide +kernel
theorem dL_law_220 : decode cL_law 220 = .ok (.aload_n 0, 1) := by decide +kernel
theorem dL_law_221 : decode cL_law 221 = .ok (.iload_n 3, 1) := by decide +kernel
theorem dL_law_222 : decode cL_law 222 = .ok (.iconst 1, 1) := by decide +kernel
theorem dL_law_223 : decode cL_law 223 = .ok (.iadd, 1) := by decide +kernel
theorem dL_law_224 : decode cL_law 224 = .ok (.iaload, 1) := by decide +kernel
theorem dL_law_225 : decode cL_law 225 = .ok (.invokevirtual 26, 3) := by decide +kernel
theorem dL_law_228 : decode cL_law 228 = .ok (.aload_n 2, 1) := by decide +kernel
theorem dL_law_229 : decode cL_law 229 = .ok (.aload_n 0, 1) := by decide +kernel
theorem dL_law_230 : decode cL_law 230 = .ok (.iload_n 3, 1) := by decide +kernel
theorem dL_law_231 : decode cL_law 231 = .ok (.iconst 1, 1) := by decide +kernel
theorem dL_law_232 : decode cL_law 232 = .ok (.iadd, 1) := by decide +kernel
theorem dL_law_233 : decode cL_law 233 = .ok (.iaload, 1) := by decide +kernel
theorem dL_law_234 : decode cL_law 234 = .ok (.invokevirtual 30, 3) := by decide +kernel
theorem dL_law_237 : decode cL_law 237 = .ok (.if_icmp .eq 347, 3) := by decide +kernel
theorem dL_law_240 : decode cL_law 240 = .ok (.iconst 0, 1) := by decide +kernel
theorem dL_law_241 : decode cL_law 241 = .ok (.ireturn, 1) := by decide +kernel
theorem dL_law_242 : decode cL_law 242 = .ok (.aload_n 1, 1) := by decide +kernel
theorem dL_law_243 : decode cL_law 243 = .ok (.aload_n 0, 1) := by decide +kernel
theorem dL_law_244 : decode cL_law 244 = .ok (.iload_n 3, 1) := by decide +kernel
theorem dL_law_245 : decode cL_law 245 = .ok (.iconst 1, 1) := by decide +kernel
theorem dL_law_246 : decode cL_law 246 = .ok (.iadd, 1) := by decide +kernel
theorem dL_law_247 : decode cL_law 247 = .ok (.iaload, 1) := by decide +kernel
theorem dL_law_248 : decode cL_law 248 = .ok (.aload_n 0, 1) := by decide +kernel
theorem dL_law_249 : decode cL_law 249 = .ok (.iload_n 3, 1) := by decide +kernel
theorem dL_law_250 : decode cL_law 250 = .ok (.iconst 2, 1) := by decide +kernel
theorem dL_law_251 : decode cL_law 251 = .ok (.iadd, 1) := by decide +kernel
theorem dL_law_252 : decode cL_law 252 = .ok (.iaload, 1) := by decide +kernel
theorem dL_law_253 : decode cL_law 253 = .ok (.aload_n 0, 1) := by decide +kernel
theorem dL_law_254 : decode cL_law 254 = .ok (.iload_n 3, 1) := by decide +kernel
theorem dL_law_255 : decode cL_law 255 = .ok (.iconst 3, 1) := by decide +kernel
theorem dL_law_256 : decode cL_law 256 = .ok (.iadd, 1) := by decide +kernel
theorem dL_law_257 : decode cL_law 257 = .ok (.iaload, 1) := by decide +kernel
theorem dL_law_258 : decode cL_law 258 = .ok (.invokevirtual 31, 3) := by decide +kernel
theorem dL_law_261 : decode cL_law 261 = .ok (.aload_n 2, 1) := by decide +kernel
theorem dL_law_262 : decode cL_law 262 = .ok (.aload_n 0, 1) := by decide +kernel
theorem dL_law_263 : decode cL_law 263 = .ok (.iload_n 3, 1) := by decide +kernel
theorem dL_law_264 : decode cL_law 264 = .ok (.iconst 1, 1) := by decide +kernel
theorem dL_law_265 : decode cL_law 265 = .ok (.iadd, 1) := by decide +kernel
theorem dL_law_266 : decode cL_law 266 = .ok (.iaload, 1) := by decide +kernel
theorem dL_law_267 : decode cL_law 267 = .ok (.aload_n 0, 1) := by decide +kernel
theorem dL_law_268 : decode cL_law 268 = .ok (.iload_n 3, 1) := by decide +kernel
theorem dL_law_269 : decode cL_law 269 = .ok (.iconst 2, 1) := by decide +kernel
theorem dL_law_270 : decode cL_law 270 = .ok (.iadd, 1) := by decide +kernel
theorem dL_law_271 : decode cL_law 271 = .ok (.iaload, 1) := by decide +kernel
theorem dL_law_272 : decode cL_law 272 = .ok (.aload_n 0, 1) := by decide +kernel
theorem dL_law_273 : decode cL_law 273 = .ok (.iload_n 3, 1) := by decide +kernel
theorem dL_law_274 : decode cL_law 274 = .ok (.iconst 3, 1) := by decide +kernel
theorem dL_law_275 : decode cL_law 275 = .ok (.iadd, 1) := by decide +kernel
theorem dL_law_276 : decode cL_law 276 = .ok (.iaload, 1) := by decide +kernel
theorem dL_law_277 : decode cL_law 277 = .ok (.invokevirtual 35, 3) := by decide +kernel
theorem dL_law_280 : decode cL_law 280 = .ok (.if_icmp .eq 304, 3) := by decide +kernel
theorem dL_law_283 : decode cL_law 283 = .ok (.iconst 0, 1) := by decide +kernel
theorem dL_law_284 : decode cL_law 284 = .ok (.ireturn, 1) := by decide +kernel
theorem dL_law_285 : decode cL_law 285 = .ok (.aload_n 1, 1) := by decide +kernel
theorem dL_law_286 : decode cL_law 286 = .ok (.aload_n 0, 1) := by decide +kernel
theorem dL_law_287 : decode cL_law 287 = .ok (.iload_n 3, 1) := by decide +kernel
theorem dL_law_288 : decode cL_law 288 = .ok (.iconst 1, 1) := by decide +kernel
theorem dL_law_289 : decode cL_law 289 = .ok (.iadd, 1) := by decide +kernel
theorem dL_law_290 : decode cL_law 290 = .ok (.iaload, 1) := by decide +kernel
theorem dL_law_291 : decode cL_law 291 = .ok (.aload_n 0, 1) := by decide +kernel
theorem dL_law_292 : decode cL_law 292 = .ok (.iload_n 3, 1) := by decide +kernel
theorem dL_law_293 : decode cL_law 293 = .ok (.iconst 2, 1) := by decide +kernel
theorem dL_law_294 : decode cL_law 294 = .ok (.iadd, 1) := by decide +kernel
theorem dL_law_295 : decode cL_law 295 = .ok (.iaload, 1) := by decide +kernel
theorem dL_law_296 : decode cL_law 296 = .ok (.invokevirtual 36, 3) := by decide +kernel
theorem dL_law_299 : decode cL_law 299 = .ok (.aload_n 2, 1) := by decide +kernel
theorem dL_law_300 : decode cL_law 300 = .ok (.aload_n 0, 1) := by decide +kernel
theorem dL_law_301 : decode cL_law 301 = .ok (.iload_n 3, 1) := by decide +kernel
theorem dL_law_302 : decode cL_law 302 = .ok (.iconst 1, 1) := by decide +kernel
theorem dL_law_303 : decode cL_law 303 = .ok (.iadd, 1) := by decide +kernel
theorem dL_law_304 : decode cL_law 304 = .ok (.iaload, 1) := by decide +kernel
theorem dL_law_305 : decode cL_law 305 = .ok (.aload_n 0, 1) := by decide +kernel
theorem dL_law_306 : decode cL_law 306 = .ok (.iload_n 3, 1) := by decide +kernel
theorem dL_law_307 : decode cL_law 307 = .ok (.iconst 2, 1) := by decide +kernel
theorem dL_law_308 : decode cL_law 308 = .ok (.iadd, 1) := by decide +kernel
theorem dL_law_309 : decode cL_law 309 = .ok (.iaload, 1) := by decide +kernel
theorem dL_law_310 : decode cL_law 310 = .ok (.invokevirtual 40, 3) := by decide +kernel
theorem dL_law_313 : decode cL_law 313 = .ok (.if_icmp .eq 271, 3) := by decide +kernel
theorem dL_law_316 : decode cL_law 316 = .ok (.iconst 0, 1) := by decide +kernel
theorem dL_law_317 : decode cL_law 317 = .ok (.ireturn, 1) := by decide +kernel
theorem dL_law_318 : decode cL_law 318 = .ok (.aload_n 1, 1) := by decide +kernel
theorem dL_law_319 : decode cL_law 319 = .ok (.aload_n 0, 1) := by decide +kernel
theorem dL_law_320 : decode cL_law 320 = .ok (.iload_n 3, 1) := by decide +kernel
theorem dL_law_321 : decode cL_law 321 = .ok (.iconst 1, 1) := by decide +kernel
theorem dL_law_322 : decode cL_law 322 = .ok (.iadd, 1) := by decide +kernel
theorem dL_law_323 : decode cL_law 323 = .ok (.iaload, 1) := by decide +kernel
theorem dL_law_324 : decode cL_law 324 = .ok (.aload_n 0, 1) := by decide +kernel
theorem dL_law_325 : decode cL_law 325 = .ok (.iload_n 3, 1) := by decide +kernel
theorem dL_law_326 : decode cL_law 326 = .ok (.iconst 2, 1) := by decide +kernel
theorem dL_law_327 : decode cL_law 327 = .ok (.iadd, 1) := by decide +kernel
theorem dL_law_328 : decode cL_law 328 = .ok (.iaload, 1) := by decide +kernel
theorem dL_law_329 : decode cL_law 329 = .ok (.invokevirtual 41, 3) := by decide +kernel
theorem dL_law_332 : decode cL_law 332 = .ok (.aload_n 2, 1) := by decide +kernel
theorem dL_law_333 : decode cL_law 333 = .ok (.aload_n 0, 1) := by decide +kernel
theorem dL_law_334 : decode cL_law 334 = .ok (.iload_n 3, 1) := by decide +kernel
theorem dL_law_335 : decode cL_law 335 = .ok (.iconst 1, 1) := by decide +kernel
theorem dL_law_336 : decode cL_law 336 = .ok (.iadd, 1) := by decide +kernel
theorem dL_law_337 : decode cL_law 337 = .ok (.iaload, 1) := by decide +kernel
theorem dL_law_338 : decode cL_law 338 = .ok (.aload_n 0, 1) := by decide +kernel
theorem dL_law_339 : decode cL_law 339 = .ok (.iload_n 3, 1) := by decide +kernel
theorem dL_law_340 : decode cL_law 340 = .ok (.iconst 2, 1) := by decide +kernel
theorem dL_law_341 : decode cL_law 341 = .ok (.iadd, 1) := by decide +kernel
theorem dL_law_342 : decode cL_law 342 = .ok (.iaload, 1) := by decide +kernel
theorem dL_law_343 : decode cL_law 343 = .ok (.invokevirtual 44, 3) := by decide +kernel
theorem dL_law_346 : decode cL_law 346 = .ok (.if_icmp .eq 238, 3) := by decide +kernel
theorem dL_law_349 : decode cL_law 349 = .ok (.iconst 0, 1) := by decide +kernel
theorem dL_law_350 : decode cL_law 350 = .ok (.ireturn, 1) := by decide +kernel
theorem dL_law_351 : decode cL_law 351 = .ok (.aload_n 1, 1) := by decide +kernel
theorem dL_law_352 : decode cL_law 352 = .ok (.aload_n 0, 1) := by decide +kernel
theorem dL_law_353 : decode cL_law 353 = .ok (.iload_n 3, 1) := by decide +kernel
theorem dL_law_354 : decode cL_law 354 = .ok (.iconst 1, 1) := by decide +kernel
theorem dL_law_355 : decode cL_law 355 = .ok (.iadd, 1) := by decide +kernel
theorem dL_law_356 : decode cL_law 356 = .ok (.iaload, 1) := by decide +kernel
theorem dL_law_357 : decode cL_law 357 = .ok (.invokevirtual 45, 3) := by decide +kernel
theorem dL_law_360 : decode cL_law 360 = .ok (.aload_n 2, 1) := by decide +kernel
theorem dL_law_361 : decode cL_law 361 = .ok (.aload_n 0, 1) := by decide +kernel
theorem dL_law_362 : decode cL_law 362 = .ok (.iload_n 3, 1) := by decide +kernel
theorem dL_law_363 : decode cL_law 363 = .ok (.iconst 1, 1) := by decide +kernel
theorem dL_law_364 : decode cL_law 364 = .ok (.iadd, 1) := by decide +kernel
theorem dL_law_365 : decode cL_law 365 = .ok (.iaload, 1) := by decide +kernel
theorem dL_law_366 : decode cL_law 366 = .ok (.invokevirtual 48, 3) := by decide +kernel
theorem dL_law_369 : decode cL_law 369 = .ok (.if_icmp .eq 215, 3) := by decide +kernel
theorem dL_law_372 : decode cL_law 372 = .ok (.iconst 0, 1) := by decide +kernel
theorem dL_law_373 : decode cL_law 373 = .ok (.ireturn, 1) := by decide +kernel
theorem dL_law_374 : decode cL_law 374 = .ok (.aload_n 1, 1) := by decide +kernel
theorem dL_law_375 : decode cL_law 375 = .ok (.aload_n 0, 1) := by decide +kernel
theorem dL_law_376 : decode cL_law 376 = .ok (.iload_n 3, 1) := by decide +kernel
theorem dL_law_377 : decode cL_law 377 = .ok (.iconst 1, 1) := by decide +kernel
theorem dL_law_378 : decode cL_law 378 = .ok (.iadd, 1) := by decide +kernel
theorem dL_law_379 : decode cL_law 379 = .ok (.iaload, 1) := by decide +kernel
theorem dL_law_380 : decode cL_law 380 = .ok (.aload_n 0, 1) := by decide +kernel
theorem dL_law_381 : decode cL_law 381 = .ok (.iload_n 3, 1) := by decide +kernel
theorem dL_law_382 : decode cL_law 382 = .ok (.iconst 2, 1) := by decide +kernel
theorem dL_law_383 : decode cL_law 383 = .ok (.iadd, 1) := by decide +kernel
theorem dL_law_384 : decode cL_law 384 = .ok (.iaload, 1) := by decide +kernel
theorem dL_law_385 : decode cL_law 385 = .ok (.invokevirtual 49, 3) := by decide +kernel
theorem dL_law_388 : decode cL_law 388 = .ok (.aload_n 2, 1) := by decide +kernel
theorem dL_law_389 : decode cL_law 389 = .ok (.aload_n 0, 1) := by decide +kernel
theorem dL_law_390 : decode cL_law 390 = .ok (.iload_n 3, 1) := by decide +kernel
theorem dL_law_391 : decode cL_law 391 = .ok (.iconst 1, 1) := by decide +kernel
theorem dL_law_392 : decode cL_law 392 = .ok (.iadd, 1) := by decide +kernel
theorem dL_law_393 : decode cL_law 393 = .ok (.iaload, 1) := by decide +kernel
theorem dL_law_394 : decode cL_law 394 = .ok (.aload_n 0, 1) := by decide +kernel
theorem dL_law_395 : decode cL_law 395 = .ok (.iload_n 3, 1) := by decide +kernel
theorem dL_law_396 : decode cL_law 396 = .ok (.iconst 2, 1) := by decide +kernel
theorem dL_law_397 : decode cL_law 397 = .ok (.iadd, 1) := by decide +kernel
theorem dL_law_398 : decode cL_law 398 = .ok (.iaload, 1) := by decide +kernel
theorem dL_law_399 : decode cL_law 399 = .ok (.invokevirtual 52, 3) := by decide +kernel
theorem dL_law_402 : decode cL_law 402 = .ok (.if_icmp .eq 182, 3) := by decide +kernel
theorem dL_law_405 : decode cL_law 405 = .ok (.iconst 0, 1) := by decide +kernel
theorem dL_law_406 : decode cL_law 406 = .ok (.ireturn, 1) := by decide +kernel
theorem dL_law_407 : decode cL_law 407 = .ok (.aload_n 1, 1) := by decide +kernel
theorem dL_law_408 : decode cL_law 408 = .ok (.invokevirtual 53, 3) := by decide +kernel
theorem dL_law_411 : decode cL_law 411 = .ok (.aload_n 2, 1) := by decide +kernel
theorem dL_law_412 : decode cL_law 412 = .ok (.invokevirtual 57, 3) := by decide +kernel
theorem dL_law_415 : decode cL_law 415 = .ok (.if_icmp .eq 169, 3) := by decide +kernel
theorem dL_law_418 : decode cL_law 418 = .ok (.iconst 0, 1) := by decide +kernel
theorem dL_law_419 : decode cL_law 419 = .ok (.ireturn, 1) := by decide +kernel
theorem dL_law_420 : decode cL_law 420 = .ok (.aload_n 1, 1) := by decide +kernel
theorem dL_law_421 : decode cL_law 421 = .ok (.invokevirtual 58, 3) := by decide +kernel
theorem dL_law_424 : decode cL_law 424 = .ok (.aload_n 2, 1) := by decide +kernel
theorem dL_law_425 : decode cL_law 425 = .ok (.invokevirtual 61, 3) := by decide +kernel
theorem dL_law_428 : decode cL_law 428 = .ok (.if_icmp .eq 156, 3) := by decide +kernel
theorem dL_law_431 : decode cL_law 431 = .ok (.iconst 0, 1) := by decide +kernel
theorem dL_law_432 : decode cL_law 432 = .ok (.ireturn, 1) := by decide +kernel
theorem dL_law_433 : decode cL_law 433 = .ok (.aload_n 1, 1) := by decide +kernel
theorem dL_law_434 : decode cL_law 434 = .ok (.invokevirtual 62, 3) := by decide +kernel
theorem dL_law_437 : decode cL_law 437 = .ok (.aload_n 2, 1) := by decide +kernel
theorem dL_law_438 : decode cL_law 438 = .ok (.invokevirtual 65, 3) := by decide +kernel
theorem dL_law_441 : decode cL_law 441 = .ok (.if_icmp .eq 143, 3) := by decide +kernel
theorem dL_law_444 : decode cL_law 444 = .ok (.iconst 0, 1) := by decide +kernel
theorem dL_law_445 : decode cL_law 445 = .ok (.ireturn, 1) := by decide +kernel
theorem dL_law_446 : decode cL_law 446 = .ok (.aload_n 1, 1) := by decide +kernel
theorem dL_law_447 : decode cL_law 447 = .ok (.aload_n 0, 1) := by decide +kernel
theorem dL_law_448 : decode cL_law 448 = .ok (.iload_n 3, 1) := by decide +kernel
theorem dL_law_449 : decode cL_law 449 = .ok (.iconst 1, 1) := by decide +kernel
theorem dL_law_450 : decode cL_law 450 = .ok (.iadd, 1) := by decide +kernel
theorem dL_law_451 : decode cL_law 451 = .ok (.iaload, 1) := by decide +kernel
theorem dL_law_452 : decode cL_law 452 = .ok (.aload_n 0, 1) := by decide +kernel
theorem dL_law_453 : decode cL_law 453 = .ok (.iload_n 3, 1) := by decide +kernel
theorem dL_law_454 : decode cL_law 454 = .ok (.iconst 2, 1) := by decide +kernel
theorem dL_law_455 : decode cL_law 455 = .ok (.iadd, 1) := by decide +kernel
theorem dL_law_456 : decode cL_law 456 = .ok (.iaload, 1) := by decide +kernel
theorem dL_law_457 : decode cL_law 457 = .ok (.invokevirtual 66, 3) := by decide +kernel
theorem dL_law_460 : decode cL_law 460 = .ok (.aload_n 2, 1) := by decide +kernel
theorem dL_law_461 : decode cL_law 461 = .ok (.aload_n 0, 1) := by decide +kernel
theorem dL_law_462 : decode cL_law 462 = .ok (.iload_n 3, 1) := by decide +kernel
theorem dL_law_463 : decode cL_law 463 = .ok (.iconst 1, 1) := by decide +kernel
theorem dL_law_464 : decode cL_law 464 = .ok (.iadd, 1) := by decide +kernel
theorem dL_law_465 : decode cL_law 465 = .ok (.iaload, 1) := by decide +kernel
theorem dL_law_466 : decode cL_law 466 = .ok (.aload_n 0, 1) := by decide +kernel
theorem dL_law_467 : decode cL_law 467 = .ok (.iload_n 3, 1) := by decide +kernel
theorem dL_law_468 : decode cL_law 468 = .ok (.iconst 2, 1) := by decide +kernel
theorem dL_law_469 : decode cL_law 469 = .ok (.iadd, 1) := by decide +kernel
theorem dL_law_470 : decode cL_law 470 = .ok (.iaload, 1) := by decide +kernel
theorem dL_law_471 : decode cL_law 471 = .ok (.invokevirtual 69, 3) := by decide +kernel
theorem dL_law_474 : decode cL_law 474 = .ok (.if_icmp .eq 110, 3) := by decide +kernel
theorem dL_law_477 : decode cL_law 477 = .ok (.iconst 0, 1) := by decide +kernel
theorem dL_law_478 : decode cL_law 478 = .ok (.ireturn, 1) := by decide +kernel
theorem dL_law_479 : decode cL_law 479 = .ok (.aload_n 1, 1) := by decide +kernel
theorem dL_law_480 : decode cL_law 480 = .ok (.aload_n 0, 1) := by decide +kernel
theorem dL_law_481 : decode cL_law 481 = .ok (.iload_n 3, 1) := by decide +kernel
theorem dL_law_482 : decode cL_law 482 = .ok (.iconst 1, 1) := by decide +kernel
theorem dL_law_483 : decode cL_law 483 = .ok (.iadd, 1) := by decide +kernel
theorem dL_law_484 : decode cL_law 484 = .ok (.iaload, 1) := by decide +kernel
theorem dL_law_485 : decode cL_law 485 = .ok (.invokevirtual 70, 3) := by decide +kernel
theorem dL_law_488 : decode cL_law 488 = .ok (.aload_n 2, 1) := by decide +kernel
theorem dL_law_489 : decode cL_law 489 = .ok (.aload_n 0, 1) := by decide +kernel
theorem dL_law_490 : decode cL_law 490 = .ok (.iload_n 3, 1) := by decide +kernel
theorem dL_law_491 : decode cL_law 491 = .ok (.iconst 1, 1) := by decide +kernel
theorem dL_law_492 : decode cL_law 492 = .ok (.iadd, 1) := by decide +kernel
theorem dL_law_493 : decode cL_law 493 = .ok (.iaload, 1) := by decide +kernel
theorem dL_law_494 : decode cL_law 494 = .ok (.invokevirtual 73, 3) := by decide +kernel
theorem dL_law_497 : decode cL_law 497 = .ok (.if_icmp .eq 87, 3) := by decide +kernel
theorem dL_law_500 : decode cL_law 500 = .ok (.iconst 0, 1) := by decide +kernel
theorem dL_law_501 : decode cL_law 501 = .ok (.ireturn, 1) := by decide +kernel
theorem dL_law_502 : decode cL_law 502 = .ok (.aload_n 1, 1) := by decide +kernel
theorem dL_law_503 : decode cL_law 503 = .ok (.invokevirtual 74, 3) := by decide +kernel
theorem dL_law_506 : decode cL_law 506 = .ok (.aload_n 2, 1) := by decide +kernel
theorem dL_law_507 : decode cL_law 507 = .ok (.invokevirtual 77, 3) := by decide +kernel
theorem dL_law_510 : decode cL_law 510 = .ok (.if_icmp .eq 74, 3) := by decide +kernel
theorem dL_law_513 : decode cL_law 513 = .ok (.iconst 0, 1) := by decide +kernel
theorem dL_law_514 : decode cL_law 514 = .ok (.ireturn, 1) := by decide +kernel
theorem dL_law_515 : decode cL_law 515 = .ok (.aload_n 1, 1) := by decide +kernel
theorem dL_law_516 : decode cL_law 516 = .ok (.aload_n 0, 1) := by decide +kernel
theorem dL_law_517 : decode cL_law 517 = .ok (.iload_n 3, 1) := by decide +kernel
theorem dL_law_518 : decode cL_law 518 = .ok (.iconst 1, 1) := by decide +kernel
theorem dL_law_519 : decode cL_law 519 = .ok (.iadd, 1) := by decide +kernel
theorem dL_law_520 : decode cL_law 520 = .ok (.iaload, 1) := by decide +kernel
theorem dL_law_521 : decode cL_law 521 = .ok (.invokevirtual 78, 3) := by decide +kernel
theorem dL_law_524 : decode cL_law 524 = .ok (.aload_n 2, 1) := by decide +kernel
theorem dL_law_525 : decode cL_law 525 = .ok (.aload_n 0, 1) := by decide +kernel
theorem dL_law_526 : decode cL_law 526 = .ok (.iload_n 3, 1) := by decide +kernel
theorem dL_law_527 : decode cL_law 527 = .ok (.iconst 1, 1) := by decide +kernel
theorem dL_law_528 : decode cL_law 528 = .ok (.iadd, 1) := by decide +kernel
theorem dL_law_529 : decode cL_law 529 = .ok (.iaload, 1) := by decide +kernel
theorem dL_law_530 : decode cL_law 530 = .ok (.invokevirtual 81, 3) := by decide +kernel
theorem dL_law_533 : decode cL_law 533 = .ok (.if_icmp .eq 51, 3) := by decide +kernel
theorem dL_law_536 : decode cL_law 536 = .ok (.iconst 0, 1) := by decide +kernel
theorem dL_law_537 : decode cL_law 537 = .ok (.ireturn, 1) := by decide +kernel
theorem dL_law_538 : decode cL_law 538 = .ok (.aload_n 1, 1) := by decide +kernel
theorem dL_law_539 : decode cL_law 539 = .ok (.aload_n 0, 1) := by decide +kernel
theorem dL_law_540 : decode cL_law 540 = .ok (.iload_n 3, 1) := by decide +kernel
theorem dL_law_541 : decode cL_law 541 = .ok (.iconst 1, 1) := by decide +kernel
theorem dL_law_542 : decode cL_law 542 = .ok (.iadd, 1) := by decide +kernel
theorem dL_law_543 : decode cL_law 543 = .ok (.iaload, 1) := by decide +kernel
theorem dL_law_544 : decode cL_law 544 = .ok (.invokevirtual 82, 3) := by decide +kernel
theorem dL_law_547 : decode cL_law 547 = .ok (.aload_n 2, 1) := by decide +kernel
theorem dL_law_548 : decode cL_law 548 = .ok (.aload_n 0, 1) := by decide +kernel
theorem dL_law_549 : decode cL_law 549 = .ok (.iload_n 3, 1) := by decide +kernel
theorem dL_law_550 : decode cL_law 550 = .ok (.iconst 1, 1) := by decide +kernel
theorem dL_law_551 : decode cL_law 551 = .ok (.iadd, 1) := by decide +kernel
theorem dL_law_552 : decode cL_law 552 = .ok (.iaload, 1) := by decide +kernel
theorem dL_law_553 : decode cL_law 553 = .ok (.invokevirtual 85, 3) := by decide +kernel
theorem dL_law_556 : decode cL_law 556 = .ok (.if_icmp .eq 28, 3) := by decide +kernel
theorem dL_law_559 : decode cL_law 559 = .ok (.iconst 0, 1) := by decide +kernel
theorem dL_law_560 : decode cL_law 560 = .ok (.ireturn, 1) := by decide +kernel
theorem dL_law_561 : decode cL_law 561 = .ok (.aload_n 1, 1) := by decide +kernel
theorem dL_law_562 : decode cL_law 562 = .ok (.aload_n 0, 1) := by decide +kernel
theorem dL_law_563 : decode cL_law 563 = .ok (.iload_n 3, 1) := by decide +kernel
theorem dL_law_564 : decode cL_law 564 = .ok (.iconst 1, 1) := by decide +kernel
theorem dL_law_565 : decode cL_law 565 = .ok (.iadd, 1) := by decide +kernel
theorem dL_law_566 : decode cL_law 566 = .ok (.iaload, 1) := by decide +kernel
theorem dL_law_567 : decode cL_law 567 = .ok (.invokevirtual 86, 3) := by decide +kernel
theorem dL_law_570 : decode cL_law 570 = .ok (.aload_n 2, 1) := by decide +kernel
theorem dL_law_571 : decode cL_law 571 = .ok (.aload_n 0, 1) := by decide +kernel
theorem dL_law_572 : decode cL_law 572 = .ok (.iload_n 3, 1) := by decide +kernel
theorem dL_law_573 : decode cL_law 573 = .ok (.iconst 1, 1) := by decide +kernel
theorem dL_law_574 : decode cL_law 574 = .ok (.iadd, 1) := by decide +kernel
theorem dL_law_575 : decode cL_law 575 = .ok (.iaload, 1) := by decide +kernel
theorem dL_law_576 : decode cL_law 576 = .ok (.invokevirtual 89, 3) := by decide +kernel
theorem dL_law_579 : decode cL_law 579 = .ok (.if_icmp .eq 5, 3) := by decide +kernel
theorem dL_law_582 : decode cL_law 582 = .ok (.iconst 0, 1) := by decide +kernel
theorem dL_law_583 : decode cL_law 583 = .ok (.ireturn, 1) := by decide +kernel
theorem dL_law_584 : decode cL_law 584 = .ok (.iinc 3 4, 3) := by decide +kernel
theorem dL_law_587 : decode cL_law 587 = .ok (.goto (-569), 3) := by decide +kernel
theorem dL_law_590 : decode cL_law 590 = .ok (.iconst 1, 1) := by decide +kernel
theorem dL_law_591 : decode cL_law 591 = .ok (.ireturn, 1) := by decide +kernel
end
section
abbrev ab_NM : Nat := 118
def ab_y : Nat → MethodName := fun n => match n with
  | 0 => yX0_number
  | 1 => yX0_empty
  | 2 => yX0_addBelow
  | 3 => yX0_costAgainst
  | 4 => yX0_costOfPair
  | 5 => yX1_paths
  | 6 => yX1_addPath
  | 7 => yX1_classOf
  | 8 => yX1_needOf
  | 9 => yX1_leastNeedIn
  | 10 => yX2_depth
  | 11 => yX2_has
  | 12 => yX2_kindOf
  | 13 => yX2_massOf
  | 14 => yX2_ageOf
  | 15 => yX2_indexOf
  | 16 => yX2_massAbove
  | 17 => yX2_whyWithin
  | 18 => yX2_likelyWithin
  | 19 => yX2_sizeWithin
  | 20 => yX2_reaches
  | 21 => yX2_growOlder
  | 22 => yX2_addNew
  | 23 => yX2_giveToWind
  | 24 => yX2_takeFromWind
  | 25 => yX2_changeKinds
  | 26 => yX2_melt
  | 27 => yX2_removeAbove
  | 28 => yX2_isTopNew
  | 29 => yX2_massBetween
  | 30 => yX2_indexUnder
  | 31 => yX2_bearingOf
  | 32 => yX2_joinLowest
  | 33 => yX3_noteSlide
  | 34 => yX3_noteDanger
  | 35 => yX3_tallyOf
  | 36 => yX3_judgeDay
  | 37 => yX4_canSnow
  | 38 => yX4_canBeWarm
  | 39 => yX4_canBlow
  | 40 => yX4_tellSnow
  | 41 => yX4_tellWarmth
  | 42 => yX4_tellWind
  | 43 => yX4_fallingMassAt
  | 44 => yX4_warmthAt
  | 45 => yX4_isDrifting
  | 46 => yX4_windSide
  | 47 => yX4_driftingParts
  | 48 => yX4_endDay
  | 49 => yX4_meanSnow
  | 50 => yX5_snow
  | 51 => yX5_warmth
  | 52 => yX5_wind
  | 53 => yX5_go
  | 54 => yX5_layer
  | 55 => yX5_told
  | 56 => yX5_slide
  | 57 => yX5_shot
  | 58 => yX5_path
  | 59 => yX5_shut
  | 60 => yX5_shots
  | 61 => yX5_pit
  | 62 => yX5_seen
  | 63 => yX5_matched
  | 64 => yX5_nearest
  | 65 => yX5_watch
  | 66 => yX5_right
  | 67 => yX5_count
  | 68 => yX5_isHeight
  | 69 => yX5_isClass
  | 70 => yX5_endDay
  | 71 => yX5_letSnowFall
  | 72 => yX5_letSnowDrift
  | 73 => yX5_letSnowChange
  | 74 => yX5_takeAbove
  | 75 => yX5_dangerOf
  | 76 => yX5_spreadAt
  | 77 => yX5_greatestDanger
  | 78 => yX5_massOnSlopes
  | 79 => yX6_in
  | 80 => yX6_isClass
  | 81 => yX6_snow
  | 82 => yX6_warmth
  | 83 => yX6_wind
  | 84 => yX6_falls
  | 85 => yX6_snowAt
  | 86 => yX6_top
  | 87 => yX6_isNewOn
  | 88 => yX6_drifts
  | 89 => yX6_ages
  | 90 => yX6_melts
  | 91 => yX6_judges
  | 92 => yX6_day
  | 93 => yX6_go
  | 94 => yX6_load
  | 95 => yX6_index
  | 96 => yX6_layer
  | 97 => yX6_why
  | 98 => yX6_likely
  | 99 => yX6_size
  | 100 => yX6_danger
  | 101 => yX6_all
  | 102 => yX6_told
  | 103 => yX6_slides
  | 104 => yX6_slide
  | 105 => yX6_shot
  | 106 => yX6_path
  | 107 => yX6_shuts
  | 108 => yX6_shut
  | 109 => yX6_shots
  | 110 => yX6_pit
  | 111 => yX6_seen
  | 112 => yX6_matched
  | 113 => yX6_pairs
  | 114 => yX6_nearest
  | 115 => yX6_watch
  | 116 => yX6_right
  | _ => yX6_count
def ab_c : Nat → ByteArray := fun n => match n with
  | 0 => cX0_number
  | 1 => cX0_empty
  | 2 => cX0_addBelow
  | 3 => cX0_costAgainst
  | 4 => cX0_costOfPair
  | 5 => cX1_paths
  | 6 => cX1_addPath
  | 7 => cX1_classOf
  | 8 => cX1_needOf
  | 9 => cX1_leastNeedIn
  | 10 => cX2_depth
  | 11 => cX2_has
  | 12 => cX2_kindOf
  | 13 => cX2_massOf
  | 14 => cX2_ageOf
  | 15 => cX2_indexOf
  | 16 => cX2_massAbove
  | 17 => cX2_whyWithin
  | 18 => cX2_likelyWithin
  | 19 => cX2_sizeWithin
  | 20 => cX2_reaches
  | 21 => cX2_growOlder
  | 22 => cX2_addNew
  | 23 => cX2_giveToWind
  | 24 => cX2_takeFromWind
  | 25 => cX2_changeKinds
  | 26 => cX2_melt
  | 27 => cX2_removeAbove
  | 28 => cX2_isTopNew
  | 29 => cX2_massBetween
  | 30 => cX2_indexUnder
  | 31 => cX2_bearingOf
  | 32 => cX2_joinLowest
  | 33 => cX3_noteSlide
  | 34 => cX3_noteDanger
  | 35 => cX3_tallyOf
  | 36 => cX3_judgeDay
  | 37 => cX4_canSnow
  | 38 => cX4_canBeWarm
  | 39 => cX4_canBlow
  | 40 => cX4_tellSnow
  | 41 => cX4_tellWarmth
  | 42 => cX4_tellWind
  | 43 => cX4_fallingMassAt
  | 44 => cX4_warmthAt
  | 45 => cX4_isDrifting
  | 46 => cX4_windSide
  | 47 => cX4_driftingParts
  | 48 => cX4_endDay
  | 49 => cX4_meanSnow
  | 50 => cX5_snow
  | 51 => cX5_warmth
  | 52 => cX5_wind
  | 53 => cX5_go
  | 54 => cX5_layer
  | 55 => cX5_told
  | 56 => cX5_slide
  | 57 => cX5_shot
  | 58 => cX5_path
  | 59 => cX5_shut
  | 60 => cX5_shots
  | 61 => cX5_pit
  | 62 => cX5_seen
  | 63 => cX5_matched
  | 64 => cX5_nearest
  | 65 => cX5_watch
  | 66 => cX5_right
  | 67 => cX5_count
  | 68 => cX5_isHeight
  | 69 => cX5_isClass
  | 70 => cX5_endDay
  | 71 => cX5_letSnowFall
  | 72 => cX5_letSnowDrift
  | 73 => cX5_letSnowChange
  | 74 => cX5_takeAbove
  | 75 => cX5_dangerOf
  | 76 => cX5_spreadAt
  | 77 => cX5_greatestDanger
  | 78 => cX5_massOnSlopes
  | 79 => cX6_in
  | 80 => cX6_isClass
  | 81 => cX6_snow
  | 82 => cX6_warmth
  | 83 => cX6_wind
  | 84 => cX6_falls
  | 85 => cX6_snowAt
  | 86 => cX6_top
  | 87 => cX6_isNewOn
  | 88 => cX6_drifts
  | 89 => cX6_ages
  | 90 => cX6_melts
  | 91 => cX6_judges
  | 92 => cX6_day
  | 93 => cX6_go
  | 94 => cX6_load
  | 95 => cX6_index
  | 96 => cX6_layer
  | 97 => cX6_why
  | 98 => cX6_likely
  | 99 => cX6_size
  | 100 => cX6_danger
  | 101 => cX6_all
  | 102 => cX6_told
  | 103 => cX6_slides
  | 104 => cX6_slide
  | 105 => cX6_shot
  | 106 => cX6_path
  | 107 => cX6_shuts
  | 108 => cX6_shut
  | 109 => cX6_shots
  | 110 => cX6_pit
  | 111 => cX6_seen
  | 112 => cX6_matched
  | 113 => cX6_pairs
  | 114 => cX6_nearest
  | 115 => cX6_watch
  | 116 => cX6_right
  | _ => cX6_count
def ab_L : Nat → Nat := fun n => match n with
  | 0 => 1
  | 1 => 2
  | 2 => 3
  | 3 => 8
  | 4 => 5
  | 5 => 1
  | 6 => 3
  | 7 => 2
  | 8 => 2
  | 9 => 4
  | 10 => 1
  | 11 => 2
  | 12 => 2
  | 13 => 2
  | 14 => 2
  | 15 => 2
  | 16 => 2
  | 17 => 7
  | 18 => 4
  | 19 => 4
  | 20 => 3
  | 21 => 2
  | 22 => 2
  | 23 => 3
  | 24 => 2
  | 25 => 4
  | 26 => 4
  | 27 => 3
  | 28 => 1
  | 29 => 5
  | 30 => 3
  | 31 => 2
  | 32 => 2
  | 33 => 2
  | 34 => 3
  | 35 => 2
  | 36 => 3
  | 37 => 1
  | 38 => 1
  | 39 => 1
  | 40 => 3
  | 41 => 3
  | 42 => 3
  | 43 => 2
  | 44 => 2
  | 45 => 1
  | 46 => 1
  | 47 => 1
  | 48 => 2
  | 49 => 4
  | 50 => 3
  | 51 => 3
  | 52 => 3
  | 53 => 3
  | 54 => 5
  | 55 => 5
  | 56 => 3
  | 57 => 4
  | 58 => 3
  | 59 => 4
  | 60 => 6
  | 61 => 1
  | 62 => 3
  | 63 => 2
  | 64 => 5
  | 65 => 3
  | 66 => 2
  | 67 => 2
  | 68 => 1
  | 69 => 1
  | 70 => 1
  | 71 => 3
  | 72 => 5
  | 73 => 3
  | 74 => 4
  | 75 => 5
  | 76 => 5
  | 77 => 3
  | 78 => 3
  | 79 => 3
  | 80 => 1
  | 81 => 3
  | 82 => 3
  | 83 => 3
  | 84 => 5
  | 85 => 5
  | 86 => 2
  | 87 => 2
  | 88 => 4
  | 89 => 3
  | 90 => 4
  | 91 => 2
  | 92 => 3
  | 93 => 3
  | 94 => 5
  | 95 => 7
  | 96 => 5
  | 97 => 4
  | 98 => 4
  | 99 => 4
  | 100 => 4
  | 101 => 2
  | 102 => 3
  | 103 => 4
  | 104 => 3
  | 105 => 2
  | 106 => 3
  | 107 => 2
  | 108 => 3
  | 109 => 7
  | 110 => 2
  | 111 => 3
  | 112 => 6
  | 113 => 10
  | 114 => 3
  | 115 => 3
  | 116 => 2
  | _ => 4
def ab_r : Nat → Option FieldType := fun n => match n with
  | 0 => (some .int)
  | 1 => (some .int)
  | 2 => (some .int)
  | 3 => (some .int)
  | 4 => (some .int)
  | 5 => (some .int)
  | 6 => (some .int)
  | 7 => (some .int)
  | 8 => (some .int)
  | 9 => (some .int)
  | 10 => (some .int)
  | 11 => (some .boolean)
  | 12 => (some .int)
  | 13 => (some .int)
  | 14 => (some .int)
  | 15 => (some .int)
  | 16 => (some .int)
  | 17 => (some .int)
  | 18 => (some .int)
  | 19 => (some .int)
  | 20 => (some .boolean)
  | 21 => none
  | 22 => none
  | 23 => (some .int)
  | 24 => none
  | 25 => none
  | 26 => (some .int)
  | 27 => (some .int)
  | 28 => (some .boolean)
  | 29 => (some .int)
  | 30 => (some .int)
  | 31 => (some .int)
  | 32 => none
  | 33 => none
  | 34 => none
  | 35 => (some .int)
  | 36 => none
  | 37 => (some .boolean)
  | 38 => (some .boolean)
  | 39 => (some .boolean)
  | 40 => none
  | 41 => none
  | 42 => none
  | 43 => (some .int)
  | 44 => (some .int)
  | 45 => (some .boolean)
  | 46 => (some .int)
  | 47 => (some .int)
  | 48 => none
  | 49 => (some .int)
  | 50 => (some .boolean)
  | 51 => (some .boolean)
  | 52 => (some .boolean)
  | 53 => (some .int)
  | 54 => (some .int)
  | 55 => (some .int)
  | 56 => (some .int)
  | 57 => (some .int)
  | 58 => (some .int)
  | 59 => (some .int)
  | 60 => (some .int)
  | 61 => (some .int)
  | 62 => (some .int)
  | 63 => (some .int)
  | 64 => (some .int)
  | 65 => (some .int)
  | 66 => (some .int)
  | 67 => (some .int)
  | 68 => (some .boolean)
  | 69 => (some .boolean)
  | 70 => none
  | 71 => none
  | 72 => none
  | 73 => none
  | 74 => (some .int)
  | 75 => (some .int)
  | 76 => (some .int)
  | 77 => (some .int)
  | 78 => (some .int)
  | 79 => (some .boolean)
  | 80 => (some .boolean)
  | 81 => (some .boolean)
  | 82 => (some .boolean)
  | 83 => (some .boolean)
  | 84 => none
  | 85 => (some .int)
  | 86 => (some .int)
  | 87 => (some .boolean)
  | 88 => none
  | 89 => none
  | 90 => none
  | 91 => none
  | 92 => none
  | 93 => (some .int)
  | 94 => (some .int)
  | 95 => (some .int)
  | 96 => (some .int)
  | 97 => (some .int)
  | 98 => (some .int)
  | 99 => (some .int)
  | 100 => (some .int)
  | 101 => (some .int)
  | 102 => (some .int)
  | 103 => (some .int)
  | 104 => (some .int)
  | 105 => (some .int)
  | 106 => (some .int)
  | 107 => (some .boolean)
  | 108 => (some .int)
  | 109 => (some .int)
  | 110 => (some .int)
  | 111 => (some .int)
  | 112 => (some .int)
  | 113 => (some .int)
  | 114 => (some .int)
  | 115 => (some .int)
  | 116 => (some .int)
  | _ => (some .int)
def ab_o : Nat → Nat := fun n => match n with
  | 0 => 0
  | 1 => 0
  | 2 => 0
  | 3 => 0
  | 4 => 0
  | 5 => 1
  | 6 => 1
  | 7 => 1
  | 8 => 1
  | 9 => 1
  | 10 => 2
  | 11 => 2
  | 12 => 2
  | 13 => 2
  | 14 => 2
  | 15 => 2
  | 16 => 2
  | 17 => 2
  | 18 => 2
  | 19 => 2
  | 20 => 2
  | 21 => 2
  | 22 => 2
  | 23 => 2
  | 24 => 2
  | 25 => 2
  | 26 => 2
  | 27 => 2
  | 28 => 2
  | 29 => 2
  | 30 => 2
  | 31 => 2
  | 32 => 2
  | 33 => 3
  | 34 => 3
  | 35 => 3
  | 36 => 3
  | 37 => 4
  | 38 => 4
  | 39 => 4
  | 40 => 4
  | 41 => 4
  | 42 => 4
  | 43 => 4
  | 44 => 4
  | 45 => 4
  | 46 => 4
  | 47 => 4
  | 48 => 4
  | 49 => 4
  | 50 => 5
  | 51 => 5
  | 52 => 5
  | 53 => 5
  | 54 => 5
  | 55 => 5
  | 56 => 5
  | 57 => 5
  | 58 => 5
  | 59 => 5
  | 60 => 5
  | 61 => 5
  | 62 => 5
  | 63 => 5
  | 64 => 5
  | 65 => 5
  | 66 => 5
  | 67 => 5
  | 68 => 5
  | 69 => 5
  | 70 => 5
  | 71 => 5
  | 72 => 5
  | 73 => 5
  | 74 => 5
  | 75 => 5
  | 76 => 5
  | 77 => 5
  | 78 => 5
  | 79 => 6
  | 80 => 6
  | 81 => 6
  | 82 => 6
  | 83 => 6
  | 84 => 6
  | 85 => 6
  | 86 => 6
  | 87 => 6
  | 88 => 6
  | 89 => 6
  | 90 => 6
  | 91 => 6
  | 92 => 6
  | 93 => 6
  | 94 => 6
  | 95 => 6
  | 96 => 6
  | 97 => 6
  | 98 => 6
  | 99 => 6
  | 100 => 6
  | 101 => 6
  | 102 => 6
  | 103 => 6
  | 104 => 6
  | 105 => 6
  | 106 => 6
  | 107 => 6
  | 108 => 6
  | 109 => 6
  | 110 => 6
  | 111 => 6
  | 112 => 6
  | 113 => 6
  | 114 => 6
  | 115 => 6
  | 116 => 6
  | _ => 6
def ab_n : Nat → Nat := fun n => match n with
  | 0 => 1
  | 1 => 1
  | 2 => 3
  | 3 => 2
  | 4 => 4
  | 5 => 1
  | 6 => 3
  | 7 => 2
  | 8 => 2
  | 9 => 2
  | 10 => 1
  | 11 => 2
  | 12 => 2
  | 13 => 2
  | 14 => 2
  | 15 => 2
  | 16 => 2
  | 17 => 2
  | 18 => 2
  | 19 => 2
  | 20 => 3
  | 21 => 1
  | 22 => 2
  | 23 => 2
  | 24 => 2
  | 25 => 2
  | 26 => 2
  | 27 => 2
  | 28 => 1
  | 29 => 3
  | 30 => 2
  | 31 => 2
  | 32 => 1
  | 33 => 2
  | 34 => 3
  | 35 => 2
  | 36 => 1
  | 37 => 1
  | 38 => 1
  | 39 => 1
  | 40 => 3
  | 41 => 3
  | 42 => 3
  | 43 => 2
  | 44 => 2
  | 45 => 1
  | 46 => 1
  | 47 => 1
  | 48 => 1
  | 49 => 1
  | 50 => 3
  | 51 => 3
  | 52 => 3
  | 53 => 2
  | 54 => 4
  | 55 => 3
  | 56 => 3
  | 57 => 2
  | 58 => 3
  | 59 => 1
  | 60 => 1
  | 61 => 1
  | 62 => 3
  | 63 => 2
  | 64 => 1
  | 65 => 2
  | 66 => 2
  | 67 => 2
  | 68 => 1
  | 69 => 1
  | 70 => 1
  | 71 => 1
  | 72 => 1
  | 73 => 1
  | 74 => 3
  | 75 => 2
  | 76 => 2
  | 77 => 1
  | 78 => 1
  | 79 => 3
  | 80 => 1
  | 81 => 3
  | 82 => 3
  | 83 => 3
  | 84 => 3
  | 85 => 2
  | 86 => 2
  | 87 => 2
  | 88 => 3
  | 89 => 2
  | 90 => 2
  | 91 => 1
  | 92 => 1
  | 93 => 2
  | 94 => 3
  | 95 => 3
  | 96 => 4
  | 97 => 2
  | 98 => 2
  | 99 => 2
  | 100 => 2
  | 101 => 2
  | 102 => 3
  | 103 => 3
  | 104 => 3
  | 105 => 2
  | 106 => 3
  | 107 => 2
  | 108 => 1
  | 109 => 1
  | 110 => 1
  | 111 => 3
  | 112 => 2
  | 113 => 4
  | 114 => 1
  | 115 => 2
  | 116 => 2
  | _ => 2
def ab_s : Nat → Bool := fun n => match n with
  | 0 => false
  | 1 => false
  | 2 => false
  | 3 => false
  | 4 => false
  | 5 => false
  | 6 => false
  | 7 => false
  | 8 => false
  | 9 => false
  | 10 => false
  | 11 => false
  | 12 => false
  | 13 => false
  | 14 => false
  | 15 => false
  | 16 => false
  | 17 => false
  | 18 => false
  | 19 => false
  | 20 => false
  | 21 => false
  | 22 => false
  | 23 => false
  | 24 => false
  | 25 => false
  | 26 => false
  | 27 => false
  | 28 => false
  | 29 => false
  | 30 => true
  | 31 => true
  | 32 => false
  | 33 => false
  | 34 => false
  | 35 => false
  | 36 => false
  | 37 => true
  | 38 => true
  | 39 => true
  | 40 => false
  | 41 => false
  | 42 => false
  | 43 => false
  | 44 => false
  | 45 => false
  | 46 => false
  | 47 => false
  | 48 => false
  | 49 => false
  | 50 => false
  | 51 => false
  | 52 => false
  | 53 => false
  | 54 => false
  | 55 => false
  | 56 => false
  | 57 => false
  | 58 => false
  | 59 => false
  | 60 => false
  | 61 => false
  | 62 => false
  | 63 => false
  | 64 => false
  | 65 => false
  | 66 => false
  | 67 => false
  | 68 => true
  | 69 => true
  | 70 => false
  | 71 => false
  | 72 => false
  | 73 => false
  | 74 => false
  | 75 => false
  | 76 => false
  | 77 => false
  | 78 => false
  | 79 => true
  | 80 => true
  | 81 => false
  | 82 => false
  | 83 => false
  | 84 => false
  | 85 => false
  | 86 => false
  | 87 => false
  | 88 => false
  | 89 => false
  | 90 => false
  | 91 => false
  | 92 => false
  | 93 => false
  | 94 => false
  | 95 => false
  | 96 => false
  | 97 => false
  | 98 => false
  | 99 => false
  | 100 => false
  | 101 => false
  | 102 => false
  | 103 => false
  | 104 => false
  | 105 => false
  | 106 => false
  | 107 => false
  | 108 => false
  | 109 => false
  | 110 => false
  | 111 => false
  | 112 => false
  | 113 => false
  | 114 => false
  | 115 => false
  | 116 => false
  | _ => false
def ab_b : Nat → Nat := fun n => match n with
  | 0 => 1
  | 1 => 1
  | 2 => 1
  | 3 => 1
  | 4 => 1
  | 5 => 1
  | 6 => 1
  | 7 => 1
  | 8 => 1
  | 9 => 1
  | 10 => 1
  | 11 => 2
  | 12 => 1
  | 13 => 1
  | 14 => 1
  | 15 => 1
  | 16 => 1
  | 17 => 1
  | 18 => 1
  | 19 => 1
  | 20 => 2
  | 21 => 0
  | 22 => 0
  | 23 => 1
  | 24 => 0
  | 25 => 0
  | 26 => 1
  | 27 => 1
  | 28 => 2
  | 29 => 1
  | 30 => 1
  | 31 => 1
  | 32 => 0
  | 33 => 0
  | 34 => 0
  | 35 => 1
  | 36 => 0
  | 37 => 2
  | 38 => 2
  | 39 => 2
  | 40 => 0
  | 41 => 0
  | 42 => 0
  | 43 => 1
  | 44 => 1
  | 45 => 2
  | 46 => 1
  | 47 => 1
  | 48 => 0
  | 49 => 1
  | 50 => 2
  | 51 => 2
  | 52 => 2
  | 53 => 1
  | 54 => 1
  | 55 => 1
  | 56 => 1
  | 57 => 1
  | 58 => 1
  | 59 => 1
  | 60 => 1
  | 61 => 1
  | 62 => 1
  | 63 => 1
  | 64 => 1
  | 65 => 1
  | 66 => 1
  | 67 => 1
  | 68 => 2
  | 69 => 2
  | 70 => 0
  | 71 => 0
  | 72 => 0
  | 73 => 0
  | 74 => 1
  | 75 => 1
  | 76 => 1
  | 77 => 1
  | 78 => 1
  | 79 => 2
  | 80 => 2
  | 81 => 2
  | 82 => 2
  | 83 => 2
  | 84 => 0
  | 85 => 1
  | 86 => 1
  | 87 => 2
  | 88 => 0
  | 89 => 0
  | 90 => 0
  | 91 => 0
  | 92 => 0
  | 93 => 1
  | 94 => 1
  | 95 => 1
  | 96 => 1
  | 97 => 1
  | 98 => 1
  | 99 => 1
  | 100 => 1
  | 101 => 1
  | 102 => 1
  | 103 => 1
  | 104 => 1
  | 105 => 1
  | 106 => 1
  | 107 => 2
  | 108 => 1
  | 109 => 1
  | 110 => 1
  | 111 => 1
  | 112 => 1
  | 113 => 1
  | 114 => 1
  | 115 => 1
  | 116 => 1
  | _ => 1
def ab_R : Nat → String := fun n => match n with
  | 0 => RX0
  | 1 => RX1
  | 2 => RX2
  | 3 => RX3
  | 4 => RX4
  | 5 => RX5
  | 6 => RX6
  | 7 => RJ9
  | _ => RL
def ab_T : Nat → u_T := fun n => match n with
  | 0 => TX0
  | 1 => TX1
  | 2 => TX2
  | 3 => TX3
  | 4 => TX4
  | 5 => TX5
  | _ => TX6
def ab_tt : Nat → (Nat → FieldType) := fun n => match n with
  | 0 => tyX0
  | 1 => tyX1
  | 2 => tyX2
  | 3 => tyX3
  | 4 => tyX4
  | 5 => tyX5
  | _ => tyX6
def ab_nf : Nat → Nat := fun n => match n with
  | 0 => 4
  | 1 => 3
  | 2 => 4
  | 3 => 3
  | 4 => 5
  | 5 => 9
  | 6 => 23
  | _ => 0
def ab_cV : List (Nat × Nat × Nat) := [(0, 27, 10), (0, 37, 4), (0, 41, 13), (0, 48, 12), (2, 25, 11), (2, 33, 16), (2, 40, 29), (2, 48, 17), (2, 51, 18), (2, 54, 19), (2, 57, 32), (2, 60, 28), (2, 64, 22), (4, 32, 49), (4, 36, 44), (5, 64, 40), (5, 71, 41), (5, 77, 42), (5, 80, 70), (5, 86, 11), (5, 89, 12), (5, 93, 13), (5, 96, 14), (5, 99, 16), (5, 102, 15), (5, 105, 10), (5, 109, 18), (5, 112, 19), (5, 115, 75), (5, 118, 17), (5, 121, 33), (5, 125, 74), (5, 129, 6), (5, 132, 5), (5, 135, 7), (5, 138, 8), (5, 141, 20), (5, 145, 9), (5, 148, 1), (5, 151, 2), (5, 154, 3), (5, 158, 34), (5, 161, 35), (5, 164, 78), (5, 167, 77), (5, 170, 0), (5, 173, 36), (5, 176, 71), (5, 179, 45), (5, 183, 72), (5, 186, 73), (5, 189, 48), (5, 190, 43), (5, 193, 21), (5, 196, 22), (5, 199, 46), (5, 202, 47), (5, 205, 23), (5, 208, 24), (5, 211, 44), (5, 214, 25), (5, 217, 26), (5, 220, 27), (5, 223, 76), (6, 70, 86), (6, 74, 87), (6, 78, 84), (6, 85, 91), (6, 88, 85), (6, 94, 88), (6, 97, 89), (6, 101, 90), (6, 104, 92), (6, 107, 94), (6, 114, 95), (6, 117, 97), (6, 120, 98), (6, 123, 99), (6, 126, 101), (6, 129, 100), (6, 135, 103), (6, 141, 107), (6, 147, 113), (6, 151, 112), (8, 13, 50), (8, 17, 81), (8, 18, 51), (8, 21, 82), (8, 22, 52), (8, 25, 83), (8, 26, 53), (8, 30, 93), (8, 31, 54), (8, 35, 96), (8, 36, 55), (8, 40, 102), (8, 41, 56), (8, 44, 104), (8, 45, 57), (8, 48, 105), (8, 49, 58), (8, 52, 106), (8, 53, 59), (8, 57, 108), (8, 58, 60), (8, 61, 109), (8, 62, 61), (8, 65, 110), (8, 66, 62), (8, 69, 111), (8, 70, 63), (8, 73, 112), (8, 74, 64), (8, 77, 114), (8, 78, 65), (8, 81, 115), (8, 82, 66), (8, 85, 116), (8, 86, 67), (8, 89, 117)]
def ab_cS : List (Nat × Nat × Nat) := [(2, 29, 31), (2, 37, 30), (5, 57, 68), (5, 61, 37), (5, 68, 38), (5, 74, 39), (5, 83, 69), (6, 56, 79), (6, 111, 80)]
def ab_cN : List (Nat × Nat × Nat) := [(3, 22, 69), (4, 28, 68)]
def ab_cM : List (Nat × Nat × Nat) := [(0, 31, 2), (0, 45, 0), (1, 22, 2), (2, 43, 2), (2, 68, 1), (5, 226, 2), (5, 231, 1)]
def ab_fT : List (Nat × Nat × Nat × Nat) := [(0, 11, 0, 0), (0, 15, 0, 1), (0, 20, 0, 2), (0, 23, 0, 3), (1, 11, 1, 0), (1, 15, 1, 1), (1, 18, 1, 2), (2, 11, 2, 0), (2, 15, 2, 1), (2, 18, 2, 2), (2, 21, 2, 3), (3, 9, 3, 0), (3, 15, 3, 1), (3, 19, 3, 2), (4, 9, 4, 0), (4, 15, 4, 1), (4, 18, 4, 2), (4, 21, 4, 3), (4, 25, 4, 4), (5, 11, 5, 0), (5, 18, 5, 1), (5, 25, 5, 2), (5, 32, 5, 3), (5, 39, 5, 4), (5, 43, 5, 5), (5, 47, 5, 6), (5, 50, 5, 7), (5, 53, 5, 8), (6, 9, 6, 1), (6, 13, 6, 2), (6, 16, 6, 3), (6, 19, 6, 4), (6, 22, 6, 5), (6, 25, 6, 6), (6, 28, 6, 7), (6, 31, 6, 13), (6, 35, 6, 14), (6, 38, 6, 15), (6, 41, 6, 17), (6, 44, 6, 18), (6, 47, 6, 20), (6, 50, 6, 21), (6, 53, 6, 22), (6, 60, 6, 0), (6, 64, 6, 8), (6, 67, 6, 9), (6, 82, 6, 11), (6, 91, 6, 10), (6, 132, 6, 12), (6, 138, 6, 16), (6, 144, 6, 19)]
def ab_mt (l : List (Nat × Nat × Nat)) (o idx : Nat) : Option Nat := (l.find? (fun e => e.1 == o && e.2.1 == idx)).map (fun e => e.2.2)
theorem ab_mt_mem {l : List (Nat × Nat × Nat)} {o idx t : Nat} (h : ab_mt l o idx = some t) : (o, idx, t) ∈ l := by
  unfold ab_mt at h
  obtain ⟨e, he, rfl⟩ := Option.map_eq_some_iff.mp h
  have h1 := List.mem_of_find?_eq_some he
  have h2 := List.find?_some he
  simp only [Bool.and_eq_true, beq_iff_eq] at h2
  obtain ⟨a, b, c⟩ := e
  obtain ⟨rfl, rfl⟩ := h2
  exact h1
def ab_sc (o idx : Nat) : Option (Nat × Nat) := match ab_mt ab_cS o idx with
  | some t => some (0, t)
  | none => match ab_mt ab_cN o idx with
    | some t => some (1, t)
    | none => match ab_mt ab_cM o idx with
      | some t => some (2, t)
      | none => none
theorem ab_sc_e {o idx : Nat} {q : Nat × Nat} (h : ab_sc o idx = some q) : (q.1 = 0 ∧ (o, idx, q.2) ∈ ab_cS) ∨ (q.1 = 1 ∧ (o, idx, q.2) ∈ ab_cN) ∨ (q.1 = 2 ∧ (o, idx, q.2) ∈ ab_cM) := by
  unfold ab_sc at h
  split at h
  · next t e => cases h; exact Or.inl ⟨rfl, ab_mt_mem e⟩
  · split at h
    · next t e => cases h; exact Or.inr (Or.inl ⟨rfl, ab_mt_mem e⟩)
    · split at h
      · next t e => cases h; exact Or.inr (Or.inr ⟨rfl, ab_mt_mem e⟩)
      · cases h
def ab_ft (o idx : Nat) : Option (Nat × Nat) := (ab_fT.find? (fun e => e.1 == o && e.2.1 == idx)).map (fun e => e.2.2)
theorem ab_ft_mem {o idx : Nat} {t : Nat × Nat} (h : ab_ft o idx = some t) : (o, idx, t) ∈ ab_fT := by
  unfold ab_ft at h
  obtain ⟨e, he, rfl⟩ := Option.map_eq_some_iff.mp h
  have h1 := List.mem_of_find?_eq_some he
  have h2 := List.find?_some he
  simp only [Bool.and_eq_true, beq_iff_eq] at h2
  obtain ⟨a, b, c⟩ := e
  obtain ⟨rfl, rfl⟩ := h2
  exact h1
def ab_gt : List Cond := lw_tbl.filter goodWord
def ab_nw : List Cond := [.methodLinkNest RX3 22 yX5_isClass RX5, .methodLinkNest RX4 28 yX5_isHeight RX5]
theorem ab_gt_of {w : Cond} (h : w ∈ lw_tbl) (g : goodWord w = true) : w ∈ ab_gt := List.mem_filter.mpr ⟨h, g⟩
theorem ab_gt_good {w : Cond} (h : w ∈ ab_gt) : (w.onTables && w.keeps) = true ∨ ∃ ty, w = .arrayClass ty := good_of_word (List.mem_filter.mp h).2
def ab_code (t : Nat) : Cond := .code (ab_y t) (ab_c t) (ab_L t) (ab_r t)
def ab_w (t : Nat) : List Cond := .code (ab_y t) (ab_c t) (ab_L t) (ab_r t) :: ab_gt

def ab_PM (t : Nat) : Prop := Cond.code (ab_y t) (ab_c t) (ab_L t) (ab_r t) ∈ ab_gt ∧ Cond.initialized (ab_y t).cls ∈ ab_gt ∧ (if ab_s t = true then Cond.static (ab_y t) ∈ ab_gt else (Cond.instanceMethod (ab_y t) ∈ ab_gt ∧ Cond.selects (ab_R (ab_o t)) (ab_y t) (ab_y t) ∈ ab_gt))
set_option maxRecDepth 20000 in
theorem ab_pm0 : ab_PM 0 := ⟨ab_gt_of (List.mem_of_getElem? (i := 506) rfl) rfl, ab_gt_of (List.mem_of_getElem? (i := 37) rfl) rfl, (show Cond.instanceMethod (ab_y 0) ∈ ab_gt ∧ Cond.selects (ab_R (ab_o 0)) (ab_y 0) (ab_y 0) ∈ ab_gt from ⟨ab_gt_of (List.mem_of_getElem? (i := 504) rfl) rfl, ab_gt_of (List.mem_of_getElem? (i := 505) rfl) rfl⟩)⟩
set_option maxRecDepth 20000 in
theorem ab_pm1 : ab_PM 1 := ⟨ab_gt_of (List.mem_of_getElem? (i := 443) rfl) rfl, ab_gt_of (List.mem_of_getElem? (i := 37) rfl) rfl, (show Cond.instanceMethod (ab_y 1) ∈ ab_gt ∧ Cond.selects (ab_R (ab_o 1)) (ab_y 1) (ab_y 1) ∈ ab_gt from ⟨ab_gt_of (List.mem_of_getElem? (i := 441) rfl) rfl, ab_gt_of (List.mem_of_getElem? (i := 442) rfl) rfl⟩)⟩
set_option maxRecDepth 20000 in
theorem ab_pm2 : ab_PM 2 := ⟨ab_gt_of (List.mem_of_getElem? (i := 451) rfl) rfl, ab_gt_of (List.mem_of_getElem? (i := 37) rfl) rfl, (show Cond.instanceMethod (ab_y 2) ∈ ab_gt ∧ Cond.selects (ab_R (ab_o 2)) (ab_y 2) (ab_y 2) ∈ ab_gt from ⟨ab_gt_of (List.mem_of_getElem? (i := 449) rfl) rfl, ab_gt_of (List.mem_of_getElem? (i := 450) rfl) rfl⟩)⟩
set_option maxRecDepth 20000 in
theorem ab_pm3 : ab_PM 3 := ⟨ab_gt_of (List.mem_of_getElem? (i := 459) rfl) rfl, ab_gt_of (List.mem_of_getElem? (i := 37) rfl) rfl, (show Cond.instanceMethod (ab_y 3) ∈ ab_gt ∧ Cond.selects (ab_R (ab_o 3)) (ab_y 3) (ab_y 3) ∈ ab_gt from ⟨ab_gt_of (List.mem_of_getElem? (i := 457) rfl) rfl, ab_gt_of (List.mem_of_getElem? (i := 458) rfl) rfl⟩)⟩
set_option maxRecDepth 20000 in
theorem ab_pm4 : ab_PM 4 := ⟨ab_gt_of (List.mem_of_getElem? (i := 465) rfl) rfl, ab_gt_of (List.mem_of_getElem? (i := 37) rfl) rfl, (show Cond.instanceMethod (ab_y 4) ∈ ab_gt ∧ Cond.selects (ab_R (ab_o 4)) (ab_y 4) (ab_y 4) ∈ ab_gt from ⟨ab_gt_of (List.mem_of_getElem? (i := 464) rfl) rfl, ab_gt_of (List.mem_of_getElem? (i := 11) rfl) rfl⟩)⟩
set_option maxRecDepth 20000 in
theorem ab_pm5 : ab_PM 5 := ⟨ab_gt_of (List.mem_of_getElem? (i := 412) rfl) rfl, ab_gt_of (List.mem_of_getElem? (i := 36) rfl) rfl, (show Cond.instanceMethod (ab_y 5) ∈ ab_gt ∧ Cond.selects (ab_R (ab_o 5)) (ab_y 5) (ab_y 5) ∈ ab_gt from ⟨ab_gt_of (List.mem_of_getElem? (i := 410) rfl) rfl, ab_gt_of (List.mem_of_getElem? (i := 411) rfl) rfl⟩)⟩
set_option maxRecDepth 20000 in
theorem ab_pm6 : ab_PM 6 := ⟨ab_gt_of (List.mem_of_getElem? (i := 404) rfl) rfl, ab_gt_of (List.mem_of_getElem? (i := 36) rfl) rfl, (show Cond.instanceMethod (ab_y 6) ∈ ab_gt ∧ Cond.selects (ab_R (ab_o 6)) (ab_y 6) (ab_y 6) ∈ ab_gt from ⟨ab_gt_of (List.mem_of_getElem? (i := 402) rfl) rfl, ab_gt_of (List.mem_of_getElem? (i := 403) rfl) rfl⟩)⟩
set_option maxRecDepth 20000 in
theorem ab_pm7 : ab_PM 7 := ⟨ab_gt_of (List.mem_of_getElem? (i := 416) rfl) rfl, ab_gt_of (List.mem_of_getElem? (i := 36) rfl) rfl, (show Cond.instanceMethod (ab_y 7) ∈ ab_gt ∧ Cond.selects (ab_R (ab_o 7)) (ab_y 7) (ab_y 7) ∈ ab_gt from ⟨ab_gt_of (List.mem_of_getElem? (i := 414) rfl) rfl, ab_gt_of (List.mem_of_getElem? (i := 415) rfl) rfl⟩)⟩
set_option maxRecDepth 20000 in
theorem ab_pm8 : ab_PM 8 := ⟨ab_gt_of (List.mem_of_getElem? (i := 420) rfl) rfl, ab_gt_of (List.mem_of_getElem? (i := 36) rfl) rfl, (show Cond.instanceMethod (ab_y 8) ∈ ab_gt ∧ Cond.selects (ab_R (ab_o 8)) (ab_y 8) (ab_y 8) ∈ ab_gt from ⟨ab_gt_of (List.mem_of_getElem? (i := 418) rfl) rfl, ab_gt_of (List.mem_of_getElem? (i := 419) rfl) rfl⟩)⟩
set_option maxRecDepth 20000 in
theorem ab_pm9 : ab_PM 9 := ⟨ab_gt_of (List.mem_of_getElem? (i := 434) rfl) rfl, ab_gt_of (List.mem_of_getElem? (i := 36) rfl) rfl, (show Cond.instanceMethod (ab_y 9) ∈ ab_gt ∧ Cond.selects (ab_R (ab_o 9)) (ab_y 9) (ab_y 9) ∈ ab_gt from ⟨ab_gt_of (List.mem_of_getElem? (i := 432) rfl) rfl, ab_gt_of (List.mem_of_getElem? (i := 433) rfl) rfl⟩)⟩
set_option maxRecDepth 20000 in
theorem ab_pm10 : ab_PM 10 := ⟨ab_gt_of (List.mem_of_getElem? (i := 349) rfl) rfl, ab_gt_of (List.mem_of_getElem? (i := 39) rfl) rfl, (show Cond.instanceMethod (ab_y 10) ∈ ab_gt ∧ Cond.selects (ab_R (ab_o 10)) (ab_y 10) (ab_y 10) ∈ ab_gt from ⟨ab_gt_of (List.mem_of_getElem? (i := 347) rfl) rfl, ab_gt_of (List.mem_of_getElem? (i := 348) rfl) rfl⟩)⟩
set_option maxRecDepth 20000 in
theorem ab_pm11 : ab_PM 11 := ⟨ab_gt_of (List.mem_of_getElem? (i := 309) rfl) rfl, ab_gt_of (List.mem_of_getElem? (i := 39) rfl) rfl, (show Cond.instanceMethod (ab_y 11) ∈ ab_gt ∧ Cond.selects (ab_R (ab_o 11)) (ab_y 11) (ab_y 11) ∈ ab_gt from ⟨ab_gt_of (List.mem_of_getElem? (i := 307) rfl) rfl, ab_gt_of (List.mem_of_getElem? (i := 308) rfl) rfl⟩)⟩
set_option maxRecDepth 20000 in
theorem ab_pm12 : ab_PM 12 := ⟨ab_gt_of (List.mem_of_getElem? (i := 313) rfl) rfl, ab_gt_of (List.mem_of_getElem? (i := 39) rfl) rfl, (show Cond.instanceMethod (ab_y 12) ∈ ab_gt ∧ Cond.selects (ab_R (ab_o 12)) (ab_y 12) (ab_y 12) ∈ ab_gt from ⟨ab_gt_of (List.mem_of_getElem? (i := 311) rfl) rfl, ab_gt_of (List.mem_of_getElem? (i := 312) rfl) rfl⟩)⟩
set_option maxRecDepth 20000 in
theorem ab_pm13 : ab_PM 13 := ⟨ab_gt_of (List.mem_of_getElem? (i := 318) rfl) rfl, ab_gt_of (List.mem_of_getElem? (i := 39) rfl) rfl, (show Cond.instanceMethod (ab_y 13) ∈ ab_gt ∧ Cond.selects (ab_R (ab_o 13)) (ab_y 13) (ab_y 13) ∈ ab_gt from ⟨ab_gt_of (List.mem_of_getElem? (i := 316) rfl) rfl, ab_gt_of (List.mem_of_getElem? (i := 317) rfl) rfl⟩)⟩
set_option maxRecDepth 20000 in
theorem ab_pm14 : ab_PM 14 := ⟨ab_gt_of (List.mem_of_getElem? (i := 322) rfl) rfl, ab_gt_of (List.mem_of_getElem? (i := 39) rfl) rfl, (show Cond.instanceMethod (ab_y 14) ∈ ab_gt ∧ Cond.selects (ab_R (ab_o 14)) (ab_y 14) (ab_y 14) ∈ ab_gt from ⟨ab_gt_of (List.mem_of_getElem? (i := 320) rfl) rfl, ab_gt_of (List.mem_of_getElem? (i := 321) rfl) rfl⟩)⟩
set_option maxRecDepth 20000 in
theorem ab_pm15 : ab_PM 15 := ⟨ab_gt_of (List.mem_of_getElem? (i := 334) rfl) rfl, ab_gt_of (List.mem_of_getElem? (i := 39) rfl) rfl, (show Cond.instanceMethod (ab_y 15) ∈ ab_gt ∧ Cond.selects (ab_R (ab_o 15)) (ab_y 15) (ab_y 15) ∈ ab_gt from ⟨ab_gt_of (List.mem_of_getElem? (i := 332) rfl) rfl, ab_gt_of (List.mem_of_getElem? (i := 333) rfl) rfl⟩)⟩
set_option maxRecDepth 20000 in
theorem ab_pm16 : ab_PM 16 := ⟨ab_gt_of (List.mem_of_getElem? (i := 326) rfl) rfl, ab_gt_of (List.mem_of_getElem? (i := 39) rfl) rfl, (show Cond.instanceMethod (ab_y 16) ∈ ab_gt ∧ Cond.selects (ab_R (ab_o 16)) (ab_y 16) (ab_y 16) ∈ ab_gt from ⟨ab_gt_of (List.mem_of_getElem? (i := 324) rfl) rfl, ab_gt_of (List.mem_of_getElem? (i := 325) rfl) rfl⟩)⟩
set_option maxRecDepth 20000 in
theorem ab_pm17 : ab_PM 17 := ⟨ab_gt_of (List.mem_of_getElem? (i := 357) rfl) rfl, ab_gt_of (List.mem_of_getElem? (i := 39) rfl) rfl, (show Cond.instanceMethod (ab_y 17) ∈ ab_gt ∧ Cond.selects (ab_R (ab_o 17)) (ab_y 17) (ab_y 17) ∈ ab_gt from ⟨ab_gt_of (List.mem_of_getElem? (i := 355) rfl) rfl, ab_gt_of (List.mem_of_getElem? (i := 356) rfl) rfl⟩)⟩
set_option maxRecDepth 20000 in
theorem ab_pm18 : ab_PM 18 := ⟨ab_gt_of (List.mem_of_getElem? (i := 353) rfl) rfl, ab_gt_of (List.mem_of_getElem? (i := 39) rfl) rfl, (show Cond.instanceMethod (ab_y 18) ∈ ab_gt ∧ Cond.selects (ab_R (ab_o 18)) (ab_y 18) (ab_y 18) ∈ ab_gt from ⟨ab_gt_of (List.mem_of_getElem? (i := 351) rfl) rfl, ab_gt_of (List.mem_of_getElem? (i := 352) rfl) rfl⟩)⟩
set_option maxRecDepth 20000 in
theorem ab_pm19 : ab_PM 19 := ⟨ab_gt_of (List.mem_of_getElem? (i := 364) rfl) rfl, ab_gt_of (List.mem_of_getElem? (i := 39) rfl) rfl, (show Cond.instanceMethod (ab_y 19) ∈ ab_gt ∧ Cond.selects (ab_R (ab_o 19)) (ab_y 19) (ab_y 19) ∈ ab_gt from ⟨ab_gt_of (List.mem_of_getElem? (i := 362) rfl) rfl, ab_gt_of (List.mem_of_getElem? (i := 363) rfl) rfl⟩)⟩
set_option maxRecDepth 20000 in
theorem ab_pm20 : ab_PM 20 := ⟨ab_gt_of (List.mem_of_getElem? (i := 424) rfl) rfl, ab_gt_of (List.mem_of_getElem? (i := 39) rfl) rfl, (show Cond.instanceMethod (ab_y 20) ∈ ab_gt ∧ Cond.selects (ab_R (ab_o 20)) (ab_y 20) (ab_y 20) ∈ ab_gt from ⟨ab_gt_of (List.mem_of_getElem? (i := 422) rfl) rfl, ab_gt_of (List.mem_of_getElem? (i := 423) rfl) rfl⟩)⟩
set_option maxRecDepth 20000 in
theorem ab_pm21 : ab_PM 21 := ⟨ab_gt_of (List.mem_of_getElem? (i := 237) rfl) rfl, ab_gt_of (List.mem_of_getElem? (i := 39) rfl) rfl, (show Cond.instanceMethod (ab_y 21) ∈ ab_gt ∧ Cond.selects (ab_R (ab_o 21)) (ab_y 21) (ab_y 21) ∈ ab_gt from ⟨ab_gt_of (List.mem_of_getElem? (i := 235) rfl) rfl, ab_gt_of (List.mem_of_getElem? (i := 236) rfl) rfl⟩)⟩
set_option maxRecDepth 20000 in
theorem ab_pm22 : ab_PM 22 := ⟨ab_gt_of (List.mem_of_getElem? (i := 241) rfl) rfl, ab_gt_of (List.mem_of_getElem? (i := 39) rfl) rfl, (show Cond.instanceMethod (ab_y 22) ∈ ab_gt ∧ Cond.selects (ab_R (ab_o 22)) (ab_y 22) (ab_y 22) ∈ ab_gt from ⟨ab_gt_of (List.mem_of_getElem? (i := 239) rfl) rfl, ab_gt_of (List.mem_of_getElem? (i := 240) rfl) rfl⟩)⟩
set_option maxRecDepth 20000 in
theorem ab_pm23 : ab_PM 23 := ⟨ab_gt_of (List.mem_of_getElem? (i := 268) rfl) rfl, ab_gt_of (List.mem_of_getElem? (i := 39) rfl) rfl, (show Cond.instanceMethod (ab_y 23) ∈ ab_gt ∧ Cond.selects (ab_R (ab_o 23)) (ab_y 23) (ab_y 23) ∈ ab_gt from ⟨ab_gt_of (List.mem_of_getElem? (i := 266) rfl) rfl, ab_gt_of (List.mem_of_getElem? (i := 267) rfl) rfl⟩)⟩
set_option maxRecDepth 20000 in
theorem ab_pm24 : ab_PM 24 := ⟨ab_gt_of (List.mem_of_getElem? (i := 276) rfl) rfl, ab_gt_of (List.mem_of_getElem? (i := 39) rfl) rfl, (show Cond.instanceMethod (ab_y 24) ∈ ab_gt ∧ Cond.selects (ab_R (ab_o 24)) (ab_y 24) (ab_y 24) ∈ ab_gt from ⟨ab_gt_of (List.mem_of_getElem? (i := 274) rfl) rfl, ab_gt_of (List.mem_of_getElem? (i := 275) rfl) rfl⟩)⟩
set_option maxRecDepth 20000 in
theorem ab_pm25 : ab_PM 25 := ⟨ab_gt_of (List.mem_of_getElem? (i := 289) rfl) rfl, ab_gt_of (List.mem_of_getElem? (i := 39) rfl) rfl, (show Cond.instanceMethod (ab_y 25) ∈ ab_gt ∧ Cond.selects (ab_R (ab_o 25)) (ab_y 25) (ab_y 25) ∈ ab_gt from ⟨ab_gt_of (List.mem_of_getElem? (i := 287) rfl) rfl, ab_gt_of (List.mem_of_getElem? (i := 288) rfl) rfl⟩)⟩
set_option maxRecDepth 20000 in
theorem ab_pm26 : ab_PM 26 := ⟨ab_gt_of (List.mem_of_getElem? (i := 293) rfl) rfl, ab_gt_of (List.mem_of_getElem? (i := 39) rfl) rfl, (show Cond.instanceMethod (ab_y 26) ∈ ab_gt ∧ Cond.selects (ab_R (ab_o 26)) (ab_y 26) (ab_y 26) ∈ ab_gt from ⟨ab_gt_of (List.mem_of_getElem? (i := 291) rfl) rfl, ab_gt_of (List.mem_of_getElem? (i := 292) rfl) rfl⟩)⟩
set_option maxRecDepth 20000 in
theorem ab_pm27 : ab_PM 27 := ⟨ab_gt_of (List.mem_of_getElem? (i := 392) rfl) rfl, ab_gt_of (List.mem_of_getElem? (i := 39) rfl) rfl, (show Cond.instanceMethod (ab_y 27) ∈ ab_gt ∧ Cond.selects (ab_R (ab_o 27)) (ab_y 27) (ab_y 27) ∈ ab_gt from ⟨ab_gt_of (List.mem_of_getElem? (i := 390) rfl) rfl, ab_gt_of (List.mem_of_getElem? (i := 391) rfl) rfl⟩)⟩
set_option maxRecDepth 20000 in
theorem ab_pm28 : ab_PM 28 := ⟨ab_gt_of (List.mem_of_getElem? (i := 272) rfl) rfl, ab_gt_of (List.mem_of_getElem? (i := 39) rfl) rfl, (show Cond.instanceMethod (ab_y 28) ∈ ab_gt ∧ Cond.selects (ab_R (ab_o 28)) (ab_y 28) (ab_y 28) ∈ ab_gt from ⟨ab_gt_of (List.mem_of_getElem? (i := 271) rfl) rfl, ab_gt_of (List.mem_of_getElem? (i := 5) rfl) rfl⟩)⟩
set_option maxRecDepth 20000 in
theorem ab_pm29 : ab_PM 29 := ⟨ab_gt_of (List.mem_of_getElem? (i := 330) rfl) rfl, ab_gt_of (List.mem_of_getElem? (i := 39) rfl) rfl, (show Cond.instanceMethod (ab_y 29) ∈ ab_gt ∧ Cond.selects (ab_R (ab_o 29)) (ab_y 29) (ab_y 29) ∈ ab_gt from ⟨ab_gt_of (List.mem_of_getElem? (i := 329) rfl) rfl, ab_gt_of (List.mem_of_getElem? (i := 7) rfl) rfl⟩)⟩
set_option maxRecDepth 20000 in
theorem ab_pm30 : ab_PM 30 := ⟨ab_gt_of (List.mem_of_getElem? (i := 341) rfl) rfl, ab_gt_of (List.mem_of_getElem? (i := 39) rfl) rfl, (show Cond.static (ab_y 30) ∈ ab_gt from ab_gt_of (List.mem_of_getElem? (i := 340) rfl) rfl)⟩
set_option maxRecDepth 20000 in
theorem ab_pm31 : ab_PM 31 := ⟨ab_gt_of (List.mem_of_getElem? (i := 337) rfl) rfl, ab_gt_of (List.mem_of_getElem? (i := 39) rfl) rfl, (show Cond.static (ab_y 31) ∈ ab_gt from ab_gt_of (List.mem_of_getElem? (i := 336) rfl) rfl)⟩
set_option maxRecDepth 20000 in
theorem ab_pm32 : ab_PM 32 := ⟨ab_gt_of (List.mem_of_getElem? (i := 245) rfl) rfl, ab_gt_of (List.mem_of_getElem? (i := 39) rfl) rfl, (show Cond.instanceMethod (ab_y 32) ∈ ab_gt ∧ Cond.selects (ab_R (ab_o 32)) (ab_y 32) (ab_y 32) ∈ ab_gt from ⟨ab_gt_of (List.mem_of_getElem? (i := 244) rfl) rfl, ab_gt_of (List.mem_of_getElem? (i := 3) rfl) rfl⟩)⟩
set_option maxRecDepth 20000 in
theorem ab_pm33 : ab_PM 33 := ⟨ab_gt_of (List.mem_of_getElem? (i := 383) rfl) rfl, ab_gt_of (List.mem_of_getElem? (i := 38) rfl) rfl, (show Cond.instanceMethod (ab_y 33) ∈ ab_gt ∧ Cond.selects (ab_R (ab_o 33)) (ab_y 33) (ab_y 33) ∈ ab_gt from ⟨ab_gt_of (List.mem_of_getElem? (i := 381) rfl) rfl, ab_gt_of (List.mem_of_getElem? (i := 382) rfl) rfl⟩)⟩
set_option maxRecDepth 20000 in
theorem ab_pm34 : ab_PM 34 := ⟨ab_gt_of (List.mem_of_getElem? (i := 482) rfl) rfl, ab_gt_of (List.mem_of_getElem? (i := 38) rfl) rfl, (show Cond.instanceMethod (ab_y 34) ∈ ab_gt ∧ Cond.selects (ab_R (ab_o 34)) (ab_y 34) (ab_y 34) ∈ ab_gt from ⟨ab_gt_of (List.mem_of_getElem? (i := 480) rfl) rfl, ab_gt_of (List.mem_of_getElem? (i := 481) rfl) rfl⟩)⟩
set_option maxRecDepth 20000 in
theorem ab_pm35 : ab_PM 35 := ⟨ab_gt_of (List.mem_of_getElem? (i := 490) rfl) rfl, ab_gt_of (List.mem_of_getElem? (i := 38) rfl) rfl, (show Cond.instanceMethod (ab_y 35) ∈ ab_gt ∧ Cond.selects (ab_R (ab_o 35)) (ab_y 35) (ab_y 35) ∈ ab_gt from ⟨ab_gt_of (List.mem_of_getElem? (i := 488) rfl) rfl, ab_gt_of (List.mem_of_getElem? (i := 489) rfl) rfl⟩)⟩
set_option maxRecDepth 20000 in
theorem ab_pm36 : ab_PM 36 := ⟨ab_gt_of (List.mem_of_getElem? (i := 221) rfl) rfl, ab_gt_of (List.mem_of_getElem? (i := 38) rfl) rfl, (show Cond.instanceMethod (ab_y 36) ∈ ab_gt ∧ Cond.selects (ab_R (ab_o 36)) (ab_y 36) (ab_y 36) ∈ ab_gt from ⟨ab_gt_of (List.mem_of_getElem? (i := 219) rfl) rfl, ab_gt_of (List.mem_of_getElem? (i := 220) rfl) rfl⟩)⟩
set_option maxRecDepth 20000 in
theorem ab_pm37 : ab_PM 37 := ⟨ab_gt_of (List.mem_of_getElem? (i := 182) rfl) rfl, ab_gt_of (List.mem_of_getElem? (i := 35) rfl) rfl, (show Cond.static (ab_y 37) ∈ ab_gt from ab_gt_of (List.mem_of_getElem? (i := 181) rfl) rfl)⟩
set_option maxRecDepth 20000 in
theorem ab_pm38 : ab_PM 38 := ⟨ab_gt_of (List.mem_of_getElem? (i := 194) rfl) rfl, ab_gt_of (List.mem_of_getElem? (i := 35) rfl) rfl, (show Cond.static (ab_y 38) ∈ ab_gt from ab_gt_of (List.mem_of_getElem? (i := 193) rfl) rfl)⟩
set_option maxRecDepth 20000 in
theorem ab_pm39 : ab_PM 39 := ⟨ab_gt_of (List.mem_of_getElem? (i := 205) rfl) rfl, ab_gt_of (List.mem_of_getElem? (i := 35) rfl) rfl, (show Cond.static (ab_y 39) ∈ ab_gt from ab_gt_of (List.mem_of_getElem? (i := 204) rfl) rfl)⟩
set_option maxRecDepth 20000 in
theorem ab_pm40 : ab_PM 40 := ⟨ab_gt_of (List.mem_of_getElem? (i := 186) rfl) rfl, ab_gt_of (List.mem_of_getElem? (i := 35) rfl) rfl, (show Cond.instanceMethod (ab_y 40) ∈ ab_gt ∧ Cond.selects (ab_R (ab_o 40)) (ab_y 40) (ab_y 40) ∈ ab_gt from ⟨ab_gt_of (List.mem_of_getElem? (i := 184) rfl) rfl, ab_gt_of (List.mem_of_getElem? (i := 185) rfl) rfl⟩)⟩
set_option maxRecDepth 20000 in
theorem ab_pm41 : ab_PM 41 := ⟨ab_gt_of (List.mem_of_getElem? (i := 198) rfl) rfl, ab_gt_of (List.mem_of_getElem? (i := 35) rfl) rfl, (show Cond.instanceMethod (ab_y 41) ∈ ab_gt ∧ Cond.selects (ab_R (ab_o 41)) (ab_y 41) (ab_y 41) ∈ ab_gt from ⟨ab_gt_of (List.mem_of_getElem? (i := 196) rfl) rfl, ab_gt_of (List.mem_of_getElem? (i := 197) rfl) rfl⟩)⟩
set_option maxRecDepth 20000 in
theorem ab_pm42 : ab_PM 42 := ⟨ab_gt_of (List.mem_of_getElem? (i := 209) rfl) rfl, ab_gt_of (List.mem_of_getElem? (i := 35) rfl) rfl, (show Cond.instanceMethod (ab_y 42) ∈ ab_gt ∧ Cond.selects (ab_R (ab_o 42)) (ab_y 42) (ab_y 42) ∈ ab_gt from ⟨ab_gt_of (List.mem_of_getElem? (i := 207) rfl) rfl, ab_gt_of (List.mem_of_getElem? (i := 208) rfl) rfl⟩)⟩
set_option maxRecDepth 20000 in
theorem ab_pm43 : ab_PM 43 := ⟨ab_gt_of (List.mem_of_getElem? (i := 229) rfl) rfl, ab_gt_of (List.mem_of_getElem? (i := 35) rfl) rfl, (show Cond.instanceMethod (ab_y 43) ∈ ab_gt ∧ Cond.selects (ab_R (ab_o 43)) (ab_y 43) (ab_y 43) ∈ ab_gt from ⟨ab_gt_of (List.mem_of_getElem? (i := 227) rfl) rfl, ab_gt_of (List.mem_of_getElem? (i := 228) rfl) rfl⟩)⟩
set_option maxRecDepth 20000 in
theorem ab_pm44 : ab_PM 44 := ⟨ab_gt_of (List.mem_of_getElem? (i := 285) rfl) rfl, ab_gt_of (List.mem_of_getElem? (i := 35) rfl) rfl, (show Cond.instanceMethod (ab_y 44) ∈ ab_gt ∧ Cond.selects (ab_R (ab_o 44)) (ab_y 44) (ab_y 44) ∈ ab_gt from ⟨ab_gt_of (List.mem_of_getElem? (i := 283) rfl) rfl, ab_gt_of (List.mem_of_getElem? (i := 284) rfl) rfl⟩)⟩
set_option maxRecDepth 20000 in
theorem ab_pm45 : ab_PM 45 := ⟨ab_gt_of (List.mem_of_getElem? (i := 252) rfl) rfl, ab_gt_of (List.mem_of_getElem? (i := 35) rfl) rfl, (show Cond.instanceMethod (ab_y 45) ∈ ab_gt ∧ Cond.selects (ab_R (ab_o 45)) (ab_y 45) (ab_y 45) ∈ ab_gt from ⟨ab_gt_of (List.mem_of_getElem? (i := 250) rfl) rfl, ab_gt_of (List.mem_of_getElem? (i := 251) rfl) rfl⟩)⟩
set_option maxRecDepth 20000 in
theorem ab_pm46 : ab_PM 46 := ⟨ab_gt_of (List.mem_of_getElem? (i := 260) rfl) rfl, ab_gt_of (List.mem_of_getElem? (i := 35) rfl) rfl, (show Cond.instanceMethod (ab_y 46) ∈ ab_gt ∧ Cond.selects (ab_R (ab_o 46)) (ab_y 46) (ab_y 46) ∈ ab_gt from ⟨ab_gt_of (List.mem_of_getElem? (i := 258) rfl) rfl, ab_gt_of (List.mem_of_getElem? (i := 259) rfl) rfl⟩)⟩
set_option maxRecDepth 20000 in
theorem ab_pm47 : ab_PM 47 := ⟨ab_gt_of (List.mem_of_getElem? (i := 264) rfl) rfl, ab_gt_of (List.mem_of_getElem? (i := 35) rfl) rfl, (show Cond.instanceMethod (ab_y 47) ∈ ab_gt ∧ Cond.selects (ab_R (ab_o 47)) (ab_y 47) (ab_y 47) ∈ ab_gt from ⟨ab_gt_of (List.mem_of_getElem? (i := 262) rfl) rfl, ab_gt_of (List.mem_of_getElem? (i := 263) rfl) rfl⟩)⟩
set_option maxRecDepth 20000 in
theorem ab_pm48 : ab_PM 48 := ⟨ab_gt_of (List.mem_of_getElem? (i := 297) rfl) rfl, ab_gt_of (List.mem_of_getElem? (i := 35) rfl) rfl, (show Cond.instanceMethod (ab_y 48) ∈ ab_gt ∧ Cond.selects (ab_R (ab_o 48)) (ab_y 48) (ab_y 48) ∈ ab_gt from ⟨ab_gt_of (List.mem_of_getElem? (i := 295) rfl) rfl, ab_gt_of (List.mem_of_getElem? (i := 296) rfl) rfl⟩)⟩
set_option maxRecDepth 20000 in
theorem ab_pm49 : ab_PM 49 := ⟨ab_gt_of (List.mem_of_getElem? (i := 233) rfl) rfl, ab_gt_of (List.mem_of_getElem? (i := 35) rfl) rfl, (show Cond.instanceMethod (ab_y 49) ∈ ab_gt ∧ Cond.selects (ab_R (ab_o 49)) (ab_y 49) (ab_y 49) ∈ ab_gt from ⟨ab_gt_of (List.mem_of_getElem? (i := 232) rfl) rfl, ab_gt_of (List.mem_of_getElem? (i := 2) rfl) rfl⟩)⟩
set_option maxRecDepth 20000 in
theorem ab_pm50 : ab_PM 50 := ⟨ab_gt_of (List.mem_of_getElem? (i := 176) rfl) rfl, ab_gt_of (List.mem_of_getElem? (i := 34) rfl) rfl, (show Cond.instanceMethod (ab_y 50) ∈ ab_gt ∧ Cond.selects (ab_R (ab_o 50)) (ab_y 50) (ab_y 50) ∈ ab_gt from ⟨ab_gt_of (List.mem_of_getElem? (i := 174) rfl) rfl, ab_gt_of (List.mem_of_getElem? (i := 175) rfl) rfl⟩)⟩
set_option maxRecDepth 20000 in
theorem ab_pm51 : ab_PM 51 := ⟨ab_gt_of (List.mem_of_getElem? (i := 191) rfl) rfl, ab_gt_of (List.mem_of_getElem? (i := 34) rfl) rfl, (show Cond.instanceMethod (ab_y 51) ∈ ab_gt ∧ Cond.selects (ab_R (ab_o 51)) (ab_y 51) (ab_y 51) ∈ ab_gt from ⟨ab_gt_of (List.mem_of_getElem? (i := 189) rfl) rfl, ab_gt_of (List.mem_of_getElem? (i := 190) rfl) rfl⟩)⟩
set_option maxRecDepth 20000 in
theorem ab_pm52 : ab_PM 52 := ⟨ab_gt_of (List.mem_of_getElem? (i := 202) rfl) rfl, ab_gt_of (List.mem_of_getElem? (i := 34) rfl) rfl, (show Cond.instanceMethod (ab_y 52) ∈ ab_gt ∧ Cond.selects (ab_R (ab_o 52)) (ab_y 52) (ab_y 52) ∈ ab_gt from ⟨ab_gt_of (List.mem_of_getElem? (i := 200) rfl) rfl, ab_gt_of (List.mem_of_getElem? (i := 201) rfl) rfl⟩)⟩
set_option maxRecDepth 20000 in
theorem ab_pm53 : ab_PM 53 := ⟨ab_gt_of (List.mem_of_getElem? (i := 213) rfl) rfl, ab_gt_of (List.mem_of_getElem? (i := 34) rfl) rfl, (show Cond.instanceMethod (ab_y 53) ∈ ab_gt ∧ Cond.selects (ab_R (ab_o 53)) (ab_y 53) (ab_y 53) ∈ ab_gt from ⟨ab_gt_of (List.mem_of_getElem? (i := 211) rfl) rfl, ab_gt_of (List.mem_of_getElem? (i := 212) rfl) rfl⟩)⟩
set_option maxRecDepth 20000 in
theorem ab_pm54 : ab_PM 54 := ⟨ab_gt_of (List.mem_of_getElem? (i := 302) rfl) rfl, ab_gt_of (List.mem_of_getElem? (i := 34) rfl) rfl, (show Cond.instanceMethod (ab_y 54) ∈ ab_gt ∧ Cond.selects (ab_R (ab_o 54)) (ab_y 54) (ab_y 54) ∈ ab_gt from ⟨ab_gt_of (List.mem_of_getElem? (i := 300) rfl) rfl, ab_gt_of (List.mem_of_getElem? (i := 301) rfl) rfl⟩)⟩
set_option maxRecDepth 20000 in
theorem ab_pm55 : ab_PM 55 := ⟨ab_gt_of (List.mem_of_getElem? (i := 345) rfl) rfl, ab_gt_of (List.mem_of_getElem? (i := 34) rfl) rfl, (show Cond.instanceMethod (ab_y 55) ∈ ab_gt ∧ Cond.selects (ab_R (ab_o 55)) (ab_y 55) (ab_y 55) ∈ ab_gt from ⟨ab_gt_of (List.mem_of_getElem? (i := 343) rfl) rfl, ab_gt_of (List.mem_of_getElem? (i := 344) rfl) rfl⟩)⟩
set_option maxRecDepth 20000 in
theorem ab_pm56 : ab_PM 56 := ⟨ab_gt_of (List.mem_of_getElem? (i := 379) rfl) rfl, ab_gt_of (List.mem_of_getElem? (i := 34) rfl) rfl, (show Cond.instanceMethod (ab_y 56) ∈ ab_gt ∧ Cond.selects (ab_R (ab_o 56)) (ab_y 56) (ab_y 56) ∈ ab_gt from ⟨ab_gt_of (List.mem_of_getElem? (i := 377) rfl) rfl, ab_gt_of (List.mem_of_getElem? (i := 378) rfl) rfl⟩)⟩
set_option maxRecDepth 20000 in
theorem ab_pm57 : ab_PM 57 := ⟨ab_gt_of (List.mem_of_getElem? (i := 396) rfl) rfl, ab_gt_of (List.mem_of_getElem? (i := 34) rfl) rfl, (show Cond.instanceMethod (ab_y 57) ∈ ab_gt ∧ Cond.selects (ab_R (ab_o 57)) (ab_y 57) (ab_y 57) ∈ ab_gt from ⟨ab_gt_of (List.mem_of_getElem? (i := 394) rfl) rfl, ab_gt_of (List.mem_of_getElem? (i := 395) rfl) rfl⟩)⟩
set_option maxRecDepth 20000 in
theorem ab_pm58 : ab_PM 58 := ⟨ab_gt_of (List.mem_of_getElem? (i := 400) rfl) rfl, ab_gt_of (List.mem_of_getElem? (i := 34) rfl) rfl, (show Cond.instanceMethod (ab_y 58) ∈ ab_gt ∧ Cond.selects (ab_R (ab_o 58)) (ab_y 58) (ab_y 58) ∈ ab_gt from ⟨ab_gt_of (List.mem_of_getElem? (i := 398) rfl) rfl, ab_gt_of (List.mem_of_getElem? (i := 399) rfl) rfl⟩)⟩
set_option maxRecDepth 20000 in
theorem ab_pm59 : ab_PM 59 := ⟨ab_gt_of (List.mem_of_getElem? (i := 408) rfl) rfl, ab_gt_of (List.mem_of_getElem? (i := 34) rfl) rfl, (show Cond.instanceMethod (ab_y 59) ∈ ab_gt ∧ Cond.selects (ab_R (ab_o 59)) (ab_y 59) (ab_y 59) ∈ ab_gt from ⟨ab_gt_of (List.mem_of_getElem? (i := 406) rfl) rfl, ab_gt_of (List.mem_of_getElem? (i := 407) rfl) rfl⟩)⟩
set_option maxRecDepth 20000 in
theorem ab_pm60 : ab_PM 60 := ⟨ab_gt_of (List.mem_of_getElem? (i := 430) rfl) rfl, ab_gt_of (List.mem_of_getElem? (i := 34) rfl) rfl, (show Cond.instanceMethod (ab_y 60) ∈ ab_gt ∧ Cond.selects (ab_R (ab_o 60)) (ab_y 60) (ab_y 60) ∈ ab_gt from ⟨ab_gt_of (List.mem_of_getElem? (i := 428) rfl) rfl, ab_gt_of (List.mem_of_getElem? (i := 429) rfl) rfl⟩)⟩
set_option maxRecDepth 20000 in
theorem ab_pm61 : ab_PM 61 := ⟨ab_gt_of (List.mem_of_getElem? (i := 439) rfl) rfl, ab_gt_of (List.mem_of_getElem? (i := 34) rfl) rfl, (show Cond.instanceMethod (ab_y 61) ∈ ab_gt ∧ Cond.selects (ab_R (ab_o 61)) (ab_y 61) (ab_y 61) ∈ ab_gt from ⟨ab_gt_of (List.mem_of_getElem? (i := 437) rfl) rfl, ab_gt_of (List.mem_of_getElem? (i := 438) rfl) rfl⟩)⟩
set_option maxRecDepth 20000 in
theorem ab_pm62 : ab_PM 62 := ⟨ab_gt_of (List.mem_of_getElem? (i := 447) rfl) rfl, ab_gt_of (List.mem_of_getElem? (i := 34) rfl) rfl, (show Cond.instanceMethod (ab_y 62) ∈ ab_gt ∧ Cond.selects (ab_R (ab_o 62)) (ab_y 62) (ab_y 62) ∈ ab_gt from ⟨ab_gt_of (List.mem_of_getElem? (i := 445) rfl) rfl, ab_gt_of (List.mem_of_getElem? (i := 446) rfl) rfl⟩)⟩
set_option maxRecDepth 20000 in
theorem ab_pm63 : ab_PM 63 := ⟨ab_gt_of (List.mem_of_getElem? (i := 455) rfl) rfl, ab_gt_of (List.mem_of_getElem? (i := 34) rfl) rfl, (show Cond.instanceMethod (ab_y 63) ∈ ab_gt ∧ Cond.selects (ab_R (ab_o 63)) (ab_y 63) (ab_y 63) ∈ ab_gt from ⟨ab_gt_of (List.mem_of_getElem? (i := 453) rfl) rfl, ab_gt_of (List.mem_of_getElem? (i := 454) rfl) rfl⟩)⟩
set_option maxRecDepth 20000 in
theorem ab_pm64 : ab_PM 64 := ⟨ab_gt_of (List.mem_of_getElem? (i := 474) rfl) rfl, ab_gt_of (List.mem_of_getElem? (i := 34) rfl) rfl, (show Cond.instanceMethod (ab_y 64) ∈ ab_gt ∧ Cond.selects (ab_R (ab_o 64)) (ab_y 64) (ab_y 64) ∈ ab_gt from ⟨ab_gt_of (List.mem_of_getElem? (i := 472) rfl) rfl, ab_gt_of (List.mem_of_getElem? (i := 473) rfl) rfl⟩)⟩
set_option maxRecDepth 20000 in
theorem ab_pm65 : ab_PM 65 := ⟨ab_gt_of (List.mem_of_getElem? (i := 478) rfl) rfl, ab_gt_of (List.mem_of_getElem? (i := 34) rfl) rfl, (show Cond.instanceMethod (ab_y 65) ∈ ab_gt ∧ Cond.selects (ab_R (ab_o 65)) (ab_y 65) (ab_y 65) ∈ ab_gt from ⟨ab_gt_of (List.mem_of_getElem? (i := 476) rfl) rfl, ab_gt_of (List.mem_of_getElem? (i := 477) rfl) rfl⟩)⟩
set_option maxRecDepth 20000 in
theorem ab_pm66 : ab_PM 66 := ⟨ab_gt_of (List.mem_of_getElem? (i := 486) rfl) rfl, ab_gt_of (List.mem_of_getElem? (i := 34) rfl) rfl, (show Cond.instanceMethod (ab_y 66) ∈ ab_gt ∧ Cond.selects (ab_R (ab_o 66)) (ab_y 66) (ab_y 66) ∈ ab_gt from ⟨ab_gt_of (List.mem_of_getElem? (i := 484) rfl) rfl, ab_gt_of (List.mem_of_getElem? (i := 485) rfl) rfl⟩)⟩
set_option maxRecDepth 20000 in
theorem ab_pm67 : ab_PM 67 := ⟨ab_gt_of (List.mem_of_getElem? (i := 494) rfl) rfl, ab_gt_of (List.mem_of_getElem? (i := 34) rfl) rfl, (show Cond.instanceMethod (ab_y 67) ∈ ab_gt ∧ Cond.selects (ab_R (ab_o 67)) (ab_y 67) (ab_y 67) ∈ ab_gt from ⟨ab_gt_of (List.mem_of_getElem? (i := 492) rfl) rfl, ab_gt_of (List.mem_of_getElem? (i := 493) rfl) rfl⟩)⟩
set_option maxRecDepth 20000 in
theorem ab_pm68 : ab_PM 68 := ⟨ab_gt_of (List.mem_of_getElem? (i := 179) rfl) rfl, ab_gt_of (List.mem_of_getElem? (i := 34) rfl) rfl, (show Cond.static (ab_y 68) ∈ ab_gt from ab_gt_of (List.mem_of_getElem? (i := 178) rfl) rfl)⟩
set_option maxRecDepth 20000 in
theorem ab_pm69 : ab_PM 69 := ⟨ab_gt_of (List.mem_of_getElem? (i := 305) rfl) rfl, ab_gt_of (List.mem_of_getElem? (i := 34) rfl) rfl, (show Cond.static (ab_y 69) ∈ ab_gt from ab_gt_of (List.mem_of_getElem? (i := 304) rfl) rfl)⟩
set_option maxRecDepth 20000 in
theorem ab_pm70 : ab_PM 70 := ⟨ab_gt_of (List.mem_of_getElem? (i := 217) rfl) rfl, ab_gt_of (List.mem_of_getElem? (i := 34) rfl) rfl, (show Cond.instanceMethod (ab_y 70) ∈ ab_gt ∧ Cond.selects (ab_R (ab_o 70)) (ab_y 70) (ab_y 70) ∈ ab_gt from ⟨ab_gt_of (List.mem_of_getElem? (i := 216) rfl) rfl, ab_gt_of (List.mem_of_getElem? (i := 0) rfl) rfl⟩)⟩
set_option maxRecDepth 20000 in
theorem ab_pm71 : ab_PM 71 := ⟨ab_gt_of (List.mem_of_getElem? (i := 225) rfl) rfl, ab_gt_of (List.mem_of_getElem? (i := 34) rfl) rfl, (show Cond.instanceMethod (ab_y 71) ∈ ab_gt ∧ Cond.selects (ab_R (ab_o 71)) (ab_y 71) (ab_y 71) ∈ ab_gt from ⟨ab_gt_of (List.mem_of_getElem? (i := 224) rfl) rfl, ab_gt_of (List.mem_of_getElem? (i := 1) rfl) rfl⟩)⟩
set_option maxRecDepth 20000 in
theorem ab_pm72 : ab_PM 72 := ⟨ab_gt_of (List.mem_of_getElem? (i := 256) rfl) rfl, ab_gt_of (List.mem_of_getElem? (i := 34) rfl) rfl, (show Cond.instanceMethod (ab_y 72) ∈ ab_gt ∧ Cond.selects (ab_R (ab_o 72)) (ab_y 72) (ab_y 72) ∈ ab_gt from ⟨ab_gt_of (List.mem_of_getElem? (i := 255) rfl) rfl, ab_gt_of (List.mem_of_getElem? (i := 4) rfl) rfl⟩)⟩
set_option maxRecDepth 20000 in
theorem ab_pm73 : ab_PM 73 := ⟨ab_gt_of (List.mem_of_getElem? (i := 281) rfl) rfl, ab_gt_of (List.mem_of_getElem? (i := 34) rfl) rfl, (show Cond.instanceMethod (ab_y 73) ∈ ab_gt ∧ Cond.selects (ab_R (ab_o 73)) (ab_y 73) (ab_y 73) ∈ ab_gt from ⟨ab_gt_of (List.mem_of_getElem? (i := 280) rfl) rfl, ab_gt_of (List.mem_of_getElem? (i := 6) rfl) rfl⟩)⟩
set_option maxRecDepth 20000 in
theorem ab_pm74 : ab_PM 74 := ⟨ab_gt_of (List.mem_of_getElem? (i := 388) rfl) rfl, ab_gt_of (List.mem_of_getElem? (i := 34) rfl) rfl, (show Cond.instanceMethod (ab_y 74) ∈ ab_gt ∧ Cond.selects (ab_R (ab_o 74)) (ab_y 74) (ab_y 74) ∈ ab_gt from ⟨ab_gt_of (List.mem_of_getElem? (i := 387) rfl) rfl, ab_gt_of (List.mem_of_getElem? (i := 10) rfl) rfl⟩)⟩
set_option maxRecDepth 20000 in
theorem ab_pm75 : ab_PM 75 := ⟨ab_gt_of (List.mem_of_getElem? (i := 368) rfl) rfl, ab_gt_of (List.mem_of_getElem? (i := 34) rfl) rfl, (show Cond.instanceMethod (ab_y 75) ∈ ab_gt ∧ Cond.selects (ab_R (ab_o 75)) (ab_y 75) (ab_y 75) ∈ ab_gt from ⟨ab_gt_of (List.mem_of_getElem? (i := 367) rfl) rfl, ab_gt_of (List.mem_of_getElem? (i := 8) rfl) rfl⟩)⟩
set_option maxRecDepth 20000 in
theorem ab_pm76 : ab_PM 76 := ⟨ab_gt_of (List.mem_of_getElem? (i := 372) rfl) rfl, ab_gt_of (List.mem_of_getElem? (i := 34) rfl) rfl, (show Cond.instanceMethod (ab_y 76) ∈ ab_gt ∧ Cond.selects (ab_R (ab_o 76)) (ab_y 76) (ab_y 76) ∈ ab_gt from ⟨ab_gt_of (List.mem_of_getElem? (i := 371) rfl) rfl, ab_gt_of (List.mem_of_getElem? (i := 9) rfl) rfl⟩)⟩
set_option maxRecDepth 20000 in
theorem ab_pm77 : ab_PM 77 := ⟨ab_gt_of (List.mem_of_getElem? (i := 502) rfl) rfl, ab_gt_of (List.mem_of_getElem? (i := 34) rfl) rfl, (show Cond.instanceMethod (ab_y 77) ∈ ab_gt ∧ Cond.selects (ab_R (ab_o 77)) (ab_y 77) (ab_y 77) ∈ ab_gt from ⟨ab_gt_of (List.mem_of_getElem? (i := 501) rfl) rfl, ab_gt_of (List.mem_of_getElem? (i := 13) rfl) rfl⟩)⟩
set_option maxRecDepth 20000 in
theorem ab_pm78 : ab_PM 78 := ⟨ab_gt_of (List.mem_of_getElem? (i := 498) rfl) rfl, ab_gt_of (List.mem_of_getElem? (i := 34) rfl) rfl, (show Cond.instanceMethod (ab_y 78) ∈ ab_gt ∧ Cond.selects (ab_R (ab_o 78)) (ab_y 78) (ab_y 78) ∈ ab_gt from ⟨ab_gt_of (List.mem_of_getElem? (i := 497) rfl) rfl, ab_gt_of (List.mem_of_getElem? (i := 12) rfl) rfl⟩)⟩
set_option maxRecDepth 20000 in
theorem ab_pm79 : ab_PM 79 := ⟨ab_gt_of (List.mem_of_getElem? (i := 589) rfl) rfl, ab_gt_of (List.mem_of_getElem? (i := 40) rfl) rfl, (show Cond.static (ab_y 79) ∈ ab_gt from ab_gt_of (List.mem_of_getElem? (i := 588) rfl) rfl)⟩
set_option maxRecDepth 20000 in
theorem ab_pm80 : ab_PM 80 := ⟨ab_gt_of (List.mem_of_getElem? (i := 644) rfl) rfl, ab_gt_of (List.mem_of_getElem? (i := 40) rfl) rfl, (show Cond.static (ab_y 80) ∈ ab_gt from ab_gt_of (List.mem_of_getElem? (i := 643) rfl) rfl)⟩
set_option maxRecDepth 20000 in
theorem ab_pm81 : ab_PM 81 := ⟨ab_gt_of (List.mem_of_getElem? (i := 586) rfl) rfl, ab_gt_of (List.mem_of_getElem? (i := 40) rfl) rfl, (show Cond.instanceMethod (ab_y 81) ∈ ab_gt ∧ Cond.selects (ab_R (ab_o 81)) (ab_y 81) (ab_y 81) ∈ ab_gt from ⟨ab_gt_of (List.mem_of_getElem? (i := 584) rfl) rfl, ab_gt_of (List.mem_of_getElem? (i := 585) rfl) rfl⟩)⟩
set_option maxRecDepth 20000 in
theorem ab_pm82 : ab_PM 82 := ⟨ab_gt_of (List.mem_of_getElem? (i := 593) rfl) rfl, ab_gt_of (List.mem_of_getElem? (i := 40) rfl) rfl, (show Cond.instanceMethod (ab_y 82) ∈ ab_gt ∧ Cond.selects (ab_R (ab_o 82)) (ab_y 82) (ab_y 82) ∈ ab_gt from ⟨ab_gt_of (List.mem_of_getElem? (i := 591) rfl) rfl, ab_gt_of (List.mem_of_getElem? (i := 592) rfl) rfl⟩)⟩
set_option maxRecDepth 20000 in
theorem ab_pm83 : ab_PM 83 := ⟨ab_gt_of (List.mem_of_getElem? (i := 597) rfl) rfl, ab_gt_of (List.mem_of_getElem? (i := 40) rfl) rfl, (show Cond.instanceMethod (ab_y 83) ∈ ab_gt ∧ Cond.selects (ab_R (ab_o 83)) (ab_y 83) (ab_y 83) ∈ ab_gt from ⟨ab_gt_of (List.mem_of_getElem? (i := 595) rfl) rfl, ab_gt_of (List.mem_of_getElem? (i := 596) rfl) rfl⟩)⟩
set_option maxRecDepth 20000 in
theorem ab_pm84 : ab_PM 84 := ⟨ab_gt_of (List.mem_of_getElem? (i := 617) rfl) rfl, ab_gt_of (List.mem_of_getElem? (i := 40) rfl) rfl, (show Cond.instanceMethod (ab_y 84) ∈ ab_gt ∧ Cond.selects (ab_R (ab_o 84)) (ab_y 84) (ab_y 84) ∈ ab_gt from ⟨ab_gt_of (List.mem_of_getElem? (i := 616) rfl) rfl, ab_gt_of (List.mem_of_getElem? (i := 17) rfl) rfl⟩)⟩
set_option maxRecDepth 20000 in
theorem ab_pm85 : ab_PM 85 := ⟨ab_gt_of (List.mem_of_getElem? (i := 613) rfl) rfl, ab_gt_of (List.mem_of_getElem? (i := 40) rfl) rfl, (show Cond.instanceMethod (ab_y 85) ∈ ab_gt ∧ Cond.selects (ab_R (ab_o 85)) (ab_y 85) (ab_y 85) ∈ ab_gt from ⟨ab_gt_of (List.mem_of_getElem? (i := 612) rfl) rfl, ab_gt_of (List.mem_of_getElem? (i := 16) rfl) rfl⟩)⟩
set_option maxRecDepth 20000 in
theorem ab_pm86 : ab_PM 86 := ⟨ab_gt_of (List.mem_of_getElem? (i := 629) rfl) rfl, ab_gt_of (List.mem_of_getElem? (i := 40) rfl) rfl, (show Cond.instanceMethod (ab_y 86) ∈ ab_gt ∧ Cond.selects (ab_R (ab_o 86)) (ab_y 86) (ab_y 86) ∈ ab_gt from ⟨ab_gt_of (List.mem_of_getElem? (i := 628) rfl) rfl, ab_gt_of (List.mem_of_getElem? (i := 20) rfl) rfl⟩)⟩
set_option maxRecDepth 20000 in
theorem ab_pm87 : ab_PM 87 := ⟨ab_gt_of (List.mem_of_getElem? (i := 625) rfl) rfl, ab_gt_of (List.mem_of_getElem? (i := 40) rfl) rfl, (show Cond.instanceMethod (ab_y 87) ∈ ab_gt ∧ Cond.selects (ab_R (ab_o 87)) (ab_y 87) (ab_y 87) ∈ ab_gt from ⟨ab_gt_of (List.mem_of_getElem? (i := 624) rfl) rfl, ab_gt_of (List.mem_of_getElem? (i := 19) rfl) rfl⟩)⟩
set_option maxRecDepth 20000 in
theorem ab_pm88 : ab_PM 88 := ⟨ab_gt_of (List.mem_of_getElem? (i := 621) rfl) rfl, ab_gt_of (List.mem_of_getElem? (i := 40) rfl) rfl, (show Cond.instanceMethod (ab_y 88) ∈ ab_gt ∧ Cond.selects (ab_R (ab_o 88)) (ab_y 88) (ab_y 88) ∈ ab_gt from ⟨ab_gt_of (List.mem_of_getElem? (i := 620) rfl) rfl, ab_gt_of (List.mem_of_getElem? (i := 18) rfl) rfl⟩)⟩
set_option maxRecDepth 20000 in
theorem ab_pm89 : ab_PM 89 := ⟨ab_gt_of (List.mem_of_getElem? (i := 633) rfl) rfl, ab_gt_of (List.mem_of_getElem? (i := 40) rfl) rfl, (show Cond.instanceMethod (ab_y 89) ∈ ab_gt ∧ Cond.selects (ab_R (ab_o 89)) (ab_y 89) (ab_y 89) ∈ ab_gt from ⟨ab_gt_of (List.mem_of_getElem? (i := 632) rfl) rfl, ab_gt_of (List.mem_of_getElem? (i := 21) rfl) rfl⟩)⟩
set_option maxRecDepth 20000 in
theorem ab_pm90 : ab_PM 90 := ⟨ab_gt_of (List.mem_of_getElem? (i := 637) rfl) rfl, ab_gt_of (List.mem_of_getElem? (i := 40) rfl) rfl, (show Cond.instanceMethod (ab_y 90) ∈ ab_gt ∧ Cond.selects (ab_R (ab_o 90)) (ab_y 90) (ab_y 90) ∈ ab_gt from ⟨ab_gt_of (List.mem_of_getElem? (i := 636) rfl) rfl, ab_gt_of (List.mem_of_getElem? (i := 22) rfl) rfl⟩)⟩
set_option maxRecDepth 20000 in
theorem ab_pm91 : ab_PM 91 := ⟨ab_gt_of (List.mem_of_getElem? (i := 609) rfl) rfl, ab_gt_of (List.mem_of_getElem? (i := 40) rfl) rfl, (show Cond.instanceMethod (ab_y 91) ∈ ab_gt ∧ Cond.selects (ab_R (ab_o 91)) (ab_y 91) (ab_y 91) ∈ ab_gt from ⟨ab_gt_of (List.mem_of_getElem? (i := 608) rfl) rfl, ab_gt_of (List.mem_of_getElem? (i := 15) rfl) rfl⟩)⟩
set_option maxRecDepth 20000 in
theorem ab_pm92 : ab_PM 92 := ⟨ab_gt_of (List.mem_of_getElem? (i := 605) rfl) rfl, ab_gt_of (List.mem_of_getElem? (i := 40) rfl) rfl, (show Cond.instanceMethod (ab_y 92) ∈ ab_gt ∧ Cond.selects (ab_R (ab_o 92)) (ab_y 92) (ab_y 92) ∈ ab_gt from ⟨ab_gt_of (List.mem_of_getElem? (i := 604) rfl) rfl, ab_gt_of (List.mem_of_getElem? (i := 14) rfl) rfl⟩)⟩
set_option maxRecDepth 20000 in
theorem ab_pm93 : ab_PM 93 := ⟨ab_gt_of (List.mem_of_getElem? (i := 601) rfl) rfl, ab_gt_of (List.mem_of_getElem? (i := 40) rfl) rfl, (show Cond.instanceMethod (ab_y 93) ∈ ab_gt ∧ Cond.selects (ab_R (ab_o 93)) (ab_y 93) (ab_y 93) ∈ ab_gt from ⟨ab_gt_of (List.mem_of_getElem? (i := 599) rfl) rfl, ab_gt_of (List.mem_of_getElem? (i := 600) rfl) rfl⟩)⟩
set_option maxRecDepth 20000 in
theorem ab_pm94 : ab_PM 94 := ⟨ab_gt_of (List.mem_of_getElem? (i := 648) rfl) rfl, ab_gt_of (List.mem_of_getElem? (i := 40) rfl) rfl, (show Cond.instanceMethod (ab_y 94) ∈ ab_gt ∧ Cond.selects (ab_R (ab_o 94)) (ab_y 94) (ab_y 94) ∈ ab_gt from ⟨ab_gt_of (List.mem_of_getElem? (i := 647) rfl) rfl, ab_gt_of (List.mem_of_getElem? (i := 23) rfl) rfl⟩)⟩
set_option maxRecDepth 20000 in
theorem ab_pm95 : ab_PM 95 := ⟨ab_gt_of (List.mem_of_getElem? (i := 652) rfl) rfl, ab_gt_of (List.mem_of_getElem? (i := 40) rfl) rfl, (show Cond.instanceMethod (ab_y 95) ∈ ab_gt ∧ Cond.selects (ab_R (ab_o 95)) (ab_y 95) (ab_y 95) ∈ ab_gt from ⟨ab_gt_of (List.mem_of_getElem? (i := 651) rfl) rfl, ab_gt_of (List.mem_of_getElem? (i := 24) rfl) rfl⟩)⟩
set_option maxRecDepth 20000 in
theorem ab_pm96 : ab_PM 96 := ⟨ab_gt_of (List.mem_of_getElem? (i := 641) rfl) rfl, ab_gt_of (List.mem_of_getElem? (i := 40) rfl) rfl, (show Cond.instanceMethod (ab_y 96) ∈ ab_gt ∧ Cond.selects (ab_R (ab_o 96)) (ab_y 96) (ab_y 96) ∈ ab_gt from ⟨ab_gt_of (List.mem_of_getElem? (i := 639) rfl) rfl, ab_gt_of (List.mem_of_getElem? (i := 640) rfl) rfl⟩)⟩
set_option maxRecDepth 20000 in
theorem ab_pm97 : ab_PM 97 := ⟨ab_gt_of (List.mem_of_getElem? (i := 668) rfl) rfl, ab_gt_of (List.mem_of_getElem? (i := 40) rfl) rfl, (show Cond.instanceMethod (ab_y 97) ∈ ab_gt ∧ Cond.selects (ab_R (ab_o 97)) (ab_y 97) (ab_y 97) ∈ ab_gt from ⟨ab_gt_of (List.mem_of_getElem? (i := 667) rfl) rfl, ab_gt_of (List.mem_of_getElem? (i := 27) rfl) rfl⟩)⟩
set_option maxRecDepth 20000 in
theorem ab_pm98 : ab_PM 98 := ⟨ab_gt_of (List.mem_of_getElem? (i := 664) rfl) rfl, ab_gt_of (List.mem_of_getElem? (i := 40) rfl) rfl, (show Cond.instanceMethod (ab_y 98) ∈ ab_gt ∧ Cond.selects (ab_R (ab_o 98)) (ab_y 98) (ab_y 98) ∈ ab_gt from ⟨ab_gt_of (List.mem_of_getElem? (i := 663) rfl) rfl, ab_gt_of (List.mem_of_getElem? (i := 26) rfl) rfl⟩)⟩
set_option maxRecDepth 20000 in
theorem ab_pm99 : ab_PM 99 := ⟨ab_gt_of (List.mem_of_getElem? (i := 672) rfl) rfl, ab_gt_of (List.mem_of_getElem? (i := 40) rfl) rfl, (show Cond.instanceMethod (ab_y 99) ∈ ab_gt ∧ Cond.selects (ab_R (ab_o 99)) (ab_y 99) (ab_y 99) ∈ ab_gt from ⟨ab_gt_of (List.mem_of_getElem? (i := 671) rfl) rfl, ab_gt_of (List.mem_of_getElem? (i := 28) rfl) rfl⟩)⟩
set_option maxRecDepth 20000 in
theorem ab_pm100 : ab_PM 100 := ⟨ab_gt_of (List.mem_of_getElem? (i := 676) rfl) rfl, ab_gt_of (List.mem_of_getElem? (i := 40) rfl) rfl, (show Cond.instanceMethod (ab_y 100) ∈ ab_gt ∧ Cond.selects (ab_R (ab_o 100)) (ab_y 100) (ab_y 100) ∈ ab_gt from ⟨ab_gt_of (List.mem_of_getElem? (i := 675) rfl) rfl, ab_gt_of (List.mem_of_getElem? (i := 29) rfl) rfl⟩)⟩
set_option maxRecDepth 20000 in
theorem ab_pm101 : ab_PM 101 := ⟨ab_gt_of (List.mem_of_getElem? (i := 660) rfl) rfl, ab_gt_of (List.mem_of_getElem? (i := 40) rfl) rfl, (show Cond.instanceMethod (ab_y 101) ∈ ab_gt ∧ Cond.selects (ab_R (ab_o 101)) (ab_y 101) (ab_y 101) ∈ ab_gt from ⟨ab_gt_of (List.mem_of_getElem? (i := 659) rfl) rfl, ab_gt_of (List.mem_of_getElem? (i := 25) rfl) rfl⟩)⟩
set_option maxRecDepth 20000 in
theorem ab_pm102 : ab_PM 102 := ⟨ab_gt_of (List.mem_of_getElem? (i := 656) rfl) rfl, ab_gt_of (List.mem_of_getElem? (i := 40) rfl) rfl, (show Cond.instanceMethod (ab_y 102) ∈ ab_gt ∧ Cond.selects (ab_R (ab_o 102)) (ab_y 102) (ab_y 102) ∈ ab_gt from ⟨ab_gt_of (List.mem_of_getElem? (i := 654) rfl) rfl, ab_gt_of (List.mem_of_getElem? (i := 655) rfl) rfl⟩)⟩
set_option maxRecDepth 20000 in
theorem ab_pm103 : ab_PM 103 := ⟨ab_gt_of (List.mem_of_getElem? (i := 684) rfl) rfl, ab_gt_of (List.mem_of_getElem? (i := 40) rfl) rfl, (show Cond.instanceMethod (ab_y 103) ∈ ab_gt ∧ Cond.selects (ab_R (ab_o 103)) (ab_y 103) (ab_y 103) ∈ ab_gt from ⟨ab_gt_of (List.mem_of_getElem? (i := 683) rfl) rfl, ab_gt_of (List.mem_of_getElem? (i := 30) rfl) rfl⟩)⟩
set_option maxRecDepth 20000 in
theorem ab_pm104 : ab_PM 104 := ⟨ab_gt_of (List.mem_of_getElem? (i := 680) rfl) rfl, ab_gt_of (List.mem_of_getElem? (i := 40) rfl) rfl, (show Cond.instanceMethod (ab_y 104) ∈ ab_gt ∧ Cond.selects (ab_R (ab_o 104)) (ab_y 104) (ab_y 104) ∈ ab_gt from ⟨ab_gt_of (List.mem_of_getElem? (i := 678) rfl) rfl, ab_gt_of (List.mem_of_getElem? (i := 679) rfl) rfl⟩)⟩
set_option maxRecDepth 20000 in
theorem ab_pm105 : ab_PM 105 := ⟨ab_gt_of (List.mem_of_getElem? (i := 688) rfl) rfl, ab_gt_of (List.mem_of_getElem? (i := 40) rfl) rfl, (show Cond.instanceMethod (ab_y 105) ∈ ab_gt ∧ Cond.selects (ab_R (ab_o 105)) (ab_y 105) (ab_y 105) ∈ ab_gt from ⟨ab_gt_of (List.mem_of_getElem? (i := 686) rfl) rfl, ab_gt_of (List.mem_of_getElem? (i := 687) rfl) rfl⟩)⟩
set_option maxRecDepth 20000 in
theorem ab_pm106 : ab_PM 106 := ⟨ab_gt_of (List.mem_of_getElem? (i := 692) rfl) rfl, ab_gt_of (List.mem_of_getElem? (i := 40) rfl) rfl, (show Cond.instanceMethod (ab_y 106) ∈ ab_gt ∧ Cond.selects (ab_R (ab_o 106)) (ab_y 106) (ab_y 106) ∈ ab_gt from ⟨ab_gt_of (List.mem_of_getElem? (i := 690) rfl) rfl, ab_gt_of (List.mem_of_getElem? (i := 691) rfl) rfl⟩)⟩
set_option maxRecDepth 20000 in
theorem ab_pm107 : ab_PM 107 := ⟨ab_gt_of (List.mem_of_getElem? (i := 700) rfl) rfl, ab_gt_of (List.mem_of_getElem? (i := 40) rfl) rfl, (show Cond.instanceMethod (ab_y 107) ∈ ab_gt ∧ Cond.selects (ab_R (ab_o 107)) (ab_y 107) (ab_y 107) ∈ ab_gt from ⟨ab_gt_of (List.mem_of_getElem? (i := 699) rfl) rfl, ab_gt_of (List.mem_of_getElem? (i := 31) rfl) rfl⟩)⟩
set_option maxRecDepth 20000 in
theorem ab_pm108 : ab_PM 108 := ⟨ab_gt_of (List.mem_of_getElem? (i := 696) rfl) rfl, ab_gt_of (List.mem_of_getElem? (i := 40) rfl) rfl, (show Cond.instanceMethod (ab_y 108) ∈ ab_gt ∧ Cond.selects (ab_R (ab_o 108)) (ab_y 108) (ab_y 108) ∈ ab_gt from ⟨ab_gt_of (List.mem_of_getElem? (i := 694) rfl) rfl, ab_gt_of (List.mem_of_getElem? (i := 695) rfl) rfl⟩)⟩
set_option maxRecDepth 20000 in
theorem ab_pm109 : ab_PM 109 := ⟨ab_gt_of (List.mem_of_getElem? (i := 704) rfl) rfl, ab_gt_of (List.mem_of_getElem? (i := 40) rfl) rfl, (show Cond.instanceMethod (ab_y 109) ∈ ab_gt ∧ Cond.selects (ab_R (ab_o 109)) (ab_y 109) (ab_y 109) ∈ ab_gt from ⟨ab_gt_of (List.mem_of_getElem? (i := 702) rfl) rfl, ab_gt_of (List.mem_of_getElem? (i := 703) rfl) rfl⟩)⟩
set_option maxRecDepth 20000 in
theorem ab_pm110 : ab_PM 110 := ⟨ab_gt_of (List.mem_of_getElem? (i := 708) rfl) rfl, ab_gt_of (List.mem_of_getElem? (i := 40) rfl) rfl, (show Cond.instanceMethod (ab_y 110) ∈ ab_gt ∧ Cond.selects (ab_R (ab_o 110)) (ab_y 110) (ab_y 110) ∈ ab_gt from ⟨ab_gt_of (List.mem_of_getElem? (i := 706) rfl) rfl, ab_gt_of (List.mem_of_getElem? (i := 707) rfl) rfl⟩)⟩
set_option maxRecDepth 20000 in
theorem ab_pm111 : ab_PM 111 := ⟨ab_gt_of (List.mem_of_getElem? (i := 712) rfl) rfl, ab_gt_of (List.mem_of_getElem? (i := 40) rfl) rfl, (show Cond.instanceMethod (ab_y 111) ∈ ab_gt ∧ Cond.selects (ab_R (ab_o 111)) (ab_y 111) (ab_y 111) ∈ ab_gt from ⟨ab_gt_of (List.mem_of_getElem? (i := 710) rfl) rfl, ab_gt_of (List.mem_of_getElem? (i := 711) rfl) rfl⟩)⟩
set_option maxRecDepth 20000 in
theorem ab_pm112 : ab_PM 112 := ⟨ab_gt_of (List.mem_of_getElem? (i := 716) rfl) rfl, ab_gt_of (List.mem_of_getElem? (i := 40) rfl) rfl, (show Cond.instanceMethod (ab_y 112) ∈ ab_gt ∧ Cond.selects (ab_R (ab_o 112)) (ab_y 112) (ab_y 112) ∈ ab_gt from ⟨ab_gt_of (List.mem_of_getElem? (i := 714) rfl) rfl, ab_gt_of (List.mem_of_getElem? (i := 715) rfl) rfl⟩)⟩
set_option maxRecDepth 20000 in
theorem ab_pm113 : ab_PM 113 := ⟨ab_gt_of (List.mem_of_getElem? (i := 720) rfl) rfl, ab_gt_of (List.mem_of_getElem? (i := 40) rfl) rfl, (show Cond.instanceMethod (ab_y 113) ∈ ab_gt ∧ Cond.selects (ab_R (ab_o 113)) (ab_y 113) (ab_y 113) ∈ ab_gt from ⟨ab_gt_of (List.mem_of_getElem? (i := 719) rfl) rfl, ab_gt_of (List.mem_of_getElem? (i := 32) rfl) rfl⟩)⟩
set_option maxRecDepth 20000 in
theorem ab_pm114 : ab_PM 114 := ⟨ab_gt_of (List.mem_of_getElem? (i := 724) rfl) rfl, ab_gt_of (List.mem_of_getElem? (i := 40) rfl) rfl, (show Cond.instanceMethod (ab_y 114) ∈ ab_gt ∧ Cond.selects (ab_R (ab_o 114)) (ab_y 114) (ab_y 114) ∈ ab_gt from ⟨ab_gt_of (List.mem_of_getElem? (i := 722) rfl) rfl, ab_gt_of (List.mem_of_getElem? (i := 723) rfl) rfl⟩)⟩
set_option maxRecDepth 20000 in
theorem ab_pm115 : ab_PM 115 := ⟨ab_gt_of (List.mem_of_getElem? (i := 729) rfl) rfl, ab_gt_of (List.mem_of_getElem? (i := 40) rfl) rfl, (show Cond.instanceMethod (ab_y 115) ∈ ab_gt ∧ Cond.selects (ab_R (ab_o 115)) (ab_y 115) (ab_y 115) ∈ ab_gt from ⟨ab_gt_of (List.mem_of_getElem? (i := 727) rfl) rfl, ab_gt_of (List.mem_of_getElem? (i := 728) rfl) rfl⟩)⟩
set_option maxRecDepth 20000 in
theorem ab_pm116 : ab_PM 116 := ⟨ab_gt_of (List.mem_of_getElem? (i := 733) rfl) rfl, ab_gt_of (List.mem_of_getElem? (i := 40) rfl) rfl, (show Cond.instanceMethod (ab_y 116) ∈ ab_gt ∧ Cond.selects (ab_R (ab_o 116)) (ab_y 116) (ab_y 116) ∈ ab_gt from ⟨ab_gt_of (List.mem_of_getElem? (i := 731) rfl) rfl, ab_gt_of (List.mem_of_getElem? (i := 732) rfl) rfl⟩)⟩
set_option maxRecDepth 20000 in
theorem ab_pm117 : ab_PM 117 := ⟨ab_gt_of (List.mem_of_getElem? (i := 737) rfl) rfl, ab_gt_of (List.mem_of_getElem? (i := 40) rfl) rfl, (show Cond.instanceMethod (ab_y 117) ∈ ab_gt ∧ Cond.selects (ab_R (ab_o 117)) (ab_y 117) (ab_y 117) ∈ ab_gt from ⟨ab_gt_of (List.mem_of_getElem? (i := 735) rfl) rfl, ab_gt_of (List.mem_of_getElem? (i := 736) rfl) rfl⟩)⟩
theorem ab_PMs {t : Nat} (h : t < ab_NM) : ab_PM t := by
  match t, h with
  | 0, _ => exact ab_pm0
  | 1, _ => exact ab_pm1
  | 2, _ => exact ab_pm2
  | 3, _ => exact ab_pm3
  | 4, _ => exact ab_pm4
  | 5, _ => exact ab_pm5
  | 6, _ => exact ab_pm6
  | 7, _ => exact ab_pm7
  | 8, _ => exact ab_pm8
  | 9, _ => exact ab_pm9
  | 10, _ => exact ab_pm10
  | 11, _ => exact ab_pm11
  | 12, _ => exact ab_pm12
  | 13, _ => exact ab_pm13
  | 14, _ => exact ab_pm14
  | 15, _ => exact ab_pm15
  | 16, _ => exact ab_pm16
  | 17, _ => exact ab_pm17
  | 18, _ => exact ab_pm18
  | 19, _ => exact ab_pm19
  | 20, _ => exact ab_pm20
  | 21, _ => exact ab_pm21
  | 22, _ => exact ab_pm22
  | 23, _ => exact ab_pm23
  | 24, _ => exact ab_pm24
  | 25, _ => exact ab_pm25
  | 26, _ => exact ab_pm26
  | 27, _ => exact ab_pm27
  | 28, _ => exact ab_pm28
  | 29, _ => exact ab_pm29
  | 30, _ => exact ab_pm30
  | 31, _ => exact ab_pm31
  | 32, _ => exact ab_pm32
  | 33, _ => exact ab_pm33
  | 34, _ => exact ab_pm34
  | 35, _ => exact ab_pm35
  | 36, _ => exact ab_pm36
  | 37, _ => exact ab_pm37
  | 38, _ => exact ab_pm38
  | 39, _ => exact ab_pm39
  | 40, _ => exact ab_pm40
  | 41, _ => exact ab_pm41
  | 42, _ => exact ab_pm42
  | 43, _ => exact ab_pm43
  | 44, _ => exact ab_pm44
  | 45, _ => exact ab_pm45
  | 46, _ => exact ab_pm46
  | 47, _ => exact ab_pm47
  | 48, _ => exact ab_pm48
  | 49, _ => exact ab_pm49
  | 50, _ => exact ab_pm50
  | 51, _ => exact ab_pm51
  | 52, _ => exact ab_pm52
  | 53, _ => exact ab_pm53
  | 54, _ => exact ab_pm54
  | 55, _ => exact ab_pm55
  | 56, _ => exact ab_pm56
  | 57, _ => exact ab_pm57
  | 58, _ => exact ab_pm58
  | 59, _ => exact ab_pm59
  | 60, _ => exact ab_pm60
  | 61, _ => exact ab_pm61
  | 62, _ => exact ab_pm62
  | 63, _ => exact ab_pm63
  | 64, _ => exact ab_pm64
  | 65, _ => exact ab_pm65
  | 66, _ => exact ab_pm66
  | 67, _ => exact ab_pm67
  | 68, _ => exact ab_pm68
  | 69, _ => exact ab_pm69
  | 70, _ => exact ab_pm70
  | 71, _ => exact ab_pm71
  | 72, _ => exact ab_pm72
  | 73, _ => exact ab_pm73
  | 74, _ => exact ab_pm74
  | 75, _ => exact ab_pm75
  | 76, _ => exact ab_pm76
  | 77, _ => exact ab_pm77
  | 78, _ => exact ab_pm78
  | 79, _ => exact ab_pm79
  | 80, _ => exact ab_pm80
  | 81, _ => exact ab_pm81
  | 82, _ => exact ab_pm82
  | 83, _ => exact ab_pm83
  | 84, _ => exact ab_pm84
  | 85, _ => exact ab_pm85
  | 86, _ => exact ab_pm86
  | 87, _ => exact ab_pm87
  | 88, _ => exact ab_pm88
  | 89, _ => exact ab_pm89
  | 90, _ => exact ab_pm90
  | 91, _ => exact ab_pm91
  | 92, _ => exact ab_pm92
  | 93, _ => exact ab_pm93
  | 94, _ => exact ab_pm94
  | 95, _ => exact ab_pm95
  | 96, _ => exact ab_pm96
  | 97, _ => exact ab_pm97
  | 98, _ => exact ab_pm98
  | 99, _ => exact ab_pm99
  | 100, _ => exact ab_pm100
  | 101, _ => exact ab_pm101
  | 102, _ => exact ab_pm102
  | 103, _ => exact ab_pm103
  | 104, _ => exact ab_pm104
  | 105, _ => exact ab_pm105
  | 106, _ => exact ab_pm106
  | 107, _ => exact ab_pm107
  | 108, _ => exact ab_pm108
  | 109, _ => exact ab_pm109
  | 110, _ => exact ab_pm110
  | 111, _ => exact ab_pm111
  | 112, _ => exact ab_pm112
  | 113, _ => exact ab_pm113
  | 114, _ => exact ab_pm114
  | 115, _ => exact ab_pm115
  | 116, _ => exact ab_pm116
  | 117, _ => exact ab_pm117
  | n + 118, h => exact absurd h (by show ¬ n + 118 < 118; omega)
def ab_okq (t : Nat) : Bool := decide ((ab_y t).cls = ab_R (ab_o t)) && plainName (ab_y t).cls && decide ((ab_y t).cls ≠ "java/lang/invoke/MethodHandle") && decide ((ab_y t).cls ≠ "java/lang/invoke/VarHandle") && decide ((parseMethodDescriptor (ab_y t).desc).map (fun d => d.parameters.length) = some (if ab_s t then ab_n t else ab_n t - 1))
def ab_okn (t : Nat) : Bool := decide (ab_n t ≤ ab_L t) && decide (ab_L t ≤ 17) && decide (ab_o t < 8) && ((decide (ab_r t = none) && decide (ab_b t = 0)) || (decide (ab_r t = some .int) && decide (ab_b t = 1)) || (decide (ab_r t = some .boolean) && decide (ab_b t = 2))) && (decide (ab_s t = true) || (decide (0 < ab_n t) && decide (ab_o t < 7)))
theorem ab_okns : ((List.range ab_NM).all ab_okn) = true := by decide +kernel
theorem ab_okM0 : ((List.range 20).all (fun j => ab_okq (0 + j))) = true := by decide +kernel
theorem ab_okM20 : ((List.range 20).all (fun j => ab_okq (20 + j))) = true := by decide +kernel
theorem ab_okM40 : ((List.range 20).all (fun j => ab_okq (40 + j))) = true := by decide +kernel
theorem ab_okM60 : ((List.range 20).all (fun j => ab_okq (60 + j))) = true := by decide +kernel
theorem ab_okM80 : ((List.range 20).all (fun j => ab_okq (80 + j))) = true := by decide +kernel
theorem ab_okM100 : ((List.range 18).all (fun j => ab_okq (100 + j))) = true := by decide +kernel
theorem ab_okn_at {t : Nat} (h : t < ab_NM) : ab_okn t = true := List.all_eq_true.mp ab_okns t (List.mem_range.mpr h)
theorem ab_okM_at {t : Nat} (h : t < ab_NM) : ab_okq t = true := by
  have h : t < 118 := h
  rcases Nat.lt_or_ge t 20 with h0 | h0
  · have := List.all_eq_true.mp ab_okM0 (t - 0) (List.mem_range.mpr (by omega))
    rw [show 0 + (t - 0) = t by omega] at this
    exact this
  rcases Nat.lt_or_ge t 40 with h20 | h20
  · have := List.all_eq_true.mp ab_okM20 (t - 20) (List.mem_range.mpr (by omega))
    rw [show 20 + (t - 20) = t by omega] at this
    exact this
  rcases Nat.lt_or_ge t 60 with h40 | h40
  · have := List.all_eq_true.mp ab_okM40 (t - 40) (List.mem_range.mpr (by omega))
    rw [show 40 + (t - 40) = t by omega] at this
    exact this
  rcases Nat.lt_or_ge t 80 with h60 | h60
  · have := List.all_eq_true.mp ab_okM60 (t - 60) (List.mem_range.mpr (by omega))
    rw [show 60 + (t - 60) = t by omega] at this
    exact this
  rcases Nat.lt_or_ge t 100 with h80 | h80
  · have := List.all_eq_true.mp ab_okM80 (t - 80) (List.mem_range.mpr (by omega))
    rw [show 80 + (t - 80) = t by omega] at this
    exact this
  rcases Nat.lt_or_ge t 118 with h100 | h100
  · have := List.all_eq_true.mp ab_okM100 (t - 100) (List.mem_range.mpr (by omega))
    rw [show 100 + (t - 100) = t by omega] at this
    exact this
  exact absurd h (by omega)
set_option maxRecDepth 20000 in
theorem ab_okV_0 : (Cond.methodLink (ab_R 0) 27 (ab_y 10) ∈ ab_gt) ∧ 10 < ab_NM ∧ ab_s 10 = false := ⟨ab_gt_of (List.mem_of_getElem? (i := 460) rfl) rfl, by decide, rfl⟩
set_option maxRecDepth 20000 in
theorem ab_okV_1 : (Cond.methodLink (ab_R 0) 37 (ab_y 4) ∈ ab_gt) ∧ 4 < ab_NM ∧ ab_s 4 = false := ⟨ab_gt_of (List.mem_of_getElem? (i := 462) rfl) rfl, by decide, rfl⟩
set_option maxRecDepth 20000 in
theorem ab_okV_2 : (Cond.methodLink (ab_R 0) 41 (ab_y 13) ∈ ab_gt) ∧ 13 < ab_NM ∧ ab_s 13 = false := ⟨ab_gt_of (List.mem_of_getElem? (i := 466) rfl) rfl, by decide, rfl⟩
set_option maxRecDepth 20000 in
theorem ab_okV_3 : (Cond.methodLink (ab_R 0) 48 (ab_y 12) ∈ ab_gt) ∧ 12 < ab_NM ∧ ab_s 12 = false := ⟨ab_gt_of (List.mem_of_getElem? (i := 470) rfl) rfl, by decide, rfl⟩
set_option maxRecDepth 20000 in
theorem ab_okV_4 : (Cond.methodLink (ab_R 2) 25 (ab_y 11) ∈ ab_gt) ∧ 11 < ab_NM ∧ ab_s 11 = false := ⟨ab_gt_of (List.mem_of_getElem? (i := 314) rfl) rfl, by decide, rfl⟩
set_option maxRecDepth 20000 in
theorem ab_okV_5 : (Cond.methodLink (ab_R 2) 33 (ab_y 16) ∈ ab_gt) ∧ 16 < ab_NM ∧ ab_s 16 = false := ⟨ab_gt_of (List.mem_of_getElem? (i := 338) rfl) rfl, by decide, rfl⟩
set_option maxRecDepth 20000 in
theorem ab_okV_6 : (Cond.methodLink (ab_R 2) 40 (ab_y 29) ∈ ab_gt) ∧ 29 < ab_NM ∧ ab_s 29 = false := ⟨ab_gt_of (List.mem_of_getElem? (i := 327) rfl) rfl, by decide, rfl⟩
set_option maxRecDepth 20000 in
theorem ab_okV_7 : (Cond.methodLink (ab_R 2) 48 (ab_y 17) ∈ ab_gt) ∧ 17 < ab_NM ∧ ab_s 17 = false := ⟨ab_gt_of (List.mem_of_getElem? (i := 354) rfl) rfl, by decide, rfl⟩
set_option maxRecDepth 20000 in
theorem ab_okV_8 : (Cond.methodLink (ab_R 2) 51 (ab_y 18) ∈ ab_gt) ∧ 18 < ab_NM ∧ ab_s 18 = false := ⟨ab_gt_of (List.mem_of_getElem? (i := 425) rfl) rfl, by decide, rfl⟩
set_option maxRecDepth 20000 in
theorem ab_okV_9 : (Cond.methodLink (ab_R 2) 54 (ab_y 19) ∈ ab_gt) ∧ 19 < ab_NM ∧ ab_s 19 = false := ⟨ab_gt_of (List.mem_of_getElem? (i := 426) rfl) rfl, by decide, rfl⟩
set_option maxRecDepth 20000 in
theorem ab_okV_10 : (Cond.methodLink (ab_R 2) 57 (ab_y 32) ∈ ab_gt) ∧ 32 < ab_NM ∧ ab_s 32 = false := ⟨ab_gt_of (List.mem_of_getElem? (i := 242) rfl) rfl, by decide, rfl⟩
set_option maxRecDepth 20000 in
theorem ab_okV_11 : (Cond.methodLink (ab_R 2) 60 (ab_y 28) ∈ ab_gt) ∧ 28 < ab_NM ∧ ab_s 28 = false := ⟨ab_gt_of (List.mem_of_getElem? (i := 269) rfl) rfl, by decide, rfl⟩
set_option maxRecDepth 20000 in
theorem ab_okV_12 : (Cond.methodLink (ab_R 2) 64 (ab_y 22) ∈ ab_gt) ∧ 22 < ab_NM ∧ ab_s 22 = false := ⟨ab_gt_of (List.mem_of_getElem? (i := 277) rfl) rfl, by decide, rfl⟩
set_option maxRecDepth 20000 in
theorem ab_okV_13 : (Cond.methodLink (ab_R 4) 32 (ab_y 49) ∈ ab_gt) ∧ 49 < ab_NM ∧ ab_s 49 = false := ⟨ab_gt_of (List.mem_of_getElem? (i := 230) rfl) rfl, by decide, rfl⟩
set_option maxRecDepth 20000 in
theorem ab_okV_14 : (Cond.methodLink (ab_R 4) 36 (ab_y 44) ∈ ab_gt) ∧ 44 < ab_NM ∧ ab_s 44 = false := ⟨ab_gt_of (List.mem_of_getElem? (i := 298) rfl) rfl, by decide, rfl⟩
set_option maxRecDepth 20000 in
theorem ab_okV_15 : (Cond.methodLink (ab_R 5) 64 (ab_y 40) ∈ ab_gt) ∧ 40 < ab_NM ∧ ab_s 40 = false := ⟨ab_gt_of (List.mem_of_getElem? (i := 183) rfl) rfl, by decide, rfl⟩
set_option maxRecDepth 20000 in
theorem ab_okV_16 : (Cond.methodLink (ab_R 5) 71 (ab_y 41) ∈ ab_gt) ∧ 41 < ab_NM ∧ ab_s 41 = false := ⟨ab_gt_of (List.mem_of_getElem? (i := 195) rfl) rfl, by decide, rfl⟩
set_option maxRecDepth 20000 in
theorem ab_okV_17 : (Cond.methodLink (ab_R 5) 77 (ab_y 42) ∈ ab_gt) ∧ 42 < ab_NM ∧ ab_s 42 = false := ⟨ab_gt_of (List.mem_of_getElem? (i := 206) rfl) rfl, by decide, rfl⟩
set_option maxRecDepth 20000 in
theorem ab_okV_18 : (Cond.methodLink (ab_R 5) 80 (ab_y 70) ∈ ab_gt) ∧ 70 < ab_NM ∧ ab_s 70 = false := ⟨ab_gt_of (List.mem_of_getElem? (i := 214) rfl) rfl, by decide, rfl⟩
set_option maxRecDepth 20000 in
theorem ab_okV_19 : (Cond.methodLink (ab_R 5) 86 (ab_y 11) ∈ ab_gt) ∧ 11 < ab_NM ∧ ab_s 11 = false := ⟨ab_gt_of (List.mem_of_getElem? (i := 306) rfl) rfl, by decide, rfl⟩
set_option maxRecDepth 20000 in
theorem ab_okV_20 : (Cond.methodLink (ab_R 5) 89 (ab_y 12) ∈ ab_gt) ∧ 12 < ab_NM ∧ ab_s 12 = false := ⟨ab_gt_of (List.mem_of_getElem? (i := 310) rfl) rfl, by decide, rfl⟩
set_option maxRecDepth 20000 in
theorem ab_okV_21 : (Cond.methodLink (ab_R 5) 93 (ab_y 13) ∈ ab_gt) ∧ 13 < ab_NM ∧ ab_s 13 = false := ⟨ab_gt_of (List.mem_of_getElem? (i := 315) rfl) rfl, by decide, rfl⟩
set_option maxRecDepth 20000 in
theorem ab_okV_22 : (Cond.methodLink (ab_R 5) 96 (ab_y 14) ∈ ab_gt) ∧ 14 < ab_NM ∧ ab_s 14 = false := ⟨ab_gt_of (List.mem_of_getElem? (i := 319) rfl) rfl, by decide, rfl⟩
set_option maxRecDepth 20000 in
theorem ab_okV_23 : (Cond.methodLink (ab_R 5) 99 (ab_y 16) ∈ ab_gt) ∧ 16 < ab_NM ∧ ab_s 16 = false := ⟨ab_gt_of (List.mem_of_getElem? (i := 323) rfl) rfl, by decide, rfl⟩
set_option maxRecDepth 20000 in
theorem ab_okV_24 : (Cond.methodLink (ab_R 5) 102 (ab_y 15) ∈ ab_gt) ∧ 15 < ab_NM ∧ ab_s 15 = false := ⟨ab_gt_of (List.mem_of_getElem? (i := 331) rfl) rfl, by decide, rfl⟩
set_option maxRecDepth 20000 in
theorem ab_okV_25 : (Cond.methodLink (ab_R 5) 105 (ab_y 10) ∈ ab_gt) ∧ 10 < ab_NM ∧ ab_s 10 = false := ⟨ab_gt_of (List.mem_of_getElem? (i := 346) rfl) rfl, by decide, rfl⟩
set_option maxRecDepth 20000 in
theorem ab_okV_26 : (Cond.methodLink (ab_R 5) 109 (ab_y 18) ∈ ab_gt) ∧ 18 < ab_NM ∧ ab_s 18 = false := ⟨ab_gt_of (List.mem_of_getElem? (i := 350) rfl) rfl, by decide, rfl⟩
set_option maxRecDepth 20000 in
theorem ab_okV_27 : (Cond.methodLink (ab_R 5) 112 (ab_y 19) ∈ ab_gt) ∧ 19 < ab_NM ∧ ab_s 19 = false := ⟨ab_gt_of (List.mem_of_getElem? (i := 361) rfl) rfl, by decide, rfl⟩
set_option maxRecDepth 20000 in
theorem ab_okV_28 : (Cond.methodLink (ab_R 5) 115 (ab_y 75) ∈ ab_gt) ∧ 75 < ab_NM ∧ ab_s 75 = false := ⟨ab_gt_of (List.mem_of_getElem? (i := 365) rfl) rfl, by decide, rfl⟩
set_option maxRecDepth 20000 in
theorem ab_okV_29 : (Cond.methodLink (ab_R 5) 118 (ab_y 17) ∈ ab_gt) ∧ 17 < ab_NM ∧ ab_s 17 = false := ⟨ab_gt_of (List.mem_of_getElem? (i := 375) rfl) rfl, by decide, rfl⟩
set_option maxRecDepth 20000 in
theorem ab_okV_30 : (Cond.methodLink (ab_R 5) 121 (ab_y 33) ∈ ab_gt) ∧ 33 < ab_NM ∧ ab_s 33 = false := ⟨ab_gt_of (List.mem_of_getElem? (i := 380) rfl) rfl, by decide, rfl⟩
set_option maxRecDepth 20000 in
theorem ab_okV_31 : (Cond.methodLink (ab_R 5) 125 (ab_y 74) ∈ ab_gt) ∧ 74 < ab_NM ∧ ab_s 74 = false := ⟨ab_gt_of (List.mem_of_getElem? (i := 385) rfl) rfl, by decide, rfl⟩
set_option maxRecDepth 20000 in
theorem ab_okV_32 : (Cond.methodLink (ab_R 5) 129 (ab_y 6) ∈ ab_gt) ∧ 6 < ab_NM ∧ ab_s 6 = false := ⟨ab_gt_of (List.mem_of_getElem? (i := 401) rfl) rfl, by decide, rfl⟩
set_option maxRecDepth 20000 in
theorem ab_okV_33 : (Cond.methodLink (ab_R 5) 132 (ab_y 5) ∈ ab_gt) ∧ 5 < ab_NM ∧ ab_s 5 = false := ⟨ab_gt_of (List.mem_of_getElem? (i := 409) rfl) rfl, by decide, rfl⟩
set_option maxRecDepth 20000 in
theorem ab_okV_34 : (Cond.methodLink (ab_R 5) 135 (ab_y 7) ∈ ab_gt) ∧ 7 < ab_NM ∧ ab_s 7 = false := ⟨ab_gt_of (List.mem_of_getElem? (i := 413) rfl) rfl, by decide, rfl⟩
set_option maxRecDepth 20000 in
theorem ab_okV_35 : (Cond.methodLink (ab_R 5) 138 (ab_y 8) ∈ ab_gt) ∧ 8 < ab_NM ∧ ab_s 8 = false := ⟨ab_gt_of (List.mem_of_getElem? (i := 417) rfl) rfl, by decide, rfl⟩
set_option maxRecDepth 20000 in
theorem ab_okV_36 : (Cond.methodLink (ab_R 5) 141 (ab_y 20) ∈ ab_gt) ∧ 20 < ab_NM ∧ ab_s 20 = false := ⟨ab_gt_of (List.mem_of_getElem? (i := 421) rfl) rfl, by decide, rfl⟩
set_option maxRecDepth 20000 in
theorem ab_okV_37 : (Cond.methodLink (ab_R 5) 145 (ab_y 9) ∈ ab_gt) ∧ 9 < ab_NM ∧ ab_s 9 = false := ⟨ab_gt_of (List.mem_of_getElem? (i := 431) rfl) rfl, by decide, rfl⟩
set_option maxRecDepth 20000 in
theorem ab_okV_38 : (Cond.methodLink (ab_R 5) 148 (ab_y 1) ∈ ab_gt) ∧ 1 < ab_NM ∧ ab_s 1 = false := ⟨ab_gt_of (List.mem_of_getElem? (i := 440) rfl) rfl, by decide, rfl⟩
set_option maxRecDepth 20000 in
theorem ab_okV_39 : (Cond.methodLink (ab_R 5) 151 (ab_y 2) ∈ ab_gt) ∧ 2 < ab_NM ∧ ab_s 2 = false := ⟨ab_gt_of (List.mem_of_getElem? (i := 448) rfl) rfl, by decide, rfl⟩
set_option maxRecDepth 20000 in
theorem ab_okV_40 : (Cond.methodLink (ab_R 5) 154 (ab_y 3) ∈ ab_gt) ∧ 3 < ab_NM ∧ ab_s 3 = false := ⟨ab_gt_of (List.mem_of_getElem? (i := 456) rfl) rfl, by decide, rfl⟩
set_option maxRecDepth 20000 in
theorem ab_okV_41 : (Cond.methodLink (ab_R 5) 158 (ab_y 34) ∈ ab_gt) ∧ 34 < ab_NM ∧ ab_s 34 = false := ⟨ab_gt_of (List.mem_of_getElem? (i := 479) rfl) rfl, by decide, rfl⟩
set_option maxRecDepth 20000 in
theorem ab_okV_42 : (Cond.methodLink (ab_R 5) 161 (ab_y 35) ∈ ab_gt) ∧ 35 < ab_NM ∧ ab_s 35 = false := ⟨ab_gt_of (List.mem_of_getElem? (i := 487) rfl) rfl, by decide, rfl⟩
set_option maxRecDepth 20000 in
theorem ab_okV_43 : (Cond.methodLink (ab_R 5) 164 (ab_y 78) ∈ ab_gt) ∧ 78 < ab_NM ∧ ab_s 78 = false := ⟨ab_gt_of (List.mem_of_getElem? (i := 495) rfl) rfl, by decide, rfl⟩
set_option maxRecDepth 20000 in
theorem ab_okV_44 : (Cond.methodLink (ab_R 5) 167 (ab_y 77) ∈ ab_gt) ∧ 77 < ab_NM ∧ ab_s 77 = false := ⟨ab_gt_of (List.mem_of_getElem? (i := 499) rfl) rfl, by decide, rfl⟩
set_option maxRecDepth 20000 in
theorem ab_okV_45 : (Cond.methodLink (ab_R 5) 170 (ab_y 0) ∈ ab_gt) ∧ 0 < ab_NM ∧ ab_s 0 = false := ⟨ab_gt_of (List.mem_of_getElem? (i := 503) rfl) rfl, by decide, rfl⟩
set_option maxRecDepth 20000 in
theorem ab_okV_46 : (Cond.methodLink (ab_R 5) 173 (ab_y 36) ∈ ab_gt) ∧ 36 < ab_NM ∧ ab_s 36 = false := ⟨ab_gt_of (List.mem_of_getElem? (i := 218) rfl) rfl, by decide, rfl⟩
set_option maxRecDepth 20000 in
theorem ab_okV_47 : (Cond.methodLink (ab_R 5) 176 (ab_y 71) ∈ ab_gt) ∧ 71 < ab_NM ∧ ab_s 71 = false := ⟨ab_gt_of (List.mem_of_getElem? (i := 222) rfl) rfl, by decide, rfl⟩
set_option maxRecDepth 20000 in
theorem ab_okV_48 : (Cond.methodLink (ab_R 5) 179 (ab_y 45) ∈ ab_gt) ∧ 45 < ab_NM ∧ ab_s 45 = false := ⟨ab_gt_of (List.mem_of_getElem? (i := 249) rfl) rfl, by decide, rfl⟩
set_option maxRecDepth 20000 in
theorem ab_okV_49 : (Cond.methodLink (ab_R 5) 183 (ab_y 72) ∈ ab_gt) ∧ 72 < ab_NM ∧ ab_s 72 = false := ⟨ab_gt_of (List.mem_of_getElem? (i := 253) rfl) rfl, by decide, rfl⟩
set_option maxRecDepth 20000 in
theorem ab_okV_50 : (Cond.methodLink (ab_R 5) 186 (ab_y 73) ∈ ab_gt) ∧ 73 < ab_NM ∧ ab_s 73 = false := ⟨ab_gt_of (List.mem_of_getElem? (i := 278) rfl) rfl, by decide, rfl⟩
set_option maxRecDepth 20000 in
theorem ab_okV_51 : (Cond.methodLink (ab_R 5) 189 (ab_y 48) ∈ ab_gt) ∧ 48 < ab_NM ∧ ab_s 48 = false := ⟨ab_gt_of (List.mem_of_getElem? (i := 294) rfl) rfl, by decide, rfl⟩
set_option maxRecDepth 20000 in
theorem ab_okV_52 : (Cond.methodLink (ab_R 5) 190 (ab_y 43) ∈ ab_gt) ∧ 43 < ab_NM ∧ ab_s 43 = false := ⟨ab_gt_of (List.mem_of_getElem? (i := 226) rfl) rfl, by decide, rfl⟩
set_option maxRecDepth 20000 in
theorem ab_okV_53 : (Cond.methodLink (ab_R 5) 193 (ab_y 21) ∈ ab_gt) ∧ 21 < ab_NM ∧ ab_s 21 = false := ⟨ab_gt_of (List.mem_of_getElem? (i := 234) rfl) rfl, by decide, rfl⟩
set_option maxRecDepth 20000 in
theorem ab_okV_54 : (Cond.methodLink (ab_R 5) 196 (ab_y 22) ∈ ab_gt) ∧ 22 < ab_NM ∧ ab_s 22 = false := ⟨ab_gt_of (List.mem_of_getElem? (i := 238) rfl) rfl, by decide, rfl⟩
set_option maxRecDepth 20000 in
theorem ab_okV_55 : (Cond.methodLink (ab_R 5) 199 (ab_y 46) ∈ ab_gt) ∧ 46 < ab_NM ∧ ab_s 46 = false := ⟨ab_gt_of (List.mem_of_getElem? (i := 257) rfl) rfl, by decide, rfl⟩
set_option maxRecDepth 20000 in
theorem ab_okV_56 : (Cond.methodLink (ab_R 5) 202 (ab_y 47) ∈ ab_gt) ∧ 47 < ab_NM ∧ ab_s 47 = false := ⟨ab_gt_of (List.mem_of_getElem? (i := 261) rfl) rfl, by decide, rfl⟩
set_option maxRecDepth 20000 in
theorem ab_okV_57 : (Cond.methodLink (ab_R 5) 205 (ab_y 23) ∈ ab_gt) ∧ 23 < ab_NM ∧ ab_s 23 = false := ⟨ab_gt_of (List.mem_of_getElem? (i := 265) rfl) rfl, by decide, rfl⟩
set_option maxRecDepth 20000 in
theorem ab_okV_58 : (Cond.methodLink (ab_R 5) 208 (ab_y 24) ∈ ab_gt) ∧ 24 < ab_NM ∧ ab_s 24 = false := ⟨ab_gt_of (List.mem_of_getElem? (i := 273) rfl) rfl, by decide, rfl⟩
set_option maxRecDepth 20000 in
theorem ab_okV_59 : (Cond.methodLink (ab_R 5) 211 (ab_y 44) ∈ ab_gt) ∧ 44 < ab_NM ∧ ab_s 44 = false := ⟨ab_gt_of (List.mem_of_getElem? (i := 282) rfl) rfl, by decide, rfl⟩
set_option maxRecDepth 20000 in
theorem ab_okV_60 : (Cond.methodLink (ab_R 5) 214 (ab_y 25) ∈ ab_gt) ∧ 25 < ab_NM ∧ ab_s 25 = false := ⟨ab_gt_of (List.mem_of_getElem? (i := 286) rfl) rfl, by decide, rfl⟩
set_option maxRecDepth 20000 in
theorem ab_okV_61 : (Cond.methodLink (ab_R 5) 217 (ab_y 26) ∈ ab_gt) ∧ 26 < ab_NM ∧ ab_s 26 = false := ⟨ab_gt_of (List.mem_of_getElem? (i := 290) rfl) rfl, by decide, rfl⟩
set_option maxRecDepth 20000 in
theorem ab_okV_62 : (Cond.methodLink (ab_R 5) 220 (ab_y 27) ∈ ab_gt) ∧ 27 < ab_NM ∧ ab_s 27 = false := ⟨ab_gt_of (List.mem_of_getElem? (i := 389) rfl) rfl, by decide, rfl⟩
set_option maxRecDepth 20000 in
theorem ab_okV_63 : (Cond.methodLink (ab_R 5) 223 (ab_y 76) ∈ ab_gt) ∧ 76 < ab_NM ∧ ab_s 76 = false := ⟨ab_gt_of (List.mem_of_getElem? (i := 369) rfl) rfl, by decide, rfl⟩
set_option maxRecDepth 20000 in
theorem ab_okV_64 : (Cond.methodLink (ab_R 6) 70 (ab_y 86) ∈ ab_gt) ∧ 86 < ab_NM ∧ ab_s 86 = false := ⟨ab_gt_of (List.mem_of_getElem? (i := 626) rfl) rfl, by decide, rfl⟩
set_option maxRecDepth 20000 in
theorem ab_okV_65 : (Cond.methodLink (ab_R 6) 74 (ab_y 87) ∈ ab_gt) ∧ 87 < ab_NM ∧ ab_s 87 = false := ⟨ab_gt_of (List.mem_of_getElem? (i := 622) rfl) rfl, by decide, rfl⟩
set_option maxRecDepth 20000 in
theorem ab_okV_66 : (Cond.methodLink (ab_R 6) 78 (ab_y 84) ∈ ab_gt) ∧ 84 < ab_NM ∧ ab_s 84 = false := ⟨ab_gt_of (List.mem_of_getElem? (i := 614) rfl) rfl, by decide, rfl⟩
set_option maxRecDepth 20000 in
theorem ab_okV_67 : (Cond.methodLink (ab_R 6) 85 (ab_y 91) ∈ ab_gt) ∧ 91 < ab_NM ∧ ab_s 91 = false := ⟨ab_gt_of (List.mem_of_getElem? (i := 606) rfl) rfl, by decide, rfl⟩
set_option maxRecDepth 20000 in
theorem ab_okV_68 : (Cond.methodLink (ab_R 6) 88 (ab_y 85) ∈ ab_gt) ∧ 85 < ab_NM ∧ ab_s 85 = false := ⟨ab_gt_of (List.mem_of_getElem? (i := 610) rfl) rfl, by decide, rfl⟩
set_option maxRecDepth 20000 in
theorem ab_okV_69 : (Cond.methodLink (ab_R 6) 94 (ab_y 88) ∈ ab_gt) ∧ 88 < ab_NM ∧ ab_s 88 = false := ⟨ab_gt_of (List.mem_of_getElem? (i := 618) rfl) rfl, by decide, rfl⟩
set_option maxRecDepth 20000 in
theorem ab_okV_70 : (Cond.methodLink (ab_R 6) 97 (ab_y 89) ∈ ab_gt) ∧ 89 < ab_NM ∧ ab_s 89 = false := ⟨ab_gt_of (List.mem_of_getElem? (i := 630) rfl) rfl, by decide, rfl⟩
set_option maxRecDepth 20000 in
theorem ab_okV_71 : (Cond.methodLink (ab_R 6) 101 (ab_y 90) ∈ ab_gt) ∧ 90 < ab_NM ∧ ab_s 90 = false := ⟨ab_gt_of (List.mem_of_getElem? (i := 634) rfl) rfl, by decide, rfl⟩
set_option maxRecDepth 20000 in
theorem ab_okV_72 : (Cond.methodLink (ab_R 6) 104 (ab_y 92) ∈ ab_gt) ∧ 92 < ab_NM ∧ ab_s 92 = false := ⟨ab_gt_of (List.mem_of_getElem? (i := 602) rfl) rfl, by decide, rfl⟩
set_option maxRecDepth 20000 in
theorem ab_okV_73 : (Cond.methodLink (ab_R 6) 107 (ab_y 94) ∈ ab_gt) ∧ 94 < ab_NM ∧ ab_s 94 = false := ⟨ab_gt_of (List.mem_of_getElem? (i := 645) rfl) rfl, by decide, rfl⟩
set_option maxRecDepth 20000 in
theorem ab_okV_74 : (Cond.methodLink (ab_R 6) 114 (ab_y 95) ∈ ab_gt) ∧ 95 < ab_NM ∧ ab_s 95 = false := ⟨ab_gt_of (List.mem_of_getElem? (i := 649) rfl) rfl, by decide, rfl⟩
set_option maxRecDepth 20000 in
theorem ab_okV_75 : (Cond.methodLink (ab_R 6) 117 (ab_y 97) ∈ ab_gt) ∧ 97 < ab_NM ∧ ab_s 97 = false := ⟨ab_gt_of (List.mem_of_getElem? (i := 665) rfl) rfl, by decide, rfl⟩
set_option maxRecDepth 20000 in
theorem ab_okV_76 : (Cond.methodLink (ab_R 6) 120 (ab_y 98) ∈ ab_gt) ∧ 98 < ab_NM ∧ ab_s 98 = false := ⟨ab_gt_of (List.mem_of_getElem? (i := 661) rfl) rfl, by decide, rfl⟩
set_option maxRecDepth 20000 in
theorem ab_okV_77 : (Cond.methodLink (ab_R 6) 123 (ab_y 99) ∈ ab_gt) ∧ 99 < ab_NM ∧ ab_s 99 = false := ⟨ab_gt_of (List.mem_of_getElem? (i := 669) rfl) rfl, by decide, rfl⟩
set_option maxRecDepth 20000 in
theorem ab_okV_78 : (Cond.methodLink (ab_R 6) 126 (ab_y 101) ∈ ab_gt) ∧ 101 < ab_NM ∧ ab_s 101 = false := ⟨ab_gt_of (List.mem_of_getElem? (i := 657) rfl) rfl, by decide, rfl⟩
set_option maxRecDepth 20000 in
theorem ab_okV_79 : (Cond.methodLink (ab_R 6) 129 (ab_y 100) ∈ ab_gt) ∧ 100 < ab_NM ∧ ab_s 100 = false := ⟨ab_gt_of (List.mem_of_getElem? (i := 673) rfl) rfl, by decide, rfl⟩
set_option maxRecDepth 20000 in
theorem ab_okV_80 : (Cond.methodLink (ab_R 6) 135 (ab_y 103) ∈ ab_gt) ∧ 103 < ab_NM ∧ ab_s 103 = false := ⟨ab_gt_of (List.mem_of_getElem? (i := 681) rfl) rfl, by decide, rfl⟩
set_option maxRecDepth 20000 in
theorem ab_okV_81 : (Cond.methodLink (ab_R 6) 141 (ab_y 107) ∈ ab_gt) ∧ 107 < ab_NM ∧ ab_s 107 = false := ⟨ab_gt_of (List.mem_of_getElem? (i := 697) rfl) rfl, by decide, rfl⟩
set_option maxRecDepth 20000 in
theorem ab_okV_82 : (Cond.methodLink (ab_R 6) 147 (ab_y 113) ∈ ab_gt) ∧ 113 < ab_NM ∧ ab_s 113 = false := ⟨ab_gt_of (List.mem_of_getElem? (i := 717) rfl) rfl, by decide, rfl⟩
set_option maxRecDepth 20000 in
theorem ab_okV_83 : (Cond.methodLink (ab_R 6) 151 (ab_y 112) ∈ ab_gt) ∧ 112 < ab_NM ∧ ab_s 112 = false := ⟨ab_gt_of (List.mem_of_getElem? (i := 725) rfl) rfl, by decide, rfl⟩
set_option maxRecDepth 20000 in
theorem ab_okV_84 : (Cond.methodLink (ab_R 8) 13 (ab_y 50) ∈ ab_gt) ∧ 50 < ab_NM ∧ ab_s 50 = false := ⟨ab_gt_of (List.mem_of_getElem? (i := 173) rfl) rfl, by decide, rfl⟩
set_option maxRecDepth 20000 in
theorem ab_okV_85 : (Cond.methodLink (ab_R 8) 17 (ab_y 81) ∈ ab_gt) ∧ 81 < ab_NM ∧ ab_s 81 = false := ⟨ab_gt_of (List.mem_of_getElem? (i := 583) rfl) rfl, by decide, rfl⟩
set_option maxRecDepth 20000 in
theorem ab_okV_86 : (Cond.methodLink (ab_R 8) 18 (ab_y 51) ∈ ab_gt) ∧ 51 < ab_NM ∧ ab_s 51 = false := ⟨ab_gt_of (List.mem_of_getElem? (i := 188) rfl) rfl, by decide, rfl⟩
set_option maxRecDepth 20000 in
theorem ab_okV_87 : (Cond.methodLink (ab_R 8) 21 (ab_y 82) ∈ ab_gt) ∧ 82 < ab_NM ∧ ab_s 82 = false := ⟨ab_gt_of (List.mem_of_getElem? (i := 590) rfl) rfl, by decide, rfl⟩
set_option maxRecDepth 20000 in
theorem ab_okV_88 : (Cond.methodLink (ab_R 8) 22 (ab_y 52) ∈ ab_gt) ∧ 52 < ab_NM ∧ ab_s 52 = false := ⟨ab_gt_of (List.mem_of_getElem? (i := 199) rfl) rfl, by decide, rfl⟩
set_option maxRecDepth 20000 in
theorem ab_okV_89 : (Cond.methodLink (ab_R 8) 25 (ab_y 83) ∈ ab_gt) ∧ 83 < ab_NM ∧ ab_s 83 = false := ⟨ab_gt_of (List.mem_of_getElem? (i := 594) rfl) rfl, by decide, rfl⟩
set_option maxRecDepth 20000 in
theorem ab_okV_90 : (Cond.methodLink (ab_R 8) 26 (ab_y 53) ∈ ab_gt) ∧ 53 < ab_NM ∧ ab_s 53 = false := ⟨ab_gt_of (List.mem_of_getElem? (i := 210) rfl) rfl, by decide, rfl⟩
set_option maxRecDepth 20000 in
theorem ab_okV_91 : (Cond.methodLink (ab_R 8) 30 (ab_y 93) ∈ ab_gt) ∧ 93 < ab_NM ∧ ab_s 93 = false := ⟨ab_gt_of (List.mem_of_getElem? (i := 598) rfl) rfl, by decide, rfl⟩
set_option maxRecDepth 20000 in
theorem ab_okV_92 : (Cond.methodLink (ab_R 8) 31 (ab_y 54) ∈ ab_gt) ∧ 54 < ab_NM ∧ ab_s 54 = false := ⟨ab_gt_of (List.mem_of_getElem? (i := 299) rfl) rfl, by decide, rfl⟩
set_option maxRecDepth 20000 in
theorem ab_okV_93 : (Cond.methodLink (ab_R 8) 35 (ab_y 96) ∈ ab_gt) ∧ 96 < ab_NM ∧ ab_s 96 = false := ⟨ab_gt_of (List.mem_of_getElem? (i := 638) rfl) rfl, by decide, rfl⟩
set_option maxRecDepth 20000 in
theorem ab_okV_94 : (Cond.methodLink (ab_R 8) 36 (ab_y 55) ∈ ab_gt) ∧ 55 < ab_NM ∧ ab_s 55 = false := ⟨ab_gt_of (List.mem_of_getElem? (i := 342) rfl) rfl, by decide, rfl⟩
set_option maxRecDepth 20000 in
theorem ab_okV_95 : (Cond.methodLink (ab_R 8) 40 (ab_y 102) ∈ ab_gt) ∧ 102 < ab_NM ∧ ab_s 102 = false := ⟨ab_gt_of (List.mem_of_getElem? (i := 653) rfl) rfl, by decide, rfl⟩
set_option maxRecDepth 20000 in
theorem ab_okV_96 : (Cond.methodLink (ab_R 8) 41 (ab_y 56) ∈ ab_gt) ∧ 56 < ab_NM ∧ ab_s 56 = false := ⟨ab_gt_of (List.mem_of_getElem? (i := 376) rfl) rfl, by decide, rfl⟩
set_option maxRecDepth 20000 in
theorem ab_okV_97 : (Cond.methodLink (ab_R 8) 44 (ab_y 104) ∈ ab_gt) ∧ 104 < ab_NM ∧ ab_s 104 = false := ⟨ab_gt_of (List.mem_of_getElem? (i := 677) rfl) rfl, by decide, rfl⟩
set_option maxRecDepth 20000 in
theorem ab_okV_98 : (Cond.methodLink (ab_R 8) 45 (ab_y 57) ∈ ab_gt) ∧ 57 < ab_NM ∧ ab_s 57 = false := ⟨ab_gt_of (List.mem_of_getElem? (i := 393) rfl) rfl, by decide, rfl⟩
set_option maxRecDepth 20000 in
theorem ab_okV_99 : (Cond.methodLink (ab_R 8) 48 (ab_y 105) ∈ ab_gt) ∧ 105 < ab_NM ∧ ab_s 105 = false := ⟨ab_gt_of (List.mem_of_getElem? (i := 685) rfl) rfl, by decide, rfl⟩
set_option maxRecDepth 20000 in
theorem ab_okV_100 : (Cond.methodLink (ab_R 8) 49 (ab_y 58) ∈ ab_gt) ∧ 58 < ab_NM ∧ ab_s 58 = false := ⟨ab_gt_of (List.mem_of_getElem? (i := 397) rfl) rfl, by decide, rfl⟩
set_option maxRecDepth 20000 in
theorem ab_okV_101 : (Cond.methodLink (ab_R 8) 52 (ab_y 106) ∈ ab_gt) ∧ 106 < ab_NM ∧ ab_s 106 = false := ⟨ab_gt_of (List.mem_of_getElem? (i := 689) rfl) rfl, by decide, rfl⟩
set_option maxRecDepth 20000 in
theorem ab_okV_102 : (Cond.methodLink (ab_R 8) 53 (ab_y 59) ∈ ab_gt) ∧ 59 < ab_NM ∧ ab_s 59 = false := ⟨ab_gt_of (List.mem_of_getElem? (i := 405) rfl) rfl, by decide, rfl⟩
set_option maxRecDepth 20000 in
theorem ab_okV_103 : (Cond.methodLink (ab_R 8) 57 (ab_y 108) ∈ ab_gt) ∧ 108 < ab_NM ∧ ab_s 108 = false := ⟨ab_gt_of (List.mem_of_getElem? (i := 693) rfl) rfl, by decide, rfl⟩
set_option maxRecDepth 20000 in
theorem ab_okV_104 : (Cond.methodLink (ab_R 8) 58 (ab_y 60) ∈ ab_gt) ∧ 60 < ab_NM ∧ ab_s 60 = false := ⟨ab_gt_of (List.mem_of_getElem? (i := 427) rfl) rfl, by decide, rfl⟩
set_option maxRecDepth 20000 in
theorem ab_okV_105 : (Cond.methodLink (ab_R 8) 61 (ab_y 109) ∈ ab_gt) ∧ 109 < ab_NM ∧ ab_s 109 = false := ⟨ab_gt_of (List.mem_of_getElem? (i := 701) rfl) rfl, by decide, rfl⟩
set_option maxRecDepth 20000 in
theorem ab_okV_106 : (Cond.methodLink (ab_R 8) 62 (ab_y 61) ∈ ab_gt) ∧ 61 < ab_NM ∧ ab_s 61 = false := ⟨ab_gt_of (List.mem_of_getElem? (i := 436) rfl) rfl, by decide, rfl⟩
set_option maxRecDepth 20000 in
theorem ab_okV_107 : (Cond.methodLink (ab_R 8) 65 (ab_y 110) ∈ ab_gt) ∧ 110 < ab_NM ∧ ab_s 110 = false := ⟨ab_gt_of (List.mem_of_getElem? (i := 705) rfl) rfl, by decide, rfl⟩
set_option maxRecDepth 20000 in
theorem ab_okV_108 : (Cond.methodLink (ab_R 8) 66 (ab_y 62) ∈ ab_gt) ∧ 62 < ab_NM ∧ ab_s 62 = false := ⟨ab_gt_of (List.mem_of_getElem? (i := 444) rfl) rfl, by decide, rfl⟩
set_option maxRecDepth 20000 in
theorem ab_okV_109 : (Cond.methodLink (ab_R 8) 69 (ab_y 111) ∈ ab_gt) ∧ 111 < ab_NM ∧ ab_s 111 = false := ⟨ab_gt_of (List.mem_of_getElem? (i := 709) rfl) rfl, by decide, rfl⟩
set_option maxRecDepth 20000 in
theorem ab_okV_110 : (Cond.methodLink (ab_R 8) 70 (ab_y 63) ∈ ab_gt) ∧ 63 < ab_NM ∧ ab_s 63 = false := ⟨ab_gt_of (List.mem_of_getElem? (i := 452) rfl) rfl, by decide, rfl⟩
set_option maxRecDepth 20000 in
theorem ab_okV_111 : (Cond.methodLink (ab_R 8) 73 (ab_y 112) ∈ ab_gt) ∧ 112 < ab_NM ∧ ab_s 112 = false := ⟨ab_gt_of (List.mem_of_getElem? (i := 713) rfl) rfl, by decide, rfl⟩
set_option maxRecDepth 20000 in
theorem ab_okV_112 : (Cond.methodLink (ab_R 8) 74 (ab_y 64) ∈ ab_gt) ∧ 64 < ab_NM ∧ ab_s 64 = false := ⟨ab_gt_of (List.mem_of_getElem? (i := 471) rfl) rfl, by decide, rfl⟩
set_option maxRecDepth 20000 in
theorem ab_okV_113 : (Cond.methodLink (ab_R 8) 77 (ab_y 114) ∈ ab_gt) ∧ 114 < ab_NM ∧ ab_s 114 = false := ⟨ab_gt_of (List.mem_of_getElem? (i := 721) rfl) rfl, by decide, rfl⟩
set_option maxRecDepth 20000 in
theorem ab_okV_114 : (Cond.methodLink (ab_R 8) 78 (ab_y 65) ∈ ab_gt) ∧ 65 < ab_NM ∧ ab_s 65 = false := ⟨ab_gt_of (List.mem_of_getElem? (i := 475) rfl) rfl, by decide, rfl⟩
set_option maxRecDepth 20000 in
theorem ab_okV_115 : (Cond.methodLink (ab_R 8) 81 (ab_y 115) ∈ ab_gt) ∧ 115 < ab_NM ∧ ab_s 115 = false := ⟨ab_gt_of (List.mem_of_getElem? (i := 726) rfl) rfl, by decide, rfl⟩
set_option maxRecDepth 20000 in
theorem ab_okV_116 : (Cond.methodLink (ab_R 8) 82 (ab_y 66) ∈ ab_gt) ∧ 66 < ab_NM ∧ ab_s 66 = false := ⟨ab_gt_of (List.mem_of_getElem? (i := 483) rfl) rfl, by decide, rfl⟩
set_option maxRecDepth 20000 in
theorem ab_okV_117 : (Cond.methodLink (ab_R 8) 85 (ab_y 116) ∈ ab_gt) ∧ 116 < ab_NM ∧ ab_s 116 = false := ⟨ab_gt_of (List.mem_of_getElem? (i := 730) rfl) rfl, by decide, rfl⟩
set_option maxRecDepth 20000 in
theorem ab_okV_118 : (Cond.methodLink (ab_R 8) 86 (ab_y 67) ∈ ab_gt) ∧ 67 < ab_NM ∧ ab_s 67 = false := ⟨ab_gt_of (List.mem_of_getElem? (i := 491) rfl) rfl, by decide, rfl⟩
set_option maxRecDepth 20000 in
theorem ab_okV_119 : (Cond.methodLink (ab_R 8) 89 (ab_y 117) ∈ ab_gt) ∧ 117 < ab_NM ∧ ab_s 117 = false := ⟨ab_gt_of (List.mem_of_getElem? (i := 734) rfl) rfl, by decide, rfl⟩
set_option maxRecDepth 20000 in
theorem ab_okV : ∀ e ∈ ab_cV, (Cond.methodLink (ab_R e.1) e.2.1 (ab_y e.2.2) ∈ ab_gt) ∧ e.2.2 < ab_NM ∧ ab_s e.2.2 = false := List.forall_mem_cons.mpr ⟨ab_okV_0, List.forall_mem_cons.mpr ⟨ab_okV_1, List.forall_mem_cons.mpr ⟨ab_okV_2, List.forall_mem_cons.mpr ⟨ab_okV_3, List.forall_mem_cons.mpr ⟨ab_okV_4, List.forall_mem_cons.mpr ⟨ab_okV_5, List.forall_mem_cons.mpr ⟨ab_okV_6, List.forall_mem_cons.mpr ⟨ab_okV_7, List.forall_mem_cons.mpr ⟨ab_okV_8, List.forall_mem_cons.mpr ⟨ab_okV_9, List.forall_mem_cons.mpr ⟨ab_okV_10, List.forall_mem_cons.mpr ⟨ab_okV_11, List.forall_mem_cons.mpr ⟨ab_okV_12, List.forall_mem_cons.mpr ⟨ab_okV_13, List.forall_mem_cons.mpr ⟨ab_okV_14, List.forall_mem_cons.mpr ⟨ab_okV_15, List.forall_mem_cons.mpr ⟨ab_okV_16, List.forall_mem_cons.mpr ⟨ab_okV_17, List.forall_mem_cons.mpr ⟨ab_okV_18, List.forall_mem_cons.mpr ⟨ab_okV_19, List.forall_mem_cons.mpr ⟨ab_okV_20, List.forall_mem_cons.mpr ⟨ab_okV_21, List.forall_mem_cons.mpr ⟨ab_okV_22, List.forall_mem_cons.mpr ⟨ab_okV_23, List.forall_mem_cons.mpr ⟨ab_okV_24, List.forall_mem_cons.mpr ⟨ab_okV_25, List.forall_mem_cons.mpr ⟨ab_okV_26, List.forall_mem_cons.mpr ⟨ab_okV_27, List.forall_mem_cons.mpr ⟨ab_okV_28, List.forall_mem_cons.mpr ⟨ab_okV_29, List.forall_mem_cons.mpr ⟨ab_okV_30, List.forall_mem_cons.mpr ⟨ab_okV_31, List.forall_mem_cons.mpr ⟨ab_okV_32, List.forall_mem_cons.mpr ⟨ab_okV_33, List.forall_mem_cons.mpr ⟨ab_okV_34, List.forall_mem_cons.mpr ⟨ab_okV_35, List.forall_mem_cons.mpr ⟨ab_okV_36, List.forall_mem_cons.mpr ⟨ab_okV_37, List.forall_mem_cons.mpr ⟨ab_okV_38, List.forall_mem_cons.mpr ⟨ab_okV_39, List.forall_mem_cons.mpr ⟨ab_okV_40, List.forall_mem_cons.mpr ⟨ab_okV_41, List.forall_mem_cons.mpr ⟨ab_okV_42, List.forall_mem_cons.mpr ⟨ab_okV_43, List.forall_mem_cons.mpr ⟨ab_okV_44, List.forall_mem_cons.mpr ⟨ab_okV_45, List.forall_mem_cons.mpr ⟨ab_okV_46, List.forall_mem_cons.mpr ⟨ab_okV_47, List.forall_mem_cons.mpr ⟨ab_okV_48, List.forall_mem_cons.mpr ⟨ab_okV_49, List.forall_mem_cons.mpr ⟨ab_okV_50, List.forall_mem_cons.mpr ⟨ab_okV_51, List.forall_mem_cons.mpr ⟨ab_okV_52, List.forall_mem_cons.mpr ⟨ab_okV_53, List.forall_mem_cons.mpr ⟨ab_okV_54, List.forall_mem_cons.mpr ⟨ab_okV_55, List.forall_mem_cons.mpr ⟨ab_okV_56, List.forall_mem_cons.mpr ⟨ab_okV_57, List.forall_mem_cons.mpr ⟨ab_okV_58, List.forall_mem_cons.mpr ⟨ab_okV_59, List.forall_mem_cons.mpr ⟨ab_okV_60, List.forall_mem_cons.mpr ⟨ab_okV_61, List.forall_mem_cons.mpr ⟨ab_okV_62, List.forall_mem_cons.mpr ⟨ab_okV_63, List.forall_mem_cons.mpr ⟨ab_okV_64, List.forall_mem_cons.mpr ⟨ab_okV_65, List.forall_mem_cons.mpr ⟨ab_okV_66, List.forall_mem_cons.mpr ⟨ab_okV_67, List.forall_mem_cons.mpr ⟨ab_okV_68, List.forall_mem_cons.mpr ⟨ab_okV_69, List.forall_mem_cons.mpr ⟨ab_okV_70, List.forall_mem_cons.mpr ⟨ab_okV_71, List.forall_mem_cons.mpr ⟨ab_okV_72, List.forall_mem_cons.mpr ⟨ab_okV_73, List.forall_mem_cons.mpr ⟨ab_okV_74, List.forall_mem_cons.mpr ⟨ab_okV_75, List.forall_mem_cons.mpr ⟨ab_okV_76, List.forall_mem_cons.mpr ⟨ab_okV_77, List.forall_mem_cons.mpr ⟨ab_okV_78, List.forall_mem_cons.mpr ⟨ab_okV_79, List.forall_mem_cons.mpr ⟨ab_okV_80, List.forall_mem_cons.mpr ⟨ab_okV_81, List.forall_mem_cons.mpr ⟨ab_okV_82, List.forall_mem_cons.mpr ⟨ab_okV_83, List.forall_mem_cons.mpr ⟨ab_okV_84, List.forall_mem_cons.mpr ⟨ab_okV_85, List.forall_mem_cons.mpr ⟨ab_okV_86, List.forall_mem_cons.mpr ⟨ab_okV_87, List.forall_mem_cons.mpr ⟨ab_okV_88, List.forall_mem_cons.mpr ⟨ab_okV_89, List.forall_mem_cons.mpr ⟨ab_okV_90, List.forall_mem_cons.mpr ⟨ab_okV_91, List.forall_mem_cons.mpr ⟨ab_okV_92, List.forall_mem_cons.mpr ⟨ab_okV_93, List.forall_mem_cons.mpr ⟨ab_okV_94, List.forall_mem_cons.mpr ⟨ab_okV_95, List.forall_mem_cons.mpr ⟨ab_okV_96, List.forall_mem_cons.mpr ⟨ab_okV_97, List.forall_mem_cons.mpr ⟨ab_okV_98, List.forall_mem_cons.mpr ⟨ab_okV_99, List.forall_mem_cons.mpr ⟨ab_okV_100, List.forall_mem_cons.mpr ⟨ab_okV_101, List.forall_mem_cons.mpr ⟨ab_okV_102, List.forall_mem_cons.mpr ⟨ab_okV_103, List.forall_mem_cons.mpr ⟨ab_okV_104, List.forall_mem_cons.mpr ⟨ab_okV_105, List.forall_mem_cons.mpr ⟨ab_okV_106, List.forall_mem_cons.mpr ⟨ab_okV_107, List.forall_mem_cons.mpr ⟨ab_okV_108, List.forall_mem_cons.mpr ⟨ab_okV_109, List.forall_mem_cons.mpr ⟨ab_okV_110, List.forall_mem_cons.mpr ⟨ab_okV_111, List.forall_mem_cons.mpr ⟨ab_okV_112, List.forall_mem_cons.mpr ⟨ab_okV_113, List.forall_mem_cons.mpr ⟨ab_okV_114, List.forall_mem_cons.mpr ⟨ab_okV_115, List.forall_mem_cons.mpr ⟨ab_okV_116, List.forall_mem_cons.mpr ⟨ab_okV_117, List.forall_mem_cons.mpr ⟨ab_okV_118, List.forall_mem_cons.mpr ⟨ab_okV_119, fun _ h => absurd h List.not_mem_nil⟩⟩⟩⟩⟩⟩⟩⟩⟩⟩⟩⟩⟩⟩⟩⟩⟩⟩⟩⟩⟩⟩⟩⟩⟩⟩⟩⟩⟩⟩⟩⟩⟩⟩⟩⟩⟩⟩⟩⟩⟩⟩⟩⟩⟩⟩⟩⟩⟩⟩⟩⟩⟩⟩⟩⟩⟩⟩⟩⟩⟩⟩⟩⟩⟩⟩⟩⟩⟩⟩⟩⟩⟩⟩⟩⟩⟩⟩⟩⟩⟩⟩⟩⟩⟩⟩⟩⟩⟩⟩⟩⟩⟩⟩⟩⟩⟩⟩⟩⟩⟩⟩⟩⟩⟩⟩⟩⟩⟩⟩⟩⟩⟩⟩⟩⟩⟩⟩⟩⟩
set_option maxRecDepth 20000 in
theorem ab_okS_0 : (Cond.methodLink (ab_R 2) 29 (ab_y 31) ∈ ab_gt) ∧ 31 < ab_NM ∧ ab_s 31 = true := ⟨ab_gt_of (List.mem_of_getElem? (i := 335) rfl) rfl, by decide, rfl⟩
set_option maxRecDepth 20000 in
theorem ab_okS_1 : (Cond.methodLink (ab_R 2) 37 (ab_y 30) ∈ ab_gt) ∧ 30 < ab_NM ∧ ab_s 30 = true := ⟨ab_gt_of (List.mem_of_getElem? (i := 339) rfl) rfl, by decide, rfl⟩
set_option maxRecDepth 20000 in
theorem ab_okS_2 : (Cond.methodLink (ab_R 5) 57 (ab_y 68) ∈ ab_gt) ∧ 68 < ab_NM ∧ ab_s 68 = true := ⟨ab_gt_of (List.mem_of_getElem? (i := 177) rfl) rfl, by decide, rfl⟩
set_option maxRecDepth 20000 in
theorem ab_okS_3 : (Cond.methodLink (ab_R 5) 61 (ab_y 37) ∈ ab_gt) ∧ 37 < ab_NM ∧ ab_s 37 = true := ⟨ab_gt_of (List.mem_of_getElem? (i := 180) rfl) rfl, by decide, rfl⟩
set_option maxRecDepth 20000 in
theorem ab_okS_4 : (Cond.methodLink (ab_R 5) 68 (ab_y 38) ∈ ab_gt) ∧ 38 < ab_NM ∧ ab_s 38 = true := ⟨ab_gt_of (List.mem_of_getElem? (i := 192) rfl) rfl, by decide, rfl⟩
set_option maxRecDepth 20000 in
theorem ab_okS_5 : (Cond.methodLink (ab_R 5) 74 (ab_y 39) ∈ ab_gt) ∧ 39 < ab_NM ∧ ab_s 39 = true := ⟨ab_gt_of (List.mem_of_getElem? (i := 203) rfl) rfl, by decide, rfl⟩
set_option maxRecDepth 20000 in
theorem ab_okS_6 : (Cond.methodLink (ab_R 5) 83 (ab_y 69) ∈ ab_gt) ∧ 69 < ab_NM ∧ ab_s 69 = true := ⟨ab_gt_of (List.mem_of_getElem? (i := 303) rfl) rfl, by decide, rfl⟩
set_option maxRecDepth 20000 in
theorem ab_okS_7 : (Cond.methodLink (ab_R 6) 56 (ab_y 79) ∈ ab_gt) ∧ 79 < ab_NM ∧ ab_s 79 = true := ⟨ab_gt_of (List.mem_of_getElem? (i := 587) rfl) rfl, by decide, rfl⟩
set_option maxRecDepth 20000 in
theorem ab_okS_8 : (Cond.methodLink (ab_R 6) 111 (ab_y 80) ∈ ab_gt) ∧ 80 < ab_NM ∧ ab_s 80 = true := ⟨ab_gt_of (List.mem_of_getElem? (i := 642) rfl) rfl, by decide, rfl⟩
set_option maxRecDepth 20000 in
theorem ab_okS : ∀ e ∈ ab_cS, (Cond.methodLink (ab_R e.1) e.2.1 (ab_y e.2.2) ∈ ab_gt) ∧ e.2.2 < ab_NM ∧ ab_s e.2.2 = true := List.forall_mem_cons.mpr ⟨ab_okS_0, List.forall_mem_cons.mpr ⟨ab_okS_1, List.forall_mem_cons.mpr ⟨ab_okS_2, List.forall_mem_cons.mpr ⟨ab_okS_3, List.forall_mem_cons.mpr ⟨ab_okS_4, List.forall_mem_cons.mpr ⟨ab_okS_5, List.forall_mem_cons.mpr ⟨ab_okS_6, List.forall_mem_cons.mpr ⟨ab_okS_7, List.forall_mem_cons.mpr ⟨ab_okS_8, fun _ h => absurd h List.not_mem_nil⟩⟩⟩⟩⟩⟩⟩⟩⟩
theorem ab_okN : ∀ e ∈ ab_cN, (Cond.methodLinkNest (ab_R e.1) e.2.1 (ab_y e.2.2) RX5 ∈ ab_nw) ∧ e.2.2 < ab_NM ∧ ab_s e.2.2 = true := List.forall_mem_cons.mpr ⟨⟨List.mem_of_getElem? (i := 0) rfl, by decide, rfl⟩, List.forall_mem_cons.mpr ⟨⟨List.mem_of_getElem? (i := 1) rfl, by decide, rfl⟩, fun _ h => absurd h List.not_mem_nil⟩⟩
def ab_mn (f : Nat) : MethodName := match f with
  | 0 => Lib.Math.abs.name
  | 1 => Lib.Math.max.name
  | _ => Lib.Math.min.name
set_option maxRecDepth 20000 in
theorem ab_okS_m0 : (Cond.methodLink (ab_R 0) 31 (ab_mn 2) ∈ ab_gt) ∧ 2 < 3 := ⟨ab_gt_of (List.mem_of_getElem? (i := 461) rfl) rfl, by decide⟩
set_option maxRecDepth 20000 in
theorem ab_okS_m1 : (Cond.methodLink (ab_R 0) 45 (ab_mn 0) ∈ ab_gt) ∧ 0 < 3 := ⟨ab_gt_of (List.mem_of_getElem? (i := 467) rfl) rfl, by decide⟩
set_option maxRecDepth 20000 in
theorem ab_okS_m2 : (Cond.methodLink (ab_R 1) 22 (ab_mn 2) ∈ ab_gt) ∧ 2 < 3 := ⟨ab_gt_of (List.mem_of_getElem? (i := 435) rfl) rfl, by decide⟩
set_option maxRecDepth 20000 in
theorem ab_okS_m3 : (Cond.methodLink (ab_R 2) 43 (ab_mn 2) ∈ ab_gt) ∧ 2 < 3 := ⟨ab_gt_of (List.mem_of_getElem? (i := 358) rfl) rfl, by decide⟩
set_option maxRecDepth 20000 in
theorem ab_okS_m4 : (Cond.methodLink (ab_R 2) 68 (ab_mn 1) ∈ ab_gt) ∧ 1 < 3 := ⟨ab_gt_of (List.mem_of_getElem? (i := 246) rfl) rfl, by decide⟩
set_option maxRecDepth 20000 in
theorem ab_okS_m5 : (Cond.methodLink (ab_R 5) 226 (ab_mn 2) ∈ ab_gt) ∧ 2 < 3 := ⟨ab_gt_of (List.mem_of_getElem? (i := 373) rfl) rfl, by decide⟩
set_option maxRecDepth 20000 in
theorem ab_okS_m6 : (Cond.methodLink (ab_R 5) 231 (ab_mn 1) ∈ ab_gt) ∧ 1 < 3 := ⟨ab_gt_of (List.mem_of_getElem? (i := 374) rfl) rfl, by decide⟩
theorem ab_okM : ∀ e ∈ ab_cM, (Cond.methodLink (ab_R e.1) e.2.1 (ab_mn e.2.2) ∈ ab_gt) ∧ e.2.2 < 3 := List.forall_mem_cons.mpr ⟨ab_okS_m0, List.forall_mem_cons.mpr ⟨ab_okS_m1, List.forall_mem_cons.mpr ⟨ab_okS_m2, List.forall_mem_cons.mpr ⟨ab_okS_m3, List.forall_mem_cons.mpr ⟨ab_okS_m4, List.forall_mem_cons.mpr ⟨ab_okS_m5, List.forall_mem_cons.mpr ⟨ab_okS_m6, fun _ h => absurd h List.not_mem_nil⟩⟩⟩⟩⟩⟩⟩
set_option maxRecDepth 20000 in
theorem ab_okS_s0 : Cond.static (ab_mn 0) ∈ ab_gt := ab_gt_of (List.mem_of_getElem? (i := 468) rfl) rfl
set_option maxRecDepth 20000 in
theorem ab_okS_s1 : Cond.static (ab_mn 1) ∈ ab_gt := ab_gt_of (List.mem_of_getElem? (i := 247) rfl) rfl
set_option maxRecDepth 20000 in
theorem ab_okS_s2 : Cond.static (ab_mn 2) ∈ ab_gt := ab_gt_of (List.mem_of_getElem? (i := 359) rfl) rfl
set_option maxRecDepth 20000 in
theorem ab_okS_i : Cond.initialized "java/lang/Math" ∈ ab_gt := ab_gt_of (List.mem_of_getElem? (i := 41) rfl) rfl
set_option maxRecDepth 20000 in
theorem ab_okS_c0 : Cond.code Lib.Math.abs.name Lib.Math.abs.code 1 (some .int) ∈ ab_gt := ab_gt_of (List.mem_of_getElem? (i := 469) rfl) rfl
set_option maxRecDepth 20000 in
theorem ab_okS_c1 : Cond.code Lib.Math.max.name Lib.Math.max.code 2 (some .int) ∈ ab_gt := ab_gt_of (List.mem_of_getElem? (i := 248) rfl) rfl
set_option maxRecDepth 20000 in
theorem ab_okS_c2 : Cond.code Lib.Math.min.name Lib.Math.min.code 2 (some .int) ∈ ab_gt := ab_gt_of (List.mem_of_getElem? (i := 360) rfl) rfl
set_option maxRecDepth 20000 in
theorem ab_okF_0 : (Cond.fieldLink (ab_R 0) 11 (ab_T 0 0).1 (ab_T 0 0).2.1 (ab_T 0 0).2.2.1 ∈ ab_gt) ∧ 0 < 7 ∧ 0 < ab_nf 0 := ⟨ab_gt_of (List.mem_of_getElem? (i := 97) rfl) rfl, by decide, by decide⟩
set_option maxRecDepth 20000 in
theorem ab_okF_1 : (Cond.fieldLink (ab_R 0) 15 (ab_T 0 1).1 (ab_T 0 1).2.1 (ab_T 0 1).2.2.1 ∈ ab_gt) ∧ 0 < 7 ∧ 1 < ab_nf 0 := ⟨ab_gt_of (List.mem_of_getElem? (i := 98) rfl) rfl, by decide, by decide⟩
set_option maxRecDepth 20000 in
theorem ab_okF_2 : (Cond.fieldLink (ab_R 0) 20 (ab_T 0 2).1 (ab_T 0 2).2.1 (ab_T 0 2).2.2.1 ∈ ab_gt) ∧ 0 < 7 ∧ 2 < ab_nf 0 := ⟨ab_gt_of (List.mem_of_getElem? (i := 99) rfl) rfl, by decide, by decide⟩
set_option maxRecDepth 20000 in
theorem ab_okF_3 : (Cond.fieldLink (ab_R 0) 23 (ab_T 0 3).1 (ab_T 0 3).2.1 (ab_T 0 3).2.2.1 ∈ ab_gt) ∧ 0 < 7 ∧ 3 < ab_nf 0 := ⟨ab_gt_of (List.mem_of_getElem? (i := 100) rfl) rfl, by decide, by decide⟩
set_option maxRecDepth 20000 in
theorem ab_okF_4 : (Cond.fieldLink (ab_R 1) 11 (ab_T 1 0).1 (ab_T 1 0).2.1 (ab_T 1 0).2.2.1 ∈ ab_gt) ∧ 1 < 7 ∧ 0 < ab_nf 1 := ⟨ab_gt_of (List.mem_of_getElem? (i := 81) rfl) rfl, by decide, by decide⟩
set_option maxRecDepth 20000 in
theorem ab_okF_5 : (Cond.fieldLink (ab_R 1) 15 (ab_T 1 1).1 (ab_T 1 1).2.1 (ab_T 1 1).2.2.1 ∈ ab_gt) ∧ 1 < 7 ∧ 1 < ab_nf 1 := ⟨ab_gt_of (List.mem_of_getElem? (i := 82) rfl) rfl, by decide, by decide⟩
set_option maxRecDepth 20000 in
theorem ab_okF_6 : (Cond.fieldLink (ab_R 1) 18 (ab_T 1 2).1 (ab_T 1 2).2.1 (ab_T 1 2).2.2.1 ∈ ab_gt) ∧ 1 < 7 ∧ 2 < ab_nf 1 := ⟨ab_gt_of (List.mem_of_getElem? (i := 83) rfl) rfl, by decide, by decide⟩
set_option maxRecDepth 20000 in
theorem ab_okF_7 : (Cond.fieldLink (ab_R 2) 11 (ab_T 2 0).1 (ab_T 2 0).2.1 (ab_T 2 0).2.2.1 ∈ ab_gt) ∧ 2 < 7 ∧ 0 < ab_nf 2 := ⟨ab_gt_of (List.mem_of_getElem? (i := 132) rfl) rfl, by decide, by decide⟩
set_option maxRecDepth 20000 in
theorem ab_okF_8 : (Cond.fieldLink (ab_R 2) 15 (ab_T 2 1).1 (ab_T 2 1).2.1 (ab_T 2 1).2.2.1 ∈ ab_gt) ∧ 2 < 7 ∧ 1 < ab_nf 2 := ⟨ab_gt_of (List.mem_of_getElem? (i := 133) rfl) rfl, by decide, by decide⟩
set_option maxRecDepth 20000 in
theorem ab_okF_9 : (Cond.fieldLink (ab_R 2) 18 (ab_T 2 2).1 (ab_T 2 2).2.1 (ab_T 2 2).2.2.1 ∈ ab_gt) ∧ 2 < 7 ∧ 2 < ab_nf 2 := ⟨ab_gt_of (List.mem_of_getElem? (i := 134) rfl) rfl, by decide, by decide⟩
set_option maxRecDepth 20000 in
theorem ab_okF_10 : (Cond.fieldLink (ab_R 2) 21 (ab_T 2 3).1 (ab_T 2 3).2.1 (ab_T 2 3).2.2.1 ∈ ab_gt) ∧ 2 < 7 ∧ 3 < ab_nf 2 := ⟨ab_gt_of (List.mem_of_getElem? (i := 135) rfl) rfl, by decide, by decide⟩
set_option maxRecDepth 20000 in
theorem ab_okF_11 : (Cond.fieldLink (ab_R 3) 9 (ab_T 3 0).1 (ab_T 3 0).2.1 (ab_T 3 0).2.2.1 ∈ ab_gt) ∧ 3 < 7 ∧ 0 < ab_nf 3 := ⟨ab_gt_of (List.mem_of_getElem? (i := 116) rfl) rfl, by decide, by decide⟩
set_option maxRecDepth 20000 in
theorem ab_okF_12 : (Cond.fieldLink (ab_R 3) 15 (ab_T 3 1).1 (ab_T 3 1).2.1 (ab_T 3 1).2.2.1 ∈ ab_gt) ∧ 3 < 7 ∧ 1 < ab_nf 3 := ⟨ab_gt_of (List.mem_of_getElem? (i := 117) rfl) rfl, by decide, by decide⟩
set_option maxRecDepth 20000 in
theorem ab_okF_13 : (Cond.fieldLink (ab_R 3) 19 (ab_T 3 2).1 (ab_T 3 2).2.1 (ab_T 3 2).2.2.1 ∈ ab_gt) ∧ 3 < 7 ∧ 2 < ab_nf 3 := ⟨ab_gt_of (List.mem_of_getElem? (i := 118) rfl) rfl, by decide, by decide⟩
set_option maxRecDepth 20000 in
theorem ab_okF_14 : (Cond.fieldLink (ab_R 4) 9 (ab_T 4 0).1 (ab_T 4 0).2.1 (ab_T 4 0).2.2.1 ∈ ab_gt) ∧ 4 < 7 ∧ 0 < ab_nf 4 := ⟨ab_gt_of (List.mem_of_getElem? (i := 58) rfl) rfl, by decide, by decide⟩
set_option maxRecDepth 20000 in
theorem ab_okF_15 : (Cond.fieldLink (ab_R 4) 15 (ab_T 4 1).1 (ab_T 4 1).2.1 (ab_T 4 1).2.2.1 ∈ ab_gt) ∧ 4 < 7 ∧ 1 < ab_nf 4 := ⟨ab_gt_of (List.mem_of_getElem? (i := 59) rfl) rfl, by decide, by decide⟩
set_option maxRecDepth 20000 in
theorem ab_okF_16 : (Cond.fieldLink (ab_R 4) 18 (ab_T 4 2).1 (ab_T 4 2).2.1 (ab_T 4 2).2.2.1 ∈ ab_gt) ∧ 4 < 7 ∧ 2 < ab_nf 4 := ⟨ab_gt_of (List.mem_of_getElem? (i := 60) rfl) rfl, by decide, by decide⟩
set_option maxRecDepth 20000 in
theorem ab_okF_17 : (Cond.fieldLink (ab_R 4) 21 (ab_T 4 3).1 (ab_T 4 3).2.1 (ab_T 4 3).2.2.1 ∈ ab_gt) ∧ 4 < 7 ∧ 3 < ab_nf 4 := ⟨ab_gt_of (List.mem_of_getElem? (i := 61) rfl) rfl, by decide, by decide⟩
set_option maxRecDepth 20000 in
theorem ab_okF_18 : (Cond.fieldLink (ab_R 4) 25 (ab_T 4 4).1 (ab_T 4 4).2.1 (ab_T 4 4).2.2.1 ∈ ab_gt) ∧ 4 < 7 ∧ 4 < ab_nf 4 := ⟨ab_gt_of (List.mem_of_getElem? (i := 62) rfl) rfl, by decide, by decide⟩
set_option maxRecDepth 20000 in
theorem ab_okF_19 : (Cond.fieldLink (ab_R 5) 11 (ab_T 5 0).1 (ab_T 5 0).2.1 (ab_T 5 0).2.2.1 ∈ ab_gt) ∧ 5 < 7 ∧ 0 < ab_nf 5 := ⟨ab_gt_of (List.mem_of_getElem? (i := 145) rfl) rfl, by decide, by decide⟩
set_option maxRecDepth 20000 in
theorem ab_okF_20 : (Cond.fieldLink (ab_R 5) 18 (ab_T 5 1).1 (ab_T 5 1).2.1 (ab_T 5 1).2.2.1 ∈ ab_gt) ∧ 5 < 7 ∧ 1 < ab_nf 5 := ⟨ab_gt_of (List.mem_of_getElem? (i := 146) rfl) rfl, by decide, by decide⟩
set_option maxRecDepth 20000 in
theorem ab_okF_21 : (Cond.fieldLink (ab_R 5) 25 (ab_T 5 2).1 (ab_T 5 2).2.1 (ab_T 5 2).2.2.1 ∈ ab_gt) ∧ 5 < 7 ∧ 2 < ab_nf 5 := ⟨ab_gt_of (List.mem_of_getElem? (i := 147) rfl) rfl, by decide, by decide⟩
set_option maxRecDepth 20000 in
theorem ab_okF_22 : (Cond.fieldLink (ab_R 5) 32 (ab_T 5 3).1 (ab_T 5 3).2.1 (ab_T 5 3).2.2.1 ∈ ab_gt) ∧ 5 < 7 ∧ 3 < ab_nf 5 := ⟨ab_gt_of (List.mem_of_getElem? (i := 148) rfl) rfl, by decide, by decide⟩
set_option maxRecDepth 20000 in
theorem ab_okF_23 : (Cond.fieldLink (ab_R 5) 39 (ab_T 5 4).1 (ab_T 5 4).2.1 (ab_T 5 4).2.2.1 ∈ ab_gt) ∧ 5 < 7 ∧ 4 < ab_nf 5 := ⟨ab_gt_of (List.mem_of_getElem? (i := 149) rfl) rfl, by decide, by decide⟩
set_option maxRecDepth 20000 in
theorem ab_okF_24 : (Cond.fieldLink (ab_R 5) 43 (ab_T 5 5).1 (ab_T 5 5).2.1 (ab_T 5 5).2.2.1 ∈ ab_gt) ∧ 5 < 7 ∧ 5 < ab_nf 5 := ⟨ab_gt_of (List.mem_of_getElem? (i := 150) rfl) rfl, by decide, by decide⟩
set_option maxRecDepth 20000 in
theorem ab_okF_25 : (Cond.fieldLink (ab_R 5) 47 (ab_T 5 6).1 (ab_T 5 6).2.1 (ab_T 5 6).2.2.1 ∈ ab_gt) ∧ 5 < 7 ∧ 6 < ab_nf 5 := ⟨ab_gt_of (List.mem_of_getElem? (i := 151) rfl) rfl, by decide, by decide⟩
set_option maxRecDepth 20000 in
theorem ab_okF_26 : (Cond.fieldLink (ab_R 5) 50 (ab_T 5 7).1 (ab_T 5 7).2.1 (ab_T 5 7).2.2.1 ∈ ab_gt) ∧ 5 < 7 ∧ 7 < ab_nf 5 := ⟨ab_gt_of (List.mem_of_getElem? (i := 152) rfl) rfl, by decide, by decide⟩
set_option maxRecDepth 20000 in
theorem ab_okF_27 : (Cond.fieldLink (ab_R 5) 53 (ab_T 5 8).1 (ab_T 5 8).2.1 (ab_T 5 8).2.2.1 ∈ ab_gt) ∧ 5 < 7 ∧ 8 < ab_nf 5 := ⟨ab_gt_of (List.mem_of_getElem? (i := 153) rfl) rfl, by decide, by decide⟩
set_option maxRecDepth 20000 in
theorem ab_okF_28 : (Cond.fieldLink (ab_R 6) 9 (ab_T 6 1).1 (ab_T 6 1).2.1 (ab_T 6 1).2.2.1 ∈ ab_gt) ∧ 6 < 7 ∧ 1 < ab_nf 6 := ⟨ab_gt_of (List.mem_of_getElem? (i := 514) rfl) rfl, by decide, by decide⟩
set_option maxRecDepth 20000 in
theorem ab_okF_29 : (Cond.fieldLink (ab_R 6) 13 (ab_T 6 2).1 (ab_T 6 2).2.1 (ab_T 6 2).2.2.1 ∈ ab_gt) ∧ 6 < 7 ∧ 2 < ab_nf 6 := ⟨ab_gt_of (List.mem_of_getElem? (i := 515) rfl) rfl, by decide, by decide⟩
set_option maxRecDepth 20000 in
theorem ab_okF_30 : (Cond.fieldLink (ab_R 6) 16 (ab_T 6 3).1 (ab_T 6 3).2.1 (ab_T 6 3).2.2.1 ∈ ab_gt) ∧ 6 < 7 ∧ 3 < ab_nf 6 := ⟨ab_gt_of (List.mem_of_getElem? (i := 516) rfl) rfl, by decide, by decide⟩
set_option maxRecDepth 20000 in
theorem ab_okF_31 : (Cond.fieldLink (ab_R 6) 19 (ab_T 6 4).1 (ab_T 6 4).2.1 (ab_T 6 4).2.2.1 ∈ ab_gt) ∧ 6 < 7 ∧ 4 < ab_nf 6 := ⟨ab_gt_of (List.mem_of_getElem? (i := 517) rfl) rfl, by decide, by decide⟩
set_option maxRecDepth 20000 in
theorem ab_okF_32 : (Cond.fieldLink (ab_R 6) 22 (ab_T 6 5).1 (ab_T 6 5).2.1 (ab_T 6 5).2.2.1 ∈ ab_gt) ∧ 6 < 7 ∧ 5 < ab_nf 6 := ⟨ab_gt_of (List.mem_of_getElem? (i := 518) rfl) rfl, by decide, by decide⟩
set_option maxRecDepth 20000 in
theorem ab_okF_33 : (Cond.fieldLink (ab_R 6) 25 (ab_T 6 6).1 (ab_T 6 6).2.1 (ab_T 6 6).2.2.1 ∈ ab_gt) ∧ 6 < 7 ∧ 6 < ab_nf 6 := ⟨ab_gt_of (List.mem_of_getElem? (i := 519) rfl) rfl, by decide, by decide⟩
set_option maxRecDepth 20000 in
theorem ab_okF_34 : (Cond.fieldLink (ab_R 6) 28 (ab_T 6 7).1 (ab_T 6 7).2.1 (ab_T 6 7).2.2.1 ∈ ab_gt) ∧ 6 < 7 ∧ 7 < ab_nf 6 := ⟨ab_gt_of (List.mem_of_getElem? (i := 520) rfl) rfl, by decide, by decide⟩
set_option maxRecDepth 20000 in
theorem ab_okF_35 : (Cond.fieldLink (ab_R 6) 31 (ab_T 6 13).1 (ab_T 6 13).2.1 (ab_T 6 13).2.2.1 ∈ ab_gt) ∧ 6 < 7 ∧ 13 < ab_nf 6 := ⟨ab_gt_of (List.mem_of_getElem? (i := 526) rfl) rfl, by decide, by decide⟩
set_option maxRecDepth 20000 in
theorem ab_okF_36 : (Cond.fieldLink (ab_R 6) 35 (ab_T 6 14).1 (ab_T 6 14).2.1 (ab_T 6 14).2.2.1 ∈ ab_gt) ∧ 6 < 7 ∧ 14 < ab_nf 6 := ⟨ab_gt_of (List.mem_of_getElem? (i := 527) rfl) rfl, by decide, by decide⟩
set_option maxRecDepth 20000 in
theorem ab_okF_37 : (Cond.fieldLink (ab_R 6) 38 (ab_T 6 15).1 (ab_T 6 15).2.1 (ab_T 6 15).2.2.1 ∈ ab_gt) ∧ 6 < 7 ∧ 15 < ab_nf 6 := ⟨ab_gt_of (List.mem_of_getElem? (i := 528) rfl) rfl, by decide, by decide⟩
set_option maxRecDepth 20000 in
theorem ab_okF_38 : (Cond.fieldLink (ab_R 6) 41 (ab_T 6 17).1 (ab_T 6 17).2.1 (ab_T 6 17).2.2.1 ∈ ab_gt) ∧ 6 < 7 ∧ 17 < ab_nf 6 := ⟨ab_gt_of (List.mem_of_getElem? (i := 530) rfl) rfl, by decide, by decide⟩
set_option maxRecDepth 20000 in
theorem ab_okF_39 : (Cond.fieldLink (ab_R 6) 44 (ab_T 6 18).1 (ab_T 6 18).2.1 (ab_T 6 18).2.2.1 ∈ ab_gt) ∧ 6 < 7 ∧ 18 < ab_nf 6 := ⟨ab_gt_of (List.mem_of_getElem? (i := 531) rfl) rfl, by decide, by decide⟩
set_option maxRecDepth 20000 in
theorem ab_okF_40 : (Cond.fieldLink (ab_R 6) 47 (ab_T 6 20).1 (ab_T 6 20).2.1 (ab_T 6 20).2.2.1 ∈ ab_gt) ∧ 6 < 7 ∧ 20 < ab_nf 6 := ⟨ab_gt_of (List.mem_of_getElem? (i := 533) rfl) rfl, by decide, by decide⟩
set_option maxRecDepth 20000 in
theorem ab_okF_41 : (Cond.fieldLink (ab_R 6) 50 (ab_T 6 21).1 (ab_T 6 21).2.1 (ab_T 6 21).2.2.1 ∈ ab_gt) ∧ 6 < 7 ∧ 21 < ab_nf 6 := ⟨ab_gt_of (List.mem_of_getElem? (i := 534) rfl) rfl, by decide, by decide⟩
set_option maxRecDepth 20000 in
theorem ab_okF_42 : (Cond.fieldLink (ab_R 6) 53 (ab_T 6 22).1 (ab_T 6 22).2.1 (ab_T 6 22).2.2.1 ∈ ab_gt) ∧ 6 < 7 ∧ 22 < ab_nf 6 := ⟨ab_gt_of (List.mem_of_getElem? (i := 535) rfl) rfl, by decide, by decide⟩
set_option maxRecDepth 20000 in
theorem ab_okF_43 : (Cond.fieldLink (ab_R 6) 60 (ab_T 6 0).1 (ab_T 6 0).2.1 (ab_T 6 0).2.2.1 ∈ ab_gt) ∧ 6 < 7 ∧ 0 < ab_nf 6 := ⟨ab_gt_of (List.mem_of_getElem? (i := 513) rfl) rfl, by decide, by decide⟩
set_option maxRecDepth 20000 in
theorem ab_okF_44 : (Cond.fieldLink (ab_R 6) 64 (ab_T 6 8).1 (ab_T 6 8).2.1 (ab_T 6 8).2.2.1 ∈ ab_gt) ∧ 6 < 7 ∧ 8 < ab_nf 6 := ⟨ab_gt_of (List.mem_of_getElem? (i := 521) rfl) rfl, by decide, by decide⟩
set_option maxRecDepth 20000 in
theorem ab_okF_45 : (Cond.fieldLink (ab_R 6) 67 (ab_T 6 9).1 (ab_T 6 9).2.1 (ab_T 6 9).2.2.1 ∈ ab_gt) ∧ 6 < 7 ∧ 9 < ab_nf 6 := ⟨ab_gt_of (List.mem_of_getElem? (i := 522) rfl) rfl, by decide, by decide⟩
set_option maxRecDepth 20000 in
theorem ab_okF_46 : (Cond.fieldLink (ab_R 6) 82 (ab_T 6 11).1 (ab_T 6 11).2.1 (ab_T 6 11).2.2.1 ∈ ab_gt) ∧ 6 < 7 ∧ 11 < ab_nf 6 := ⟨ab_gt_of (List.mem_of_getElem? (i := 524) rfl) rfl, by decide, by decide⟩
set_option maxRecDepth 20000 in
theorem ab_okF_47 : (Cond.fieldLink (ab_R 6) 91 (ab_T 6 10).1 (ab_T 6 10).2.1 (ab_T 6 10).2.2.1 ∈ ab_gt) ∧ 6 < 7 ∧ 10 < ab_nf 6 := ⟨ab_gt_of (List.mem_of_getElem? (i := 523) rfl) rfl, by decide, by decide⟩
set_option maxRecDepth 20000 in
theorem ab_okF_48 : (Cond.fieldLink (ab_R 6) 132 (ab_T 6 12).1 (ab_T 6 12).2.1 (ab_T 6 12).2.2.1 ∈ ab_gt) ∧ 6 < 7 ∧ 12 < ab_nf 6 := ⟨ab_gt_of (List.mem_of_getElem? (i := 525) rfl) rfl, by decide, by decide⟩
set_option maxRecDepth 20000 in
theorem ab_okF_49 : (Cond.fieldLink (ab_R 6) 138 (ab_T 6 16).1 (ab_T 6 16).2.1 (ab_T 6 16).2.2.1 ∈ ab_gt) ∧ 6 < 7 ∧ 16 < ab_nf 6 := ⟨ab_gt_of (List.mem_of_getElem? (i := 529) rfl) rfl, by decide, by decide⟩
set_option maxRecDepth 20000 in
theorem ab_okF_50 : (Cond.fieldLink (ab_R 6) 144 (ab_T 6 19).1 (ab_T 6 19).2.1 (ab_T 6 19).2.2.1 ∈ ab_gt) ∧ 6 < 7 ∧ 19 < ab_nf 6 := ⟨ab_gt_of (List.mem_of_getElem? (i := 532) rfl) rfl, by decide, by decide⟩
set_option maxRecDepth 20000 in
theorem ab_okF : ∀ e ∈ ab_fT, (Cond.fieldLink (ab_R e.1) e.2.1 (ab_T e.2.2.1 e.2.2.2).1 (ab_T e.2.2.1 e.2.2.2).2.1 (ab_T e.2.2.1 e.2.2.2).2.2.1 ∈ ab_gt) ∧ e.2.2.1 < 7 ∧ e.2.2.2 < ab_nf e.2.2.1 := List.forall_mem_cons.mpr ⟨ab_okF_0, List.forall_mem_cons.mpr ⟨ab_okF_1, List.forall_mem_cons.mpr ⟨ab_okF_2, List.forall_mem_cons.mpr ⟨ab_okF_3, List.forall_mem_cons.mpr ⟨ab_okF_4, List.forall_mem_cons.mpr ⟨ab_okF_5, List.forall_mem_cons.mpr ⟨ab_okF_6, List.forall_mem_cons.mpr ⟨ab_okF_7, List.forall_mem_cons.mpr ⟨ab_okF_8, List.forall_mem_cons.mpr ⟨ab_okF_9, List.forall_mem_cons.mpr ⟨ab_okF_10, List.forall_mem_cons.mpr ⟨ab_okF_11, List.forall_mem_cons.mpr ⟨ab_okF_12, List.forall_mem_cons.mpr ⟨ab_okF_13, List.forall_mem_cons.mpr ⟨ab_okF_14, List.forall_mem_cons.mpr ⟨ab_okF_15, List.forall_mem_cons.mpr ⟨ab_okF_16, List.forall_mem_cons.mpr ⟨ab_okF_17, List.forall_mem_cons.mpr ⟨ab_okF_18, List.forall_mem_cons.mpr ⟨ab_okF_19, List.forall_mem_cons.mpr ⟨ab_okF_20, List.forall_mem_cons.mpr ⟨ab_okF_21, List.forall_mem_cons.mpr ⟨ab_okF_22, List.forall_mem_cons.mpr ⟨ab_okF_23, List.forall_mem_cons.mpr ⟨ab_okF_24, List.forall_mem_cons.mpr ⟨ab_okF_25, List.forall_mem_cons.mpr ⟨ab_okF_26, List.forall_mem_cons.mpr ⟨ab_okF_27, List.forall_mem_cons.mpr ⟨ab_okF_28, List.forall_mem_cons.mpr ⟨ab_okF_29, List.forall_mem_cons.mpr ⟨ab_okF_30, List.forall_mem_cons.mpr ⟨ab_okF_31, List.forall_mem_cons.mpr ⟨ab_okF_32, List.forall_mem_cons.mpr ⟨ab_okF_33, List.forall_mem_cons.mpr ⟨ab_okF_34, List.forall_mem_cons.mpr ⟨ab_okF_35, List.forall_mem_cons.mpr ⟨ab_okF_36, List.forall_mem_cons.mpr ⟨ab_okF_37, List.forall_mem_cons.mpr ⟨ab_okF_38, List.forall_mem_cons.mpr ⟨ab_okF_39, List.forall_mem_cons.mpr ⟨ab_okF_40, List.forall_mem_cons.mpr ⟨ab_okF_41, List.forall_mem_cons.mpr ⟨ab_okF_42, List.forall_mem_cons.mpr ⟨ab_okF_43, List.forall_mem_cons.mpr ⟨ab_okF_44, List.forall_mem_cons.mpr ⟨ab_okF_45, List.forall_mem_cons.mpr ⟨ab_okF_46, List.forall_mem_cons.mpr ⟨ab_okF_47, List.forall_mem_cons.mpr ⟨ab_okF_48, List.forall_mem_cons.mpr ⟨ab_okF_49, List.forall_mem_cons.mpr ⟨ab_okF_50, fun _ h => absurd h List.not_mem_nil⟩⟩⟩⟩⟩⟩⟩⟩⟩⟩⟩⟩⟩⟩⟩⟩⟩⟩⟩⟩⟩⟩⟩⟩⟩⟩⟩⟩⟩⟩⟩⟩⟩⟩⟩⟩⟩⟩⟩⟩⟩⟩⟩⟩⟩⟩⟩⟩⟩⟩⟩
set_option maxRecDepth 20000 in
theorem ab_okT_0_0 : u_lay (ab_R 0) (ab_T 0) 0 ∈ ab_gt := ab_gt_of (List.mem_of_getElem? (i := 101) rfl) rfl
set_option maxRecDepth 20000 in
theorem ab_okT_0_1 : u_lay (ab_R 0) (ab_T 0) 1 ∈ ab_gt := ab_gt_of (List.mem_of_getElem? (i := 103) rfl) rfl
set_option maxRecDepth 20000 in
theorem ab_okT_0_2 : u_lay (ab_R 0) (ab_T 0) 2 ∈ ab_gt := ab_gt_of (List.mem_of_getElem? (i := 105) rfl) rfl
set_option maxRecDepth 20000 in
theorem ab_okT_0_3 : u_lay (ab_R 0) (ab_T 0) 3 ∈ ab_gt := ab_gt_of (List.mem_of_getElem? (i := 107) rfl) rfl
theorem ab_Tin0 : ∀ w ∈ u_ws (ab_R 0) (ab_T 0) (ab_nf 0), w ∈ ab_gt := by
  intro w hw
  obtain ⟨k, hk, rfl⟩ := List.mem_map.mp hw
  have hk : k < 4 := List.mem_range.mp hk
  match k, hk with
  | 0, _ => exact ab_okT_0_0
  | 1, _ => exact ab_okT_0_1
  | 2, _ => exact ab_okT_0_2
  | 3, _ => exact ab_okT_0_3
  | k + 4, h => exact absurd h (by omega)
set_option maxRecDepth 20000 in
theorem ab_okT_1_0 : u_lay (ab_R 1) (ab_T 1) 0 ∈ ab_gt := ab_gt_of (List.mem_of_getElem? (i := 84) rfl) rfl
set_option maxRecDepth 20000 in
theorem ab_okT_1_1 : u_lay (ab_R 1) (ab_T 1) 1 ∈ ab_gt := ab_gt_of (List.mem_of_getElem? (i := 86) rfl) rfl
set_option maxRecDepth 20000 in
theorem ab_okT_1_2 : u_lay (ab_R 1) (ab_T 1) 2 ∈ ab_gt := ab_gt_of (List.mem_of_getElem? (i := 88) rfl) rfl
theorem ab_Tin1 : ∀ w ∈ u_ws (ab_R 1) (ab_T 1) (ab_nf 1), w ∈ ab_gt := by
  intro w hw
  obtain ⟨k, hk, rfl⟩ := List.mem_map.mp hw
  have hk : k < 3 := List.mem_range.mp hk
  match k, hk with
  | 0, _ => exact ab_okT_1_0
  | 1, _ => exact ab_okT_1_1
  | 2, _ => exact ab_okT_1_2
  | k + 3, h => exact absurd h (by omega)
set_option maxRecDepth 20000 in
theorem ab_okT_2_0 : u_lay (ab_R 2) (ab_T 2) 0 ∈ ab_gt := ab_gt_of (List.mem_of_getElem? (i := 136) rfl) rfl
set_option maxRecDepth 20000 in
theorem ab_okT_2_1 : u_lay (ab_R 2) (ab_T 2) 1 ∈ ab_gt := ab_gt_of (List.mem_of_getElem? (i := 138) rfl) rfl
set_option maxRecDepth 20000 in
theorem ab_okT_2_2 : u_lay (ab_R 2) (ab_T 2) 2 ∈ ab_gt := ab_gt_of (List.mem_of_getElem? (i := 140) rfl) rfl
set_option maxRecDepth 20000 in
theorem ab_okT_2_3 : u_lay (ab_R 2) (ab_T 2) 3 ∈ ab_gt := ab_gt_of (List.mem_of_getElem? (i := 142) rfl) rfl
theorem ab_Tin2 : ∀ w ∈ u_ws (ab_R 2) (ab_T 2) (ab_nf 2), w ∈ ab_gt := by
  intro w hw
  obtain ⟨k, hk, rfl⟩ := List.mem_map.mp hw
  have hk : k < 4 := List.mem_range.mp hk
  match k, hk with
  | 0, _ => exact ab_okT_2_0
  | 1, _ => exact ab_okT_2_1
  | 2, _ => exact ab_okT_2_2
  | 3, _ => exact ab_okT_2_3
  | k + 4, h => exact absurd h (by omega)
set_option maxRecDepth 20000 in
theorem ab_okT_3_0 : u_lay (ab_R 3) (ab_T 3) 0 ∈ ab_gt := ab_gt_of (List.mem_of_getElem? (i := 119) rfl) rfl
set_option maxRecDepth 20000 in
theorem ab_okT_3_1 : u_lay (ab_R 3) (ab_T 3) 1 ∈ ab_gt := ab_gt_of (List.mem_of_getElem? (i := 121) rfl) rfl
set_option maxRecDepth 20000 in
theorem ab_okT_3_2 : u_lay (ab_R 3) (ab_T 3) 2 ∈ ab_gt := ab_gt_of (List.mem_of_getElem? (i := 123) rfl) rfl
theorem ab_Tin3 : ∀ w ∈ u_ws (ab_R 3) (ab_T 3) (ab_nf 3), w ∈ ab_gt := by
  intro w hw
  obtain ⟨k, hk, rfl⟩ := List.mem_map.mp hw
  have hk : k < 3 := List.mem_range.mp hk
  match k, hk with
  | 0, _ => exact ab_okT_3_0
  | 1, _ => exact ab_okT_3_1
  | 2, _ => exact ab_okT_3_2
  | k + 3, h => exact absurd h (by omega)
set_option maxRecDepth 20000 in
theorem ab_okT_4_0 : u_lay (ab_R 4) (ab_T 4) 0 ∈ ab_gt := ab_gt_of (List.mem_of_getElem? (i := 63) rfl) rfl
set_option maxRecDepth 20000 in
theorem ab_okT_4_1 : u_lay (ab_R 4) (ab_T 4) 1 ∈ ab_gt := ab_gt_of (List.mem_of_getElem? (i := 65) rfl) rfl
set_option maxRecDepth 20000 in
theorem ab_okT_4_2 : u_lay (ab_R 4) (ab_T 4) 2 ∈ ab_gt := ab_gt_of (List.mem_of_getElem? (i := 67) rfl) rfl
set_option maxRecDepth 20000 in
theorem ab_okT_4_3 : u_lay (ab_R 4) (ab_T 4) 3 ∈ ab_gt := ab_gt_of (List.mem_of_getElem? (i := 69) rfl) rfl
set_option maxRecDepth 20000 in
theorem ab_okT_4_4 : u_lay (ab_R 4) (ab_T 4) 4 ∈ ab_gt := ab_gt_of (List.mem_of_getElem? (i := 71) rfl) rfl
theorem ab_Tin4 : ∀ w ∈ u_ws (ab_R 4) (ab_T 4) (ab_nf 4), w ∈ ab_gt := by
  intro w hw
  obtain ⟨k, hk, rfl⟩ := List.mem_map.mp hw
  have hk : k < 5 := List.mem_range.mp hk
  match k, hk with
  | 0, _ => exact ab_okT_4_0
  | 1, _ => exact ab_okT_4_1
  | 2, _ => exact ab_okT_4_2
  | 3, _ => exact ab_okT_4_3
  | 4, _ => exact ab_okT_4_4
  | k + 5, h => exact absurd h (by omega)
set_option maxRecDepth 20000 in
theorem ab_okT_5_0 : u_lay (ab_R 5) (ab_T 5) 0 ∈ ab_gt := ab_gt_of (List.mem_of_getElem? (i := 154) rfl) rfl
set_option maxRecDepth 20000 in
theorem ab_okT_5_1 : u_lay (ab_R 5) (ab_T 5) 1 ∈ ab_gt := ab_gt_of (List.mem_of_getElem? (i := 156) rfl) rfl
set_option maxRecDepth 20000 in
theorem ab_okT_5_2 : u_lay (ab_R 5) (ab_T 5) 2 ∈ ab_gt := ab_gt_of (List.mem_of_getElem? (i := 158) rfl) rfl
set_option maxRecDepth 20000 in
theorem ab_okT_5_3 : u_lay (ab_R 5) (ab_T 5) 3 ∈ ab_gt := ab_gt_of (List.mem_of_getElem? (i := 160) rfl) rfl
set_option maxRecDepth 20000 in
theorem ab_okT_5_4 : u_lay (ab_R 5) (ab_T 5) 4 ∈ ab_gt := ab_gt_of (List.mem_of_getElem? (i := 162) rfl) rfl
set_option maxRecDepth 20000 in
theorem ab_okT_5_5 : u_lay (ab_R 5) (ab_T 5) 5 ∈ ab_gt := ab_gt_of (List.mem_of_getElem? (i := 164) rfl) rfl
set_option maxRecDepth 20000 in
theorem ab_okT_5_6 : u_lay (ab_R 5) (ab_T 5) 6 ∈ ab_gt := ab_gt_of (List.mem_of_getElem? (i := 166) rfl) rfl
set_option maxRecDepth 20000 in
theorem ab_okT_5_7 : u_lay (ab_R 5) (ab_T 5) 7 ∈ ab_gt := ab_gt_of (List.mem_of_getElem? (i := 168) rfl) rfl
set_option maxRecDepth 20000 in
theorem ab_okT_5_8 : u_lay (ab_R 5) (ab_T 5) 8 ∈ ab_gt := ab_gt_of (List.mem_of_getElem? (i := 170) rfl) rfl
theorem ab_Tin5 : ∀ w ∈ u_ws (ab_R 5) (ab_T 5) (ab_nf 5), w ∈ ab_gt := by
  intro w hw
  obtain ⟨k, hk, rfl⟩ := List.mem_map.mp hw
  have hk : k < 9 := List.mem_range.mp hk
  match k, hk with
  | 0, _ => exact ab_okT_5_0
  | 1, _ => exact ab_okT_5_1
  | 2, _ => exact ab_okT_5_2
  | 3, _ => exact ab_okT_5_3
  | 4, _ => exact ab_okT_5_4
  | 5, _ => exact ab_okT_5_5
  | 6, _ => exact ab_okT_5_6
  | 7, _ => exact ab_okT_5_7
  | 8, _ => exact ab_okT_5_8
  | k + 9, h => exact absurd h (by omega)
set_option maxRecDepth 20000 in
theorem ab_okT_6_0 : u_lay (ab_R 6) (ab_T 6) 0 ∈ ab_gt := ab_gt_of (List.mem_of_getElem? (i := 536) rfl) rfl
set_option maxRecDepth 20000 in
theorem ab_okT_6_1 : u_lay (ab_R 6) (ab_T 6) 1 ∈ ab_gt := ab_gt_of (List.mem_of_getElem? (i := 538) rfl) rfl
set_option maxRecDepth 20000 in
theorem ab_okT_6_2 : u_lay (ab_R 6) (ab_T 6) 2 ∈ ab_gt := ab_gt_of (List.mem_of_getElem? (i := 540) rfl) rfl
set_option maxRecDepth 20000 in
theorem ab_okT_6_3 : u_lay (ab_R 6) (ab_T 6) 3 ∈ ab_gt := ab_gt_of (List.mem_of_getElem? (i := 542) rfl) rfl
set_option maxRecDepth 20000 in
theorem ab_okT_6_4 : u_lay (ab_R 6) (ab_T 6) 4 ∈ ab_gt := ab_gt_of (List.mem_of_getElem? (i := 544) rfl) rfl
set_option maxRecDepth 20000 in
theorem ab_okT_6_5 : u_lay (ab_R 6) (ab_T 6) 5 ∈ ab_gt := ab_gt_of (List.mem_of_getElem? (i := 546) rfl) rfl
set_option maxRecDepth 20000 in
theorem ab_okT_6_6 : u_lay (ab_R 6) (ab_T 6) 6 ∈ ab_gt := ab_gt_of (List.mem_of_getElem? (i := 548) rfl) rfl
set_option maxRecDepth 20000 in
theorem ab_okT_6_7 : u_lay (ab_R 6) (ab_T 6) 7 ∈ ab_gt := ab_gt_of (List.mem_of_getElem? (i := 550) rfl) rfl
set_option maxRecDepth 20000 in
theorem ab_okT_6_8 : u_lay (ab_R 6) (ab_T 6) 8 ∈ ab_gt := ab_gt_of (List.mem_of_getElem? (i := 552) rfl) rfl
set_option maxRecDepth 20000 in
theorem ab_okT_6_9 : u_lay (ab_R 6) (ab_T 6) 9 ∈ ab_gt := ab_gt_of (List.mem_of_getElem? (i := 554) rfl) rfl
set_option maxRecDepth 20000 in
theorem ab_okT_6_10 : u_lay (ab_R 6) (ab_T 6) 10 ∈ ab_gt := ab_gt_of (List.mem_of_getElem? (i := 556) rfl) rfl
set_option maxRecDepth 20000 in
theorem ab_okT_6_11 : u_lay (ab_R 6) (ab_T 6) 11 ∈ ab_gt := ab_gt_of (List.mem_of_getElem? (i := 558) rfl) rfl
set_option maxRecDepth 20000 in
theorem ab_okT_6_12 : u_lay (ab_R 6) (ab_T 6) 12 ∈ ab_gt := ab_gt_of (List.mem_of_getElem? (i := 560) rfl) rfl
set_option maxRecDepth 20000 in
theorem ab_okT_6_13 : u_lay (ab_R 6) (ab_T 6) 13 ∈ ab_gt := ab_gt_of (List.mem_of_getElem? (i := 562) rfl) rfl
set_option maxRecDepth 20000 in
theorem ab_okT_6_14 : u_lay (ab_R 6) (ab_T 6) 14 ∈ ab_gt := ab_gt_of (List.mem_of_getElem? (i := 564) rfl) rfl
set_option maxRecDepth 20000 in
theorem ab_okT_6_15 : u_lay (ab_R 6) (ab_T 6) 15 ∈ ab_gt := ab_gt_of (List.mem_of_getElem? (i := 566) rfl) rfl
set_option maxRecDepth 20000 in
theorem ab_okT_6_16 : u_lay (ab_R 6) (ab_T 6) 16 ∈ ab_gt := ab_gt_of (List.mem_of_getElem? (i := 568) rfl) rfl
set_option maxRecDepth 20000 in
theorem ab_okT_6_17 : u_lay (ab_R 6) (ab_T 6) 17 ∈ ab_gt := ab_gt_of (List.mem_of_getElem? (i := 570) rfl) rfl
set_option maxRecDepth 20000 in
theorem ab_okT_6_18 : u_lay (ab_R 6) (ab_T 6) 18 ∈ ab_gt := ab_gt_of (List.mem_of_getElem? (i := 572) rfl) rfl
set_option maxRecDepth 20000 in
theorem ab_okT_6_19 : u_lay (ab_R 6) (ab_T 6) 19 ∈ ab_gt := ab_gt_of (List.mem_of_getElem? (i := 574) rfl) rfl
set_option maxRecDepth 20000 in
theorem ab_okT_6_20 : u_lay (ab_R 6) (ab_T 6) 20 ∈ ab_gt := ab_gt_of (List.mem_of_getElem? (i := 576) rfl) rfl
set_option maxRecDepth 20000 in
theorem ab_okT_6_21 : u_lay (ab_R 6) (ab_T 6) 21 ∈ ab_gt := ab_gt_of (List.mem_of_getElem? (i := 578) rfl) rfl
set_option maxRecDepth 20000 in
theorem ab_okT_6_22 : u_lay (ab_R 6) (ab_T 6) 22 ∈ ab_gt := ab_gt_of (List.mem_of_getElem? (i := 580) rfl) rfl
theorem ab_Tin6 : ∀ w ∈ u_ws (ab_R 6) (ab_T 6) (ab_nf 6), w ∈ ab_gt := by
  intro w hw
  obtain ⟨k, hk, rfl⟩ := List.mem_map.mp hw
  have hk : k < 23 := List.mem_range.mp hk
  match k, hk with
  | 0, _ => exact ab_okT_6_0
  | 1, _ => exact ab_okT_6_1
  | 2, _ => exact ab_okT_6_2
  | 3, _ => exact ab_okT_6_3
  | 4, _ => exact ab_okT_6_4
  | 5, _ => exact ab_okT_6_5
  | 6, _ => exact ab_okT_6_6
  | 7, _ => exact ab_okT_6_7
  | 8, _ => exact ab_okT_6_8
  | 9, _ => exact ab_okT_6_9
  | 10, _ => exact ab_okT_6_10
  | 11, _ => exact ab_okT_6_11
  | 12, _ => exact ab_okT_6_12
  | 13, _ => exact ab_okT_6_13
  | 14, _ => exact ab_okT_6_14
  | 15, _ => exact ab_okT_6_15
  | 16, _ => exact ab_okT_6_16
  | 17, _ => exact ab_okT_6_17
  | 18, _ => exact ab_okT_6_18
  | 19, _ => exact ab_okT_6_19
  | 20, _ => exact ab_okT_6_20
  | 21, _ => exact ab_okT_6_21
  | 22, _ => exact ab_okT_6_22
  | k + 23, h => exact absurd h (by omega)
theorem ab_Tin {ci : Nat} (h : ci < 7) : ∀ w ∈ u_ws (ab_R ci) (ab_T ci) (ab_nf ci), w ∈ ab_gt := by
  match ci, h with
  | 0, _ => exact ab_Tin0
  | 1, _ => exact ab_Tin1
  | 2, _ => exact ab_Tin2
  | 3, _ => exact ab_Tin3
  | 4, _ => exact ab_Tin4
  | 5, _ => exact ab_Tin5
  | 6, _ => exact ab_Tin6
  | n + 7, h => omega
theorem ab_vw {ci : Nat} (h : ci < 7) : vwCl[ci]? = some (ab_R ci, ab_T ci, ab_nf ci) := by
  match ci, h with
  | 0, _ => rfl
  | 1, _ => rfl
  | 2, _ => rfl
  | 3, _ => rfl
  | 4, _ => rfl
  | 5, _ => rfl
  | 6, _ => rfl
  | n + 7, h => omega
theorem ab_tyok {ci : Nat} (h : ci < 7) : ∀ k, k < ab_nf ci → parseFieldDescriptor (ab_T ci k).2.2.1 = some (ab_tt ci k) := by
  match ci, h with
  | 0, _ => exact tyX0_ok
  | 1, _ => exact tyX1_ok
  | 2, _ => exact tyX2_ok
  | 3, _ => exact tyX3_ok
  | 4, _ => exact tyX4_ok
  | 5, _ => exact tyX5_ok
  | 6, _ => exact tyX6_ok
  | n + 7, h => omega
theorem ab_nmok {ci : Nat} (h : ci < 7) : ∀ a, a < ab_nf ci → ∀ b, b < ab_nf ci → a ≠ b → (ab_T ci a).2.1 ≠ (ab_T ci b).2.1 := by
  match ci, h with
  | 0, _ => exact nmX0
  | 1, _ => exact nmX1
  | 2, _ => exact nmX2
  | 3, _ => exact nmX3
  | 4, _ => exact nmX4
  | 5, _ => exact nmX5
  | 6, _ => exact nmX6
  | n + 7, h => omega
end
section
/-! the abstract machine: a fixed heap of 81 cells; its int contents are a memory 'part, place'; its references never change -/
abbrev ab_M : Type := Nat → Nat → Int32
abbrev ab_J : Type := Nat → ab_M → List Value → List Value → Prop
abbrev ab_Q : Type := Option Int32 → ab_M → Prop
abbrev ab_CL : Type := Nat → List Value → ab_M → ab_Q → Prop
def ab_cmp (k : Nat) : Nat := if k < 17 then k else if k < 65 then 17 + (k - 17) % 4 else k
def ab_off (k : Nat) : Nat := if k < 17 then 0 else if k < 65 then 10 * ((k - 17) / 4) else 0
def ab_up (μ : ab_M) (c i : Nat) (v : Int32) : ab_M := fun c' i' => if c' = c then (if i' = i then v else μ c' i') else μ c' i'
def ab_oc (k : Nat) : Nat := if k < 17 then (match k with
    | 0 => 5
    | 2 => 4
    | 6 => 1
    | 9 => 0
    | 13 => 3
    | _ => 99) else if k < 65 then (if (k - 17) % 4 = 0 then 2 else 99) else if k = 65 then 6 else 99
def ab_al (k : Nat) : Nat := if k < 17 then (match k with
    | 3 => 3
    | 4 => 3
    | 5 => 3
    | 7 => 10
    | 8 => 10
    | 10 => 6
    | 11 => 6
    | 12 => 11
    | 14 => 12
    | 15 => 12
    | 16 => 4
    | _ => 0) else if k < 65 then (if (k - 17) % 4 = 0 then 0 else 10) else (match k with
    | 66 => 12
    | 67 => 120
    | 68 => 120
    | 69 => 120
    | 70 => 3
    | 71 => 3
    | 72 => 3
    | 73 => 12
    | 74 => 12
    | 75 => 4
    | 76 => 10
    | 77 => 10
    | 78 => 6
    | 79 => 6
    | 80 => 77
    | _ => 0)
/-- 0 an array of ints, 1 of booleans, 2 an object, 3 the array of slopes -/
def ab_ak (k : Nat) : Nat := if k = 1 then 3 else if ab_oc k < 7 then 2 else if k = 15 then 1 else if k = 73 then 1 else 0
def ab_rf (k j : Nat) : Option Nat := if k < 17 then (match k, j with
    | 0, 0 => some 1
    | 0, 1 => some 2
    | 0, 2 => some 6
    | 0, 3 => some 9
    | 0, 4 => some 13
    | 2, 0 => some 3
    | 2, 1 => some 4
    | 2, 2 => some 5
    | 6, 0 => some 7
    | 6, 1 => some 8
    | 9, 0 => some 10
    | 9, 1 => some 11
    | 9, 2 => some 12
    | 13, 0 => some 14
    | 13, 1 => some 15
    | 13, 2 => some 16
    | _, _ => none) else if k < 65 then (if j < 3 then some (k + (j + 1)) else none) else (match j with
    | 1 => some 66
    | 2 => some 67
    | 3 => some 68
    | 4 => some 69
    | 5 => some 70
    | 6 => some 71
    | 7 => some 72
    | 13 => some 73
    | 14 => some 74
    | 15 => some 75
    | 17 => some 76
    | 18 => some 77
    | 20 => some 78
    | 21 => some 79
    | 22 => some 80
    | _ => none)
def ab_sh (ad : Nat → Nat) (v : Value) : Value := match v with
  | .ref k => .ref (ad k)
  | .int x => .int x
  | v => v
def ab_fv (μ : ab_M) (k j : Nat) : Value := match ab_rf k j with
  | some r => .ref r
  | none => .int (μ (ab_cmp k) (ab_off k + j))
def ab_E (ad : Nat → Nat) (cI cZ cR : ClassId) (μ : ab_M) (k : Nat) : va_E :=
  if ab_ak k = 3 then .inl (cR, 12, .inr (.inr (.inr (.inr (fun i => some (ad (17 + 4 * i)))))))
  else if ab_ak k = 2 then .inr (ab_oc k, (List.range (ab_nf (ab_oc k))).map (fun j => ab_sh ad (ab_fv μ k j)))
  else .inl (if ab_ak k = 1 then cZ else cI, ab_al k, .inl (fun j => if j < ab_al k then μ (ab_cmp k) (ab_off k + j) else 0))
def ab_ws (ad : Nat → Nat) (cI cZ cR : ClassId) (μ : ab_M) : va_W := (List.range 81).map (fun k => (ad k, ab_E ad cI cZ cR μ k))
def ab_A (ad : Nat → Nat) : Nat → Prop := fun q => ∃ k, k < 81 ∧ q = ad k
def ab_ty (cI cZ cR : ClassId) : List (ClassId × FieldType) := [(cI, .int), (cZ, .boolean), (cR, .object RX2)]
def ab_sz (k : Nat) : Nat := if ab_ak k = 3 then 0 else if ab_ak k = 2 then ab_nf (ab_oc k) else ab_al k
theorem ab_dis : ∀ k, k < 81 → ∀ k', k' < 81 → k ≠ k' → ab_cmp k ≠ ab_cmp k' ∨ ab_off k + ab_sz k ≤ ab_off k' ∨ ab_off k' + ab_sz k' ≤ ab_off k := by decide +kernel
theorem ab_up_ne {μ : ab_M} {c i c' i' : Nat} {v : Int32} (h : c' ≠ c ∨ i' ≠ i) : ab_up μ c i v c' i' = μ c' i' := by
  unfold ab_up
  by_cases h1 : c' = c
  · rw [if_pos h1]
    rcases h with h | h
    · exact absurd h1 h
    · rw [if_neg h]
  · rw [if_neg h1]
theorem ab_up_eq {μ : ab_M} {c i : Nat} {v : Int32} : ab_up μ c i v c i = v := by simp [ab_up]
theorem ab_apart {k k' j j' : Nat} (hk : k < 81) (hk' : k' < 81) (h : k' ≠ k) (hj : j < ab_sz k) (hj' : j' < ab_sz k') : ab_cmp k' ≠ ab_cmp k ∨ ab_off k' + j' ≠ ab_off k + j := by
  rcases ab_dis k' hk' k hk h with h1 | h1 | h1
  · exact Or.inl h1
  · right; omega
  · right; omega
theorem ab_E_up {ad : Nat → Nat} {cI cZ cR : ClassId} {μ : ab_M} {k k' j : Nat} {v : Int32} (hk : k < 81) (hk' : k' < 81) (h : k' ≠ k) (hj : j < ab_sz k) : ab_E ad cI cZ cR (ab_up μ (ab_cmp k) (ab_off k + j) v) k' = ab_E ad cI cZ cR μ k' := by
  unfold ab_E
  by_cases h3 : ab_ak k' = 3
  · rw [if_pos h3, if_pos h3]
  · rw [if_neg h3, if_neg h3]
    by_cases h2 : ab_ak k' = 2
    · rw [if_pos h2, if_pos h2]
      congr 2
      apply List.map_congr_left
      intro j' hj'
      have hlt : j' < ab_sz k' := by unfold ab_sz; rw [if_neg h3, if_pos h2]; exact List.mem_range.mp hj'
      unfold ab_fv
      cases ab_rf k' j' with
      | some r => rfl
      | none =>
        dsimp only
        rw [ab_up_ne (ab_apart hk hk' h hj hlt)]
    · rw [if_neg h2, if_neg h2]
      have e : (fun j' => if j' < ab_al k' then ab_up μ (ab_cmp k) (ab_off k + j) v (ab_cmp k') (ab_off k' + j') else 0) = (fun j' => if j' < ab_al k' then μ (ab_cmp k') (ab_off k' + j') else 0) := by
        funext j'
        by_cases hl : j' < ab_al k'
        · have hlt : j' < ab_sz k' := by unfold ab_sz; rw [if_neg h3, if_neg h2]; exact hl
          rw [if_pos hl, if_pos hl, ab_up_ne (ab_apart hk hk' h hj hlt)]
        · rw [if_neg hl, if_neg hl]
      rw [e]
theorem ab_ws_at {ad : Nat → Nat} {cI cZ cR : ClassId} {μ : ab_M} {k : Nat} (h : k < 81) : (ab_ws ad cI cZ cR μ)[k]? = some (ad k, ab_E ad cI cZ cR μ k) := by
  unfold ab_ws
  rw [List.getElem?_map, List.getElem?_range h]
  rfl
theorem ab_ws_len {ad : Nat → Nat} {cI cZ cR : ClassId} {μ : ab_M} : (ab_ws ad cI cZ cR μ).length = 81 := by simp [ab_ws]
theorem ab_ws_set {ad : Nat → Nat} {cI cZ cR : ClassId} {μ μ' : ab_M} {k : Nat} {x : va_E} (h : k < 81) (hx : ab_E ad cI cZ cR μ' k = x) (ho : ∀ k', k' < 81 → k' ≠ k → ab_E ad cI cZ cR μ' k' = ab_E ad cI cZ cR μ k') : (ab_ws ad cI cZ cR μ).set k (ad k, x) = ab_ws ad cI cZ cR μ' := by
  apply List.ext_getElem?
  intro i
  by_cases hi : i < 81
  · by_cases hk : i = k
    · subst hk
      rw [List.getElem?_set_self (by rw [ab_ws_len]; exact hi), ab_ws_at hi, hx]
    · rw [List.getElem?_set_ne (Ne.symm hk), ab_ws_at hi, ab_ws_at hi, ho i hi hk]
  · rw [List.getElem?_eq_none (by rw [List.length_set, ab_ws_len]; omega), List.getElem?_eq_none (by rw [ab_ws_len]; omega)]
theorem ab_D {ad : Nat → Nat} {cI cZ cR : ClassId} {μ : ab_M} {A0 : Nat → Prop} (hi : ∀ i j, i < 81 → j < 81 → ad i = ad j → i = j) (hA : ∀ q, ab_A ad q → A0 q) : va_D A0 (ab_ws ad cI cZ cR μ) := by
  have key : ∀ (k : Nat) (q : Nat × va_E), (ab_ws ad cI cZ cR μ)[k]? = some q → k < 81 ∧ q.1 = ad k := by
    intro k q h
    have hl : k < 81 := by
      have := (List.getElem?_eq_some_iff.mp h).1
      rw [ab_ws_len] at this
      exact this
    rw [ab_ws_at hl] at h
    cases h
    exact ⟨hl, rfl⟩
  refine ⟨fun i j x y h1 h2 h3 => ?_, fun k q h => ?_⟩
  · obtain ⟨a1, a2⟩ := key i x h1
    obtain ⟨b1, b2⟩ := key j y h2
    exact hi i j a1 b1 (by rw [← a2, ← b2]; exact h3)
  · obtain ⟨a1, a2⟩ := key k q h
    exact hA _ ⟨k, a1, a2⟩
def ab_MW (D : va_G) (ad : Nat → Nat) (cI cZ cR : ClassId) (μ : ab_M) (U : State) : Prop := va_P D vwCl (ab_ws ad cI cZ cR μ) U.heap ∧ va_K D vwCl (ab_ty cI cZ cR) U ∧ ∀ w ∈ ab_nw, va_Nw w U
def ab_Qc (D : va_G) (ad : Nat → Nat) (cI cZ cR : ClassId) (Q : ab_Q) : Array Value → State → Outcome → State → Prop := fun _ st oc t => ∃ (r : Option Int32) (μ : ab_M), oc = .returned (r.map Value.int) ∧ Q r μ ∧ ab_MW D ad cI cZ cR μ t ∧ va_F (ab_A ad) st t
def ab_rm (d : Nat) : Room := { frames := d, cells := 0, slots := 0, locals := 36 * d }
theorem ab_nw_moved {s U : State} (h : ∀ w ∈ ab_nw, va_Nw w s) (hW : s.WarmedH U.vm) : ∀ w ∈ ab_nw, va_Nw w U := by
  intro w hw
  have h1 := h w hw
  simp only [ab_nw, List.mem_cons, List.not_mem_nil, or_false] at hw
  rcases hw with rfl | rfl
  · exact va_Nw.warmM hW h1
  · exact va_Nw.warmM hW h1
theorem ab_nw_same {s U : State} (h : ∀ w ∈ ab_nw, va_Nw w s) (e : s.vm = U.vm) : ∀ w ∈ ab_nw, va_Nw w U := by
  intro w hw
  have h1 := h w hw
  simp only [ab_nw, List.mem_cons, List.not_mem_nil, or_false] at hw
  rcases hw with rfl | rfl
  · exact va_Nw.same rfl e h1
  · exact va_Nw.same rfl e h1
theorem ab_blind {D : va_G} {ad : Nat → Nat} {cI cZ cR : ClassId} {μ : ab_M} {as : List Value} : FrameBlind (va_Pc as (ab_MW D ad cI cZ cR μ)) := by
  intro a U g mk q
  obtain ⟨q0, qP, qK, qN⟩ := q
  exact ⟨q0, qP, va_K.moved (u := U) (U := U.calling g mk a) (Vm.Alike.refl U.vm) qK, ab_nw_same qN rfl⟩
theorem ab_pre {D : va_G} {ad : Nat → Nat} {cI cZ cR : ClassId} {μ : ab_M} {as : List Value} {s : State} {H : Heap} (hP : va_P D vwCl (ab_ws ad cI cZ cR μ) H) (hK : va_K D vwCl (ab_ty cI cZ cR) s) (hN : ∀ w ∈ ab_nw, va_Nw w s) : ∀ U : State, U.heap = H → s.WarmedH U.vm → va_Pc as (ab_MW D ad cI cZ cR μ) as.toArray U :=
  fun U hU hW => ⟨rfl, by rw [hU]; exact hP, va_K.moved hW.alike hK, ab_nw_moved hN hW⟩
end
section
/-! what one instruction asks, over the abstract machine -/
def ab_p1 (st : List Value) (f : Int32 → List Value → Prop) : Prop := match st with
  | .int x :: r => f x r
  | _ => False
def ab_p2 (st : List Value) (f : Int32 → Int32 → List Value → Prop) : Prop := match st with
  | .int y :: .int x :: r => f x y r
  | _ => False
def ab_pr (st : List Value) (f : Nat → List Value → Prop) : Prop := match st with
  | .ref a :: r => f a r
  | _ => False
def ab_pi (st : List Value) (f : Int32 → Nat → List Value → Prop) : Prop := match st with
  | .int i :: .ref a :: r => f i a r
  | _ => False
def ab_ps (st : List Value) (f : Int32 → Int32 → Nat → List Value → Prop) : Prop := match st with
  | .int v :: .int i :: .ref a :: r => f v i a r
  | _ => False
def ab_pv (st : List Value) (f : Value → List Value → Prop) : Prop := match st with
  | v :: r => f v r
  | _ => False
def ab_pw (st : List Value) (f : Value → Value → List Value → Prop) : Prop := match st with
  | v :: w :: r => f v w r
  | _ => False
def ab_li (ls : List Value) (k : Nat) (f : Int32 → Prop) : Prop := match ls[k]? with
  | some (.int x) => f x
  | _ => False
def ab_lr (ls : List Value) (k : Nat) (f : Nat → Prop) : Prop := match ls[k]? with
  | some (.ref a) => f a
  | _ => False
theorem ab_p1_e {st : List Value} {f : Int32 → List Value → Prop} (h : ab_p1 st f) : ∃ x r, st = .int x :: r ∧ f x r := by
  unfold ab_p1 at h
  split at h
  · exact ⟨_, _, rfl, h⟩
  · exact h.elim
theorem ab_p2_e {st : List Value} {f : Int32 → Int32 → List Value → Prop} (h : ab_p2 st f) : ∃ x y r, st = .int y :: .int x :: r ∧ f x y r := by
  unfold ab_p2 at h
  split at h
  · exact ⟨_, _, _, rfl, h⟩
  · exact h.elim
theorem ab_pr_e {st : List Value} {f : Nat → List Value → Prop} (h : ab_pr st f) : ∃ x r, st = .ref x :: r ∧ f x r := by
  unfold ab_pr at h
  split at h
  · exact ⟨_, _, rfl, h⟩
  · exact h.elim
theorem ab_pi_e {st : List Value} {f : Int32 → Nat → List Value → Prop} (h : ab_pi st f) : ∃ i a r, st = .int i :: .ref a :: r ∧ f i a r := by
  unfold ab_pi at h
  split at h
  · exact ⟨_, _, _, rfl, h⟩
  · exact h.elim
theorem ab_ps_e {st : List Value} {f : Int32 → Int32 → Nat → List Value → Prop} (h : ab_ps st f) : ∃ v i a r, st = .int v :: .int i :: .ref a :: r ∧ f v i a r := by
  unfold ab_ps at h
  split at h
  · exact ⟨_, _, _, _, rfl, h⟩
  · exact h.elim
theorem ab_pv_e {st : List Value} {f : Value → List Value → Prop} (h : ab_pv st f) : ∃ x r, st = x :: r ∧ f x r := by
  unfold ab_pv at h
  split at h
  · exact ⟨_, _, rfl, h⟩
  · exact h.elim
theorem ab_pw_e {st : List Value} {f : Value → Value → List Value → Prop} (h : ab_pw st f) : ∃ x y r, st = x :: y :: r ∧ f x y r := by
  unfold ab_pw at h
  split at h
  · exact ⟨_, _, _, rfl, h⟩
  · exact h.elim
theorem ab_li_e {ls : List Value} {k : Nat} {f : Int32 → Prop} (h : ab_li ls k f) : ∃ x, ls[k]? = some (.int x) ∧ f x := by
  unfold ab_li at h
  split at h
  · next x e => exact ⟨x, e, h⟩
  · exact h.elim
theorem ab_lr_e {ls : List Value} {k : Nat} {f : Nat → Prop} (h : ab_lr ls k f) : ∃ x, ls[k]? = some (.ref x) ∧ f x := by
  unfold ab_lr at h
  split at h
  · next x e => exact ⟨x, e, h⟩
  · exact h.elim
theorem ab_li_i {ls : List Value} {k : Nat} {f : Int32 → Prop} {x : Int32} (e : ls[k]? = some (.int x)) : ab_li ls k f = f x := by
  unfold ab_li
  rw [e]
theorem ab_lr_i {ls : List Value} {k : Nat} {f : Nat → Prop} {x : Nat} (e : ls[k]? = some (.ref x)) : ab_lr ls k f = f x := by
  unfold ab_lr
  rw [e]
def ab_jp (J K : ab_J) (pc : Nat) (off : Int) (μ : ab_M) (ls st : List Value) : Prop := match off with
  | .ofNat a => K (pc + a) μ ls st
  | .negSucc a => if a + 1 ≤ pc then J (pc - (a + 1)) μ ls st else False
theorem ab_jp_e {J : ab_J} {pc : Nat} {off : Int} {μ : ab_M} {ls st : List Value} (h : ab_jp J J pc off μ ls st) : ∃ tgt : Nat, (pc : Int) + off = (tgt : Int) ∧ J tgt μ ls st := by
  cases off with
  | ofNat a => exact ⟨pc + a, by simp, h⟩
  | negSucc a =>
    unfold ab_jp at h
    dsimp only at h
    split at h
    · next hl => exact ⟨pc - (a + 1), by omega, h⟩
    · exact h.elim
theorem ab_jp_m {J K K' : ab_J} (hK : ∀ pc μ ls st, K pc μ ls st → K' pc μ ls st) (hJ : ∀ pc μ ls st, J pc μ ls st → K' pc μ ls st) {pc : Nat} {off : Int} {μ : ab_M} {ls st : List Value} (h : ab_jp J K pc off μ ls st) : ab_jp K' K' pc off μ ls st := by
  cases off with
  | ofNat a => exact hK _ _ _ _ h
  | negSucc a =>
    unfold ab_jp at h ⊢
    dsimp only at h ⊢
    split at h
    · next hl => rw [if_pos hl]; exact hJ _ _ _ _ h
    · exact h.elim
def ab_c1 (op : ClassFile.Cond) (x : Int32) : Prop := match op with
  | .eq => x = 0
  | .ne => ¬ x = 0
  | .lt => x < 0
  | .ge => 0 ≤ x
  | .gt => 0 < x
  | .le => x ≤ 0
def ab_c2 (op : ClassFile.Cond) (x y : Int32) : Prop := match op with
  | .eq => x = y
  | .ne => ¬ x = y
  | .lt => x < y
  | .ge => y ≤ x
  | .gt => y < x
  | .le => x ≤ y
def ab_ok1 (v : Value) : Bool := match v with
  | .int _ => true
  | .ref _ => true
  | _ => false
def ab_ob (a ci : Nat) : Prop := a < 81 ∧ ab_oc a = ci
def ab_hd (as : List Value) (ci : Nat) : Prop := match as with
  | .ref a :: _ => ab_ob a ci
  | _ => False
def ab_pu (r : Option Int32) (st : List Value) : List Value := match r with
  | some v => .int v :: st
  | none => st
/-- a call: the callee's arguments are on the stack -/
def ab_ca (cl : ab_CL) (t : Nat) (V : Bool) (K : ab_J) (pc : Nat) (μ : ab_M) (ls st : List Value) : Prop :=
  ab_n t ≤ st.length ∧ ((st.take (ab_n t)).reverse.all ab_ok1) = true ∧ (V = true → ab_hd (st.take (ab_n t)).reverse (ab_o t)) ∧ (st.drop (ab_n t)).length ≤ 4 ∧ cl t (st.take (ab_n t)).reverse μ (fun r μ' => K (pc + 3) μ' ls (ab_pu r (st.drop (ab_n t))))
/-- java.lang.Math's abs, max, min -/
def ab_mf (f : Nat) (K : ab_J) (pc : Nat) (μ : ab_M) (ls st : List Value) : Prop := match f with
  | 0 => ab_p1 st fun x r => r.length ≤ 4 ∧ K (pc + 3) μ ls (.int (if 0 ≤ x then x else 0 - x) :: r)
  | 1 => ab_p2 st fun x y r => r.length ≤ 4 ∧ K (pc + 3) μ ls (.int (if x < y then y else x) :: r)
  | 2 => ab_p2 st fun x y r => r.length ≤ 4 ∧ K (pc + 3) μ ls (.int (if y < x then y else x) :: r)
  | _ => False
theorem ab_mf_m {f : Nat} {K K' : ab_J} (hK : ∀ pc μ ls st, K pc μ ls st → K' pc μ ls st) {pc : Nat} {μ : ab_M} {ls st : List Value} (h : ab_mf f K pc μ ls st) : ab_mf f K' pc μ ls st := by
  match f, h with
  | 0, h => obtain ⟨x, r, rfl, h⟩ := ab_p1_e h; exact ⟨h.1, hK _ _ _ _ h.2⟩
  | 1, h => obtain ⟨x, y, r, rfl, h⟩ := ab_p2_e h; exact ⟨h.1, hK _ _ _ _ h.2⟩
  | 2, h => obtain ⟨x, y, r, rfl, h⟩ := ab_p2_e h; exact ⟨h.1, hK _ _ _ _ h.2⟩
  | n + 3, h => exact h.elim
def ab_ex (cl : ab_CL) (o : Nat) (rb : Nat) (J K : ab_J) (Q : ab_Q) (i : Instr) (n pc : Nat) (μ : ab_M) (ls st : List Value) : Prop := match i with
  | .iconst z => n = 1 ∧ K (pc + 1) μ ls (.int (Int32.ofInt z) :: st)
  | .bipush z => n = 2 ∧ K (pc + 2) μ ls (.int (Int8.ofInt z).toInt32 :: st)
  | .sipush z => n = 3 ∧ K (pc + 3) μ ls (.int (Int16.ofInt z).toInt32 :: st)
  | .iload_n k => ab_li ls k.val fun x => n = 1 ∧ K (pc + 1) μ ls (.int x :: st)
  | .iload k => ab_li ls k fun x => n = 2 ∧ K (pc + 2) μ ls (.int x :: st)
  | .aload_n k => ab_lr ls k.val fun x => n = 1 ∧ K (pc + 1) μ ls (.ref x :: st)
  | .aload k => ab_lr ls k fun x => n = 2 ∧ K (pc + 2) μ ls (.ref x :: st)
  | .istore_n k => ab_p1 st fun x r => n = 1 ∧ k.val < ls.length ∧ K (pc + 1) μ (ls.set k.val (.int x)) r
  | .istore k => ab_p1 st fun x r => n = 2 ∧ k < ls.length ∧ K (pc + 2) μ (ls.set k (.int x)) r
  | .astore_n k => ab_pr st fun x r => n = 1 ∧ k.val < ls.length ∧ K (pc + 1) μ (ls.set k.val (.ref x)) r
  | .astore k => ab_pr st fun x r => n = 2 ∧ k < ls.length ∧ K (pc + 2) μ (ls.set k (.ref x)) r
  | .iinc k z => ab_li ls k fun x => n = 3 ∧ k < ls.length ∧ K (pc + 3) μ (ls.set k (.int (x + Int32.ofInt z))) st
  | .iadd => ab_p2 st fun x y r => n = 1 ∧ K (pc + 1) μ ls (.int (x + y) :: r)
  | .isub => ab_p2 st fun x y r => n = 1 ∧ K (pc + 1) μ ls (.int (x - y) :: r)
  | .imul => ab_p2 st fun x y r => n = 1 ∧ K (pc + 1) μ ls (.int (x * y) :: r)
  | .iand => ab_p2 st fun x y r => n = 1 ∧ K (pc + 1) μ ls (.int (x &&& y) :: r)
  | .ior => ab_p2 st fun x y r => n = 1 ∧ K (pc + 1) μ ls (.int (x ||| y) :: r)
  | .ishl => ab_p2 st fun x y r => n = 1 ∧ K (pc + 1) μ ls (.int (x <<< (y &&& 31)) :: r)
  | .idiv => ab_p2 st fun x y r => n = 1 ∧ (¬ y = 0) ∧ K (pc + 1) μ ls (.int (x / y) :: r)
  | .irem => ab_p2 st fun x y r => n = 1 ∧ (¬ y = 0) ∧ K (pc + 1) μ ls (.int (x - x / y * y) :: r)
  | .ineg => ab_p1 st fun x r => n = 1 ∧ K (pc + 1) μ ls (.int (-x) :: r)
  | .dup => ab_pv st fun v r => n = 1 ∧ ab_ok1 v = true ∧ K (pc + 1) μ ls (v :: v :: r)
  | .dup2 => ab_pw st fun v w r => n = 1 ∧ ab_ok1 v = true ∧ ab_ok1 w = true ∧ K (pc + 1) μ ls (v :: w :: v :: w :: r)
  | .ifCond op off => ab_p1 st fun x r => n = 3 ∧ (ab_c1 op x → ab_jp J K pc off μ ls r) ∧ (¬ ab_c1 op x → K (pc + 3) μ ls r)
  | .if_icmp op off => ab_p2 st fun x y r => n = 3 ∧ (ab_c2 op x y → ab_jp J K pc off μ ls r) ∧ (¬ ab_c2 op x y → K (pc + 3) μ ls r)
  | .goto off => n = 3 ∧ ab_jp J K pc off μ ls st
  | .tableswitch df lo hi offs => ab_p1 st fun x r => ((x.toInt < lo ∨ hi < x.toInt) → ab_jp J K pc df μ ls r) ∧ (¬ (x.toInt < lo ∨ hi < x.toInt) → ∃ off, offs[(x.toInt - lo).toNat]? = some off ∧ ab_jp J K pc off μ ls r)
  | .getfield idx => ab_pr st fun a r => n = 3 ∧ ∃ q, ab_ft o idx = some q ∧ ab_ob a q.1 ∧ K (pc + 3) μ ls (ab_fv μ a q.2 :: r)
  | .putfield idx => ab_pi st fun v a r => n = 3 ∧ ∃ q, ab_ft o idx = some q ∧ ab_ob a q.1 ∧ ab_rf a q.2 = none ∧ K (pc + 3) (ab_up μ (ab_cmp a) (ab_off a + q.2) v) ls r
  | .iaload => ab_pi st fun i a r => n = 1 ∧ (a < 81 ∧ ab_ak a = 0) ∧ vp_in i (ab_al a) ∧ K (pc + 1) μ ls (.int (μ (ab_cmp a) (ab_off a + i.toNatClampNeg)) :: r)
  | .baload => ab_pi st fun i a r => n = 1 ∧ (a < 81 ∧ ab_ak a = 1) ∧ vp_in i (ab_al a) ∧ K (pc + 1) μ ls (.int (μ (ab_cmp a) (ab_off a + i.toNatClampNeg)) :: r)
  | .iastore => ab_ps st fun v i a r => n = 1 ∧ (a < 81 ∧ ab_ak a = 0) ∧ vp_in i (ab_al a) ∧ K (pc + 1) (ab_up μ (ab_cmp a) (ab_off a + i.toNatClampNeg) v) ls r
  | .bastore => ab_ps st fun v i a r => n = 1 ∧ (a < 81 ∧ ab_ak a = 1) ∧ vp_in i (ab_al a) ∧ (v = 0 ∨ v = 1) ∧ K (pc + 1) (ab_up μ (ab_cmp a) (ab_off a + i.toNatClampNeg) v) ls r
  | .aaload => ab_pi st fun i a r => n = 1 ∧ a = 1 ∧ vp_in i 12 ∧ K (pc + 1) μ ls (.ref (17 + 4 * i.toNatClampNeg) :: r)
  | .ireturn => n = 1 ∧ ∃ v, st = [.int v] ∧ (rb = 1 ∨ (rb = 2 ∧ (v = 0 ∨ v = 1))) ∧ Q (some v) μ
  | .return_ => n = 1 ∧ st = [] ∧ rb = 0 ∧ Q none μ
  | .invokevirtual idx => n = 3 ∧ ∃ t, ab_mt ab_cV o idx = some t ∧ ab_ca cl t true K pc μ ls st
  | .invokestatic idx => n = 3 ∧ ∃ q, ab_sc o idx = some q ∧ (if q.1 = 2 then ab_mf q.2 K pc μ ls st else ab_ca cl q.2 false K pc μ ls st)
  | _ => False
def ab_st (cl : ab_CL) (t : Nat) (J K : ab_J) (Q : ab_Q) : ab_J := fun pc μ ls st => ∃ i n, decode (ab_c t) pc = .ok (i, n) ∧ ab_ex cl (ab_o t) (ab_b t) J K Q i n pc μ ls st
def ab_rn (cl : ab_CL) (t : Nat) (J : ab_J) (Q : ab_Q) : Nat → ab_J
  | 0 => J
  | k + 1 => ab_st cl t J (ab_rn cl t J Q k) Q
def ab_Cl : Nat → ab_CL
  | 0 => fun _ _ _ _ => False
  | d + 1 => fun t as μ Q => ∀ J : ab_J, (∀ pc μ ls st, ab_st (ab_Cl d) t J J Q pc μ ls st → J pc μ ls st) → J 0 μ (as ++ List.replicate (ab_L t - as.length) .null) []
def ab_mono (cl : ab_CL) : Prop := ∀ t as μ Q Q', (∀ r μ', Q r μ' → Q' r μ') → cl t as μ Q → cl t as μ Q'
theorem ab_ca_m {cl : ab_CL} (hc : ab_mono cl) {t : Nat} {V : Bool} {K K' : ab_J} (hK : ∀ pc μ ls st, K pc μ ls st → K' pc μ ls st) {pc : Nat} {μ : ab_M} {ls st : List Value} (h : ab_ca cl t V K pc μ ls st) : ab_ca cl t V K' pc μ ls st := by
  obtain ⟨h1, h2, h3, h4, h5⟩ := h
  exact ⟨h1, h2, h3, h4, hc _ _ _ _ _ (fun r μ' q => hK _ _ _ _ q) h5⟩
theorem ab_ex_m {cl : ab_CL} (hc : ab_mono cl) {o : Nat} {rb : Nat} {J K K' : ab_J} {Q Q' : ab_Q} (hK : ∀ pc μ ls st, K pc μ ls st → K' pc μ ls st) (hJ : ∀ pc μ ls st, J pc μ ls st → K' pc μ ls st) (hQ : ∀ r μ', Q r μ' → Q' r μ') {i : Instr} {n pc : Nat} {μ : ab_M} {ls st : List Value} (h : ab_ex cl o rb J K Q i n pc μ ls st) : ab_ex cl o rb K' K' Q' i n pc μ ls st := by
  cases i
  case iconst z => exact ⟨h.1, hK _ _ _ _ h.2⟩
  case bipush z => exact ⟨h.1, hK _ _ _ _ h.2⟩
  case sipush z => exact ⟨h.1, hK _ _ _ _ h.2⟩
  case iload_n k => obtain ⟨x, e, h⟩ := ab_li_e h; exact (ab_li_i e).mpr ⟨h.1, hK _ _ _ _ h.2⟩
  case iload k => obtain ⟨x, e, h⟩ := ab_li_e h; exact (ab_li_i e).mpr ⟨h.1, hK _ _ _ _ h.2⟩
  case aload_n k => obtain ⟨x, e, h⟩ := ab_lr_e h; exact (ab_lr_i e).mpr ⟨h.1, hK _ _ _ _ h.2⟩
  case aload k => obtain ⟨x, e, h⟩ := ab_lr_e h; exact (ab_lr_i e).mpr ⟨h.1, hK _ _ _ _ h.2⟩
  case istore_n k => obtain ⟨x, r, rfl, h⟩ := ab_p1_e h; exact ⟨h.1, h.2.1, hK _ _ _ _ h.2.2⟩
  case istore k => obtain ⟨x, r, rfl, h⟩ := ab_p1_e h; exact ⟨h.1, h.2.1, hK _ _ _ _ h.2.2⟩
  case astore_n k => obtain ⟨x, r, rfl, h⟩ := ab_pr_e h; exact ⟨h.1, h.2.1, hK _ _ _ _ h.2.2⟩
  case astore k => obtain ⟨x, r, rfl, h⟩ := ab_pr_e h; exact ⟨h.1, h.2.1, hK _ _ _ _ h.2.2⟩
  case iinc k z => obtain ⟨x, e, h⟩ := ab_li_e h; exact (ab_li_i e).mpr ⟨h.1, h.2.1, hK _ _ _ _ h.2.2⟩
  case iadd => obtain ⟨x, y, r, rfl, h⟩ := ab_p2_e h; exact ⟨h.1, hK _ _ _ _ h.2⟩
  case isub => obtain ⟨x, y, r, rfl, h⟩ := ab_p2_e h; exact ⟨h.1, hK _ _ _ _ h.2⟩
  case imul => obtain ⟨x, y, r, rfl, h⟩ := ab_p2_e h; exact ⟨h.1, hK _ _ _ _ h.2⟩
  case iand => obtain ⟨x, y, r, rfl, h⟩ := ab_p2_e h; exact ⟨h.1, hK _ _ _ _ h.2⟩
  case ior => obtain ⟨x, y, r, rfl, h⟩ := ab_p2_e h; exact ⟨h.1, hK _ _ _ _ h.2⟩
  case ishl => obtain ⟨x, y, r, rfl, h⟩ := ab_p2_e h; exact ⟨h.1, hK _ _ _ _ h.2⟩
  case idiv => obtain ⟨x, y, r, rfl, h⟩ := ab_p2_e h; exact ⟨h.1, h.2.1, hK _ _ _ _ h.2.2⟩
  case irem => obtain ⟨x, y, r, rfl, h⟩ := ab_p2_e h; exact ⟨h.1, h.2.1, hK _ _ _ _ h.2.2⟩
  case ineg => obtain ⟨x, r, rfl, h⟩ := ab_p1_e h; exact ⟨h.1, hK _ _ _ _ h.2⟩
  case dup => obtain ⟨x, r, rfl, h⟩ := ab_pv_e h; exact ⟨h.1, h.2.1, hK _ _ _ _ h.2.2⟩
  case dup2 => obtain ⟨x, y, r, rfl, h⟩ := ab_pw_e h; exact ⟨h.1, h.2.1, h.2.2.1, hK _ _ _ _ h.2.2.2⟩
  case ifCond op off => obtain ⟨x, r, rfl, h⟩ := ab_p1_e h; exact ⟨h.1, fun q => ab_jp_m hK hJ (h.2.1 q), fun q => hK _ _ _ _ (h.2.2 q)⟩
  case if_icmp op off => obtain ⟨x, y, r, rfl, h⟩ := ab_p2_e h; exact ⟨h.1, fun q => ab_jp_m hK hJ (h.2.1 q), fun q => hK _ _ _ _ (h.2.2 q)⟩
  case goto off => exact ⟨h.1, ab_jp_m hK hJ h.2⟩
  case tableswitch df lo hi offs => obtain ⟨x, r, rfl, h⟩ := ab_p1_e h; exact ⟨fun q => ab_jp_m hK hJ (h.1 q), fun q => by obtain ⟨off, e, h⟩ := h.2 q; exact ⟨off, e, ab_jp_m hK hJ h⟩⟩
  case getfield idx => obtain ⟨a, r, rfl, h1, q, h2, h3, h4⟩ := ab_pr_e h; exact ⟨h1, q, h2, h3, hK _ _ _ _ h4⟩
  case putfield idx => obtain ⟨v, a, r, rfl, h1, q, h2, h3, h4, h5⟩ := ab_pi_e h; exact ⟨h1, q, h2, h3, h4, hK _ _ _ _ h5⟩
  case iaload => obtain ⟨i, a, r, rfl, h1, h2, h3, h4⟩ := ab_pi_e h; exact ⟨h1, h2, h3, hK _ _ _ _ h4⟩
  case baload => obtain ⟨i, a, r, rfl, h1, h2, h3, h4⟩ := ab_pi_e h; exact ⟨h1, h2, h3, hK _ _ _ _ h4⟩
  case iastore => obtain ⟨v, i, a, r, rfl, h1, h2, h3, h4⟩ := ab_ps_e h; exact ⟨h1, h2, h3, hK _ _ _ _ h4⟩
  case bastore => obtain ⟨v, i, a, r, rfl, h1, h2, h3, h4, h5⟩ := ab_ps_e h; exact ⟨h1, h2, h3, h4, hK _ _ _ _ h5⟩
  case aaload => obtain ⟨i, a, r, rfl, h1, h2, h3, h4⟩ := ab_pi_e h; exact ⟨h1, h2, h3, hK _ _ _ _ h4⟩
  case ireturn => obtain ⟨h1, v, h2, h3, h4⟩ := h; exact ⟨h1, v, h2, h3, hQ _ _ h4⟩
  case return_ => exact ⟨h.1, h.2.1, h.2.2.1, hQ _ _ h.2.2.2⟩
  case invokevirtual idx => obtain ⟨h1, t, h2, h3⟩ := h; exact ⟨h1, t, h2, ab_ca_m hc hK h3⟩
  case invokestatic idx =>
    obtain ⟨h1, q, h2, h3⟩ := h
    refine ⟨h1, q, h2, ?_⟩
    split at h3
    · next e => rw [if_pos e]; exact ab_mf_m hK h3
    · next e => rw [if_neg e]; exact ab_ca_m hc hK h3
  all_goals exact h
theorem ab_Cl_m : ∀ d, ab_mono (ab_Cl d)
  | 0 => fun _ _ _ _ _ _ h => h
  | d + 1 => fun t as μ Q Q' hQ h J hJ => h J (fun pc μ ls st ⟨i, n, h1, h2⟩ => hJ pc μ ls st ⟨i, n, h1, ab_ex_m (ab_Cl_m d) (fun _ _ _ _ q => q) (fun _ _ _ _ q => q) hQ h2⟩)
theorem ab_run {cl : ab_CL} (hc : ab_mono cl) {t : Nat} {J : ab_J} {Q : ab_Q} (hJ : ∀ pc μ ls st, ab_st cl t J J Q pc μ ls st → J pc μ ls st) : ∀ k pc μ ls st, ab_rn cl t J Q k pc μ ls st → J pc μ ls st
  | 0 => fun _ _ _ _ h => h
  | k + 1 => fun pc μ ls st ⟨i, n, h1, h2⟩ => hJ pc μ ls st ⟨i, n, h1, ab_ex_m hc (ab_run hc hJ k) (fun _ _ _ _ q => q) (fun _ _ q => q) h2⟩
theorem ab_go {d t : Nat} {as : List Value} {μ : ab_M} {Q : ab_Q} (h : ∀ J : ab_J, (∀ k pc μ ls st, ab_rn (ab_Cl d) t J Q k pc μ ls st → J pc μ ls st) → J 0 μ (as ++ List.replicate (ab_L t - as.length) .null) []) : ab_Cl (d + 1) t as μ Q :=
  fun J hJ => h J (ab_run (ab_Cl_m d) hJ)
end
section
/-! the abstract machine is true of the machine -/
def ab_ls (ad : Nat → Nat) (lsA : Array Slot) (nL : Nat) (ls : List Value) : Prop := lsA.size = nL ∧ lv_wf lsA ∧ ls.length = nL ∧ (∀ v ∈ ls, v.category = 1) ∧ ∀ (i : Nat) (v : Value), ls[i]? = some v → v ≠ .null → lsA[i]? = some (.val (ab_sh ad v))
theorem ab_sh_cat (ad : Nat → Nat) (v : Value) : (ab_sh ad v).category = v.category := by cases v <;> rfl
theorem ab_ok_cat {v : Value} (h : ab_ok1 v = true) : v.category = 1 := by cases v <;> first | rfl | cases h
theorem ab_ok_nn {v : Value} (h : ab_ok1 v = true) : v ≠ .null := by cases v <;> first | (intro e; cases e; done) | cases h
def ab_en (ad : Nat → Nat) (ls : List Value) : List (Nat × Value) := (List.range ls.length).filterMap (fun i => (ls[i]?).bind (fun v => if v = .null then none else some (i, ab_sh ad v)))
theorem ab_en_mem {ad : Nat → Nat} {ls : List Value} {q : Nat × Value} : q ∈ ab_en ad ls ↔ ∃ v, ls[q.1]? = some v ∧ v ≠ .null ∧ q.2 = ab_sh ad v := by
  unfold ab_en
  rw [List.mem_filterMap]
  constructor
  · rintro ⟨i, -, h⟩
    cases hv : ls[i]? with
    | none => rw [hv] at h; cases h
    | some v =>
      rw [hv] at h
      simp only [Option.bind_some] at h
      split at h
      · cases h
      · next hn => cases h; exact ⟨v, hv, hn, rfl⟩
  · rintro ⟨v, h1, h2, h3⟩
    refine ⟨q.1, List.mem_range.mpr (List.getElem?_eq_some_iff.mp h1).1, ?_⟩
    rw [h1]
    simp only [Option.bind_some, if_neg h2, ← h3]
theorem ab_ls_has {ad : Nat → Nat} {lsA : Array Slot} {nL : Nat} {ls : List Value} (h : ab_ls ad lsA nL ls) : lv_has lsA nL (ab_en ad ls) := by
  obtain ⟨h1, h2, h3, h4, h5⟩ := h
  refine ⟨h1, h2, fun q hq => ?_⟩
  obtain ⟨v, e1, e2, e3⟩ := ab_en_mem.mp hq
  rw [e3]
  exact h5 _ _ e1 e2
theorem ab_ls_store {ad : Nat → Nat} {lsA lsB : Array Slot} {nL i : Nat} {ls : List Value} {v : Value} (h : ab_ls ad lsA nL ls) (hi : i < ls.length) (hv : ab_ok1 v = true) (h' : lv_has lsB nL ((i, ab_sh ad v) :: (ab_en ad ls).filter (fun q => !(q.1 == i) && !(q.1 + 1 == i && q.2.category == 2)))) : ab_ls ad lsB nL (ls.set i v) := by
  obtain ⟨h1, h2, h3, h4, h5⟩ := h
  obtain ⟨g1, g2, g3⟩ := h'
  refine ⟨g1, g2, by rw [List.length_set]; exact h3, fun w hw => ?_, fun j w hj hn => ?_⟩
  · rcases List.mem_or_eq_of_mem_set hw with q | q
    · exact h4 w q
    · rw [q]; exact ab_ok_cat hv
  · by_cases e : j = i
    · subst e
      rw [List.getElem?_set_self hi] at hj
      cases hj
      exact g3 (j, ab_sh ad v) List.mem_cons_self
    · rw [List.getElem?_set_ne (Ne.symm e)] at hj
      refine g3 (j, ab_sh ad w) (List.mem_cons_of_mem _ (List.mem_filter.mpr ⟨ab_en_mem.mpr ⟨w, hj, hn, rfl⟩, ?_⟩))
      have hc : (ab_sh ad w).category = 1 := by rw [ab_sh_cat]; exact h4 w (List.mem_of_getElem? hj)
      simp only [hc, beq_iff_eq, Bool.and_eq_true, Bool.not_eq_true', beq_eq_false_iff_ne, ne_eq]
      exact ⟨e, by simp⟩
theorem ab_sum_le (l : List Value) (h : l.length ≤ 4) : (l.map fun v => v.category).sum ≤ 8 := by
  have key : ∀ l : List Value, (l.map fun v => v.category).sum ≤ 2 * l.length := by
    intro l
    induction l with
    | nil => simp
    | cons v t ih =>
      simp only [List.map_cons, List.sum_cons, List.length_cons]
      rcases lv_cat v with q | q <;> omega
  have := key l
  omega
section ABS
variable {p : Program} {l : Launch} {e : Env} {R : Room} {s : State} {m : MethodId} {args : Array Value} {below : List Frame} {meth : Method} {c : Code} {cells slots : Nat} {Qz : State → Prop} {D : va_G} {ad : Nat → Nat} {cI cZ cR : ClassId} {nL o d : Nat} {A0 : Nat → Prop} {H0 : Heap} {cc : ByteArray}
def ab_X (p : Program) (R : Room) (s : State) (m : MethodId) (args : Array Value) (c : Code) (cells slots : Nat) (D : va_G) (ad : Nat → Nat) (cI cZ cR : ClassId) (nL o d : Nat) (A0 : Nat → Prop) (cc : ByteArray) : Prop :=
  p.tables.exec = Jvm.exec ∧ c.code = cc ∧ c.maxLocals = nL ∧ s.vm.findClass (ab_R o) = some m.cls ∧ (∀ w ∈ ab_gt, w.before args s = true) ∧ va_K D vwCl (ab_ty cI cZ cR) s ∧ (∀ w ∈ ab_nw, va_Nw w s) ∧ (∀ i j, i < 81 → j < 81 → ad i = ad j → i = j) ∧ (∀ q, ab_A ad q → A0 q) ∧ d + 1 ≤ R.frames ∧ 36 * (d + 1) ≤ R.locals ∧ cells ≤ R.cells ∧ slots ≤ R.slots
def ab_Jc (p : Program) (l : Launch) (e : Env) (R : Room) (s : State) (m : MethodId) (args : Array Value) (below : List Frame) (meth : Method) (c : Code) (cells slots : Nat) (Qz : State → Prop) (D : va_G) (ad : Nat → Nat) (cI cZ cR : ClassId) (nL : Nat) (A0 : Nat → Prop) (H0 : Heap) : ab_J := fun pc μ ls st => ∀ (H : Heap) (locs : List Loc) (lsA : Array Slot), va_P D vwCl (ab_ws ad cI cZ cR μ) H → va_S A0 H0 H locs → ab_ls ad lsA nL ls → W p l e R s m args below meth c H locs cells slots Qz (F0 m pc lsA (st.map (ab_sh ad)))
theorem ab_cont {H : Heap} {locs : List Loc} {pc : Nat} {lsA : Array Slot} {st0 rest : List Value} {Q : ab_Q} {a : Array Value} (hr : va_Run p l e R s m args below meth c H locs cells slots 0 0 (F0 m pc lsA st0) rest (ab_Qc D ad cI cZ cR Q a) (ab_A ad)) (hS : va_S A0 H0 H locs) (hA : ∀ q, ab_A ad q → A0 q)
    (kk : ∀ (r : Option Int32) (μ : ab_M) (H1 : Heap) (locs1 : List Loc), Q r μ → va_P D vwCl (ab_ws ad cI cZ cR μ) H1 → va_S A0 H0 H1 locs1 → W p l e R s m args below meth c H1 locs1 cells slots Qz (F0 m (pc + 3) lsA ((r.map Value.int).toList ++ rest))) : W p l e R s m args below meth c H locs cells slots Qz (F0 m pc lsA st0) := by
  intro T hT X
  obtain ⟨v, st₀, t, T', L, h0, X', hL, e1, e2, ⟨r, μ', hv, hq, ⟨hP', hK', hN'⟩, hz, hk⟩, st⟩ := hr T hT X
  cases hv
  rw [h0] at hz hk
  obtain ⟨t2, a1, b1⟩ := kk r μ' T'.heap (locs ++ L) hq (by rw [e1]; exact hP')
    ⟨Nat.le_trans hS.1 (by rw [e1]; exact hz), fun q h1 h2 => by rw [e1, hk q (Nat.lt_of_lt_of_le h1 hS.1) (fun z => h2 (hA q z))]; exact hS.2.1 q h1 h2, fun q hq => by
      rcases List.mem_append.mp hq with h | h
      · exact hS.2.2 q h
      · exact hA _ (hL q h)⟩ T' rfl X'
  exact ⟨t2, st t2 a1, b1⟩
theorem ab_goodw (t : Nat) (ht : t < ab_NM) : GoodIn ab_gt (ab_w t) := by
  intro w hw
  rcases List.mem_cons.mp hw with rfl | hw
  · exact ⟨(ab_PMs ht).1, ab_gt_good (ab_PMs ht).1⟩
  · exact ⟨hw, ab_gt_good hw⟩
theorem ab_goodV {o idx t : Nat} (h : (o, idx, t) ∈ ab_cV) : GoodIn ab_gt (wsV (ab_R o) idx (ab_R (ab_o t)) (ab_y t) (ab_w t)) := by
  obtain ⟨h1, h2, h3⟩ := ab_okV _ h
  have hm := ab_PMs h2
  obtain ⟨m1, m2, m3⟩ := hm
  rw [if_neg (by rw [h3]; decide)] at m3
  have hq := ab_okM_at h2
  simp only [ab_okq, Bool.and_eq_true, decide_eq_true_eq] at hq
  have hini : Cond.initialized (ab_R (ab_o t)) ∈ ab_gt := by rw [← hq.1.1.1.1]; exact m2
  intro w hw
  unfold wsV at hw
  rcases List.mem_append.mp hw with hw | hw
  · simp only [List.mem_cons, List.not_mem_nil, or_false] at hw
    rcases hw with rfl | rfl | rfl | rfl
    · exact ⟨h1, ab_gt_good h1⟩
    · exact ⟨m3.1, ab_gt_good m3.1⟩
    · exact ⟨m3.2, ab_gt_good m3.2⟩
    · exact ⟨hini, ab_gt_good hini⟩
  · exact ab_goodw t h2 w hw
theorem ab_goodS {o idx t : Nat} (h : (o, idx, t) ∈ ab_cS) : GoodIn ab_gt (va_wsS (ab_R o) idx (ab_y t) (ab_w t)) := by
  obtain ⟨h1, h2, h3⟩ := ab_okS _ h
  obtain ⟨m1, m2, m3⟩ := ab_PMs h2
  rw [if_pos h3] at m3
  intro w hw
  unfold va_wsS at hw
  rcases List.mem_append.mp hw with hw | hw
  · simp only [List.mem_cons, List.not_mem_nil, or_false] at hw
    rcases hw with rfl | rfl | rfl
    · exact ⟨h1, ab_gt_good h1⟩
    · exact ⟨m3, ab_gt_good m3⟩
    · exact ⟨m2, ab_gt_good m2⟩
  · exact ab_goodw t h2 w hw
theorem ab_pu_map (r : Option Int32) (st : List Value) : (r.map Value.int).toList ++ st.map (ab_sh ad) = (ab_pu r st).map (ab_sh ad) := by cases r <;> rfl
theorem ab_split {st : List Value} {n : Nat} : st.map (ab_sh ad) = ((st.take n).reverse.map (ab_sh ad)).reverse ++ (st.drop n).map (ab_sh ad) := by
  rw [List.map_reverse, List.reverse_reverse, ← List.map_append, List.take_append_drop]
theorem ab_callV (X : ab_X p R s m args c cells slots D ad cI cZ cR nL o d A0 cc) {idx t pc : Nat} {μ : ab_M} {ls st : List Value} {cl : ab_CL}
    (HC : ∀ as μ Q, t < ab_NM → as.length = ab_n t → (as.all ab_ok1) = true → cl t as μ Q → Met l (ab_y t) (ab_w t) (ab_rm d) (va_Pc (as.map (ab_sh ad)) (ab_MW D ad cI cZ cR μ)) (ab_Qc D ad cI cZ cR Q) 0 0 (ab_A ad))
    (hd : decode cc pc = .ok (.invokevirtual idx, 3)) (hm : (o, idx, t) ∈ ab_cV) (h : ab_ca cl t true (ab_Jc p l e R s m args below meth c cells slots Qz D ad cI cZ cR nL A0 H0) pc μ ls st) : ab_Jc p l e R s m args below meth c cells slots Qz D ad cI cZ cR nL A0 H0 pc μ ls st := by
  obtain ⟨h1, h2, h3, h4, h5⟩ := h
  obtain ⟨hx, hb, hml, hown, hts, hK, hN, hinj, hA, hfr, hlo, hce, hsl⟩ := X
  obtain ⟨k1, k2, k3⟩ := ab_okV _ hm
  have hq := ab_okM_at k2
  simp only [ab_okq, Bool.and_eq_true, decide_eq_true_eq] at hq
  obtain ⟨⟨⟨⟨q1, q2⟩, q3⟩, q4⟩, q5⟩ := hq
  have hn := ab_okn_at k2
  simp only [ab_okn, Bool.and_eq_true, decide_eq_true_eq, Bool.or_eq_true] at hn
  obtain ⟨⟨⟨⟨n1, n2⟩, n3⟩, n4⟩, n5⟩ := hn
  simp only [k3, Bool.false_eq_true, false_or, if_false] at n5 q5
  have hlen : (st.take (ab_n t)).reverse.length = ab_n t := by rw [List.length_reverse, List.length_take]; exact Nat.min_eq_left h1
  have h3 := h3 rfl
  have hM := HC _ μ _ k2 hlen h2 h5
  generalize hae : (st.take (ab_n t)).reverse = as at *
  intro H locs lsA hP hS hl
  have hst := ab_split (ad := ad) (st := st) (n := ab_n t)
  rw [hae] at hst
  match as, h3 with
  | .ref a :: As, h3 =>
    obtain ⟨ha, hoc⟩ := h3
    have hP0 := ab_ws_at (ad := ad) (cI := cI) (cZ := cZ) (cR := cR) (μ := μ) ha
    have hak : ab_ak a = 2 := by
      unfold ab_ak
      have : ¬ a = 1 := fun z => by subst z; have := n5.2; rw [← hoc] at this; exact absurd this (by decide)
      rw [if_neg this, if_pos (by rw [hoc]; exact n5.2)]
    have hE : ab_E ad cI cZ cR μ a = .inr (ab_o t, (List.range (ab_nf (ab_oc a))).map (fun j => ab_sh ad (ab_fv μ a j))) := by
      unfold ab_E
      rw [if_neg (by rw [hak]; decide), if_pos hak, hoc]
    rw [hE] at hP0
    have hAs : (As.map (ab_sh ad)).length = ab_n t - 1 := by
      rw [List.length_map]
      simp only [List.length_cons] at hlen
      omega
    rw [hst]
    refine ab_cont (va_runV (Ts := ab_gt) (own := ab_R o) (C := ab_R (ab_o t)) (b := ad a) (As := As.map (ab_sh ad)) (rest := (st.drop (ab_n t)).map (ab_sh ad)) ⟨hx, hb, hml, hown, hts⟩ hM (cwV (bytes := ab_c t) (maxL := ab_L t) (ret := ab_r t) (ws' := ab_gt) (ab_n t - 1) hts (ab_goodV hm) rfl rfl rfl ⟨q1, q3, q4, q5⟩ ⟨hfr, ?_⟩) ⟨ab_blind, ?_, ?_⟩ rfl hAs hl.1 ?_ (lv_room (ab_sum_le _ (by rw [List.length_map]; exact h4))) hd ⟨hce, hsl⟩) hS hA (fun r μ' H1 locs1 hQ hP1 hS1 => ?_)
    · show 8 + (ab_L t + 11) + 36 * d ≤ R.locals
      omega
    · exact va_recv hK hP (ab_vw n5.2) hP0
    · exact ab_pre (as := (.ref a :: As).map (ab_sh ad)) hP hK hN
    · show _ ++ _ = _
      rw [List.map_cons, List.reverse_cons, List.append_assoc]
      rfl
    · rw [ab_pu_map]
      exact hQ H1 locs1 lsA hP1 hS1 hl
theorem ab_callS (X : ab_X p R s m args c cells slots D ad cI cZ cR nL o d A0 cc) {idx t pc : Nat} {μ : ab_M} {ls st : List Value} {cl : ab_CL}
    (HC : ∀ as μ Q, t < ab_NM → as.length = ab_n t → (as.all ab_ok1) = true → cl t as μ Q → Met l (ab_y t) (ab_w t) (ab_rm d) (va_Pc (as.map (ab_sh ad)) (ab_MW D ad cI cZ cR μ)) (ab_Qc D ad cI cZ cR Q) 0 0 (ab_A ad))
    (hd : decode cc pc = .ok (.invokestatic idx, 3)) (hm : (o, idx, t) ∈ ab_cS ∨ (o, idx, t) ∈ ab_cN) (h : ab_ca cl t false (ab_Jc p l e R s m args below meth c cells slots Qz D ad cI cZ cR nL A0 H0) pc μ ls st) : ab_Jc p l e R s m args below meth c cells slots Qz D ad cI cZ cR nL A0 H0 pc μ ls st := by
  obtain ⟨h1, h2, h3, h4, h5⟩ := h
  obtain ⟨hx, hb, hml, hown, hts, hK, hN, hinj, hA, hfr, hlo, hce, hsl⟩ := X
  have k23 : t < ab_NM ∧ ab_s t = true := by
    rcases hm with hm | hm
    · exact (ab_okS _ hm).2
    · exact (ab_okN _ hm).2
  obtain ⟨k2, k3⟩ := k23
  have hq := ab_okM_at k2
  simp only [ab_okq, Bool.and_eq_true, decide_eq_true_eq] at hq
  obtain ⟨⟨⟨⟨q1, q2⟩, q3⟩, q4⟩, q5⟩ := hq
  have hn := ab_okn_at k2
  simp only [ab_okn, Bool.and_eq_true, decide_eq_true_eq, Bool.or_eq_true] at hn
  obtain ⟨⟨⟨⟨n1, n2⟩, n3⟩, n4⟩, n5⟩ := hn
  rw [if_pos k3] at q5
  have hlen : (st.take (ab_n t)).reverse.length = ab_n t := by rw [List.length_reverse, List.length_take]; exact Nat.min_eq_left h1
  have hM := HC _ μ _ k2 hlen h2 h5
  have hst := ab_split (ad := ad) (st := st) (n := ab_n t)
  generalize (st.take (ab_n t)).reverse = as at *
  intro H locs lsA hP hS hl
  rw [hst]
  have hlo2 : 8 + (ab_L t + 11) + 36 * d ≤ R.locals := by omega
  have hAs : (as.map (ab_sh ad)).length = ab_n t := by rw [List.length_map]; exact hlen
  have hroom : ∀ rest : List Value, 2 * (F0 m pc lsA rest).monitorRoom + (((st.drop (ab_n t)).map (ab_sh ad)).map fun v => v.category).sum ≤ 8 := fun rest => lv_room (ab_sum_le _ (by rw [List.length_map]; exact h4))
  rcases hm with hm | hm
  · refine ab_cont (va_runS (Ts := ab_gt) (own := ab_R o) (As := as.map (ab_sh ad)) (rest := (st.drop (ab_n t)).map (ab_sh ad)) ⟨hx, hb, hml, hown, hts⟩ hM (va_cwS (bytes := ab_c t) (maxL := ab_L t) (ret := ab_r t) (ws' := ab_gt) (ab_n t) hts (ab_goodS hm) rfl rfl rfl ⟨q3, q4, q5⟩ ⟨hfr, hlo2⟩) ⟨ab_blind, ab_pre hP hK hN⟩ rfl hAs hl.1 rfl (hroom _) hd ⟨hce, hsl⟩) hS hA (fun r μ' H1 locs1 hQ hP1 hS1 => ?_)
    rw [ab_pu_map]
    exact hQ H1 locs1 lsA hP1 hS1 hl
  · obtain ⟨w1, -, -⟩ := ab_okN _ hm
    obtain ⟨m1, m2, m3⟩ := ab_PMs k2
    rw [if_pos k3] at m3
    refine ab_cont (va_runSN (Ts := ab_gt) (own := ab_R o) (host := RX5) (As := as.map (ab_sh ad)) (rest := (st.drop (ab_n t)).map (ab_sh ad)) ⟨hx, hb, hml, hown, hts⟩ hM ⟨va_cnB (bytes := ab_c t) (maxL := ab_L t) (ret := ab_r t) (ws' := ab_gt) (ab_n t) hts (ab_goodw t k2) rfl rfl rfl (hN _ w1) (hts _ m2) ⟨q3, q4, q5⟩ ⟨hfr, hlo2⟩, hts _ m3, trivial⟩ ⟨ab_blind, ab_pre hP hK hN⟩ rfl hAs hl.1 rfl (hroom _) hd ⟨hce, hsl⟩) hS hA (fun r μ' H1 locs1 hQ hP1 hS1 => ?_)
    rw [ab_pu_map]
    exact hQ H1 locs1 lsA hP1 hS1 hl
end ABS
end
section
section ABT
variable {p : Program} {l : Launch} {e : Env} {R : Room} {s : State} {m : MethodId} {args : Array Value} {below : List Frame} {meth : Method} {c : Code} {cells slots : Nat} {Qz : State → Prop} {D : va_G} {ad : Nat → Nat} {cI cZ cR : ClassId} {nL o d : Nat} {A0 : Nat → Prop} {H0 : Heap} {cc : ByteArray}
theorem ab_math (X : ab_X p R s m args c cells slots D ad cI cZ cR nL o d A0 cc) {idx f pc : Nat} {μ : ab_M} {ls st : List Value} (hd : decode cc pc = .ok (.invokestatic idx, 3)) (hm : (o, idx, f) ∈ ab_cM) (h : ab_mf f (ab_Jc p l e R s m args below meth c cells slots Qz D ad cI cZ cR nL A0 H0) pc μ ls st) : ab_Jc p l e R s m args below meth c cells slots Qz D ad cI cZ cR nL A0 H0 pc μ ls st := by
  obtain ⟨hx, hb, hml, hown, hts, hK, hN, hinj, hA, hfr, hlo, hce, hsl⟩ := X
  obtain ⟨w1, w2⟩ := ab_okM _ hm
  have hini := hts _ ab_okS_i
  have key : ∀ r : List Value, r.length ≤ 4 → ((r.map (ab_sh ad)).map fun v => v.category).sum + 13 ≤ R.locals := fun r hr => by
    have := ab_sum_le (r.map (ab_sh ad)) (by rw [List.length_map]; exact hr)
    omega
  match f, h, w1 with
  | 0, h, w1 =>
    obtain ⟨x, r, rfl, h1, h2⟩ := ab_p1_e h
    exact fun H locs lsA hP hS hl => va_mabs hx hb (hml.trans hl.1.symm) hown (hts _ w1) (hts _ ab_okS_s0) hini (hts _ ab_okS_c0) (by omega) (key r h1) hce hsl hd (h2 H locs lsA hP hS hl)
  | 1, h, w1 =>
    obtain ⟨x, y, r, rfl, h1, h2⟩ := ab_p2_e h
    exact fun H locs lsA hP hS hl => va_mmax hx hb (hml.trans hl.1.symm) hown (hts _ w1) (hts _ ab_okS_s1) hini (hts _ ab_okS_c1) (by omega) (key r h1) hce hsl hd (h2 H locs lsA hP hS hl)
  | 2, h, w1 =>
    obtain ⟨x, y, r, rfl, h1, h2⟩ := ab_p2_e h
    exact fun H locs lsA hP hS hl => va_mmin hx hb (hml.trans hl.1.symm) hown (hts _ w1) (hts _ ab_okS_s2) hini (hts _ ab_okS_c2) (by omega) (key r h1) hce hsl hd (h2 H locs lsA hP hS hl)
  | n + 3, h, w1 => exact h.elim
theorem ab_E_obj {μ : ab_M} {a ci : Nat} (h : ab_ob a ci) (hc : ci < 7) : ab_ak a = 2 ∧ ab_E ad cI cZ cR μ a = .inr (ci, (List.range (ab_nf ci)).map (fun j => ab_sh ad (ab_fv μ a j))) := by
  obtain ⟨ha, hoc⟩ := h
  have hak : ab_ak a = 2 := by
    unfold ab_ak
    have : ¬ a = 1 := fun z => by subst z; rw [← hoc] at hc; exact absurd hc (by decide)
    rw [if_neg this, if_pos (by rw [hoc]; exact hc)]
  refine ⟨hak, ?_⟩
  unfold ab_E
  rw [if_neg (by rw [hak]; decide), if_pos hak, hoc]
theorem ab_E_arr {μ : ab_M} {a b : Nat} (h : ab_ak a = b) (hb : b < 2) : ab_E ad cI cZ cR μ a = .inl (if b = 1 then cZ else cI, ab_al a, .inl (fun j => if j < ab_al a then μ (ab_cmp a) (ab_off a + j) else 0)) := by
  unfold ab_E
  rw [if_neg (by omega), if_neg (by omega), h]
theorem ab_get (X : ab_X p R s m args c cells slots D ad cI cZ cR nL o d A0 cc) {idx pc a : Nat} {q : Nat × Nat} {μ : ab_M} {ls st : List Value} (hd : decode cc pc = .ok (.getfield idx, 3)) (hq : ab_ft o idx = some q) (ho : ab_ob a q.1) (h : ab_Jc p l e R s m args below meth c cells slots Qz D ad cI cZ cR nL A0 H0 (pc + 3) μ ls (ab_fv μ a q.2 :: st)) : ab_Jc p l e R s m args below meth c cells slots Qz D ad cI cZ cR nL A0 H0 pc μ ls (.ref a :: st) := by
  obtain ⟨hx, hb, hml, hown, hts, hK, hN, hinj, hA, hfr, hlo, hce, hsl⟩ := X
  obtain ⟨w1, w2, w3⟩ := ab_okF _ (ab_ft_mem hq)
  obtain ⟨hak, hE⟩ := ab_E_obj (ad := ad) (cI := cI) (cZ := cZ) (cR := cR) (μ := μ) ho w2
  intro H locs lsA hP hS hl
  have h0 := ab_ws_at (ad := ad) (cI := cI) (cZ := cZ) (cR := cR) (μ := μ) ho.1
  rw [hE] at h0
  refine va_get hx hb hts (ab_Tin w2) hown hK hP a h0 (ab_vw w2) q.2 w3 (hts _ w1) (fun _ h9 => h9) (v := ab_sh ad (ab_fv μ a q.2)) ?_ hd (h H locs lsA hP hS hl)
  rw [List.getElem?_map, List.getElem?_range w3]
  rfl
theorem ab_put (X : ab_X p R s m args c cells slots D ad cI cZ cR nL o d A0 cc) {idx pc a : Nat} {q : Nat × Nat} {μ : ab_M} {v : Int32} {ls st : List Value} (hd : decode cc pc = .ok (.putfield idx, 3)) (hq : ab_ft o idx = some q) (ho : ab_ob a q.1) (hr : ab_rf a q.2 = none) (hi : (ab_T q.1 q.2).2.2 = ("I", false)) (h : ab_Jc p l e R s m args below meth c cells slots Qz D ad cI cZ cR nL A0 H0 (pc + 3) (ab_up μ (ab_cmp a) (ab_off a + q.2) v) ls st) : ab_Jc p l e R s m args below meth c cells slots Qz D ad cI cZ cR nL A0 H0 pc μ ls (.int v :: .ref a :: st) := by
  obtain ⟨hx, hb, hml, hown, hts, hK, hN, hinj, hA, hfr, hlo, hce, hsl⟩ := X
  obtain ⟨w1, w2, w3⟩ := ab_okF _ (ab_ft_mem hq)
  obtain ⟨hak, hE⟩ := ab_E_obj (ad := ad) (cI := cI) (cZ := cZ) (cR := cR) (μ := μ) ho w2
  obtain ⟨-, hE2⟩ := ab_E_obj (ad := ad) (cI := cI) (cZ := cZ) (cR := cR) (μ := ab_up μ (ab_cmp a) (ab_off a + q.2) v) ho w2
  intro H locs lsA hP hS hl
  have h0 := ab_ws_at (ad := ad) (cI := cI) (cZ := cZ) (cR := cR) (μ := μ) ho.1
  rw [hE] at h0
  have hsz : q.2 < ab_sz a := by unfold ab_sz; rw [if_neg (by rw [hak]; decide), if_pos hak, ho.2]; exact w3
  have hset : (ab_ws ad cI cZ cR μ).set a (ad a, .inr (q.1, ((List.range (ab_nf q.1)).map (fun j => ab_sh ad (ab_fv μ a j))).set q.2 (.int v))) = ab_ws ad cI cZ cR (ab_up μ (ab_cmp a) (ab_off a + q.2) v) := by
    refine ab_ws_set ho.1 ?_ (fun k' hk' hne => ab_E_up ho.1 hk' hne hsz)
    rw [hE2]
    congr 2
    apply List.ext_getElem?
    intro i
    by_cases hi : i < ab_nf q.1
    · by_cases hk : i = q.2
      · subst hk
        rw [List.getElem?_set_self (by simpa using hi), List.getElem?_map, List.getElem?_range hi]
        simp only [Option.map_some, ab_fv, hr, ab_up_eq, ab_sh]
      · rw [List.getElem?_set_ne (Ne.symm hk), List.getElem?_map, List.getElem?_map, List.getElem?_range hi]
        simp only [Option.map_some, ab_fv]
        cases ab_rf a i with
        | some r => rfl
        | none => simp only [ab_sh]; rw [ab_up_ne (Or.inr (by omega))]
    · rw [List.getElem?_eq_none (by simpa using Nat.not_lt.mp hi), List.getElem?_eq_none (by simpa using Nat.not_lt.mp hi)]
  refine va_put hx hb hts (ab_Tin w2) (ab_tt q.1) (ab_tyok w2) (ab_nmok w2) hown hK hP (ab_D hinj hA) hS a h0 (ab_vw w2) q.2 w3 (hts _ w1) (fun _ h9 => h9) (by rw [hi]) (ty := .int) (v := .int v) (by rw [hi]; decide +kernel) rfl rfl (by simpa using w3) hd (fun H1 locs1 hP1 hD1 hS1 => ?_)
  rw [hset] at hP1
  exact h H1 locs1 lsA hP1 hS1 hl
theorem ab_putI : ∀ q : Nat × Nat, q.1 < 7 → q.2 < ab_nf q.1 → ∀ a, ab_ob a q.1 → ab_rf a q.2 = none → (ab_T q.1 q.2).2.2 = ("I", false) := by
  have key : ∀ a, a < 81 → ∀ j, j < ab_nf (ab_oc a) → ab_oc a < 7 → ab_rf a j = none → (ab_T (ab_oc a) j).2.2 = ("I", false) := by decide +kernel
  intro q h1 h2 a ⟨ha, hc⟩ hr
  have := key a ha q.2 (by rw [hc]; exact h2) (by rw [hc]; exact h1) hr
  rw [hc] at this
  exact this
theorem ab_in_lt {i : Int32} {n : Nat} (h : vp_in i n) : i.toNatClampNeg < n := Nat.not_le.mp fun q => h (Or.inr q)
theorem ab_iald (X : ab_X p R s m args c cells slots D ad cI cZ cR nL o d A0 cc) {pc a : Nat} {i : Int32} {μ : ab_M} {ls st : List Value} (hd : decode cc pc = .ok (.iaload, 1)) (ha : a < 81 ∧ ab_ak a = 0) (hin : vp_in i (ab_al a)) (h : ab_Jc p l e R s m args below meth c cells slots Qz D ad cI cZ cR nL A0 H0 (pc + 1) μ ls (.int (μ (ab_cmp a) (ab_off a + i.toNatClampNeg)) :: st)) : ab_Jc p l e R s m args below meth c cells slots Qz D ad cI cZ cR nL A0 H0 pc μ ls (.int i :: .ref a :: st) := by
  obtain ⟨hx, hb, hml, hown, hts, hK, hN, hinj, hA, hfr, hlo, hce, hsl⟩ := X
  intro H locs lsA hP hS hl
  have h0 := ab_ws_at (ad := ad) (cI := cI) (cZ := cZ) (cR := cR) (μ := μ) ha.1
  rw [ab_E_arr ha.2 (by decide)] at h0
  refine va_iald hx hb hK hP a 0 h0 rfl hin hd ?_
  have := h H locs lsA hP hS hl
  rw [if_pos (ab_in_lt hin)]
  exact this
theorem ab_zald (X : ab_X p R s m args c cells slots D ad cI cZ cR nL o d A0 cc) {pc a : Nat} {i : Int32} {μ : ab_M} {ls st : List Value} (hd : decode cc pc = .ok (.baload, 1)) (ha : a < 81 ∧ ab_ak a = 1) (hin : vp_in i (ab_al a)) (h : ab_Jc p l e R s m args below meth c cells slots Qz D ad cI cZ cR nL A0 H0 (pc + 1) μ ls (.int (μ (ab_cmp a) (ab_off a + i.toNatClampNeg)) :: st)) : ab_Jc p l e R s m args below meth c cells slots Qz D ad cI cZ cR nL A0 H0 pc μ ls (.int i :: .ref a :: st) := by
  obtain ⟨hx, hb, hml, hown, hts, hK, hN, hinj, hA, hfr, hlo, hce, hsl⟩ := X
  intro H locs lsA hP hS hl
  have h0 := ab_ws_at (ad := ad) (cI := cI) (cZ := cZ) (cR := cR) (μ := μ) ha.1
  rw [ab_E_arr ha.2 (by decide)] at h0
  refine va_zald hx hb hK hP a 1 h0 rfl hin hd ?_
  have := h H locs lsA hP hS hl
  rw [if_pos (ab_in_lt hin)]
  exact this
theorem ab_setA {a b : Nat} {i : Nat} {v : Int32} {μ : ab_M} (ha : a < 81 ∧ ab_ak a = b) (hb : b < 2) (hi : i < ab_al a) : (ab_ws ad cI cZ cR μ).set a (ad a, .inl (if b = 1 then cZ else cI, ab_al a, .inl (upd (fun j => if j < ab_al a then μ (ab_cmp a) (ab_off a + j) else 0) i v))) = ab_ws ad cI cZ cR (ab_up μ (ab_cmp a) (ab_off a + i) v) := by
  have hsz : i < ab_sz a := by unfold ab_sz; rw [if_neg (by omega), if_neg (by omega)]; exact hi
  refine ab_ws_set ha.1 ?_ (fun k' hk' hne => ab_E_up ha.1 hk' hne hsz)
  rw [ab_E_arr ha.2 hb]
  congr 4
  funext j
  unfold upd
  by_cases hj : j = i
  · subst hj
    rw [if_pos hi, if_pos rfl, ab_up_eq]
  · rw [if_neg hj]
    by_cases hl : j < ab_al a
    · simp only [if_pos hl]
      rw [ab_up_ne (Or.inr (by omega))]
    · simp only [if_neg hl]
theorem ab_iast (X : ab_X p R s m args c cells slots D ad cI cZ cR nL o d A0 cc) {pc a : Nat} {i v : Int32} {μ : ab_M} {ls st : List Value} (hd : decode cc pc = .ok (.iastore, 1)) (ha : a < 81 ∧ ab_ak a = 0) (hin : vp_in i (ab_al a)) (h : ab_Jc p l e R s m args below meth c cells slots Qz D ad cI cZ cR nL A0 H0 (pc + 1) (ab_up μ (ab_cmp a) (ab_off a + i.toNatClampNeg) v) ls st) : ab_Jc p l e R s m args below meth c cells slots Qz D ad cI cZ cR nL A0 H0 pc μ ls (.int v :: .int i :: .ref a :: st) := by
  obtain ⟨hx, hb, hml, hown, hts, hK, hN, hinj, hA, hfr, hlo, hce, hsl⟩ := X
  intro H locs lsA hP hS hl
  have h0 := ab_ws_at (ad := ad) (cI := cI) (cZ := cZ) (cR := cR) (μ := μ) ha.1
  rw [ab_E_arr ha.2 (by decide)] at h0
  refine va_iast hx hb hK hP (ab_D hinj hA) hS a 0 h0 rfl hin hd (fun H1 locs1 hP1 hD1 hS1 => ?_)
  rw [ab_setA ha (by decide) (ab_in_lt hin)] at hP1
  exact h H1 locs1 lsA hP1 hS1 hl
theorem ab_zast (X : ab_X p R s m args c cells slots D ad cI cZ cR nL o d A0 cc) {pc a : Nat} {i v : Int32} {μ : ab_M} {ls st : List Value} (hd : decode cc pc = .ok (.bastore, 1)) (ha : a < 81 ∧ ab_ak a = 1) (hin : vp_in i (ab_al a)) (hv : v = 0 ∨ v = 1) (h : ab_Jc p l e R s m args below meth c cells slots Qz D ad cI cZ cR nL A0 H0 (pc + 1) (ab_up μ (ab_cmp a) (ab_off a + i.toNatClampNeg) v) ls st) : ab_Jc p l e R s m args below meth c cells slots Qz D ad cI cZ cR nL A0 H0 pc μ ls (.int v :: .int i :: .ref a :: st) := by
  obtain ⟨hx, hb, hml, hown, hts, hK, hN, hinj, hA, hfr, hlo, hce, hsl⟩ := X
  intro H locs lsA hP hS hl
  have h0 := ab_ws_at (ad := ad) (cI := cI) (cZ := cZ) (cR := cR) (μ := μ) ha.1
  rw [ab_E_arr ha.2 (by decide)] at h0
  refine va_zast hx hb hK hP (ab_D hinj hA) hS a 1 h0 rfl hin hd (fun H1 locs1 hP1 hD1 hS1 => ?_)
  have hn : vp_nar .boolean v = v := by rcases hv with rfl | rfl <;> decide
  rw [hn, ab_setA ha (by decide) (ab_in_lt hin)] at hP1
  exact h H1 locs1 lsA hP1 hS1 hl
theorem ab_aald (X : ab_X p R s m args c cells slots D ad cI cZ cR nL o d A0 cc) {pc : Nat} {i : Int32} {μ : ab_M} {ls st : List Value} (hd : decode cc pc = .ok (.aaload, 1)) (hin : vp_in i 12) (h : ab_Jc p l e R s m args below meth c cells slots Qz D ad cI cZ cR nL A0 H0 (pc + 1) μ ls (.ref (17 + 4 * i.toNatClampNeg) :: st)) : ab_Jc p l e R s m args below meth c cells slots Qz D ad cI cZ cR nL A0 H0 pc μ ls (.int i :: .ref 1 :: st) := by
  obtain ⟨hx, hb, hml, hown, hts, hK, hN, hinj, hA, hfr, hlo, hce, hsl⟩ := X
  intro H locs lsA hP hS hl
  have h0 := ab_ws_at (ad := ad) (cI := cI) (cZ := cZ) (cR := cR) (μ := μ) (show 1 < 81 by decide)
  have hE : ab_E ad cI cZ cR μ 1 = .inl (cR, 12, .inr (.inr (.inr (.inr (fun i => some (ad (17 + 4 * i))))))) := by
    unfold ab_E
    rw [if_pos (by decide)]
  rw [hE] at h0
  exact va_aldq hx hb hK hP 1 2 h0 rfl hin hd (h H locs lsA hP hS hl)
end ABT
end
section
section ABU
variable {p : Program} {l : Launch} {e : Env} {R : Room} {s : State} {m : MethodId} {args : Array Value} {below : List Frame} {meth : Method} {c : Code} {cells slots : Nat} {Qz : State → Prop} {D : va_G} {ad : Nat → Nat} {cI cZ cR : ClassId} {nL o d : Nat} {A0 : Nat → Prop} {H0 : Heap} {cc : ByteArray}
theorem ab_ls_at {lsA : Array Slot} {ls : List Value} {i : Nat} {v : Value} (h : ab_ls ad lsA nL ls) (hv : ls[i]? = some v) (hn : v ≠ .null) : lsA[i]? = some (.val (ab_sh ad v)) := h.2.2.2.2 i v hv hn
theorem ab_if_else {H : Heap} {locs : List Loc} {pc : Nat} {lsA : Array Slot} {x : Int32} {r : List Value} {op : ClassFile.Cond} {off : Int} (hx : p.tables.exec = Jvm.exec) (hb : c.code = cc) (hd : decode cc pc = .ok (.ifCond op off, 3)) (hc : ¬ ab_c1 op x) (k : W p l e R s m args below meth c H locs cells slots Qz (F0 m (pc + 3) lsA r)) : W p l e R s m args below meth c H locs cells slots Qz (F0 m pc lsA (.int x :: r)) := by
  intro T hT X
  obtain ⟨t, a, b⟩ := k T hT X
  refine ⟨t, ?_, b⟩
  cases op <;> (simp only [ab_c1, Classical.not_not] at hc; jvm_step X.here [X.here.top, hx, hb, hd, Op.ifCond.holds, hc]; first | exact a | (rw [if_pos rfl]; exact a))
theorem ab_ic_else {H : Heap} {locs : List Loc} {pc : Nat} {lsA : Array Slot} {x y : Int32} {r : List Value} {op : ClassFile.Cond} {off : Int} (hx : p.tables.exec = Jvm.exec) (hb : c.code = cc) (hd : decode cc pc = .ok (.if_icmp op off, 3)) (hc : ¬ ab_c2 op x y) (k : W p l e R s m args below meth c H locs cells slots Qz (F0 m (pc + 3) lsA r)) : W p l e R s m args below meth c H locs cells slots Qz (F0 m pc lsA (.int y :: .int x :: r)) := by
  intro T hT X
  obtain ⟨t, a, b⟩ := k T hT X
  refine ⟨t, ?_, b⟩
  cases op <;> (simp only [ab_c2, Classical.not_not] at hc; jvm_step X.here [X.here.top, hx, hb, hd, Op.if_icmp.holds, hc]; first | exact a | (rw [if_pos rfl]; exact a))
theorem ab_stepJ (X : ab_X p R s m args c cells slots D ad cI cZ cR nL o d A0 cc) {cl : ab_CL} {rb : Nat} {Q : ab_Q}
    (HC : ∀ t as μ Q, t < ab_NM → as.length = ab_n t → (as.all ab_ok1) = true → cl t as μ Q → Met l (ab_y t) (ab_w t) (ab_rm d) (va_Pc (as.map (ab_sh ad)) (ab_MW D ad cI cZ cR μ)) (ab_Qc D ad cI cZ cR Q) 0 0 (ab_A ad))
    (HR : ∀ pc μ ls v, decode cc pc = .ok (.ireturn, 1) → (rb = 1 ∨ (rb = 2 ∧ (v = 0 ∨ v = 1))) → Q (some v) μ → ab_Jc p l e R s m args below meth c cells slots Qz D ad cI cZ cR nL A0 H0 pc μ ls [.int v])
    (HV : ∀ pc μ ls, decode cc pc = .ok (.return_, 1) → rb = 0 → Q none μ → ab_Jc p l e R s m args below meth c cells slots Qz D ad cI cZ cR nL A0 H0 pc μ ls [])
    {i : Instr} {n pc : Nat} {μ : ab_M} {ls st : List Value} (hd : decode cc pc = .ok (i, n)) (h : ab_ex cl o rb (ab_Jc p l e R s m args below meth c cells slots Qz D ad cI cZ cR nL A0 H0) (ab_Jc p l e R s m args below meth c cells slots Qz D ad cI cZ cR nL A0 H0) Q i n pc μ ls st) : ab_Jc p l e R s m args below meth c cells slots Qz D ad cI cZ cR nL A0 H0 pc μ ls st := by
  obtain ⟨hx, hb, -⟩ := id X
  cases i
  case iconst z => obtain ⟨rfl, h⟩ := h; exact fun H locs lsA hP hS hl => lv_iconst hx hb hd rfl (h H locs lsA hP hS hl)
  case bipush z => obtain ⟨rfl, h⟩ := h; exact fun H locs lsA hP hS hl => lv_bipush hx hb hd rfl (h H locs lsA hP hS hl)
  case sipush z => obtain ⟨rfl, h⟩ := h; exact fun H locs lsA hP hS hl => lv_sipush hx hb hd rfl (h H locs lsA hP hS hl)
  case iload_n k => obtain ⟨x, hv, rfl, h9⟩ := ab_li_e h; exact fun H locs lsA hP hS hl => lv_iload_n hx hb hd rfl (ab_ls_at hl hv (fun z => by cases z)) (h9 H locs lsA hP hS hl)
  case iload k => obtain ⟨x, hv, rfl, h9⟩ := ab_li_e h; exact fun H locs lsA hP hS hl => lv_iload hx hb hd (ab_ls_at hl hv (fun z => by cases z)) (h9 H locs lsA hP hS hl)
  case aload_n k => obtain ⟨x, hv, rfl, h9⟩ := ab_lr_e h; exact fun H locs lsA hP hS hl => lv_aload_n hx hb hd rfl (ab_ls_at hl hv (fun z => by cases z)) (h9 H locs lsA hP hS hl)
  case aload k => obtain ⟨x, hv, rfl, h9⟩ := ab_lr_e h; exact fun H locs lsA hP hS hl => lv_aload hx hb hd (ab_ls_at hl hv (fun z => by cases z)) (h9 H locs lsA hP hS hl)
  case istore_n k => obtain ⟨x, r, rfl, rfl, hk, h9⟩ := ab_p1_e h; exact fun H locs lsA hP hS hl => lv_istore_n hx hb hd rfl (ab_ls_has hl) (by rw [← hl.2.2.1]; exact hk) rfl (fun lsB hB => h9 H locs lsB hP hS (ab_ls_store hl hk rfl hB))
  case istore k => obtain ⟨x, r, rfl, rfl, hk, h9⟩ := ab_p1_e h; exact fun H locs lsA hP hS hl => lv_istore hx hb hd (ab_ls_has hl) (by rw [← hl.2.2.1]; exact hk) rfl (fun lsB hB => h9 H locs lsB hP hS (ab_ls_store hl hk rfl hB))
  case astore_n k => obtain ⟨x, r, rfl, rfl, hk, h9⟩ := ab_pr_e h; exact fun H locs lsA hP hS hl => lv_astore_n hx hb hd rfl (ab_ls_has hl) (by rw [← hl.2.2.1]; exact hk) rfl (fun lsB hB => h9 H locs lsB hP hS (ab_ls_store hl hk rfl hB))
  case astore k => obtain ⟨x, r, rfl, rfl, hk, h9⟩ := ab_pr_e h; exact fun H locs lsA hP hS hl => lv_astore hx hb hd (ab_ls_has hl) (by rw [← hl.2.2.1]; exact hk) rfl (fun lsB hB => h9 H locs lsB hP hS (ab_ls_store hl hk rfl hB))
  case iinc k z =>
    obtain ⟨x, hv, rfl, hk, h9⟩ := ab_li_e h
    intro H locs lsA hP hS hl
    obtain ⟨j, hj⟩ := List.getElem?_of_mem (ab_en_mem (ad := ad) (ls := ls) (q := (k, .int x)) |>.mpr ⟨.int x, hv, (fun z => by cases z), rfl⟩)
    exact lv_iinc hx hb hd (ab_ls_has hl) hj rfl (by rw [← hl.2.2.1]; exact hk) rfl (fun lsB hB => h9 H locs lsB hP hS (ab_ls_store hl hk rfl hB))
  case iadd => obtain ⟨x, y, r, rfl, rfl, h9⟩ := ab_p2_e h; exact fun H locs lsA hP hS hl => lv_iadd hx hb hd (h9 H locs lsA hP hS hl)
  case isub => obtain ⟨x, y, r, rfl, rfl, h9⟩ := ab_p2_e h; exact fun H locs lsA hP hS hl => lv_isub hx hb hd (h9 H locs lsA hP hS hl)
  case imul => obtain ⟨x, y, r, rfl, rfl, h9⟩ := ab_p2_e h; exact fun H locs lsA hP hS hl => lv_imul hx hb hd (h9 H locs lsA hP hS hl)
  case iand => obtain ⟨x, y, r, rfl, rfl, h9⟩ := ab_p2_e h; exact fun H locs lsA hP hS hl => lv_iand hx hb hd (h9 H locs lsA hP hS hl)
  case ior => obtain ⟨x, y, r, rfl, rfl, h9⟩ := ab_p2_e h; exact fun H locs lsA hP hS hl => lv_ior hx hb hd (h9 H locs lsA hP hS hl)
  case ishl => obtain ⟨x, y, r, rfl, rfl, h9⟩ := ab_p2_e h; exact fun H locs lsA hP hS hl => lv_ishl hx hb hd (h9 H locs lsA hP hS hl)
  case idiv => obtain ⟨x, y, r, rfl, rfl, h0, h9⟩ := ab_p2_e h; exact fun H locs lsA hP hS hl => lv_idiv hx hb hd h0 (h9 H locs lsA hP hS hl)
  case irem => obtain ⟨x, y, r, rfl, rfl, h0, h9⟩ := ab_p2_e h; exact fun H locs lsA hP hS hl => lv_irem hx hb hd h0 (h9 H locs lsA hP hS hl)
  case ineg => obtain ⟨x, r, rfl, rfl, h9⟩ := ab_p1_e h; exact fun H locs lsA hP hS hl => lv_ineg hx hb hd (h9 H locs lsA hP hS hl)
  case dup => obtain ⟨v, r, rfl, rfl, hv, h9⟩ := ab_pv_e h; exact fun H locs lsA hP hS hl => lv_dup hx hb hd (by rw [ab_sh_cat]; exact ab_ok_cat hv) (h9 H locs lsA hP hS hl)
  case dup2 => obtain ⟨v, w, r, rfl, rfl, hv, hw, h9⟩ := ab_pw_e h; exact fun H locs lsA hP hS hl => lv_dup2_11 hx hb hd (by rw [ab_sh_cat]; exact ab_ok_cat hv) (by rw [ab_sh_cat]; exact ab_ok_cat hw) (h9 H locs lsA hP hS hl)
  case ifCond op off =>
    obtain ⟨x, r, rfl, rfl, h1, h2⟩ := ab_p1_e h
    intro H locs lsA hP hS hl
    by_cases hc : ab_c1 op x
    · obtain ⟨tgt, ht, hj⟩ := ab_jp_e (h1 hc)
      have hj := hj H locs lsA hP hS hl
      cases op
      · exact lv_if_eq hx hb hd ht (fun _ => hj) (fun z => absurd hc z)
      · exact lv_if_ne hx hb hd ht (fun _ => hj) (fun z => absurd z hc)
      · exact lv_if_lt hx hb hd ht (fun _ => hj) (fun z => absurd hc z)
      · exact lv_if_ge hx hb hd ht (fun _ => hj) (fun z => absurd hc z)
      · exact lv_if_gt hx hb hd ht (fun _ => hj) (fun z => absurd hc z)
      · exact lv_if_le hx hb hd ht (fun _ => hj) (fun z => absurd hc z)
    · have hj := h2 hc H locs lsA hP hS hl
      exact ab_if_else hx hb hd hc hj
  case if_icmp op off =>
    obtain ⟨x, y, r, rfl, rfl, h1, h2⟩ := ab_p2_e h
    intro H locs lsA hP hS hl
    by_cases hc : ab_c2 op x y
    · obtain ⟨tgt, ht, hj⟩ := ab_jp_e (h1 hc)
      have hj := hj H locs lsA hP hS hl
      cases op
      · exact lv_icmp_eq hx hb hd ht (fun _ => hj) (fun z => absurd hc z)
      · exact lv_icmp_ne hx hb hd ht (fun _ => hj) (fun z => absurd z hc)
      · exact lv_icmp_lt hx hb hd ht (fun _ => hj) (fun z => absurd hc z)
      · exact lv_icmp_ge hx hb hd ht (fun _ => hj) (fun z => absurd hc z)
      · exact lv_icmp_gt hx hb hd ht (fun _ => hj) (fun z => absurd hc z)
      · exact lv_icmp_le hx hb hd ht (fun _ => hj) (fun z => absurd hc z)
    · have hj := h2 hc H locs lsA hP hS hl
      exact ab_ic_else hx hb hd hc hj
  case goto off => obtain ⟨rfl, h⟩ := h; obtain ⟨tgt, ht, hj⟩ := ab_jp_e h; exact fun H locs lsA hP hS hl => lv_goto hx hb hd ht (hj H locs lsA hP hS hl)
  case tableswitch df lo hi offs =>
    obtain ⟨x, r, rfl, h1, h2⟩ := ab_p1_e h
    intro H locs lsA hP hS hl
    by_cases hc : x.toInt < lo ∨ hi < x.toInt
    · obtain ⟨tgt, ht, hj⟩ := ab_jp_e (h1 hc)
      exact lv_tableOut hx hb hd hc ht (hj H locs lsA hP hS hl)
    · obtain ⟨off, ho, hj⟩ := h2 hc
      obtain ⟨tgt, ht, hj⟩ := ab_jp_e hj
      exact lv_tableIn hx hb hd (fun z => hc (Or.inl z)) (fun z => hc (Or.inr z)) ho ht (hj H locs lsA hP hS hl)
  case getfield idx => obtain ⟨a, r, rfl, rfl, q, h2, h3, h4⟩ := ab_pr_e h; exact ab_get X hd h2 h3 h4
  case putfield idx =>
    obtain ⟨v, a, r, rfl, rfl, q, h2, h3, h4, h5⟩ := ab_pi_e h
    obtain ⟨w1, w2, w3⟩ := ab_okF _ (ab_ft_mem h2)
    exact ab_put X hd h2 h3 h4 (ab_putI q w2 w3 a h3 h4) h5
  case iaload => obtain ⟨i, a, r, rfl, rfl, h2, h3, h4⟩ := ab_pi_e h; exact ab_iald X hd h2 h3 h4
  case baload => obtain ⟨i, a, r, rfl, rfl, h2, h3, h4⟩ := ab_pi_e h; exact ab_zald X hd h2 h3 h4
  case iastore => obtain ⟨v, i, a, r, rfl, rfl, h2, h3, h4⟩ := ab_ps_e h; exact ab_iast X hd h2 h3 h4
  case bastore => obtain ⟨v, i, a, r, rfl, rfl, h2, h3, h4, h5⟩ := ab_ps_e h; exact ab_zast X hd h2 h3 h4 h5
  case aaload => obtain ⟨i, a, r, rfl, rfl, rfl, h3, h4⟩ := ab_pi_e h; exact ab_aald X hd h3 h4
  case ireturn => obtain ⟨rfl, v, rfl, h3, h4⟩ := h; exact HR pc μ ls v hd h3 h4
  case return_ => obtain ⟨rfl, rfl, h2, h3⟩ := h; exact HV pc μ ls hd h2 h3
  case invokevirtual idx => obtain ⟨rfl, t, h2, h3⟩ := h; exact ab_callV X (fun as μ Q => HC t as μ Q) hd (ab_mt_mem h2) h3
  case invokestatic idx =>
    obtain ⟨rfl, q, h2, h3⟩ := h
    rcases ab_sc_e h2 with ⟨e1, hm⟩ | ⟨e1, hm⟩ | ⟨e1, hm⟩
    · rw [if_neg (by rw [e1]; decide)] at h3
      exact ab_callS X (fun as μ Q => HC q.2 as μ Q) hd (Or.inl hm) h3
    · rw [if_neg (by rw [e1]; decide)] at h3
      exact ab_callS X (fun as μ Q => HC q.2 as μ Q) hd (Or.inr hm) h3
    · rw [if_pos e1] at h3
      exact ab_math X hd hm h3
  all_goals exact h.elim
end ABU
theorem ab_sound (l : Launch) (D : va_G) (ad : Nat → Nat) (cI cZ cR : ClassId) (hinj : ∀ i j, i < 81 → j < 81 → ad i = ad j → i = j) : ∀ (d t : Nat) (as : List Value) (μ : ab_M) (Q : ab_Q), t < ab_NM → as.length = ab_n t → (as.all ab_ok1) = true → ab_Cl d t as μ Q → Met l (ab_y t) (ab_w t) (ab_rm d) (va_Pc (as.map (ab_sh ad)) (ab_MW D ad cI cZ cR μ)) (ab_Qc D ad cI cZ cR Q) 0 0 (ab_A ad) := by
  intro d
  induction d with
  | zero => intro t as μ Q _ _ _ h; exact h.elim
  | succ d ih =>
    intro t as μ Q ht hlen hok h
    have hq := ab_okM_at ht
    simp only [ab_okq, Bool.and_eq_true, decide_eq_true_eq] at hq
    obtain ⟨⟨⟨⟨q1, q2⟩, q3⟩, q4⟩, q5⟩ := hq
    have hn := ab_okn_at ht
    simp only [ab_okn, Bool.and_eq_true, decide_eq_true_eq, Bool.or_eq_true] at hn
    obtain ⟨⟨⟨⟨n1, n2⟩, n3⟩, n4⟩, n5⟩ := hn
    refine Met.ofW (cc := ab_c t) (maxL := ab_L t) (ret := ab_r t) (ws' := ab_gt) q2 rfl ?_
    intro p e s m args below meth c s₁ B hml hv
    obtain ⟨rfl, hP, hK, hN⟩ := hv
    have hts : ∀ w ∈ ab_gt, w.before _ s = true := fun w hw => atoms_spec (ws := ab_w t) B.pre w (List.mem_cons_of_mem _ hw)
    have hown : s.vm.findClass (ab_R (ab_o t)) = some m.cls := by rw [← q1]; exact findClass_of_methodNamed B.named
    have X : ab_X p (headSpec (ab_w t) (ab_rm (d + 1))).room s m (as.map (ab_sh ad)).toArray c 0 0 D ad cI cZ cR (ab_L t) (ab_o t) d (ab_A ad) (ab_c t) := ⟨B.exec, B.bytes, hml, hown, hts, hK, hN, hinj, fun _ h => h, Nat.le_refl _, Nat.le_refl _, Nat.zero_le _, Nat.zero_le _⟩
    have hr := B.returns
    have hlocks := B.notSynchronized
    have main := h (ab_Jc p l e (headSpec (ab_w t) (ab_rm (d + 1))).room s m (as.map (ab_sh ad)).toArray below meth c 0 0 (MQ below (ab_Qc D ad cI cZ cR Q) (as.map (ab_sh ad)).toArray s 0 0 (ab_A ad)) D ad cI cZ cR (ab_L t) (ab_A ad) s.heap) (fun pc μ ls st ⟨i, n, hd, hx⟩ => ab_stepJ X ih (fun pc μ ls v hd hb hQ => ?_) (fun pc μ ls hd hb hQ => ?_) hd hx)
    · have hS : va_S (ab_A ad) s.heap s.heap [] := va_S.rf
      rw [lg_entry_eq]
      have hsl : lg_sl (as.map (ab_sh ad)) = (as.map (ab_sh ad)).map Slot.val := by
        have key : ∀ as : List Value, (as.all ab_ok1) = true → lg_sl (as.map (ab_sh ad)) = (as.map (ab_sh ad)).map Slot.val := by
          intro as
          induction as with
          | nil => intro _; rfl
          | cons v r ihr =>
            intro hk
            simp only [List.all_cons, Bool.and_eq_true] at hk
            have hc : ¬ (ab_sh ad v).category = 2 := by rw [ab_sh_cat, ab_ok_cat hk.1]; decide
            have := ihr hk.2
            unfold lg_sl at this ⊢
            rw [List.map_cons, List.flatMap_cons, if_neg hc, this]
            rfl
        exact key as hok
      have hl := lv_entry (as.map (ab_sh ad)) (n := ab_L t) (by rw [hsl, List.length_map, List.length_map, hlen]; exact n1)
      refine main s.heap [] _ hP hS ⟨hl.1, hl.2.1, by rw [List.length_append, List.length_replicate, hlen]; omega, fun v hv => ?_, fun i v hv hnn => ?_⟩
      · rcases List.mem_append.mp hv with hv | hv
        · exact ab_ok_cat (List.all_eq_true.mp hok v hv)
        · rw [List.eq_of_mem_replicate hv]; rfl
      · by_cases hi : i < as.length
        · rw [List.getElem?_append_left hi] at hv
          rw [List.getElem?_toArray, hsl, List.getElem?_append_left (by simpa using hi), List.getElem?_map, List.getElem?_map, hv]
          rfl
        · rw [List.getElem?_append_right (by omega)] at hv
          exact absurd (List.eq_of_mem_replicate (List.mem_of_getElem? hv)) hnn
    · intro H locs lsA hP1 hS1 hl1
      have hq : ∀ t : State, t.heap = H → s.WarmedH t.vm → ab_Qc D ad cI cZ cR Q (as.map (ab_sh ad)).toArray s (.returned (some (.int v))) t := fun t ht hW => ⟨some v, μ, rfl, hQ, ⟨by rw [ht]; exact hP1, va_K.moved hW.alike hK, ab_nw_moved hN hW⟩, hS1.F ht⟩
      rcases n4 with (n4 | n4) | n4
      · rw [n4.2] at hb
        exact absurd hb (by simp)
      · rw [n4.1] at hr
        exact W.iret B.exec B.bytes hr hq hS1.2.2 hd
      · rw [n4.1] at hr
        rw [n4.2] at hb
        refine W.zret B.exec B.bytes hr ?_ hq hS1.2.2 hd
        rcases hb with hb | ⟨-, hb⟩
        · exact absurd hb (by decide)
        · rcases hb with rfl | rfl <;> rfl
    · intro H locs lsA hP1 hS1 hl1
      have hq : ∀ t : State, t.heap = H → s.WarmedH t.vm → ab_Qc D ad cI cZ cR Q (as.map (ab_sh ad)).toArray s (.returned none) t := fun t ht hW => ⟨none, μ, rfl, hQ, ⟨by rw [ht]; exact hP1, va_K.moved hW.alike hK, ab_nw_moved hN hW⟩, hS1.F ht⟩
      rcases n4 with (n4 | n4) | n4
      · rw [n4.1] at hr
        exact W.vret B.exec B.bytes hr hq hS1.2.2 hd
      · rw [n4.2] at hb
        exact absurd hb (by decide)
      · rw [n4.2] at hb
        exact absurd hb (by decide)
end
