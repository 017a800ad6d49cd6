section
-- ===== PART A: goes FIRST, ahead of the names: the tables' words, and 'selects' of the private methods out of them =====
/-- a private method of a class that the tables say can be made, by its rows of tables_1 -/
def lw_okq (q : MethodName × Nat) : Prop := (q.1.cls ≠ "java/lang/invoke/MethodHandle" ∧ q.1.cls ≠ "java/lang/invoke/VarHandle") ∧ Cond.instantiable q.1.cls q.2 ∈ tables_1 ∧ Cond.privateMethod q.1 ∈ tables_1 ∧ Cond.instanceMethod q.1 ∈ tables_1
theorem lw_p0 : lw_okq (⟨"WipePapers", "carrierHasSerial", "(J)Z"⟩, 8) := ⟨⟨by decide +kernel, by decide +kernel⟩, List.mem_of_getElem? (i := 8) (by decide +kernel), List.mem_of_getElem? (i := 58) (by decide +kernel), List.mem_of_getElem? (i := 59) (by decide +kernel)⟩
theorem lw_p1 : lw_okq (⟨"WipePapers", "findCarrier", "(I)LWipePapers$Carrier;"⟩, 8) := ⟨⟨by decide +kernel, by decide +kernel⟩, List.mem_of_getElem? (i := 8) (by decide +kernel), List.mem_of_getElem? (i := 62) (by decide +kernel), List.mem_of_getElem? (i := 63) (by decide +kernel)⟩
theorem lw_p2 : lw_okq (⟨"WipePapers", "findPaper", "(I)LWipePapers$Paper;"⟩, 8) := ⟨⟨by decide +kernel, by decide +kernel⟩, List.mem_of_getElem? (i := 8) (by decide +kernel), List.mem_of_getElem? (i := 242) (by decide +kernel), List.mem_of_getElem? (i := 243) (by decide +kernel)⟩
theorem lw_p3 : lw_okq (⟨"WipePapers", "listHasSerial", "(J)Z"⟩, 8) := ⟨⟨by decide +kernel, by decide +kernel⟩, List.mem_of_getElem? (i := 8) (by decide +kernel), List.mem_of_getElem? (i := 264) (by decide +kernel), List.mem_of_getElem? (i := 265) (by decide +kernel)⟩
theorem lw_p4 : lw_okq (⟨"WipePapersModel", "hasSerial", "(J)Z"⟩, 20) := ⟨⟨by decide +kernel, by decide +kernel⟩, List.mem_of_getElem? (i := 294) (by decide +kernel), List.mem_of_getElem? (i := 371) (by decide +kernel), List.mem_of_getElem? (i := 372) (by decide +kernel)⟩
theorem lw_p5 : lw_okq (⟨"WipePapersModel", "isCarrier", "(I)Z"⟩, 20) := ⟨⟨by decide +kernel, by decide +kernel⟩, List.mem_of_getElem? (i := 294) (by decide +kernel), List.mem_of_getElem? (i := 379) (by decide +kernel), List.mem_of_getElem? (i := 380) (by decide +kernel)⟩
theorem lw_p6 : lw_okq (⟨"WipePapersModel", "forget", "(I)V"⟩, 20) := ⟨⟨by decide +kernel, by decide +kernel⟩, List.mem_of_getElem? (i := 294) (by decide +kernel), List.mem_of_getElem? (i := 391) (by decide +kernel), List.mem_of_getElem? (i := 392) (by decide +kernel)⟩
theorem lw_p7 : lw_okq (⟨"WipePapersModel", "isPlace", "(II)Z"⟩, 20) := ⟨⟨by decide +kernel, by decide +kernel⟩, List.mem_of_getElem? (i := 294) (by decide +kernel), List.mem_of_getElem? (i := 403) (by decide +kernel), List.mem_of_getElem? (i := 404) (by decide +kernel)⟩
theorem lw_p8 : lw_okq (⟨"WipePapersModel", "isGone", "(I)Z"⟩, 20) := ⟨⟨by decide +kernel, by decide +kernel⟩, List.mem_of_getElem? (i := 294) (by decide +kernel), List.mem_of_getElem? (i := 407) (by decide +kernel), List.mem_of_getElem? (i := 408) (by decide +kernel)⟩
theorem lw_p9 : lw_okq (⟨"WipePapersModel", "isPaper", "(I)Z"⟩, 20) := ⟨⟨by decide +kernel, by decide +kernel⟩, List.mem_of_getElem? (i := 294) (by decide +kernel), List.mem_of_getElem? (i := 455) (by decide +kernel), List.mem_of_getElem? (i := 456) (by decide +kernel)⟩
theorem lw_p10 : lw_okq (⟨"WipePapersModel", "markOf", "(IJ)J"⟩, 20) := ⟨⟨by decide +kernel, by decide +kernel⟩, List.mem_of_getElem? (i := 294) (by decide +kernel), List.mem_of_getElem? (i := 464) (by decide +kernel), List.mem_of_getElem? (i := 465) (by decide +kernel)⟩
theorem lw_p11 : lw_okq (⟨"WipePapersModel", "isListed", "(J)Z"⟩, 20) := ⟨⟨by decide +kernel, by decide +kernel⟩, List.mem_of_getElem? (i := 294) (by decide +kernel), List.mem_of_getElem? (i := 478) (by decide +kernel), List.mem_of_getElem? (i := 479) (by decide +kernel)⟩
def lw_privs_1 : List (MethodName × Nat) := [(⟨"WipePapers", "carrierHasSerial", "(J)Z"⟩, 8), (⟨"WipePapers", "findCarrier", "(I)LWipePapers$Carrier;"⟩, 8), (⟨"WipePapers", "findPaper", "(I)LWipePapers$Paper;"⟩, 8), (⟨"WipePapers", "listHasSerial", "(J)Z"⟩, 8), (⟨"WipePapersModel", "hasSerial", "(J)Z"⟩, 20), (⟨"WipePapersModel", "isCarrier", "(I)Z"⟩, 20), (⟨"WipePapersModel", "forget", "(I)V"⟩, 20), (⟨"WipePapersModel", "isPlace", "(II)Z"⟩, 20), (⟨"WipePapersModel", "isGone", "(I)Z"⟩, 20), (⟨"WipePapersModel", "isPaper", "(I)Z"⟩, 20), (⟨"WipePapersModel", "markOf", "(IJ)J"⟩, 20), (⟨"WipePapersModel", "isListed", "(J)Z"⟩, 20)]
theorem lw_r1 : ∀ q ∈ lw_privs_1, lw_okq q := List.forall_mem_cons.mpr ⟨lw_p0, List.forall_mem_cons.mpr ⟨lw_p1, List.forall_mem_cons.mpr ⟨lw_p2, List.forall_mem_cons.mpr ⟨lw_p3, List.forall_mem_cons.mpr ⟨lw_p4, List.forall_mem_cons.mpr ⟨lw_p5, List.forall_mem_cons.mpr ⟨lw_p6, List.forall_mem_cons.mpr ⟨lw_p7, List.forall_mem_cons.mpr ⟨lw_p8, List.forall_mem_cons.mpr ⟨lw_p9, List.forall_mem_cons.mpr ⟨lw_p10, List.forall_mem_cons.mpr ⟨lw_p11, fun _ h => absurd h List.not_mem_nil⟩⟩⟩⟩⟩⟩⟩⟩⟩⟩⟩⟩
def lw_privs : List (MethodName × Nat) := lw_privs_1
def lw_tbl : List Cond := k2_sels lw_privs ++ tables_1
theorem lw_privs_ok : ∀ q ∈ lw_privs, lw_okq q := lw_r1

def aw_tb : List Cond := lw_tbl.filter goodWord
theorem aw_tb_good : aw_tb.all goodWord = true := List.all_eq_true.mpr (fun _ h => (List.mem_filter.mp h).2)
theorem tb_of {w : Cond} (i : Nat) (h : tables_1[i]? = some w) (g : goodWord w = true) : w ∈ aw_tb := List.mem_filter.mpr ⟨List.mem_append_right _ (List.mem_of_getElem? h), g⟩
theorem tb_sel {y : MethodName} (j : Nat) {n : Nat} (h : lw_privs[j]? = some (y, n)) : Cond.selects y.cls y y ∈ aw_tb := List.mem_filter.mpr ⟨List.mem_append_left _ (List.mem_map.mpr ⟨(y, n), List.mem_of_getElem? h, rfl⟩), rfl⟩
def T_C : u_T := fun k => match k with
  | 0 => ("WipePapers", "carriers", "[LWipePapers$Carrier;", true)
  | 1 => ("WipePapers", "carrierCount", "I", false)
  | 2 => ("WipePapers", "papers", "[LWipePapers$Paper;", true)
  | 3 => ("WipePapers", "paperCount", "I", false)
  | 4 => ("WipePapers", "list", "[J", true)
  | 5 => ("WipePapers", "listCount", "I", false)
  | 6 => ("WipePapers", "lostCarriers", "[I", true)
  | _ => ("WipePapers", "lostCount", "I", false)
def t_C : Nat → FieldType := fun k => match k with
  | 0 => .array (.object "WipePapers$Carrier")
  | 1 => .int
  | 2 => .array (.object "WipePapers$Paper")
  | 3 => .int
  | 4 => .array .long
  | 5 => .int
  | 6 => .array .int
  | _ => .int
def T_K : u_T := fun k => match k with
  | 0 => ("WipePapers$Carrier", "kind", "I", true)
  | 1 => ("WipePapers$Carrier", "serial", "J", true)
  | 2 => ("WipePapers$Carrier", "bytes", "[I", true)
  | 3 => ("WipePapers$Carrier", "due", "[I", true)
  | 4 => ("WipePapers$Carrier", "worn", "[Z", true)
  | 5 => ("WipePapers$Carrier", "wasRead", "[Z", true)
  | 6 => ("WipePapers$Carrier", "patterns", "[I", true)
  | 7 => ("WipePapers$Carrier", "passCount", "I", false)
  | 8 => ("WipePapers$Carrier", "readCount", "I", false)
  | 9 => ("WipePapers$Carrier", "unlikeCount", "I", false)
  | 10 => ("WipePapers$Carrier", "condition", "I", false)
  | _ => ("WipePapers$Carrier", "latestPerson", "I", false)
def t_K : Nat → FieldType := fun k => match k with
  | 0 => .int
  | 1 => .long
  | 2 => .array .int
  | 3 => .array .int
  | 4 => .array .boolean
  | 5 => .array .boolean
  | 6 => .array .int
  | 7 => .int
  | 8 => .int
  | 9 => .int
  | 10 => .int
  | _ => .int
def T_P : u_T := fun k => match k with
  | _ => ("WipePapers$Paper", "fields", "[I", true)
def t_P : Nat → FieldType := fun k => match k with
  | _ => .array .int
def T_R : u_T := fun k => match k with
  | 0 => ("WipePapersModel", "carriers", "I", false)
  | 1 => ("WipePapersModel", "kinds", "[I", true)
  | 2 => ("WipePapersModel", "serials", "[J", true)
  | 3 => ("WipePapersModel", "places", "[I", true)
  | 4 => ("WipePapersModel", "states", "[I", true)
  | 5 => ("WipePapersModel", "lasts", "[I", true)
  | 6 => ("WipePapersModel", "bytes", "[I", true)
  | 7 => ("WipePapersModel", "dues", "[I", true)
  | 8 => ("WipePapersModel", "failed", "[Z", true)
  | 9 => ("WipePapersModel", "read", "[Z", true)
  | 10 => ("WipePapersModel", "unlike", "[I", true)
  | 11 => ("WipePapersModel", "passes", "[I", true)
  | 12 => ("WipePapersModel", "patterns", "[I", true)
  | 13 => ("WipePapersModel", "papers", "I", false)
  | 14 => ("WipePapersModel", "fields", "[I", true)
  | 15 => ("WipePapersModel", "fieldCounts", "[I", true)
  | 16 => ("WipePapersModel", "listed", "I", false)
  | 17 => ("WipePapersModel", "list", "[J", true)
  | 18 => ("WipePapersModel", "losses", "I", false)
  | _ => ("WipePapersModel", "lostOnes", "[I", true)
def t_R : Nat → FieldType := fun k => match k with
  | 0 => .int
  | 1 => .array .int
  | 2 => .array .long
  | 3 => .array .int
  | 4 => .array .int
  | 5 => .array .int
  | 6 => .array .int
  | 7 => .array .int
  | 8 => .array .boolean
  | 9 => .array .boolean
  | 10 => .array .int
  | 11 => .array .int
  | 12 => .array .int
  | 13 => .int
  | 14 => .array .int
  | 15 => .array .int
  | 16 => .int
  | 17 => .array .long
  | 18 => .int
  | _ => .array .int
def aw_cl : List vw_C := [("WipePapers", T_C, 8), ("WipePapers$Carrier", T_K, 12), ("WipePapers$Paper", T_P, 1), ("WipePapersModel", T_R, 20)]
def aw_ty : List FieldType := [.int, .boolean, .long, .object "WipePapers$Carrier", .object "WipePapers$Paper"]
def aw_ao : List String := ["WipePapers$Carrier", "WipePapers$Paper"]
theorem tx_16 : (Cond.arrayOver (.object "WipePapers$Carrier")) ∈ lw_tbl := List.mem_append_right _ (List.mem_of_getElem? (i := 16) rfl)
theorem tx_18 : (Cond.arrayOver (.object "WipePapers$Paper")) ∈ lw_tbl := List.mem_append_right _ (List.mem_of_getElem? (i := 18) rfl)
theorem tx_179 : (Cond.methodLinkNest "WipePapers$Carrier" 58 ⟨"WipePapers", "patternByte", "(III)I"⟩ "WipePapers") ∈ lw_tbl := List.mem_append_right _ (List.mem_of_getElem? (i := 179) rfl)
def aw_nM : List (String × Nat × MethodName × String) := [("WipePapers$Carrier", 58, ⟨"WipePapers", "patternByte", "(III)I"⟩, "WipePapers")]
theorem ly_C_0 : u_lay "WipePapers" T_C 0 ∈ aw_tb := tb_of 27 rfl rfl
theorem ly_C_1 : u_lay "WipePapers" T_C 1 ∈ aw_tb := tb_of 29 rfl rfl
theorem ly_C_2 : u_lay "WipePapers" T_C 2 ∈ aw_tb := tb_of 31 rfl rfl
theorem ly_C_3 : u_lay "WipePapers" T_C 3 ∈ aw_tb := tb_of 33 rfl rfl
theorem ly_C_4 : u_lay "WipePapers" T_C 4 ∈ aw_tb := tb_of 35 rfl rfl
theorem ly_C_5 : u_lay "WipePapers" T_C 5 ∈ aw_tb := tb_of 37 rfl rfl
theorem ly_C_6 : u_lay "WipePapers" T_C 6 ∈ aw_tb := tb_of 39 rfl rfl
theorem ly_C_7 : u_lay "WipePapers" T_C 7 ∈ aw_tb := tb_of 41 rfl rfl
theorem lys_C : ∀ w ∈ u_ws "WipePapers" T_C 8, w ∈ aw_tb := by
  intro w hw
  obtain ⟨k, hk, rfl⟩ := List.mem_map.mp hw
  have hk := List.mem_range.mp hk
  match k, hk with
  | 0, _ => exact ly_C_0
  | 1, _ => exact ly_C_1
  | 2, _ => exact ly_C_2
  | 3, _ => exact ly_C_3
  | 4, _ => exact ly_C_4
  | 5, _ => exact ly_C_5
  | 6, _ => exact ly_C_6
  | 7, _ => exact ly_C_7
  | k + 8, hk => exact absurd hk (by omega)
theorem ly_K_0 : u_lay "WipePapers$Carrier" T_K 0 ∈ aw_tb := tb_of 92 rfl rfl
theorem ly_K_1 : u_lay "WipePapers$Carrier" T_K 1 ∈ aw_tb := tb_of 94 rfl rfl
theorem ly_K_2 : u_lay "WipePapers$Carrier" T_K 2 ∈ aw_tb := tb_of 96 rfl rfl
theorem ly_K_3 : u_lay "WipePapers$Carrier" T_K 3 ∈ aw_tb := tb_of 98 rfl rfl
theorem ly_K_4 : u_lay "WipePapers$Carrier" T_K 4 ∈ aw_tb := tb_of 100 rfl rfl
theorem ly_K_5 : u_lay "WipePapers$Carrier" T_K 5 ∈ aw_tb := tb_of 102 rfl rfl
theorem ly_K_6 : u_lay "WipePapers$Carrier" T_K 6 ∈ aw_tb := tb_of 104 rfl rfl
theorem ly_K_7 : u_lay "WipePapers$Carrier" T_K 7 ∈ aw_tb := tb_of 106 rfl rfl
theorem ly_K_8 : u_lay "WipePapers$Carrier" T_K 8 ∈ aw_tb := tb_of 108 rfl rfl
theorem ly_K_9 : u_lay "WipePapers$Carrier" T_K 9 ∈ aw_tb := tb_of 110 rfl rfl
theorem ly_K_10 : u_lay "WipePapers$Carrier" T_K 10 ∈ aw_tb := tb_of 112 rfl rfl
theorem ly_K_11 : u_lay "WipePapers$Carrier" T_K 11 ∈ aw_tb := tb_of 114 rfl rfl
theorem lys_K : ∀ w ∈ u_ws "WipePapers$Carrier" T_K 12, w ∈ aw_tb := by
  intro w hw
  obtain ⟨k, hk, rfl⟩ := List.mem_map.mp hw
  have hk := List.mem_range.mp hk
  match k, hk with
  | 0, _ => exact ly_K_0
  | 1, _ => exact ly_K_1
  | 2, _ => exact ly_K_2
  | 3, _ => exact ly_K_3
  | 4, _ => exact ly_K_4
  | 5, _ => exact ly_K_5
  | 6, _ => exact ly_K_6
  | 7, _ => exact ly_K_7
  | 8, _ => exact ly_K_8
  | 9, _ => exact ly_K_9
  | 10, _ => exact ly_K_10
  | 11, _ => exact ly_K_11
  | k + 12, hk => exact absurd hk (by omega)
theorem ly_P_0 : u_lay "WipePapers$Paper" T_P 0 ∈ aw_tb := tb_of 234 rfl rfl
theorem lys_P : ∀ w ∈ u_ws "WipePapers$Paper" T_P 1, w ∈ aw_tb := by
  intro w hw
  obtain ⟨k, hk, rfl⟩ := List.mem_map.mp hw
  have hk := List.mem_range.mp hk
  match k, hk with
  | 0, _ => exact ly_P_0
  | k + 1, hk => exact absurd hk (by omega)
theorem ly_R_0 : u_lay "WipePapersModel" T_R 0 ∈ aw_tb := tb_of 319 rfl rfl
theorem ly_R_1 : u_lay "WipePapersModel" T_R 1 ∈ aw_tb := tb_of 321 rfl rfl
theorem ly_R_2 : u_lay "WipePapersModel" T_R 2 ∈ aw_tb := tb_of 323 rfl rfl
theorem ly_R_3 : u_lay "WipePapersModel" T_R 3 ∈ aw_tb := tb_of 325 rfl rfl
theorem ly_R_4 : u_lay "WipePapersModel" T_R 4 ∈ aw_tb := tb_of 327 rfl rfl
theorem ly_R_5 : u_lay "WipePapersModel" T_R 5 ∈ aw_tb := tb_of 329 rfl rfl
theorem ly_R_6 : u_lay "WipePapersModel" T_R 6 ∈ aw_tb := tb_of 331 rfl rfl
theorem ly_R_7 : u_lay "WipePapersModel" T_R 7 ∈ aw_tb := tb_of 333 rfl rfl
theorem ly_R_8 : u_lay "WipePapersModel" T_R 8 ∈ aw_tb := tb_of 335 rfl rfl
theorem ly_R_9 : u_lay "WipePapersModel" T_R 9 ∈ aw_tb := tb_of 337 rfl rfl
theorem ly_R_10 : u_lay "WipePapersModel" T_R 10 ∈ aw_tb := tb_of 339 rfl rfl
theorem ly_R_11 : u_lay "WipePapersModel" T_R 11 ∈ aw_tb := tb_of 341 rfl rfl
theorem ly_R_12 : u_lay "WipePapersModel" T_R 12 ∈ aw_tb := tb_of 343 rfl rfl
theorem ly_R_13 : u_lay "WipePapersModel" T_R 13 ∈ aw_tb := tb_of 345 rfl rfl
theorem ly_R_14 : u_lay "WipePapersModel" T_R 14 ∈ aw_tb := tb_of 347 rfl rfl
theorem ly_R_15 : u_lay "WipePapersModel" T_R 15 ∈ aw_tb := tb_of 349 rfl rfl
theorem ly_R_16 : u_lay "WipePapersModel" T_R 16 ∈ aw_tb := tb_of 351 rfl rfl
theorem ly_R_17 : u_lay "WipePapersModel" T_R 17 ∈ aw_tb := tb_of 353 rfl rfl
theorem ly_R_18 : u_lay "WipePapersModel" T_R 18 ∈ aw_tb := tb_of 355 rfl rfl
theorem ly_R_19 : u_lay "WipePapersModel" T_R 19 ∈ aw_tb := tb_of 357 rfl rfl
theorem lys_R : ∀ w ∈ u_ws "WipePapersModel" T_R 20, w ∈ aw_tb := by
  intro w hw
  obtain ⟨k, hk, rfl⟩ := List.mem_map.mp hw
  have hk := List.mem_range.mp hk
  match k, hk with
  | 0, _ => exact ly_R_0
  | 1, _ => exact ly_R_1
  | 2, _ => exact ly_R_2
  | 3, _ => exact ly_R_3
  | 4, _ => exact ly_R_4
  | 5, _ => exact ly_R_5
  | 6, _ => exact ly_R_6
  | 7, _ => exact ly_R_7
  | 8, _ => exact ly_R_8
  | 9, _ => exact ly_R_9
  | 10, _ => exact ly_R_10
  | 11, _ => exact ly_R_11
  | 12, _ => exact ly_R_12
  | 13, _ => exact ly_R_13
  | 14, _ => exact ly_R_14
  | 15, _ => exact ly_R_15
  | 16, _ => exact ly_R_16
  | 17, _ => exact ly_R_17
  | 18, _ => exact ly_R_18
  | 19, _ => exact ly_R_19
  | k + 20, hk => exact absurd hk (by omega)
abbrev M_C_init : MethodName × ByteArray × Nat × Option FieldType := (⟨"WipePapers", "<init>", "()V"⟩, prog_1_method_1_code, 1, (none : Option Jvm.ClassFile.FieldType))
abbrev M_C_carrier : MethodName × ByteArray × Nat × Option FieldType := (⟨"WipePapers", "carrier", "(IJI)I"⟩, prog_1_method_2_code, 5, (some .int))
abbrev M_C_within : MethodName × ByteArray × Nat × Option FieldType := (⟨"WipePapers", "within", "(III)Z"⟩, prog_1_method_28_code, 3, (some .boolean))
abbrev M_C_isSerial : MethodName × ByteArray × Nat × Option FieldType := (⟨"WipePapers", "isSerial", "(J)Z"⟩, prog_1_method_30_code, 2, (some .boolean))
abbrev M_C_carrierHasSerial : MethodName × ByteArray × Nat × Option FieldType := (⟨"WipePapers", "carrierHasSerial", "(J)Z"⟩, prog_1_method_26_code, 5, (some .boolean))
abbrev M_C_findCarrier : MethodName × ByteArray × Nat × Option FieldType := (⟨"WipePapers", "findCarrier", "(I)LWipePapers$Carrier;"⟩, prog_1_method_24_code, 2, (some (.object "WipePapers$Carrier")))
abbrev M_K_init : MethodName × ByteArray × Nat × Option FieldType := (⟨"WipePapers$Carrier", "<init>", "(IJI)V"⟩, prog_2_method_1_code, 5, (none : Option Jvm.ClassFile.FieldType))
abbrev M_C_state : MethodName × ByteArray × Nat × Option FieldType := (⟨"WipePapers", "state", "(I)I"⟩, prog_1_method_3_code, 3, (some .int))
abbrev M_C_event : MethodName × ByteArray × Nat × Option FieldType := (⟨"WipePapers", "event", "(III)Z"⟩, prog_1_method_4_code, 5, (some .boolean))
abbrev M_C_isPerson : MethodName × ByteArray × Nat × Option FieldType := (⟨"WipePapers", "isPerson", "(I)Z"⟩, prog_1_method_29_code, 1, (some .boolean))
abbrev M_C_leadsFrom : MethodName × ByteArray × Nat × Option FieldType := (⟨"WipePapers", "leadsFrom", "(II)Z"⟩, prog_1_method_31_code, 2, (some .boolean))
abbrev M_K_forgetPasses : MethodName × ByteArray × Nat × Option FieldType := (⟨"WipePapers$Carrier", "forgetPasses", "()V"⟩, prog_2_method_6_code, 1, (none : Option Jvm.ClassFile.FieldType))
abbrev M_K_forgetReads : MethodName × ByteArray × Nat × Option FieldType := (⟨"WipePapers$Carrier", "forgetReads", "()V"⟩, prog_2_method_7_code, 2, (none : Option Jvm.ClassFile.FieldType))
abbrev M_C_leadsTo : MethodName × ByteArray × Nat × Option FieldType := (⟨"WipePapers", "leadsTo", "(I)I"⟩, prog_1_method_32_code, 1, (some .int))
abbrev M_C_last : MethodName × ByteArray × Nat × Option FieldType := (⟨"WipePapers", "last", "(I)I"⟩, prog_1_method_5_code, 3, (some .int))
abbrev M_C_fail : MethodName × ByteArray × Nat × Option FieldType := (⟨"WipePapers", "fail", "(II)Z"⟩, prog_1_method_6_code, 4, (some .boolean))
abbrev M_K_isGone : MethodName × ByteArray × Nat × Option FieldType := (⟨"WipePapers$Carrier", "isGone", "()Z"⟩, prog_2_method_3_code, 1, (some .boolean))
abbrev M_K_wearOut : MethodName × ByteArray × Nat × Option FieldType := (⟨"WipePapers$Carrier", "wearOut", "(I)Z"⟩, prog_2_method_4_code, 2, (some .boolean))
abbrev M_K_hasPlace : MethodName × ByteArray × Nat × Option FieldType := (⟨"WipePapers$Carrier", "hasPlace", "(I)Z"⟩, prog_2_method_2_code, 2, (some .boolean))
abbrev M_C_failed : MethodName × ByteArray × Nat × Option FieldType := (⟨"WipePapers", "failed", "(II)I"⟩, prog_1_method_7_code, 4, (some .int))
abbrev M_K_wornPlace : MethodName × ByteArray × Nat × Option FieldType := (⟨"WipePapers$Carrier", "wornPlace", "(I)I"⟩, prog_2_method_5_code, 4, (some .int))
abbrev M_C_pass : MethodName × ByteArray × Nat × Option FieldType := (⟨"WipePapers", "pass", "(II)I"⟩, prog_1_method_8_code, 4, (some .int))
abbrev M_K_overwrite : MethodName × ByteArray × Nat × Option FieldType := (⟨"WipePapers$Carrier", "overwrite", "(I)I"⟩, prog_2_method_8_code, 3, (some .int))
abbrev M_C_patternByte : MethodName × ByteArray × Nat × Option FieldType := (⟨"WipePapers", "patternByte", "(III)I"⟩, prog_1_method_33_code, 3, (some .int))
abbrev M_C_byteAt : MethodName × ByteArray × Nat × Option FieldType := (⟨"WipePapers", "byteAt", "(II)I"⟩, prog_1_method_9_code, 4, (some .int))
abbrev M_C_read : MethodName × ByteArray × Nat × Option FieldType := (⟨"WipePapers", "read", "(III)I"⟩, prog_1_method_10_code, 5, (some .int))
abbrev M_K_takeReading : MethodName × ByteArray × Nat × Option FieldType := (⟨"WipePapers$Carrier", "takeReading", "(II)I"⟩, prog_2_method_9_code, 4, (some .int))
abbrev M_C_unlike : MethodName × ByteArray × Nat × Option FieldType := (⟨"WipePapers", "unlike", "(I)I"⟩, prog_1_method_11_code, 3, (some .int))
abbrev M_C_odds : MethodName × ByteArray × Nat × Option FieldType := (⟨"WipePapers", "odds", "(IIII)J"⟩, prog_1_method_12_code, 11, (some .long))
abbrev M_C_waysToChoose : MethodName × ByteArray × Nat × Option FieldType := (⟨"WipePapers", "waysToChoose", "(II)J"⟩, prog_1_method_34_code, 5, (some .long))
abbrev M_C_commonDivisor : MethodName × ByteArray × Nat × Option FieldType := (⟨"WipePapers", "commonDivisor", "(JJ)J"⟩, prog_1_method_35_code, 11, (some .long))
abbrev M_A_maxL : MethodName × ByteArray × Nat × Option FieldType := (⟨"java/lang/Math", "max", "(JJ)J"⟩, prog_7_method_66_code, 4, (some .long))
abbrev M_C_shred : MethodName × ByteArray × Nat × Option FieldType := (⟨"WipePapers", "shred", "(II)Z"⟩, prog_1_method_13_code, 4, (some .boolean))
abbrev M_C_paper : MethodName × ByteArray × Nat × Option FieldType := (⟨"WipePapers", "paper", "(III)I"⟩, prog_1_method_14_code, 5, (some .int))
abbrev M_P_init : MethodName × ByteArray × Nat × Option FieldType := (⟨"WipePapers$Paper", "<init>", "(ILWipePapers$Carrier;II)V"⟩, prog_3_method_1_code, 7, (none : Option Jvm.ClassFile.FieldType))
abbrev M_A_minI : MethodName × ByteArray × Nat × Option FieldType := (⟨"java/lang/Math", "min", "(II)I"⟩, prog_7_method_69_code, 2, (some .int))
abbrev M_A_maxI : MethodName × ByteArray × Nat × Option FieldType := (⟨"java/lang/Math", "max", "(II)I"⟩, prog_7_method_65_code, 2, (some .int))
abbrev M_C_at : MethodName × ByteArray × Nat × Option FieldType := (⟨"WipePapers", "at", "(II)I"⟩, prog_1_method_15_code, 4, (some .int))
abbrev M_C_findPaper : MethodName × ByteArray × Nat × Option FieldType := (⟨"WipePapers", "findPaper", "(I)LWipePapers$Paper;"⟩, prog_1_method_25_code, 2, (some (.object "WipePapers$Paper")))
abbrev M_C_mark : MethodName × ByteArray × Nat × Option FieldType := (⟨"WipePapers", "mark", "(IJI)I"⟩, prog_1_method_16_code, 7, (some .int))
abbrev M_P_markBy : MethodName × ByteArray × Nat × Option FieldType := (⟨"WipePapers$Paper", "markBy", "(J)J"⟩, prog_3_method_2_code, 6, (some .long))
abbrev M_C_check : MethodName × ByteArray × Nat × Option FieldType := (⟨"WipePapers", "check", "(IJJ)Z"⟩, prog_1_method_17_code, 7, (some .boolean))
abbrev M_C_listed : MethodName × ByteArray × Nat × Option FieldType := (⟨"WipePapers", "listed", "(J)I"⟩, prog_1_method_18_code, 3, (some .int))
abbrev M_C_listHasSerial : MethodName × ByteArray × Nat × Option FieldType := (⟨"WipePapers", "listHasSerial", "(J)Z"⟩, prog_1_method_27_code, 4, (some .boolean))
abbrev M_C_missing : MethodName × ByteArray × Nat × Option FieldType := (⟨"WipePapers", "missing", "(I)I"⟩, prog_1_method_19_code, 4, (some .int))
abbrev M_C_extra : MethodName × ByteArray × Nat × Option FieldType := (⟨"WipePapers", "extra", "(I)I"⟩, prog_1_method_20_code, 5, (some .int))
abbrev M_C_lost : MethodName × ByteArray × Nat × Option FieldType := (⟨"WipePapers", "lost", "(I)I"⟩, prog_1_method_21_code, 3, (some .int))
abbrev M_C_told : MethodName × ByteArray × Nat × Option FieldType := (⟨"WipePapers", "told", "(I)I"⟩, prog_1_method_22_code, 2, (some .int))
abbrev M_C_states : MethodName × ByteArray × Nat × Option FieldType := (⟨"WipePapers", "states", "()I"⟩, prog_1_method_23_code, 4, (some .int))
abbrev M_I_bitCount : MethodName × ByteArray × Nat × Option FieldType := (⟨"java/lang/Integer", "bitCount", "(I)I"⟩, prog_6_method_49_code, 1, (some .int))
abbrev M_R_init : MethodName × ByteArray × Nat × Option FieldType := (⟨"WipePapersModel", "<init>", "()V"⟩, prog_5_method_1_code, 1, (none : Option Jvm.ClassFile.FieldType))
abbrev M_R_carrier : MethodName × ByteArray × Nat × Option FieldType := (⟨"WipePapersModel", "carrier", "(IJI)I"⟩, prog_5_method_8_code, 5, (some .int))
abbrev M_R_isIn : MethodName × ByteArray × Nat × Option FieldType := (⟨"WipePapersModel", "isIn", "(JJJ)Z"⟩, prog_5_method_3_code, 6, (some .boolean))
abbrev M_R_hasSerial : MethodName × ByteArray × Nat × Option FieldType := (⟨"WipePapersModel", "hasSerial", "(J)Z"⟩, prog_5_method_7_code, 5, (some .boolean))
abbrev M_R_state : MethodName × ByteArray × Nat × Option FieldType := (⟨"WipePapersModel", "state", "(I)I"⟩, prog_5_method_9_code, 2, (some .int))
abbrev M_R_isCarrier : MethodName × ByteArray × Nat × Option FieldType := (⟨"WipePapersModel", "isCarrier", "(I)Z"⟩, prog_5_method_4_code, 2, (some .boolean))
abbrev M_R_event : MethodName × ByteArray × Nat × Option FieldType := (⟨"WipePapersModel", "event", "(III)Z"⟩, prog_5_method_11_code, 4, (some .boolean))
abbrev M_R_leads : MethodName × ByteArray × Nat × Option FieldType := (⟨"WipePapersModel", "leads", "(II)I"⟩, prog_5_method_10_code, 2, (some .int))
abbrev M_R_forget : MethodName × ByteArray × Nat × Option FieldType := (⟨"WipePapersModel", "forget", "(I)V"⟩, prog_5_method_15_code, 3, (none : Option Jvm.ClassFile.FieldType))
abbrev M_R_last : MethodName × ByteArray × Nat × Option FieldType := (⟨"WipePapersModel", "last", "(I)I"⟩, prog_5_method_12_code, 2, (some .int))
abbrev M_R_fail : MethodName × ByteArray × Nat × Option FieldType := (⟨"WipePapersModel", "fail", "(II)Z"⟩, prog_5_method_13_code, 3, (some .boolean))
abbrev M_R_isPlace : MethodName × ByteArray × Nat × Option FieldType := (⟨"WipePapersModel", "isPlace", "(II)Z"⟩, prog_5_method_5_code, 3, (some .boolean))
abbrev M_R_isGone : MethodName × ByteArray × Nat × Option FieldType := (⟨"WipePapersModel", "isGone", "(I)Z"⟩, prog_5_method_6_code, 2, (some .boolean))
abbrev M_R_failed : MethodName × ByteArray × Nat × Option FieldType := (⟨"WipePapersModel", "failed", "(II)I"⟩, prog_5_method_14_code, 5, (some .int))
abbrev M_R_pass : MethodName × ByteArray × Nat × Option FieldType := (⟨"WipePapersModel", "pass", "(II)I"⟩, prog_5_method_16_code, 5, (some .int))
abbrev M_R_byteAt : MethodName × ByteArray × Nat × Option FieldType := (⟨"WipePapersModel", "byteAt", "(II)I"⟩, prog_5_method_17_code, 3, (some .int))
abbrev M_R_read : MethodName × ByteArray × Nat × Option FieldType := (⟨"WipePapersModel", "read", "(III)I"⟩, prog_5_method_18_code, 7, (some .int))
abbrev M_R_unlike : MethodName × ByteArray × Nat × Option FieldType := (⟨"WipePapersModel", "unlike", "(I)I"⟩, prog_5_method_19_code, 2, (some .int))
abbrev M_R_odds : MethodName × ByteArray × Nat × Option FieldType := (⟨"WipePapersModel", "odds", "(IIII)J"⟩, prog_5_method_21_code, 14, (some .long))
abbrev M_R_common : MethodName × ByteArray × Nat × Option FieldType := (⟨"WipePapersModel", "common", "(JJ)J"⟩, prog_5_method_20_code, 10, (some .long))
abbrev M_R_shred : MethodName × ByteArray × Nat × Option FieldType := (⟨"WipePapersModel", "shred", "(II)Z"⟩, prog_5_method_22_code, 3, (some .boolean))
abbrev M_R_paper : MethodName × ByteArray × Nat × Option FieldType := (⟨"WipePapersModel", "paper", "(III)I"⟩, prog_5_method_23_code, 6, (some .int))
abbrev M_R_at : MethodName × ByteArray × Nat × Option FieldType := (⟨"WipePapersModel", "at", "(II)I"⟩, prog_5_method_25_code, 3, (some .int))
abbrev M_R_isPaper : MethodName × ByteArray × Nat × Option FieldType := (⟨"WipePapersModel", "isPaper", "(I)Z"⟩, prog_5_method_24_code, 2, (some .boolean))
abbrev M_R_mark : MethodName × ByteArray × Nat × Option FieldType := (⟨"WipePapersModel", "mark", "(IJI)I"⟩, prog_5_method_27_code, 5, (some .int))
abbrev M_R_markOf : MethodName × ByteArray × Nat × Option FieldType := (⟨"WipePapersModel", "markOf", "(IJ)J"⟩, prog_5_method_26_code, 7, (some .long))
abbrev M_R_check : MethodName × ByteArray × Nat × Option FieldType := (⟨"WipePapersModel", "check", "(IJJ)Z"⟩, prog_5_method_28_code, 8, (some .boolean))
abbrev M_R_listed : MethodName × ByteArray × Nat × Option FieldType := (⟨"WipePapersModel", "listed", "(J)I"⟩, prog_5_method_30_code, 3, (some .int))
abbrev M_R_isListed : MethodName × ByteArray × Nat × Option FieldType := (⟨"WipePapersModel", "isListed", "(J)Z"⟩, prog_5_method_29_code, 5, (some .boolean))
abbrev M_R_missing : MethodName × ByteArray × Nat × Option FieldType := (⟨"WipePapersModel", "missing", "(I)I"⟩, prog_5_method_31_code, 4, (some .int))
abbrev M_R_extra : MethodName × ByteArray × Nat × Option FieldType := (⟨"WipePapersModel", "extra", "(I)I"⟩, prog_5_method_32_code, 4, (some .int))
abbrev M_R_lost : MethodName × ByteArray × Nat × Option FieldType := (⟨"WipePapersModel", "lost", "(I)I"⟩, prog_5_method_33_code, 2, (some .int))
abbrev M_R_told : MethodName × ByteArray × Nat × Option FieldType := (⟨"WipePapersModel", "told", "(I)I"⟩, prog_5_method_34_code, 2, (some .int))
abbrev M_R_states : MethodName × ByteArray × Nat × Option FieldType := (⟨"WipePapersModel", "states", "()I"⟩, prog_5_method_35_code, 5, (some .int))
theorem tw_0 : (Cond.initialized "WipePapersLaw") ∈ aw_tb := tb_of 0 rfl rfl
theorem tw_1 : (Cond.initialized "WipePapers") ∈ aw_tb := tb_of 1 rfl rfl
theorem tw_2 : (Cond.initialized "WipePapersModel") ∈ aw_tb := tb_of 2 rfl rfl
theorem tw_3 : (Cond.initialized "WipePapers$Carrier") ∈ aw_tb := tb_of 3 rfl rfl
theorem tw_4 : (Cond.initialized "java/lang/Math") ∈ aw_tb := tb_of 4 rfl rfl
theorem tw_5 : (Cond.initialized "WipePapers$Paper") ∈ aw_tb := tb_of 5 rfl rfl
theorem tw_6 : (Cond.initialized "java/lang/Integer") ∈ aw_tb := tb_of 6 rfl rfl
theorem tw_7 : (Cond.classLink "WipePapersLaw" 7 "WipePapers") ∈ aw_tb := tb_of 7 rfl rfl
theorem tw_8 : (Cond.instantiable "WipePapers" 8) ∈ aw_tb := tb_of 8 rfl rfl
theorem tw_9 : (Cond.methodLink "WipePapersLaw" 9 ⟨"WipePapers", "<init>", "()V"⟩) ∈ aw_tb := tb_of 9 rfl rfl
theorem tw_10 : (Cond.instanceMethod ⟨"WipePapers", "<init>", "()V"⟩) ∈ aw_tb := tb_of 10 rfl rfl
theorem tw_11 : (Cond.code ⟨"WipePapers", "<init>", "()V"⟩ prog_1_method_1_code 1 (none : Option Jvm.ClassFile.FieldType)) ∈ aw_tb := tb_of 11 rfl rfl
theorem tw_12 : (Cond.methodLink "WipePapers" 1 ⟨"java/lang/Object", "<init>", "()V"⟩) ∈ aw_tb := tb_of 12 rfl rfl
theorem tw_13 : (Cond.instanceMethod ⟨"java/lang/Object", "<init>", "()V"⟩) ∈ aw_tb := tb_of 13 rfl rfl
theorem tw_14 : (Cond.code ⟨"java/lang/Object", "<init>", "()V"⟩ object_method_1_code 1 (none : Option Jvm.ClassFile.FieldType)) ∈ aw_tb := tb_of 14 rfl rfl
theorem tw_15 : (Cond.classLink "WipePapers" 9 "WipePapers$Carrier") ∈ aw_tb := tb_of 15 rfl rfl
theorem tw_17 : (Cond.classLink "WipePapers" 19 "WipePapers$Paper") ∈ aw_tb := tb_of 17 rfl rfl
theorem tw_19 : (Cond.fieldLink "WipePapers" 11 "WipePapers" "carriers" "[LWipePapers$Carrier;") ∈ aw_tb := tb_of 19 rfl rfl
theorem tw_20 : (Cond.fieldLink "WipePapers" 15 "WipePapers" "carrierCount" "I") ∈ aw_tb := tb_of 20 rfl rfl
theorem tw_21 : (Cond.fieldLink "WipePapers" 21 "WipePapers" "papers" "[LWipePapers$Paper;") ∈ aw_tb := tb_of 21 rfl rfl
theorem tw_22 : (Cond.fieldLink "WipePapers" 25 "WipePapers" "paperCount" "I") ∈ aw_tb := tb_of 22 rfl rfl
theorem tw_23 : (Cond.fieldLink "WipePapers" 28 "WipePapers" "list" "[J") ∈ aw_tb := tb_of 23 rfl rfl
theorem tw_24 : (Cond.fieldLink "WipePapers" 32 "WipePapers" "listCount" "I") ∈ aw_tb := tb_of 24 rfl rfl
theorem tw_25 : (Cond.fieldLink "WipePapers" 35 "WipePapers" "lostCarriers" "[I") ∈ aw_tb := tb_of 25 rfl rfl
theorem tw_26 : (Cond.fieldLink "WipePapers" 39 "WipePapers" "lostCount" "I") ∈ aw_tb := tb_of 26 rfl rfl
theorem tw_44 : (Cond.arrayClass .long) ∈ aw_tb := tb_of 44 rfl rfl
theorem tw_45 : (Cond.arrayClass .int) ∈ aw_tb := tb_of 45 rfl rfl
theorem tw_46 : (Cond.methodLink "WipePapersLaw" 15 ⟨"WipePapers", "carrier", "(IJI)I"⟩) ∈ aw_tb := tb_of 46 rfl rfl
theorem tw_47 : (Cond.instanceMethod ⟨"WipePapers", "carrier", "(IJI)I"⟩) ∈ aw_tb := tb_of 47 rfl rfl
theorem tw_48 : (Cond.selects "WipePapers" ⟨"WipePapers", "carrier", "(IJI)I"⟩ ⟨"WipePapers", "carrier", "(IJI)I"⟩) ∈ aw_tb := tb_of 48 rfl rfl
theorem tw_49 : (Cond.code ⟨"WipePapers", "carrier", "(IJI)I"⟩ prog_1_method_2_code 5 (some .int)) ∈ aw_tb := tb_of 49 rfl rfl
theorem tw_50 : (Cond.methodLink "WipePapers" 42 ⟨"WipePapers", "within", "(III)Z"⟩) ∈ aw_tb := tb_of 50 rfl rfl
theorem tw_51 : (Cond.static ⟨"WipePapers", "within", "(III)Z"⟩) ∈ aw_tb := tb_of 51 rfl rfl
theorem tw_52 : (Cond.code ⟨"WipePapers", "within", "(III)Z"⟩ prog_1_method_28_code 3 (some .boolean)) ∈ aw_tb := tb_of 52 rfl rfl
theorem tw_53 : (Cond.methodLink "WipePapers" 46 ⟨"WipePapers", "isSerial", "(J)Z"⟩) ∈ aw_tb := tb_of 53 rfl rfl
theorem tw_54 : (Cond.static ⟨"WipePapers", "isSerial", "(J)Z"⟩) ∈ aw_tb := tb_of 54 rfl rfl
theorem tw_55 : (Cond.code ⟨"WipePapers", "isSerial", "(J)Z"⟩ prog_1_method_30_code 2 (some .boolean)) ∈ aw_tb := tb_of 55 rfl rfl
theorem tw_56 : (Cond.constantLong "WipePapers" 148 1000000000000) ∈ aw_tb := tb_of 56 rfl rfl
theorem tw_57 : (Cond.methodLink "WipePapers" 50 ⟨"WipePapers", "carrierHasSerial", "(J)Z"⟩) ∈ aw_tb := tb_of 57 rfl rfl
theorem tw_59 : (Cond.instanceMethod ⟨"WipePapers", "carrierHasSerial", "(J)Z"⟩) ∈ aw_tb := tb_of 59 rfl rfl
theorem tw_60 : (Cond.code ⟨"WipePapers", "carrierHasSerial", "(J)Z"⟩ prog_1_method_26_code 5 (some .boolean)) ∈ aw_tb := tb_of 60 rfl rfl
theorem tw_61 : (Cond.methodLink "WipePapers" 56 ⟨"WipePapers", "findCarrier", "(I)LWipePapers$Carrier;"⟩) ∈ aw_tb := tb_of 61 rfl rfl
theorem tw_63 : (Cond.instanceMethod ⟨"WipePapers", "findCarrier", "(I)LWipePapers$Carrier;"⟩) ∈ aw_tb := tb_of 63 rfl rfl
theorem tw_64 : (Cond.code ⟨"WipePapers", "findCarrier", "(I)LWipePapers$Carrier;"⟩ prog_1_method_24_code 2 (some (.object "WipePapers$Carrier"))) ∈ aw_tb := tb_of 64 rfl rfl
theorem tw_65 : (Cond.instantiable "WipePapers$Carrier" 12) ∈ aw_tb := tb_of 65 rfl rfl
theorem tw_66 : (Cond.methodLink "WipePapers" 53 ⟨"WipePapers$Carrier", "<init>", "(IJI)V"⟩) ∈ aw_tb := tb_of 66 rfl rfl
theorem tw_67 : (Cond.instanceMethod ⟨"WipePapers$Carrier", "<init>", "(IJI)V"⟩) ∈ aw_tb := tb_of 67 rfl rfl
theorem tw_68 : (Cond.code ⟨"WipePapers$Carrier", "<init>", "(IJI)V"⟩ prog_2_method_1_code 5 (none : Option Jvm.ClassFile.FieldType)) ∈ aw_tb := tb_of 68 rfl rfl
theorem tw_69 : (Cond.methodLink "WipePapers$Carrier" 3 ⟨"java/lang/Object", "<init>", "()V"⟩) ∈ aw_tb := tb_of 69 rfl rfl
theorem tw_70 : (Cond.fieldLink "WipePapers$Carrier" 9 "WipePapers$Carrier" "kind" "I") ∈ aw_tb := tb_of 70 rfl rfl
theorem tw_71 : (Cond.fieldLink "WipePapers$Paper" 33 "WipePapers$Carrier" "kind" "I") ∈ aw_tb := tb_of 71 rfl rfl
theorem tw_72 : (Cond.fieldLink "WipePapers" 117 "WipePapers$Carrier" "kind" "I") ∈ aw_tb := tb_of 72 rfl rfl
theorem tw_73 : (Cond.fieldLink "WipePapers$Carrier" 15 "WipePapers$Carrier" "serial" "J") ∈ aw_tb := tb_of 73 rfl rfl
theorem tw_74 : (Cond.fieldLink "WipePapers" 139 "WipePapers$Carrier" "serial" "J") ∈ aw_tb := tb_of 74 rfl rfl
theorem tw_75 : (Cond.fieldLink "WipePapers$Carrier" 19 "WipePapers$Carrier" "bytes" "[I") ∈ aw_tb := tb_of 75 rfl rfl
theorem tw_76 : (Cond.fieldLink "WipePapers" 97 "WipePapers$Carrier" "bytes" "[I") ∈ aw_tb := tb_of 76 rfl rfl
theorem tw_77 : (Cond.fieldLink "WipePapers$Carrier" 23 "WipePapers$Carrier" "due" "[I") ∈ aw_tb := tb_of 77 rfl rfl
theorem tw_78 : (Cond.fieldLink "WipePapers$Carrier" 26 "WipePapers$Carrier" "worn" "[Z") ∈ aw_tb := tb_of 78 rfl rfl
theorem tw_79 : (Cond.fieldLink "WipePapers$Carrier" 30 "WipePapers$Carrier" "wasRead" "[Z") ∈ aw_tb := tb_of 79 rfl rfl
theorem tw_80 : (Cond.fieldLink "WipePapers$Paper" 15 "WipePapers$Carrier" "patterns" "[I") ∈ aw_tb := tb_of 80 rfl rfl
theorem tw_81 : (Cond.fieldLink "WipePapers$Carrier" 33 "WipePapers$Carrier" "patterns" "[I") ∈ aw_tb := tb_of 81 rfl rfl
theorem tw_82 : (Cond.fieldLink "WipePapers$Paper" 9 "WipePapers$Carrier" "passCount" "I") ∈ aw_tb := tb_of 82 rfl rfl
theorem tw_83 : (Cond.fieldLink "WipePapers$Carrier" 36 "WipePapers$Carrier" "passCount" "I") ∈ aw_tb := tb_of 83 rfl rfl
theorem tw_84 : (Cond.fieldLink "WipePapers$Carrier" 39 "WipePapers$Carrier" "readCount" "I") ∈ aw_tb := tb_of 84 rfl rfl
theorem tw_85 : (Cond.fieldLink "WipePapers$Carrier" 42 "WipePapers$Carrier" "unlikeCount" "I") ∈ aw_tb := tb_of 85 rfl rfl
theorem tw_86 : (Cond.fieldLink "WipePapers" 104 "WipePapers$Carrier" "unlikeCount" "I") ∈ aw_tb := tb_of 86 rfl rfl
theorem tw_87 : (Cond.fieldLink "WipePapers$Carrier" 45 "WipePapers$Carrier" "condition" "I") ∈ aw_tb := tb_of 87 rfl rfl
theorem tw_88 : (Cond.fieldLink "WipePapers$Paper" 36 "WipePapers$Carrier" "condition" "I") ∈ aw_tb := tb_of 88 rfl rfl
theorem tw_89 : (Cond.fieldLink "WipePapers" 60 "WipePapers$Carrier" "condition" "I") ∈ aw_tb := tb_of 89 rfl rfl
theorem tw_90 : (Cond.fieldLink "WipePapers$Carrier" 48 "WipePapers$Carrier" "latestPerson" "I") ∈ aw_tb := tb_of 90 rfl rfl
theorem tw_91 : (Cond.fieldLink "WipePapers" 78 "WipePapers$Carrier" "latestPerson" "I") ∈ aw_tb := tb_of 91 rfl rfl
theorem tw_117 : (Cond.arrayClass .boolean) ∈ aw_tb := tb_of 117 rfl rfl
theorem tw_118 : (Cond.methodLink "WipePapersLaw" 20 ⟨"WipePapers", "state", "(I)I"⟩) ∈ aw_tb := tb_of 118 rfl rfl
theorem tw_119 : (Cond.instanceMethod ⟨"WipePapers", "state", "(I)I"⟩) ∈ aw_tb := tb_of 119 rfl rfl
theorem tw_120 : (Cond.selects "WipePapers" ⟨"WipePapers", "state", "(I)I"⟩ ⟨"WipePapers", "state", "(I)I"⟩) ∈ aw_tb := tb_of 120 rfl rfl
theorem tw_121 : (Cond.code ⟨"WipePapers", "state", "(I)I"⟩ prog_1_method_3_code 3 (some .int)) ∈ aw_tb := tb_of 121 rfl rfl
theorem tw_122 : (Cond.methodLink "WipePapersLaw" 25 ⟨"WipePapers", "event", "(III)Z"⟩) ∈ aw_tb := tb_of 122 rfl rfl
theorem tw_123 : (Cond.instanceMethod ⟨"WipePapers", "event", "(III)Z"⟩) ∈ aw_tb := tb_of 123 rfl rfl
theorem tw_124 : (Cond.selects "WipePapers" ⟨"WipePapers", "event", "(III)Z"⟩ ⟨"WipePapers", "event", "(III)Z"⟩) ∈ aw_tb := tb_of 124 rfl rfl
theorem tw_125 : (Cond.code ⟨"WipePapers", "event", "(III)Z"⟩ prog_1_method_4_code 5 (some .boolean)) ∈ aw_tb := tb_of 125 rfl rfl
theorem tw_126 : (Cond.methodLink "WipePapers" 63 ⟨"WipePapers", "isPerson", "(I)Z"⟩) ∈ aw_tb := tb_of 126 rfl rfl
theorem tw_127 : (Cond.static ⟨"WipePapers", "isPerson", "(I)Z"⟩) ∈ aw_tb := tb_of 127 rfl rfl
theorem tw_128 : (Cond.code ⟨"WipePapers", "isPerson", "(I)Z"⟩ prog_1_method_29_code 1 (some .boolean)) ∈ aw_tb := tb_of 128 rfl rfl
theorem tw_129 : (Cond.methodLink "WipePapers" 67 ⟨"WipePapers", "leadsFrom", "(II)Z"⟩) ∈ aw_tb := tb_of 129 rfl rfl
theorem tw_130 : (Cond.static ⟨"WipePapers", "leadsFrom", "(II)Z"⟩) ∈ aw_tb := tb_of 130 rfl rfl
theorem tw_131 : (Cond.code ⟨"WipePapers", "leadsFrom", "(II)Z"⟩ prog_1_method_31_code 2 (some .boolean)) ∈ aw_tb := tb_of 131 rfl rfl
theorem tw_132 : (Cond.methodLink "WipePapers" 71 ⟨"WipePapers$Carrier", "forgetPasses", "()V"⟩) ∈ aw_tb := tb_of 132 rfl rfl
theorem tw_133 : (Cond.instanceMethod ⟨"WipePapers$Carrier", "forgetPasses", "()V"⟩) ∈ aw_tb := tb_of 133 rfl rfl
theorem tw_134 : (Cond.selects "WipePapers$Carrier" ⟨"WipePapers$Carrier", "forgetPasses", "()V"⟩ ⟨"WipePapers$Carrier", "forgetPasses", "()V"⟩) ∈ aw_tb := tb_of 134 rfl rfl
theorem tw_135 : (Cond.code ⟨"WipePapers$Carrier", "forgetPasses", "()V"⟩ prog_2_method_6_code 1 (none : Option Jvm.ClassFile.FieldType)) ∈ aw_tb := tb_of 135 rfl rfl
theorem tw_136 : (Cond.methodLink "WipePapers$Carrier" 55 ⟨"WipePapers$Carrier", "forgetReads", "()V"⟩) ∈ aw_tb := tb_of 136 rfl rfl
theorem tw_137 : (Cond.instanceMethod ⟨"WipePapers$Carrier", "forgetReads", "()V"⟩) ∈ aw_tb := tb_of 137 rfl rfl
theorem tw_138 : (Cond.selects "WipePapers$Carrier" ⟨"WipePapers$Carrier", "forgetReads", "()V"⟩ ⟨"WipePapers$Carrier", "forgetReads", "()V"⟩) ∈ aw_tb := tb_of 138 rfl rfl
theorem tw_139 : (Cond.code ⟨"WipePapers$Carrier", "forgetReads", "()V"⟩ prog_2_method_7_code 2 (none : Option Jvm.ClassFile.FieldType)) ∈ aw_tb := tb_of 139 rfl rfl
theorem tw_140 : (Cond.methodLink "WipePapers" 74 ⟨"WipePapers", "leadsTo", "(I)I"⟩) ∈ aw_tb := tb_of 140 rfl rfl
theorem tw_141 : (Cond.static ⟨"WipePapers", "leadsTo", "(I)I"⟩) ∈ aw_tb := tb_of 141 rfl rfl
theorem tw_142 : (Cond.code ⟨"WipePapers", "leadsTo", "(I)I"⟩ prog_1_method_32_code 1 (some .int)) ∈ aw_tb := tb_of 142 rfl rfl
theorem tw_143 : (Cond.methodLink "WipePapersLaw" 30 ⟨"WipePapers", "last", "(I)I"⟩) ∈ aw_tb := tb_of 143 rfl rfl
theorem tw_144 : (Cond.instanceMethod ⟨"WipePapers", "last", "(I)I"⟩) ∈ aw_tb := tb_of 144 rfl rfl
theorem tw_145 : (Cond.selects "WipePapers" ⟨"WipePapers", "last", "(I)I"⟩ ⟨"WipePapers", "last", "(I)I"⟩) ∈ aw_tb := tb_of 145 rfl rfl
theorem tw_146 : (Cond.code ⟨"WipePapers", "last", "(I)I"⟩ prog_1_method_5_code 3 (some .int)) ∈ aw_tb := tb_of 146 rfl rfl
theorem tw_147 : (Cond.methodLink "WipePapersLaw" 34 ⟨"WipePapers", "fail", "(II)Z"⟩) ∈ aw_tb := tb_of 147 rfl rfl
theorem tw_148 : (Cond.instanceMethod ⟨"WipePapers", "fail", "(II)Z"⟩) ∈ aw_tb := tb_of 148 rfl rfl
theorem tw_149 : (Cond.selects "WipePapers" ⟨"WipePapers", "fail", "(II)Z"⟩ ⟨"WipePapers", "fail", "(II)Z"⟩) ∈ aw_tb := tb_of 149 rfl rfl
theorem tw_150 : (Cond.code ⟨"WipePapers", "fail", "(II)Z"⟩ prog_1_method_6_code 4 (some .boolean)) ∈ aw_tb := tb_of 150 rfl rfl
theorem tw_151 : (Cond.methodLink "WipePapers" 81 ⟨"WipePapers$Carrier", "isGone", "()Z"⟩) ∈ aw_tb := tb_of 151 rfl rfl
theorem tw_152 : (Cond.instanceMethod ⟨"WipePapers$Carrier", "isGone", "()Z"⟩) ∈ aw_tb := tb_of 152 rfl rfl
theorem tw_153 : (Cond.selects "WipePapers$Carrier" ⟨"WipePapers$Carrier", "isGone", "()Z"⟩ ⟨"WipePapers$Carrier", "isGone", "()Z"⟩) ∈ aw_tb := tb_of 153 rfl rfl
theorem tw_154 : (Cond.code ⟨"WipePapers$Carrier", "isGone", "()Z"⟩ prog_2_method_3_code 1 (some .boolean)) ∈ aw_tb := tb_of 154 rfl rfl
theorem tw_155 : (Cond.methodLink "WipePapers" 85 ⟨"WipePapers$Carrier", "wearOut", "(I)Z"⟩) ∈ aw_tb := tb_of 155 rfl rfl
theorem tw_156 : (Cond.instanceMethod ⟨"WipePapers$Carrier", "wearOut", "(I)Z"⟩) ∈ aw_tb := tb_of 156 rfl rfl
theorem tw_157 : (Cond.selects "WipePapers$Carrier" ⟨"WipePapers$Carrier", "wearOut", "(I)Z"⟩ ⟨"WipePapers$Carrier", "wearOut", "(I)Z"⟩) ∈ aw_tb := tb_of 157 rfl rfl
theorem tw_158 : (Cond.code ⟨"WipePapers$Carrier", "wearOut", "(I)Z"⟩ prog_2_method_4_code 2 (some .boolean)) ∈ aw_tb := tb_of 158 rfl rfl
theorem tw_159 : (Cond.methodLink "WipePapers$Carrier" 51 ⟨"WipePapers$Carrier", "hasPlace", "(I)Z"⟩) ∈ aw_tb := tb_of 159 rfl rfl
theorem tw_160 : (Cond.instanceMethod ⟨"WipePapers$Carrier", "hasPlace", "(I)Z"⟩) ∈ aw_tb := tb_of 160 rfl rfl
theorem tw_161 : (Cond.selects "WipePapers$Carrier" ⟨"WipePapers$Carrier", "hasPlace", "(I)Z"⟩ ⟨"WipePapers$Carrier", "hasPlace", "(I)Z"⟩) ∈ aw_tb := tb_of 161 rfl rfl
theorem tw_162 : (Cond.code ⟨"WipePapers$Carrier", "hasPlace", "(I)Z"⟩ prog_2_method_2_code 2 (some .boolean)) ∈ aw_tb := tb_of 162 rfl rfl
theorem tw_163 : (Cond.methodLink "WipePapersLaw" 39 ⟨"WipePapers", "failed", "(II)I"⟩) ∈ aw_tb := tb_of 163 rfl rfl
theorem tw_164 : (Cond.instanceMethod ⟨"WipePapers", "failed", "(II)I"⟩) ∈ aw_tb := tb_of 164 rfl rfl
theorem tw_165 : (Cond.selects "WipePapers" ⟨"WipePapers", "failed", "(II)I"⟩ ⟨"WipePapers", "failed", "(II)I"⟩) ∈ aw_tb := tb_of 165 rfl rfl
theorem tw_166 : (Cond.code ⟨"WipePapers", "failed", "(II)I"⟩ prog_1_method_7_code 4 (some .int)) ∈ aw_tb := tb_of 166 rfl rfl
theorem tw_167 : (Cond.methodLink "WipePapers" 88 ⟨"WipePapers$Carrier", "wornPlace", "(I)I"⟩) ∈ aw_tb := tb_of 167 rfl rfl
theorem tw_168 : (Cond.instanceMethod ⟨"WipePapers$Carrier", "wornPlace", "(I)I"⟩) ∈ aw_tb := tb_of 168 rfl rfl
theorem tw_169 : (Cond.selects "WipePapers$Carrier" ⟨"WipePapers$Carrier", "wornPlace", "(I)I"⟩ ⟨"WipePapers$Carrier", "wornPlace", "(I)I"⟩) ∈ aw_tb := tb_of 169 rfl rfl
theorem tw_170 : (Cond.code ⟨"WipePapers$Carrier", "wornPlace", "(I)I"⟩ prog_2_method_5_code 4 (some .int)) ∈ aw_tb := tb_of 170 rfl rfl
theorem tw_171 : (Cond.methodLink "WipePapersLaw" 44 ⟨"WipePapers", "pass", "(II)I"⟩) ∈ aw_tb := tb_of 171 rfl rfl
theorem tw_172 : (Cond.instanceMethod ⟨"WipePapers", "pass", "(II)I"⟩) ∈ aw_tb := tb_of 172 rfl rfl
theorem tw_173 : (Cond.selects "WipePapers" ⟨"WipePapers", "pass", "(II)I"⟩ ⟨"WipePapers", "pass", "(II)I"⟩) ∈ aw_tb := tb_of 173 rfl rfl
theorem tw_174 : (Cond.code ⟨"WipePapers", "pass", "(II)I"⟩ prog_1_method_8_code 4 (some .int)) ∈ aw_tb := tb_of 174 rfl rfl
theorem tw_175 : (Cond.methodLink "WipePapers" 91 ⟨"WipePapers$Carrier", "overwrite", "(I)I"⟩) ∈ aw_tb := tb_of 175 rfl rfl
theorem tw_176 : (Cond.instanceMethod ⟨"WipePapers$Carrier", "overwrite", "(I)I"⟩) ∈ aw_tb := tb_of 176 rfl rfl
theorem tw_177 : (Cond.selects "WipePapers$Carrier" ⟨"WipePapers$Carrier", "overwrite", "(I)I"⟩ ⟨"WipePapers$Carrier", "overwrite", "(I)I"⟩) ∈ aw_tb := tb_of 177 rfl rfl
theorem tw_178 : (Cond.code ⟨"WipePapers$Carrier", "overwrite", "(I)I"⟩ prog_2_method_8_code 3 (some .int)) ∈ aw_tb := tb_of 178 rfl rfl
theorem tw_180 : (Cond.static ⟨"WipePapers", "patternByte", "(III)I"⟩) ∈ aw_tb := tb_of 180 rfl rfl
theorem tw_181 : (Cond.code ⟨"WipePapers", "patternByte", "(III)I"⟩ prog_1_method_33_code 3 (some .int)) ∈ aw_tb := tb_of 181 rfl rfl
theorem tw_182 : (Cond.methodLink "WipePapersLaw" 48 ⟨"WipePapers", "byteAt", "(II)I"⟩) ∈ aw_tb := tb_of 182 rfl rfl
theorem tw_183 : (Cond.instanceMethod ⟨"WipePapers", "byteAt", "(II)I"⟩) ∈ aw_tb := tb_of 183 rfl rfl
theorem tw_184 : (Cond.selects "WipePapers" ⟨"WipePapers", "byteAt", "(II)I"⟩ ⟨"WipePapers", "byteAt", "(II)I"⟩) ∈ aw_tb := tb_of 184 rfl rfl
theorem tw_185 : (Cond.code ⟨"WipePapers", "byteAt", "(II)I"⟩ prog_1_method_9_code 4 (some .int)) ∈ aw_tb := tb_of 185 rfl rfl
theorem tw_186 : (Cond.methodLink "WipePapers" 94 ⟨"WipePapers$Carrier", "hasPlace", "(I)Z"⟩) ∈ aw_tb := tb_of 186 rfl rfl
theorem tw_187 : (Cond.methodLink "WipePapersLaw" 52 ⟨"WipePapers", "read", "(III)I"⟩) ∈ aw_tb := tb_of 187 rfl rfl
theorem tw_188 : (Cond.instanceMethod ⟨"WipePapers", "read", "(III)I"⟩) ∈ aw_tb := tb_of 188 rfl rfl
theorem tw_189 : (Cond.selects "WipePapers" ⟨"WipePapers", "read", "(III)I"⟩ ⟨"WipePapers", "read", "(III)I"⟩) ∈ aw_tb := tb_of 189 rfl rfl
theorem tw_190 : (Cond.code ⟨"WipePapers", "read", "(III)I"⟩ prog_1_method_10_code 5 (some .int)) ∈ aw_tb := tb_of 190 rfl rfl
theorem tw_191 : (Cond.methodLink "WipePapers" 100 ⟨"WipePapers$Carrier", "takeReading", "(II)I"⟩) ∈ aw_tb := tb_of 191 rfl rfl
theorem tw_192 : (Cond.instanceMethod ⟨"WipePapers$Carrier", "takeReading", "(II)I"⟩) ∈ aw_tb := tb_of 192 rfl rfl
theorem tw_193 : (Cond.selects "WipePapers$Carrier" ⟨"WipePapers$Carrier", "takeReading", "(II)I"⟩ ⟨"WipePapers$Carrier", "takeReading", "(II)I"⟩) ∈ aw_tb := tb_of 193 rfl rfl
theorem tw_194 : (Cond.code ⟨"WipePapers$Carrier", "takeReading", "(II)I"⟩ prog_2_method_9_code 4 (some .int)) ∈ aw_tb := tb_of 194 rfl rfl
theorem tw_195 : (Cond.methodLink "WipePapersLaw" 57 ⟨"WipePapers", "unlike", "(I)I"⟩) ∈ aw_tb := tb_of 195 rfl rfl
theorem tw_196 : (Cond.instanceMethod ⟨"WipePapers", "unlike", "(I)I"⟩) ∈ aw_tb := tb_of 196 rfl rfl
theorem tw_197 : (Cond.selects "WipePapers" ⟨"WipePapers", "unlike", "(I)I"⟩ ⟨"WipePapers", "unlike", "(I)I"⟩) ∈ aw_tb := tb_of 197 rfl rfl
theorem tw_198 : (Cond.code ⟨"WipePapers", "unlike", "(I)I"⟩ prog_1_method_11_code 3 (some .int)) ∈ aw_tb := tb_of 198 rfl rfl
theorem tw_199 : (Cond.methodLink "WipePapersLaw" 61 ⟨"WipePapers", "odds", "(IIII)J"⟩) ∈ aw_tb := tb_of 199 rfl rfl
theorem tw_200 : (Cond.instanceMethod ⟨"WipePapers", "odds", "(IIII)J"⟩) ∈ aw_tb := tb_of 200 rfl rfl
theorem tw_201 : (Cond.selects "WipePapers" ⟨"WipePapers", "odds", "(IIII)J"⟩ ⟨"WipePapers", "odds", "(IIII)J"⟩) ∈ aw_tb := tb_of 201 rfl rfl
theorem tw_202 : (Cond.code ⟨"WipePapers", "odds", "(IIII)J"⟩ prog_1_method_12_code 11 (some .long)) ∈ aw_tb := tb_of 202 rfl rfl
theorem tw_203 : (Cond.constantLong "WipePapers" 107 (-1)) ∈ aw_tb := tb_of 203 rfl rfl
theorem tw_204 : (Cond.methodLink "WipePapers" 109 ⟨"WipePapers", "waysToChoose", "(II)J"⟩) ∈ aw_tb := tb_of 204 rfl rfl
theorem tw_205 : (Cond.static ⟨"WipePapers", "waysToChoose", "(II)J"⟩) ∈ aw_tb := tb_of 205 rfl rfl
theorem tw_206 : (Cond.code ⟨"WipePapers", "waysToChoose", "(II)J"⟩ prog_1_method_34_code 5 (some .long)) ∈ aw_tb := tb_of 206 rfl rfl
theorem tw_207 : (Cond.methodLink "WipePapers" 113 ⟨"WipePapers", "commonDivisor", "(JJ)J"⟩) ∈ aw_tb := tb_of 207 rfl rfl
theorem tw_208 : (Cond.static ⟨"WipePapers", "commonDivisor", "(JJ)J"⟩) ∈ aw_tb := tb_of 208 rfl rfl
theorem tw_209 : (Cond.code ⟨"WipePapers", "commonDivisor", "(JJ)J"⟩ prog_1_method_35_code 11 (some .long)) ∈ aw_tb := tb_of 209 rfl rfl
theorem tw_210 : (Cond.methodLink "WipePapers" 150 ⟨"java/lang/Math", "max", "(JJ)J"⟩) ∈ aw_tb := tb_of 210 rfl rfl
theorem tw_211 : (Cond.static ⟨"java/lang/Math", "max", "(JJ)J"⟩) ∈ aw_tb := tb_of 211 rfl rfl
theorem tw_212 : (Cond.code ⟨"java/lang/Math", "max", "(JJ)J"⟩ prog_7_method_66_code 4 (some .long)) ∈ aw_tb := tb_of 212 rfl rfl
theorem tw_213 : (Cond.methodLink "WipePapersLaw" 66 ⟨"WipePapers", "shred", "(II)Z"⟩) ∈ aw_tb := tb_of 213 rfl rfl
theorem tw_214 : (Cond.instanceMethod ⟨"WipePapers", "shred", "(II)Z"⟩) ∈ aw_tb := tb_of 214 rfl rfl
theorem tw_215 : (Cond.selects "WipePapers" ⟨"WipePapers", "shred", "(II)Z"⟩ ⟨"WipePapers", "shred", "(II)Z"⟩) ∈ aw_tb := tb_of 215 rfl rfl
theorem tw_216 : (Cond.code ⟨"WipePapers", "shred", "(II)Z"⟩ prog_1_method_13_code 4 (some .boolean)) ∈ aw_tb := tb_of 216 rfl rfl
theorem tw_217 : (Cond.methodLink "WipePapersLaw" 70 ⟨"WipePapers", "paper", "(III)I"⟩) ∈ aw_tb := tb_of 217 rfl rfl
theorem tw_218 : (Cond.instanceMethod ⟨"WipePapers", "paper", "(III)I"⟩) ∈ aw_tb := tb_of 218 rfl rfl
theorem tw_219 : (Cond.selects "WipePapers" ⟨"WipePapers", "paper", "(III)I"⟩ ⟨"WipePapers", "paper", "(III)I"⟩) ∈ aw_tb := tb_of 219 rfl rfl
theorem tw_220 : (Cond.code ⟨"WipePapers", "paper", "(III)I"⟩ prog_1_method_14_code 5 (some .int)) ∈ aw_tb := tb_of 220 rfl rfl
theorem tw_221 : (Cond.instantiable "WipePapers$Paper" 1) ∈ aw_tb := tb_of 221 rfl rfl
theorem tw_222 : (Cond.methodLink "WipePapers" 120 ⟨"WipePapers$Paper", "<init>", "(ILWipePapers$Carrier;II)V"⟩) ∈ aw_tb := tb_of 222 rfl rfl
theorem tw_223 : (Cond.instanceMethod ⟨"WipePapers$Paper", "<init>", "(ILWipePapers$Carrier;II)V"⟩) ∈ aw_tb := tb_of 223 rfl rfl
theorem tw_224 : (Cond.code ⟨"WipePapers$Paper", "<init>", "(ILWipePapers$Carrier;II)V"⟩ prog_3_method_1_code 7 (none : Option Jvm.ClassFile.FieldType)) ∈ aw_tb := tb_of 224 rfl rfl
theorem tw_225 : (Cond.methodLink "WipePapers$Paper" 3 ⟨"java/lang/Object", "<init>", "()V"⟩) ∈ aw_tb := tb_of 225 rfl rfl
theorem tw_226 : (Cond.methodLink "WipePapers$Paper" 19 ⟨"java/lang/Math", "min", "(II)I"⟩) ∈ aw_tb := tb_of 226 rfl rfl
theorem tw_227 : (Cond.static ⟨"java/lang/Math", "min", "(II)I"⟩) ∈ aw_tb := tb_of 227 rfl rfl
theorem tw_228 : (Cond.code ⟨"java/lang/Math", "min", "(II)I"⟩ prog_7_method_69_code 2 (some .int)) ∈ aw_tb := tb_of 228 rfl rfl
theorem tw_229 : (Cond.methodLink "WipePapers$Paper" 25 ⟨"java/lang/Math", "max", "(II)I"⟩) ∈ aw_tb := tb_of 229 rfl rfl
theorem tw_230 : (Cond.static ⟨"java/lang/Math", "max", "(II)I"⟩) ∈ aw_tb := tb_of 230 rfl rfl
theorem tw_231 : (Cond.code ⟨"java/lang/Math", "max", "(II)I"⟩ prog_7_method_65_code 2 (some .int)) ∈ aw_tb := tb_of 231 rfl rfl
theorem tw_232 : (Cond.fieldLink "WipePapers$Paper" 28 "WipePapers$Paper" "fields" "[I") ∈ aw_tb := tb_of 232 rfl rfl
theorem tw_233 : (Cond.fieldLink "WipePapers" 127 "WipePapers$Paper" "fields" "[I") ∈ aw_tb := tb_of 233 rfl rfl
theorem tw_237 : (Cond.methodLink "WipePapersLaw" 74 ⟨"WipePapers", "at", "(II)I"⟩) ∈ aw_tb := tb_of 237 rfl rfl
theorem tw_238 : (Cond.instanceMethod ⟨"WipePapers", "at", "(II)I"⟩) ∈ aw_tb := tb_of 238 rfl rfl
theorem tw_239 : (Cond.selects "WipePapers" ⟨"WipePapers", "at", "(II)I"⟩ ⟨"WipePapers", "at", "(II)I"⟩) ∈ aw_tb := tb_of 239 rfl rfl
theorem tw_240 : (Cond.code ⟨"WipePapers", "at", "(II)I"⟩ prog_1_method_15_code 4 (some .int)) ∈ aw_tb := tb_of 240 rfl rfl
theorem tw_241 : (Cond.methodLink "WipePapers" 123 ⟨"WipePapers", "findPaper", "(I)LWipePapers$Paper;"⟩) ∈ aw_tb := tb_of 241 rfl rfl
theorem tw_243 : (Cond.instanceMethod ⟨"WipePapers", "findPaper", "(I)LWipePapers$Paper;"⟩) ∈ aw_tb := tb_of 243 rfl rfl
theorem tw_244 : (Cond.code ⟨"WipePapers", "findPaper", "(I)LWipePapers$Paper;"⟩ prog_1_method_25_code 2 (some (.object "WipePapers$Paper"))) ∈ aw_tb := tb_of 244 rfl rfl
theorem tw_245 : (Cond.methodLink "WipePapersLaw" 78 ⟨"WipePapers", "mark", "(IJI)I"⟩) ∈ aw_tb := tb_of 245 rfl rfl
theorem tw_246 : (Cond.instanceMethod ⟨"WipePapers", "mark", "(IJI)I"⟩) ∈ aw_tb := tb_of 246 rfl rfl
theorem tw_247 : (Cond.selects "WipePapers" ⟨"WipePapers", "mark", "(IJI)I"⟩ ⟨"WipePapers", "mark", "(IJI)I"⟩) ∈ aw_tb := tb_of 247 rfl rfl
theorem tw_248 : (Cond.code ⟨"WipePapers", "mark", "(IJI)I"⟩ prog_1_method_16_code 7 (some .int)) ∈ aw_tb := tb_of 248 rfl rfl
theorem tw_249 : (Cond.methodLink "WipePapers" 130 ⟨"WipePapers$Paper", "markBy", "(J)J"⟩) ∈ aw_tb := tb_of 249 rfl rfl
theorem tw_250 : (Cond.instanceMethod ⟨"WipePapers$Paper", "markBy", "(J)J"⟩) ∈ aw_tb := tb_of 250 rfl rfl
theorem tw_251 : (Cond.selects "WipePapers$Paper" ⟨"WipePapers$Paper", "markBy", "(J)J"⟩ ⟨"WipePapers$Paper", "markBy", "(J)J"⟩) ∈ aw_tb := tb_of 251 rfl rfl
theorem tw_252 : (Cond.code ⟨"WipePapers$Paper", "markBy", "(J)J"⟩ prog_3_method_2_code 6 (some .long)) ∈ aw_tb := tb_of 252 rfl rfl
theorem tw_253 : (Cond.constantLong "WipePapers$Paper" 39 6364136223846793005) ∈ aw_tb := tb_of 253 rfl rfl
theorem tw_254 : (Cond.constantLong "WipePapers" 134 255) ∈ aw_tb := tb_of 254 rfl rfl
theorem tw_255 : (Cond.methodLink "WipePapersLaw" 82 ⟨"WipePapers", "check", "(IJJ)Z"⟩) ∈ aw_tb := tb_of 255 rfl rfl
theorem tw_256 : (Cond.instanceMethod ⟨"WipePapers", "check", "(IJJ)Z"⟩) ∈ aw_tb := tb_of 256 rfl rfl
theorem tw_257 : (Cond.selects "WipePapers" ⟨"WipePapers", "check", "(IJJ)Z"⟩ ⟨"WipePapers", "check", "(IJJ)Z"⟩) ∈ aw_tb := tb_of 257 rfl rfl
theorem tw_258 : (Cond.code ⟨"WipePapers", "check", "(IJJ)Z"⟩ prog_1_method_17_code 7 (some .boolean)) ∈ aw_tb := tb_of 258 rfl rfl
theorem tw_259 : (Cond.methodLink "WipePapersLaw" 87 ⟨"WipePapers", "listed", "(J)I"⟩) ∈ aw_tb := tb_of 259 rfl rfl
theorem tw_260 : (Cond.instanceMethod ⟨"WipePapers", "listed", "(J)I"⟩) ∈ aw_tb := tb_of 260 rfl rfl
theorem tw_261 : (Cond.selects "WipePapers" ⟨"WipePapers", "listed", "(J)I"⟩ ⟨"WipePapers", "listed", "(J)I"⟩) ∈ aw_tb := tb_of 261 rfl rfl
theorem tw_262 : (Cond.code ⟨"WipePapers", "listed", "(J)I"⟩ prog_1_method_18_code 3 (some .int)) ∈ aw_tb := tb_of 262 rfl rfl
theorem tw_263 : (Cond.methodLink "WipePapers" 136 ⟨"WipePapers", "listHasSerial", "(J)Z"⟩) ∈ aw_tb := tb_of 263 rfl rfl
theorem tw_265 : (Cond.instanceMethod ⟨"WipePapers", "listHasSerial", "(J)Z"⟩) ∈ aw_tb := tb_of 265 rfl rfl
theorem tw_266 : (Cond.code ⟨"WipePapers", "listHasSerial", "(J)Z"⟩ prog_1_method_27_code 4 (some .boolean)) ∈ aw_tb := tb_of 266 rfl rfl
theorem tw_267 : (Cond.methodLink "WipePapersLaw" 92 ⟨"WipePapers", "missing", "(I)I"⟩) ∈ aw_tb := tb_of 267 rfl rfl
theorem tw_268 : (Cond.instanceMethod ⟨"WipePapers", "missing", "(I)I"⟩) ∈ aw_tb := tb_of 268 rfl rfl
theorem tw_269 : (Cond.selects "WipePapers" ⟨"WipePapers", "missing", "(I)I"⟩ ⟨"WipePapers", "missing", "(I)I"⟩) ∈ aw_tb := tb_of 269 rfl rfl
theorem tw_270 : (Cond.code ⟨"WipePapers", "missing", "(I)I"⟩ prog_1_method_19_code 4 (some .int)) ∈ aw_tb := tb_of 270 rfl rfl
theorem tw_271 : (Cond.methodLink "WipePapersLaw" 96 ⟨"WipePapers", "extra", "(I)I"⟩) ∈ aw_tb := tb_of 271 rfl rfl
theorem tw_272 : (Cond.instanceMethod ⟨"WipePapers", "extra", "(I)I"⟩) ∈ aw_tb := tb_of 272 rfl rfl
theorem tw_273 : (Cond.selects "WipePapers" ⟨"WipePapers", "extra", "(I)I"⟩ ⟨"WipePapers", "extra", "(I)I"⟩) ∈ aw_tb := tb_of 273 rfl rfl
theorem tw_274 : (Cond.code ⟨"WipePapers", "extra", "(I)I"⟩ prog_1_method_20_code 5 (some .int)) ∈ aw_tb := tb_of 274 rfl rfl
theorem tw_275 : (Cond.methodLink "WipePapersLaw" 100 ⟨"WipePapers", "lost", "(I)I"⟩) ∈ aw_tb := tb_of 275 rfl rfl
theorem tw_276 : (Cond.instanceMethod ⟨"WipePapers", "lost", "(I)I"⟩) ∈ aw_tb := tb_of 276 rfl rfl
theorem tw_277 : (Cond.selects "WipePapers" ⟨"WipePapers", "lost", "(I)I"⟩ ⟨"WipePapers", "lost", "(I)I"⟩) ∈ aw_tb := tb_of 277 rfl rfl
theorem tw_278 : (Cond.code ⟨"WipePapers", "lost", "(I)I"⟩ prog_1_method_21_code 3 (some .int)) ∈ aw_tb := tb_of 278 rfl rfl
theorem tw_279 : (Cond.methodLink "WipePapersLaw" 104 ⟨"WipePapers", "told", "(I)I"⟩) ∈ aw_tb := tb_of 279 rfl rfl
theorem tw_280 : (Cond.instanceMethod ⟨"WipePapers", "told", "(I)I"⟩) ∈ aw_tb := tb_of 280 rfl rfl
theorem tw_281 : (Cond.selects "WipePapers" ⟨"WipePapers", "told", "(I)I"⟩ ⟨"WipePapers", "told", "(I)I"⟩) ∈ aw_tb := tb_of 281 rfl rfl
theorem tw_282 : (Cond.code ⟨"WipePapers", "told", "(I)I"⟩ prog_1_method_22_code 2 (some .int)) ∈ aw_tb := tb_of 282 rfl rfl
theorem tw_283 : (Cond.methodLink "WipePapersLaw" 108 ⟨"WipePapers", "states", "()I"⟩) ∈ aw_tb := tb_of 283 rfl rfl
theorem tw_284 : (Cond.instanceMethod ⟨"WipePapers", "states", "()I"⟩) ∈ aw_tb := tb_of 284 rfl rfl
theorem tw_285 : (Cond.selects "WipePapers" ⟨"WipePapers", "states", "()I"⟩ ⟨"WipePapers", "states", "()I"⟩) ∈ aw_tb := tb_of 285 rfl rfl
theorem tw_286 : (Cond.code ⟨"WipePapers", "states", "()I"⟩ prog_1_method_23_code 4 (some .int)) ∈ aw_tb := tb_of 286 rfl rfl
theorem tw_287 : (Cond.methodLink "WipePapers" 143 ⟨"java/lang/Integer", "bitCount", "(I)I"⟩) ∈ aw_tb := tb_of 287 rfl rfl
theorem tw_288 : (Cond.static ⟨"java/lang/Integer", "bitCount", "(I)I"⟩) ∈ aw_tb := tb_of 288 rfl rfl
theorem tw_289 : (Cond.code ⟨"java/lang/Integer", "bitCount", "(I)I"⟩ prog_6_method_49_code 1 (some .int)) ∈ aw_tb := tb_of 289 rfl rfl
theorem tw_290 : (Cond.constant "java/lang/Integer" 265 1431655765) ∈ aw_tb := tb_of 290 rfl rfl
theorem tw_291 : (Cond.constant "java/lang/Integer" 266 858993459) ∈ aw_tb := tb_of 291 rfl rfl
theorem tw_292 : (Cond.constant "java/lang/Integer" 267 252645135) ∈ aw_tb := tb_of 292 rfl rfl
theorem tw_293 : (Cond.classLink "WipePapersLaw" 10 "WipePapersModel") ∈ aw_tb := tb_of 293 rfl rfl
theorem tw_294 : (Cond.instantiable "WipePapersModel" 20) ∈ aw_tb := tb_of 294 rfl rfl
theorem tw_295 : (Cond.methodLink "WipePapersLaw" 12 ⟨"WipePapersModel", "<init>", "()V"⟩) ∈ aw_tb := tb_of 295 rfl rfl
theorem tw_296 : (Cond.instanceMethod ⟨"WipePapersModel", "<init>", "()V"⟩) ∈ aw_tb := tb_of 296 rfl rfl
theorem tw_297 : (Cond.code ⟨"WipePapersModel", "<init>", "()V"⟩ prog_5_method_1_code 1 (none : Option Jvm.ClassFile.FieldType)) ∈ aw_tb := tb_of 297 rfl rfl
theorem tw_298 : (Cond.methodLink "WipePapersModel" 1 ⟨"java/lang/Object", "<init>", "()V"⟩) ∈ aw_tb := tb_of 298 rfl rfl
theorem tw_299 : (Cond.fieldLink "WipePapersModel" 60 "WipePapersModel" "carriers" "I") ∈ aw_tb := tb_of 299 rfl rfl
theorem tw_300 : (Cond.fieldLink "WipePapersModel" 7 "WipePapersModel" "kinds" "[I") ∈ aw_tb := tb_of 300 rfl rfl
theorem tw_301 : (Cond.fieldLink "WipePapersModel" 13 "WipePapersModel" "serials" "[J") ∈ aw_tb := tb_of 301 rfl rfl
theorem tw_302 : (Cond.fieldLink "WipePapersModel" 17 "WipePapersModel" "places" "[I") ∈ aw_tb := tb_of 302 rfl rfl
theorem tw_303 : (Cond.fieldLink "WipePapersModel" 20 "WipePapersModel" "states" "[I") ∈ aw_tb := tb_of 303 rfl rfl
theorem tw_304 : (Cond.fieldLink "WipePapersModel" 23 "WipePapersModel" "lasts" "[I") ∈ aw_tb := tb_of 304 rfl rfl
theorem tw_305 : (Cond.fieldLink "WipePapersModel" 26 "WipePapersModel" "bytes" "[I") ∈ aw_tb := tb_of 305 rfl rfl
theorem tw_306 : (Cond.fieldLink "WipePapersModel" 29 "WipePapersModel" "dues" "[I") ∈ aw_tb := tb_of 306 rfl rfl
theorem tw_307 : (Cond.fieldLink "WipePapersModel" 32 "WipePapersModel" "failed" "[Z") ∈ aw_tb := tb_of 307 rfl rfl
theorem tw_308 : (Cond.fieldLink "WipePapersModel" 36 "WipePapersModel" "read" "[Z") ∈ aw_tb := tb_of 308 rfl rfl
theorem tw_309 : (Cond.fieldLink "WipePapersModel" 39 "WipePapersModel" "unlike" "[I") ∈ aw_tb := tb_of 309 rfl rfl
theorem tw_310 : (Cond.fieldLink "WipePapersModel" 42 "WipePapersModel" "passes" "[I") ∈ aw_tb := tb_of 310 rfl rfl
theorem tw_311 : (Cond.fieldLink "WipePapersModel" 45 "WipePapersModel" "patterns" "[I") ∈ aw_tb := tb_of 311 rfl rfl
theorem tw_312 : (Cond.fieldLink "WipePapersModel" 113 "WipePapersModel" "papers" "I") ∈ aw_tb := tb_of 312 rfl rfl
theorem tw_313 : (Cond.fieldLink "WipePapersModel" 48 "WipePapersModel" "fields" "[I") ∈ aw_tb := tb_of 313 rfl rfl
theorem tw_314 : (Cond.fieldLink "WipePapersModel" 51 "WipePapersModel" "fieldCounts" "[I") ∈ aw_tb := tb_of 314 rfl rfl
theorem tw_315 : (Cond.fieldLink "WipePapersModel" 131 "WipePapersModel" "listed" "I") ∈ aw_tb := tb_of 315 rfl rfl
theorem tw_316 : (Cond.fieldLink "WipePapersModel" 54 "WipePapersModel" "list" "[J") ∈ aw_tb := tb_of 316 rfl rfl
theorem tw_317 : (Cond.fieldLink "WipePapersModel" 137 "WipePapersModel" "losses" "I") ∈ aw_tb := tb_of 317 rfl rfl
theorem tw_318 : (Cond.fieldLink "WipePapersModel" 57 "WipePapersModel" "lostOnes" "[I") ∈ aw_tb := tb_of 318 rfl rfl
theorem tw_360 : (Cond.methodLink "WipePapersLaw" 19 ⟨"WipePapersModel", "carrier", "(IJI)I"⟩) ∈ aw_tb := tb_of 360 rfl rfl
theorem tw_361 : (Cond.instanceMethod ⟨"WipePapersModel", "carrier", "(IJI)I"⟩) ∈ aw_tb := tb_of 361 rfl rfl
theorem tw_362 : (Cond.selects "WipePapersModel" ⟨"WipePapersModel", "carrier", "(IJI)I"⟩ ⟨"WipePapersModel", "carrier", "(IJI)I"⟩) ∈ aw_tb := tb_of 362 rfl rfl
theorem tw_363 : (Cond.code ⟨"WipePapersModel", "carrier", "(IJI)I"⟩ prog_5_method_8_code 5 (some .int)) ∈ aw_tb := tb_of 363 rfl rfl
theorem tw_364 : (Cond.constantLong "WipePapersModel" 68 3) ∈ aw_tb := tb_of 364 rfl rfl
theorem tw_365 : (Cond.methodLink "WipePapersModel" 70 ⟨"WipePapersModel", "isIn", "(JJJ)Z"⟩) ∈ aw_tb := tb_of 365 rfl rfl
theorem tw_366 : (Cond.static ⟨"WipePapersModel", "isIn", "(JJJ)Z"⟩) ∈ aw_tb := tb_of 366 rfl rfl
theorem tw_367 : (Cond.code ⟨"WipePapersModel", "isIn", "(JJJ)Z"⟩ prog_5_method_3_code 6 (some .boolean)) ∈ aw_tb := tb_of 367 rfl rfl
theorem tw_368 : (Cond.constantLong "WipePapersModel" 74 1000000000000) ∈ aw_tb := tb_of 368 rfl rfl
theorem tw_369 : (Cond.constantLong "WipePapersModel" 76 64) ∈ aw_tb := tb_of 369 rfl rfl
theorem tw_370 : (Cond.methodLink "WipePapersModel" 78 ⟨"WipePapersModel", "hasSerial", "(J)Z"⟩) ∈ aw_tb := tb_of 370 rfl rfl
theorem tw_372 : (Cond.instanceMethod ⟨"WipePapersModel", "hasSerial", "(J)Z"⟩) ∈ aw_tb := tb_of 372 rfl rfl
theorem tw_373 : (Cond.code ⟨"WipePapersModel", "hasSerial", "(J)Z"⟩ prog_5_method_7_code 5 (some .boolean)) ∈ aw_tb := tb_of 373 rfl rfl
theorem tw_374 : (Cond.methodLink "WipePapersLaw" 24 ⟨"WipePapersModel", "state", "(I)I"⟩) ∈ aw_tb := tb_of 374 rfl rfl
theorem tw_375 : (Cond.instanceMethod ⟨"WipePapersModel", "state", "(I)I"⟩) ∈ aw_tb := tb_of 375 rfl rfl
theorem tw_376 : (Cond.selects "WipePapersModel" ⟨"WipePapersModel", "state", "(I)I"⟩ ⟨"WipePapersModel", "state", "(I)I"⟩) ∈ aw_tb := tb_of 376 rfl rfl
theorem tw_377 : (Cond.code ⟨"WipePapersModel", "state", "(I)I"⟩ prog_5_method_9_code 2 (some .int)) ∈ aw_tb := tb_of 377 rfl rfl
theorem tw_378 : (Cond.methodLink "WipePapersModel" 64 ⟨"WipePapersModel", "isCarrier", "(I)Z"⟩) ∈ aw_tb := tb_of 378 rfl rfl
theorem tw_380 : (Cond.instanceMethod ⟨"WipePapersModel", "isCarrier", "(I)Z"⟩) ∈ aw_tb := tb_of 380 rfl rfl
theorem tw_381 : (Cond.code ⟨"WipePapersModel", "isCarrier", "(I)Z"⟩ prog_5_method_4_code 2 (some .boolean)) ∈ aw_tb := tb_of 381 rfl rfl
theorem tw_382 : (Cond.methodLink "WipePapersLaw" 29 ⟨"WipePapersModel", "event", "(III)Z"⟩) ∈ aw_tb := tb_of 382 rfl rfl
theorem tw_383 : (Cond.instanceMethod ⟨"WipePapersModel", "event", "(III)Z"⟩) ∈ aw_tb := tb_of 383 rfl rfl
theorem tw_384 : (Cond.selects "WipePapersModel" ⟨"WipePapersModel", "event", "(III)Z"⟩ ⟨"WipePapersModel", "event", "(III)Z"⟩) ∈ aw_tb := tb_of 384 rfl rfl
theorem tw_385 : (Cond.code ⟨"WipePapersModel", "event", "(III)Z"⟩ prog_5_method_11_code 4 (some .boolean)) ∈ aw_tb := tb_of 385 rfl rfl
theorem tw_386 : (Cond.constantLong "WipePapersModel" 82 9) ∈ aw_tb := tb_of 386 rfl rfl
theorem tw_387 : (Cond.methodLink "WipePapersModel" 84 ⟨"WipePapersModel", "leads", "(II)I"⟩) ∈ aw_tb := tb_of 387 rfl rfl
theorem tw_388 : (Cond.static ⟨"WipePapersModel", "leads", "(II)I"⟩) ∈ aw_tb := tb_of 388 rfl rfl
theorem tw_389 : (Cond.code ⟨"WipePapersModel", "leads", "(II)I"⟩ prog_5_method_10_code 2 (some .int)) ∈ aw_tb := tb_of 389 rfl rfl
theorem tw_390 : (Cond.methodLink "WipePapersModel" 88 ⟨"WipePapersModel", "forget", "(I)V"⟩) ∈ aw_tb := tb_of 390 rfl rfl
theorem tw_392 : (Cond.instanceMethod ⟨"WipePapersModel", "forget", "(I)V"⟩) ∈ aw_tb := tb_of 392 rfl rfl
theorem tw_393 : (Cond.code ⟨"WipePapersModel", "forget", "(I)V"⟩ prog_5_method_15_code 3 (none : Option Jvm.ClassFile.FieldType)) ∈ aw_tb := tb_of 393 rfl rfl
theorem tw_394 : (Cond.methodLink "WipePapersLaw" 33 ⟨"WipePapersModel", "last", "(I)I"⟩) ∈ aw_tb := tb_of 394 rfl rfl
theorem tw_395 : (Cond.instanceMethod ⟨"WipePapersModel", "last", "(I)I"⟩) ∈ aw_tb := tb_of 395 rfl rfl
theorem tw_396 : (Cond.selects "WipePapersModel" ⟨"WipePapersModel", "last", "(I)I"⟩ ⟨"WipePapersModel", "last", "(I)I"⟩) ∈ aw_tb := tb_of 396 rfl rfl
theorem tw_397 : (Cond.code ⟨"WipePapersModel", "last", "(I)I"⟩ prog_5_method_12_code 2 (some .int)) ∈ aw_tb := tb_of 397 rfl rfl
theorem tw_398 : (Cond.methodLink "WipePapersLaw" 38 ⟨"WipePapersModel", "fail", "(II)Z"⟩) ∈ aw_tb := tb_of 398 rfl rfl
theorem tw_399 : (Cond.instanceMethod ⟨"WipePapersModel", "fail", "(II)Z"⟩) ∈ aw_tb := tb_of 399 rfl rfl
theorem tw_400 : (Cond.selects "WipePapersModel" ⟨"WipePapersModel", "fail", "(II)Z"⟩ ⟨"WipePapersModel", "fail", "(II)Z"⟩) ∈ aw_tb := tb_of 400 rfl rfl
theorem tw_401 : (Cond.code ⟨"WipePapersModel", "fail", "(II)Z"⟩ prog_5_method_13_code 3 (some .boolean)) ∈ aw_tb := tb_of 401 rfl rfl
theorem tw_402 : (Cond.methodLink "WipePapersModel" 92 ⟨"WipePapersModel", "isPlace", "(II)Z"⟩) ∈ aw_tb := tb_of 402 rfl rfl
theorem tw_404 : (Cond.instanceMethod ⟨"WipePapersModel", "isPlace", "(II)Z"⟩) ∈ aw_tb := tb_of 404 rfl rfl
theorem tw_405 : (Cond.code ⟨"WipePapersModel", "isPlace", "(II)Z"⟩ prog_5_method_5_code 3 (some .boolean)) ∈ aw_tb := tb_of 405 rfl rfl
theorem tw_406 : (Cond.methodLink "WipePapersModel" 96 ⟨"WipePapersModel", "isGone", "(I)Z"⟩) ∈ aw_tb := tb_of 406 rfl rfl
theorem tw_408 : (Cond.instanceMethod ⟨"WipePapersModel", "isGone", "(I)Z"⟩) ∈ aw_tb := tb_of 408 rfl rfl
theorem tw_409 : (Cond.code ⟨"WipePapersModel", "isGone", "(I)Z"⟩ prog_5_method_6_code 2 (some .boolean)) ∈ aw_tb := tb_of 409 rfl rfl
theorem tw_410 : (Cond.methodLink "WipePapersLaw" 43 ⟨"WipePapersModel", "failed", "(II)I"⟩) ∈ aw_tb := tb_of 410 rfl rfl
theorem tw_411 : (Cond.instanceMethod ⟨"WipePapersModel", "failed", "(II)I"⟩) ∈ aw_tb := tb_of 411 rfl rfl
theorem tw_412 : (Cond.selects "WipePapersModel" ⟨"WipePapersModel", "failed", "(II)I"⟩ ⟨"WipePapersModel", "failed", "(II)I"⟩) ∈ aw_tb := tb_of 412 rfl rfl
theorem tw_413 : (Cond.code ⟨"WipePapersModel", "failed", "(II)I"⟩ prog_5_method_14_code 5 (some .int)) ∈ aw_tb := tb_of 413 rfl rfl
theorem tw_414 : (Cond.methodLink "WipePapersLaw" 47 ⟨"WipePapersModel", "pass", "(II)I"⟩) ∈ aw_tb := tb_of 414 rfl rfl
theorem tw_415 : (Cond.instanceMethod ⟨"WipePapersModel", "pass", "(II)I"⟩) ∈ aw_tb := tb_of 415 rfl rfl
theorem tw_416 : (Cond.selects "WipePapersModel" ⟨"WipePapersModel", "pass", "(II)I"⟩ ⟨"WipePapersModel", "pass", "(II)I"⟩) ∈ aw_tb := tb_of 416 rfl rfl
theorem tw_417 : (Cond.code ⟨"WipePapersModel", "pass", "(II)I"⟩ prog_5_method_16_code 5 (some .int)) ∈ aw_tb := tb_of 417 rfl rfl
theorem tw_418 : (Cond.constantLong "WipePapersModel" 99 257) ∈ aw_tb := tb_of 418 rfl rfl
theorem tw_419 : (Cond.methodLink "WipePapersLaw" 51 ⟨"WipePapersModel", "byteAt", "(II)I"⟩) ∈ aw_tb := tb_of 419 rfl rfl
theorem tw_420 : (Cond.instanceMethod ⟨"WipePapersModel", "byteAt", "(II)I"⟩) ∈ aw_tb := tb_of 420 rfl rfl
theorem tw_421 : (Cond.selects "WipePapersModel" ⟨"WipePapersModel", "byteAt", "(II)I"⟩ ⟨"WipePapersModel", "byteAt", "(II)I"⟩) ∈ aw_tb := tb_of 421 rfl rfl
theorem tw_422 : (Cond.code ⟨"WipePapersModel", "byteAt", "(II)I"⟩ prog_5_method_17_code 3 (some .int)) ∈ aw_tb := tb_of 422 rfl rfl
theorem tw_423 : (Cond.methodLink "WipePapersLaw" 56 ⟨"WipePapersModel", "read", "(III)I"⟩) ∈ aw_tb := tb_of 423 rfl rfl
theorem tw_424 : (Cond.instanceMethod ⟨"WipePapersModel", "read", "(III)I"⟩) ∈ aw_tb := tb_of 424 rfl rfl
theorem tw_425 : (Cond.selects "WipePapersModel" ⟨"WipePapersModel", "read", "(III)I"⟩ ⟨"WipePapersModel", "read", "(III)I"⟩) ∈ aw_tb := tb_of 425 rfl rfl
theorem tw_426 : (Cond.code ⟨"WipePapersModel", "read", "(III)I"⟩ prog_5_method_18_code 7 (some .int)) ∈ aw_tb := tb_of 426 rfl rfl
theorem tw_427 : (Cond.constantLong "WipePapersModel" 101 255) ∈ aw_tb := tb_of 427 rfl rfl
theorem tw_428 : (Cond.methodLink "WipePapersLaw" 60 ⟨"WipePapersModel", "unlike", "(I)I"⟩) ∈ aw_tb := tb_of 428 rfl rfl
theorem tw_429 : (Cond.instanceMethod ⟨"WipePapersModel", "unlike", "(I)I"⟩) ∈ aw_tb := tb_of 429 rfl rfl
theorem tw_430 : (Cond.selects "WipePapersModel" ⟨"WipePapersModel", "unlike", "(I)I"⟩ ⟨"WipePapersModel", "unlike", "(I)I"⟩) ∈ aw_tb := tb_of 430 rfl rfl
theorem tw_431 : (Cond.code ⟨"WipePapersModel", "unlike", "(I)I"⟩ prog_5_method_19_code 2 (some .int)) ∈ aw_tb := tb_of 431 rfl rfl
theorem tw_432 : (Cond.methodLink "WipePapersLaw" 65 ⟨"WipePapersModel", "odds", "(IIII)J"⟩) ∈ aw_tb := tb_of 432 rfl rfl
theorem tw_433 : (Cond.instanceMethod ⟨"WipePapersModel", "odds", "(IIII)J"⟩) ∈ aw_tb := tb_of 433 rfl rfl
theorem tw_434 : (Cond.selects "WipePapersModel" ⟨"WipePapersModel", "odds", "(IIII)J"⟩ ⟨"WipePapersModel", "odds", "(IIII)J"⟩) ∈ aw_tb := tb_of 434 rfl rfl
theorem tw_435 : (Cond.code ⟨"WipePapersModel", "odds", "(IIII)J"⟩ prog_5_method_21_code 14 (some .long)) ∈ aw_tb := tb_of 435 rfl rfl
theorem tw_436 : (Cond.constantLong "WipePapersModel" 103 40) ∈ aw_tb := tb_of 436 rfl rfl
theorem tw_437 : (Cond.constantLong "WipePapersModel" 105 (-1)) ∈ aw_tb := tb_of 437 rfl rfl
theorem tw_438 : (Cond.methodLink "WipePapersModel" 107 ⟨"WipePapersModel", "common", "(JJ)J"⟩) ∈ aw_tb := tb_of 438 rfl rfl
theorem tw_439 : (Cond.static ⟨"WipePapersModel", "common", "(JJ)J"⟩) ∈ aw_tb := tb_of 439 rfl rfl
theorem tw_440 : (Cond.code ⟨"WipePapersModel", "common", "(JJ)J"⟩ prog_5_method_20_code 10 (some .long)) ∈ aw_tb := tb_of 440 rfl rfl
theorem tw_441 : (Cond.methodLink "WipePapersLaw" 69 ⟨"WipePapersModel", "shred", "(II)Z"⟩) ∈ aw_tb := tb_of 441 rfl rfl
theorem tw_442 : (Cond.instanceMethod ⟨"WipePapersModel", "shred", "(II)Z"⟩) ∈ aw_tb := tb_of 442 rfl rfl
theorem tw_443 : (Cond.selects "WipePapersModel" ⟨"WipePapersModel", "shred", "(II)Z"⟩ ⟨"WipePapersModel", "shred", "(II)Z"⟩) ∈ aw_tb := tb_of 443 rfl rfl
theorem tw_444 : (Cond.code ⟨"WipePapersModel", "shred", "(II)Z"⟩ prog_5_method_22_code 3 (some .boolean)) ∈ aw_tb := tb_of 444 rfl rfl
theorem tw_445 : (Cond.constantLong "WipePapersModel" 111 100) ∈ aw_tb := tb_of 445 rfl rfl
theorem tw_446 : (Cond.methodLink "WipePapersLaw" 73 ⟨"WipePapersModel", "paper", "(III)I"⟩) ∈ aw_tb := tb_of 446 rfl rfl
theorem tw_447 : (Cond.instanceMethod ⟨"WipePapersModel", "paper", "(III)I"⟩) ∈ aw_tb := tb_of 447 rfl rfl
theorem tw_448 : (Cond.selects "WipePapersModel" ⟨"WipePapersModel", "paper", "(III)I"⟩ ⟨"WipePapersModel", "paper", "(III)I"⟩) ∈ aw_tb := tb_of 448 rfl rfl
theorem tw_449 : (Cond.code ⟨"WipePapersModel", "paper", "(III)I"⟩ prog_5_method_23_code 6 (some .int)) ∈ aw_tb := tb_of 449 rfl rfl
theorem tw_450 : (Cond.methodLink "WipePapersLaw" 77 ⟨"WipePapersModel", "at", "(II)I"⟩) ∈ aw_tb := tb_of 450 rfl rfl
theorem tw_451 : (Cond.instanceMethod ⟨"WipePapersModel", "at", "(II)I"⟩) ∈ aw_tb := tb_of 451 rfl rfl
theorem tw_452 : (Cond.selects "WipePapersModel" ⟨"WipePapersModel", "at", "(II)I"⟩ ⟨"WipePapersModel", "at", "(II)I"⟩) ∈ aw_tb := tb_of 452 rfl rfl
theorem tw_453 : (Cond.code ⟨"WipePapersModel", "at", "(II)I"⟩ prog_5_method_25_code 3 (some .int)) ∈ aw_tb := tb_of 453 rfl rfl
theorem tw_454 : (Cond.methodLink "WipePapersModel" 116 ⟨"WipePapersModel", "isPaper", "(I)Z"⟩) ∈ aw_tb := tb_of 454 rfl rfl
theorem tw_456 : (Cond.instanceMethod ⟨"WipePapersModel", "isPaper", "(I)Z"⟩) ∈ aw_tb := tb_of 456 rfl rfl
theorem tw_457 : (Cond.code ⟨"WipePapersModel", "isPaper", "(I)Z"⟩ prog_5_method_24_code 2 (some .boolean)) ∈ aw_tb := tb_of 457 rfl rfl
theorem tw_458 : (Cond.methodLink "WipePapersLaw" 81 ⟨"WipePapersModel", "mark", "(IJI)I"⟩) ∈ aw_tb := tb_of 458 rfl rfl
theorem tw_459 : (Cond.instanceMethod ⟨"WipePapersModel", "mark", "(IJI)I"⟩) ∈ aw_tb := tb_of 459 rfl rfl
theorem tw_460 : (Cond.selects "WipePapersModel" ⟨"WipePapersModel", "mark", "(IJI)I"⟩ ⟨"WipePapersModel", "mark", "(IJI)I"⟩) ∈ aw_tb := tb_of 460 rfl rfl
theorem tw_461 : (Cond.code ⟨"WipePapersModel", "mark", "(IJI)I"⟩ prog_5_method_27_code 5 (some .int)) ∈ aw_tb := tb_of 461 rfl rfl
theorem tw_462 : (Cond.constantLong "WipePapersModel" 121 7) ∈ aw_tb := tb_of 462 rfl rfl
theorem tw_463 : (Cond.methodLink "WipePapersModel" 123 ⟨"WipePapersModel", "markOf", "(IJ)J"⟩) ∈ aw_tb := tb_of 463 rfl rfl
theorem tw_465 : (Cond.instanceMethod ⟨"WipePapersModel", "markOf", "(IJ)J"⟩) ∈ aw_tb := tb_of 465 rfl rfl
theorem tw_466 : (Cond.code ⟨"WipePapersModel", "markOf", "(IJ)J"⟩ prog_5_method_26_code 7 (some .long)) ∈ aw_tb := tb_of 466 rfl rfl
theorem tw_467 : (Cond.constantLong "WipePapersModel" 119 6364136223846793005) ∈ aw_tb := tb_of 467 rfl rfl
theorem tw_468 : (Cond.methodLink "WipePapersLaw" 86 ⟨"WipePapersModel", "check", "(IJJ)Z"⟩) ∈ aw_tb := tb_of 468 rfl rfl
theorem tw_469 : (Cond.instanceMethod ⟨"WipePapersModel", "check", "(IJJ)Z"⟩) ∈ aw_tb := tb_of 469 rfl rfl
theorem tw_470 : (Cond.selects "WipePapersModel" ⟨"WipePapersModel", "check", "(IJJ)Z"⟩ ⟨"WipePapersModel", "check", "(IJJ)Z"⟩) ∈ aw_tb := tb_of 470 rfl rfl
theorem tw_471 : (Cond.code ⟨"WipePapersModel", "check", "(IJJ)Z"⟩ prog_5_method_28_code 8 (some .boolean)) ∈ aw_tb := tb_of 471 rfl rfl
theorem tw_472 : (Cond.methodLink "WipePapersModel" 127 ⟨"WipePapersModel", "mark", "(IJI)I"⟩) ∈ aw_tb := tb_of 472 rfl rfl
theorem tw_473 : (Cond.methodLink "WipePapersLaw" 91 ⟨"WipePapersModel", "listed", "(J)I"⟩) ∈ aw_tb := tb_of 473 rfl rfl
theorem tw_474 : (Cond.instanceMethod ⟨"WipePapersModel", "listed", "(J)I"⟩) ∈ aw_tb := tb_of 474 rfl rfl
theorem tw_475 : (Cond.selects "WipePapersModel" ⟨"WipePapersModel", "listed", "(J)I"⟩ ⟨"WipePapersModel", "listed", "(J)I"⟩) ∈ aw_tb := tb_of 475 rfl rfl
theorem tw_476 : (Cond.code ⟨"WipePapersModel", "listed", "(J)I"⟩ prog_5_method_30_code 3 (some .int)) ∈ aw_tb := tb_of 476 rfl rfl
theorem tw_477 : (Cond.methodLink "WipePapersModel" 134 ⟨"WipePapersModel", "isListed", "(J)Z"⟩) ∈ aw_tb := tb_of 477 rfl rfl
theorem tw_479 : (Cond.instanceMethod ⟨"WipePapersModel", "isListed", "(J)Z"⟩) ∈ aw_tb := tb_of 479 rfl rfl
theorem tw_480 : (Cond.code ⟨"WipePapersModel", "isListed", "(J)Z"⟩ prog_5_method_29_code 5 (some .boolean)) ∈ aw_tb := tb_of 480 rfl rfl
theorem tw_481 : (Cond.methodLink "WipePapersLaw" 95 ⟨"WipePapersModel", "missing", "(I)I"⟩) ∈ aw_tb := tb_of 481 rfl rfl
theorem tw_482 : (Cond.instanceMethod ⟨"WipePapersModel", "missing", "(I)I"⟩) ∈ aw_tb := tb_of 482 rfl rfl
theorem tw_483 : (Cond.selects "WipePapersModel" ⟨"WipePapersModel", "missing", "(I)I"⟩ ⟨"WipePapersModel", "missing", "(I)I"⟩) ∈ aw_tb := tb_of 483 rfl rfl
theorem tw_484 : (Cond.code ⟨"WipePapersModel", "missing", "(I)I"⟩ prog_5_method_31_code 4 (some .int)) ∈ aw_tb := tb_of 484 rfl rfl
theorem tw_485 : (Cond.methodLink "WipePapersLaw" 99 ⟨"WipePapersModel", "extra", "(I)I"⟩) ∈ aw_tb := tb_of 485 rfl rfl
theorem tw_486 : (Cond.instanceMethod ⟨"WipePapersModel", "extra", "(I)I"⟩) ∈ aw_tb := tb_of 486 rfl rfl
theorem tw_487 : (Cond.selects "WipePapersModel" ⟨"WipePapersModel", "extra", "(I)I"⟩ ⟨"WipePapersModel", "extra", "(I)I"⟩) ∈ aw_tb := tb_of 487 rfl rfl
theorem tw_488 : (Cond.code ⟨"WipePapersModel", "extra", "(I)I"⟩ prog_5_method_32_code 4 (some .int)) ∈ aw_tb := tb_of 488 rfl rfl
theorem tw_489 : (Cond.methodLink "WipePapersLaw" 103 ⟨"WipePapersModel", "lost", "(I)I"⟩) ∈ aw_tb := tb_of 489 rfl rfl
theorem tw_490 : (Cond.instanceMethod ⟨"WipePapersModel", "lost", "(I)I"⟩) ∈ aw_tb := tb_of 490 rfl rfl
theorem tw_491 : (Cond.selects "WipePapersModel" ⟨"WipePapersModel", "lost", "(I)I"⟩ ⟨"WipePapersModel", "lost", "(I)I"⟩) ∈ aw_tb := tb_of 491 rfl rfl
theorem tw_492 : (Cond.code ⟨"WipePapersModel", "lost", "(I)I"⟩ prog_5_method_33_code 2 (some .int)) ∈ aw_tb := tb_of 492 rfl rfl
theorem tw_493 : (Cond.methodLink "WipePapersLaw" 107 ⟨"WipePapersModel", "told", "(I)I"⟩) ∈ aw_tb := tb_of 493 rfl rfl
theorem tw_494 : (Cond.instanceMethod ⟨"WipePapersModel", "told", "(I)I"⟩) ∈ aw_tb := tb_of 494 rfl rfl
theorem tw_495 : (Cond.selects "WipePapersModel" ⟨"WipePapersModel", "told", "(I)I"⟩ ⟨"WipePapersModel", "told", "(I)I"⟩) ∈ aw_tb := tb_of 495 rfl rfl
theorem tw_496 : (Cond.code ⟨"WipePapersModel", "told", "(I)I"⟩ prog_5_method_34_code 2 (some .int)) ∈ aw_tb := tb_of 496 rfl rfl
theorem tw_497 : (Cond.methodLink "WipePapersLaw" 112 ⟨"WipePapersModel", "states", "()I"⟩) ∈ aw_tb := tb_of 497 rfl rfl
theorem tw_498 : (Cond.instanceMethod ⟨"WipePapersModel", "states", "()I"⟩) ∈ aw_tb := tb_of 498 rfl rfl
theorem tw_499 : (Cond.selects "WipePapersModel" ⟨"WipePapersModel", "states", "()I"⟩ ⟨"WipePapersModel", "states", "()I"⟩) ∈ aw_tb := tb_of 499 rfl rfl
theorem tw_500 : (Cond.code ⟨"WipePapersModel", "states", "()I"⟩ prog_5_method_35_code 5 (some .int)) ∈ aw_tb := tb_of 500 rfl rfl
theorem tw_501 : (Cond.constantLong "WipePapersLaw" 13 4294967295) ∈ aw_tb := tb_of 501 rfl rfl
end
section
/-! THE JUDGEMENT AW: a frame of a method over ONE heap, seen through labels (family, number, part); labels have addresses 'ad' and cells 'ce'. Everything behind 01.names; aw_cl, aw_ty, aw_tb, aw_nM are the claim's own tables. -/
abbrev aw_Lb : Type := Nat × Nat × Nat
abbrev aw_Cell : Type := (Nat × vp_A) ⊕ (Nat × List Value)
abbrev aw_Ad : Type := aw_Lb → Nat
abbrev aw_He : Type := aw_Lb → Option aw_Cell
def aw_up {α : Type} (f : aw_Lb → α) (k : aw_Lb) (v : α) : aw_Lb → α := fun j => if j = k then v else f j
theorem aw_up_self {α : Type} (f : aw_Lb → α) (k : aw_Lb) (v : α) : aw_up f k v k = v := by simp [aw_up]
theorem aw_up_ne {α : Type} (f : aw_Lb → α) {k j : aw_Lb} (v : α) (h : j ≠ k) : aw_up f k v j = f j := by simp [aw_up, h]
theorem aw_up_up {α : Type} (f : aw_Lb → α) (k : aw_Lb) (v w : α) : aw_up (aw_up f k v) k w = aw_up f k w := by
  funext j
  by_cases h : j = k <;> simp [aw_up, h]
theorem aw_up_id {α : Type} {f : aw_Lb → α} {k : aw_Lb} {v : α} (h : f k = v) : aw_up f k v = f := by
  funext j
  by_cases hj : j = k
  · subst hj; simp [aw_up, h]
  · simp [aw_up, hj]
theorem aw_up_comm {α : Type} (f : aw_Lb → α) {k j : aw_Lb} (v w : α) (h : k ≠ j) : aw_up (aw_up f k v) j w = aw_up (aw_up f j w) k v := by
  funext i
  by_cases h1 : i = j
  · subst h1; simp [aw_up, Ne.symm h]
  · by_cases h2 : i = k <;> simp [aw_up, h1, h2, h]
def aw_E (aC : Nat → ClassId) (x : aw_Cell) : va_E := match x with
  | .inl a => .inl (aC a.1, a.2)
  | .inr o => .inr o
/-- classes and slots, the array classes, the first address that is ours -/
abbrev aw_G : Type := va_G × (Nat → ClassId) × Nat
def aw_A (G : aw_G) : Nat → Prop := fun q => G.2.2 ≤ q
def aw_H (G : aw_G) (ad : aw_Ad) (ce : aw_He) (H : Heap) : Prop :=
  (∀ k e, ce k = some e → va_at G.1 aw_cl (ad k, aw_E G.2.1 e) H ∧ aw_A G (ad k)) ∧ ∀ j k e f, ce j = some e → ce k = some f → ad j = ad k → j = k
def aw_tys (aC : Nat → ClassId) : List (ClassId × FieldType) := aw_ty.zipIdx.map (fun q => (aC q.2, q.1))
theorem aw_tys_at {aC : Nat → ClassId} {k : Nat} {t : FieldType} (h : aw_ty[k]? = some t) : (aw_tys aC)[k]? = some (aC k, t) := by
  simp [aw_tys, List.getElem?_zipIdx, h]
def aw_nst : List Cond := aw_nM.map (fun q => Cond.methodLinkNest q.1 q.2.1 q.2.2.1 q.2.2.2)
def aw_K (G : aw_G) (U : State) : Prop := va_K G.1 aw_cl (aw_tys G.2.1) U ∧ (∀ w ∈ aw_nst, va_Nw w U) ∧ ∀ q ∈ aw_ao, va_AO q U
theorem aw_K.warm {G : aw_G} {s U : State} (hW : s.WarmedH U.vm) (h : aw_K G s) : aw_K G U := by
  refine ⟨va_K.moved hW.alike h.1, fun w hw => ?_, fun q hq => (h.2.2 q hq).moved hW.alike⟩
  have h2 := h.2.1 w hw
  obtain ⟨q, -, rfl⟩ := List.mem_map.mp hw
  exact va_Nw.warmM hW h2
theorem aw_K.calling {G : aw_G} {U : State} {g : JFrame} {mk : MethodId} {a : Array Value} (h : aw_K G U) : aw_K G (U.calling g mk a) := by
  refine ⟨va_K.moved (u := U) (U := U.calling g mk a) (Vm.Alike.refl U.vm) h.1, fun w hw => ?_, fun q hq => va_AO.moved (u := U) (U := U.calling g mk a) (Vm.Alike.refl U.vm) (h.2.2 q hq)⟩
  have h2 := h.2.1 w hw
  obtain ⟨q, -, rfl⟩ := List.mem_map.mp hw
  exact va_Nw.same rfl (rfl : U.vm = (U.calling g mk a).vm) h2
theorem aw_H.P {G : aw_G} {ad : aw_Ad} {ce : aw_He} {H : Heap} (h : aw_H G ad ce H) {k : aw_Lb} {e : aw_Cell} (hk : ce k = some e) : va_P G.1 aw_cl [(ad k, aw_E G.2.1 e)] H := by
  intro j q hq
  match j, hq with
  | 0, hq => cases hq; exact (h.1 k e hk).1
  | j + 1, hq => simp at hq
theorem aw_H.set {G : aw_G} {ad : aw_Ad} {ce : aw_He} {H H1 : Heap} (h : aw_H G ad ce H) {k : aw_Lb} {e0 e : aw_Cell} (hk : ce k = some e0) (he : va_at G.1 aw_cl (ad k, aw_E G.2.1 e) H1) (ho : ∀ q : Nat, q ≠ ad k → H1[q]? = H[q]?) : aw_H G ad (aw_up ce k (some e)) H1 := by
  have dom : ∀ j f, aw_up ce k (some e) j = some f → ∃ f0, ce j = some f0 := by
    intro j f hj
    by_cases hjk : j = k
    · subst hjk; exact ⟨e0, hk⟩
    · rw [aw_up_ne _ _ hjk] at hj; exact ⟨f, hj⟩
  refine ⟨fun j f hj => ?_, fun j i f g hj hi hji => ?_⟩
  · by_cases hjk : j = k
    · subst hjk
      rw [aw_up_self] at hj
      cases hj
      exact ⟨he, (h.1 j e0 hk).2⟩
    · rw [aw_up_ne _ _ hjk] at hj
      have h1 := h.1 j f hj
      refine ⟨h1.1.kept (ho _ (fun q => hjk (h.2 j k f e0 hj hk q))), h1.2⟩
  · obtain ⟨f0, hj0⟩ := dom j f hj
    obtain ⟨g0, hi0⟩ := dom i g hi
    exact h.2 j i f0 g0 hj0 hi0 hji
theorem aw_H.new {G : aw_G} {ad : aw_Ad} {ce : aw_He} {H H1 : Heap} (h : aw_H G ad ce H) {k : aw_Lb} {e : aw_Cell} (hk : ce k = none) (hb : G.2.2 ≤ H.size) (he : va_at G.1 aw_cl (H.size, aw_E G.2.1 e) H1) (ho : ∀ q : Nat, q < H.size → H1[q]? = H[q]?) : aw_H G (aw_up ad k H.size) (aw_up ce k (some e)) H1 := by
  have lt : ∀ j f, ce j = some f → ad j < H.size := fun j f hj => (h.1 j f hj).1.lt
  have ne : ∀ j f, ce j = some f → j ≠ k := fun j f hj q => by rw [q, hk] at hj; cases hj
  have cs : ∀ j f, aw_up ce k (some e) j = some f → (j = k ∧ f = e) ∨ ce j = some f := by
    intro j f hj
    by_cases hjk : j = k
    · subst hjk; rw [aw_up_self] at hj; cases hj; exact Or.inl ⟨rfl, rfl⟩
    · rw [aw_up_ne _ _ hjk] at hj; exact Or.inr hj
  refine ⟨fun j f hj => ?_, fun j i f g hj hi hji => ?_⟩
  · rcases cs j f hj with ⟨rfl, rfl⟩ | hj
    · rw [aw_up_self]; exact ⟨he, hb⟩
    · have h1 := h.1 j f hj
      rw [aw_up_ne _ _ (ne j f hj)]
      exact ⟨h1.1.kept (ho _ (lt j f hj)), h1.2⟩
  · rcases cs j f hj with ⟨rfl, rfl⟩ | hj1 <;> rcases cs i g hi with ⟨rfl, rfl⟩ | hi1
    · rfl
    · rw [aw_up_self, aw_up_ne _ _ (ne i g hi1)] at hji
      have := lt i g hi1
      omega
    · rw [aw_up_self, aw_up_ne _ _ (ne j f hj1)] at hji
      have := lt j f hj1
      omega
    · rw [aw_up_ne _ _ (ne j f hj1), aw_up_ne _ _ (ne i g hi1)] at hji
      exact h.2 j i f g hj1 hi1 hji
/-- everything that stays while a method's body runs -/
abbrev aw_X : Type := Program × Launch × Env × Room × State × MethodId × Array Value × List Frame × Method × Code × (State → Prop) × aw_G
def AW (X : aw_X) (nL cells slots : Nat) (ad : aw_Ad) (ce : aw_He) (pc : Nat) (lv : List (Nat × Value)) (st : List Value) : Prop := match X with
  | (p, l, e, R, s, m, args, below, meth, c, Q, G) => ∀ (H : Heap) (locs : List Loc) (ls : Array Slot), aw_H G ad ce H → va_S (aw_A G) s.heap H locs → lv_has ls nL lv → W p l e R s m args below meth c H locs cells slots Q (F0 m pc ls st)
def aw_ok (X : aw_X) (cc : ByteArray) (nL : Nat) (own : String) : Prop := match X with
  | (p, _, _, _, s, m, args, _, meth, c, _, G) => p.tables.exec = Jvm.exec ∧ c.code = cc ∧ c.maxLocals = nL ∧ s.vm.findClass own = some m.cls ∧ (∀ w ∈ aw_tb, w.before args s = true) ∧ meth.locks = false ∧ aw_K G s ∧ G.2.2 ≤ s.heap.size
def aw_in (X : aw_X) (l0 : Launch) (G0 : aw_G) (R0 : Room) : Prop := match X with
  | (_, l, _, R, _, _, _, _, _, _, _, G) => l = l0 ∧ G = G0 ∧ R = R0
def aw_Qc (G : aw_G) (P : Option Value → aw_Ad → aw_He → Prop) : Array Value → State → Outcome → State → Prop := fun _ st oc t =>
  (∃ (r : Option Value) (ad : aw_Ad) (ce : aw_He), oc = .returned r ∧ P r ad ce ∧ aw_H G ad ce t.heap) ∧ va_F (aw_A G) st t
def aw_Pc (G : aw_G) (as : List Value) (ad : aw_Ad) (ce : aw_He) : Array Value → State → Prop := va_Pc as (fun U => aw_H G ad ce U.heap ∧ aw_K G U ∧ G.2.2 ≤ U.heap.size)
abbrev aw_M : Type := MethodName × ByteArray × Nat × Option FieldType
def aw_rm (d lo mc ms : Nat) : Room := { frames := d, cells := mc, slots := ms, locals := lo }
/-- A METHOD'S CONTRACT: with these arguments over this heap it returns, and P holds of the answer and of the heap behind it; depth d, at most mc new cells of ms slots -/
def CT (l : Launch) (G : aw_G) (M : aw_M) (d lo mc ms : Nat) (as : List Value) (ad : aw_Ad) (ce : aw_He) (P : Option Value → aw_Ad → aw_He → Prop) : Prop :=
  Met l M.1 (.code M.1 M.2.1 M.2.2.1 M.2.2.2 :: aw_tb) (aw_rm d lo mc ms) (aw_Pc G as ad ce) (aw_Qc G P) mc ms (aw_A G)
def aw_me (X : aw_X) (nm : String) (ret : Option FieldType) (mc ms : Nat) (P : Option Value → aw_Ad → aw_He → Prop) : Prop := match X with
  | (_, _, _, _, s, _, args, below, meth, _, Q, G) => meth.name = nm ∧ meth.sig.returnType = ret ∧ Q = MQ below (aw_Qc G P) args s mc ms (aw_A G)
theorem CT.of {l : Launch} {G : aw_G} {y : MethodName} {cc : ByteArray} {nL : Nat} {ret : Option FieldType} {d lo mc ms : Nat} {as : List Value} {ad : aw_Ad} {ce : aw_He} {P : Option Value → aw_Ad → aw_He → Prop} (hy : plainName y.cls = true) (hlen : (lg_sl as).length ≤ nL)
    (body : ∀ X : aw_X, aw_ok X cc nL y.cls → aw_in X l G (aw_rm d lo mc ms) → aw_me X y.name ret mc ms P → AW X nL 0 0 ad ce 0 (lv_args 0 as) []) : CT l G (y, cc, nL, ret) d lo mc ms as ad ce P := by
  refine Met.ofW (cc := cc) (maxL := nL) (ret := ret) hy rfl ?_
  intro p e s m args below meth c s₁ B hml hv
  obtain ⟨rfl, hH, hK, hbs⟩ := hv
  have hts := atoms_spec (ws := .code y cc nL ret :: aw_tb) B.pre
  have hown : s.vm.findClass y.cls = some m.cls := findClass_of_methodNamed B.named
  have h := body (p, l, e, aw_rm d lo mc ms, s, m, as.toArray, below, meth, c, MQ below (aw_Qc G P) as.toArray s mc ms (aw_A G), G) ⟨B.exec, B.bytes, hml, hown, fun w hw => hts w (List.mem_cons_of_mem _ hw), B.notSynchronized, hK, hbs⟩ ⟨rfl, rfl, rfl⟩ ⟨(name_of_methodNamed B.named B.method).1, B.returns, rfl⟩
  rw [lg_entry_eq]
  exact h s.heap [] _ hH va_S.rf (lv_entry as hlen)
section AWret
variable {X : aw_X} {cc : ByteArray} {nL : Nat} {own : String} {cells slots : Nat} {ad : aw_Ad} {ce : aw_He} {pc : Nat} {lv : List (Nat × Value)} {nm : String} {mc ms : Nat} {P : Option Value → aw_Ad → aw_He → Prop}
theorem aw_iret (C : aw_ok X cc nL own) {ty : FieldType} {v : Int32} (E : aw_me X nm (some ty) mc ms P) (hn : narrow ty (.int v) = .int v) (hc : cells ≤ mc) (hs : slots ≤ ms) (hd : decode cc pc = .ok (.ireturn, 1)) (hP : P (some (.int v)) ad ce) : AW X nL cells slots ad ce pc lv [.int v] := by
  obtain ⟨p, l, e, R, s, m, args, below, meth, c, Q, G⟩ := X
  obtain ⟨hx, hb, hml, hown, hts, hlk, hK, hbs⟩ := C
  obtain ⟨-, hr, rfl⟩ := E
  intro H locs ls hH hS hl
  refine W.widen hc hs ?_
  exact W.zret hx hb hr hn (fun t ht hW => ⟨⟨_, ad, ce, rfl, hP, by rw [ht]; exact hH⟩, hS.F ht⟩) hS.2.2 hd hlk
theorem aw_lret (C : aw_ok X cc nL own) {v : Int64} (E : aw_me X nm (some .long) mc ms P) (hc : cells ≤ mc) (hs : slots ≤ ms) (hd : decode cc pc = .ok (.lreturn, 1)) (hP : P (some (.long v)) ad ce) : AW X nL cells slots ad ce pc lv [.long v] := by
  obtain ⟨p, l, e, R, s, m, args, below, meth, c, Q, G⟩ := X
  obtain ⟨hx, hb, hml, hown, hts, hlk, hK, hbs⟩ := C
  obtain ⟨-, hr, rfl⟩ := E
  intro H locs ls hH hS hl
  refine W.widen hc hs ?_
  exact W.lret hx hb hr (fun t ht hW => ⟨⟨_, ad, ce, rfl, hP, by rw [ht]; exact hH⟩, hS.F ht⟩) hS.2.2 hd hlk
theorem aw_vret (C : aw_ok X cc nL own) (E : aw_me X nm none mc ms P) (hc : cells ≤ mc) (hs : slots ≤ ms) (hd : decode cc pc = .ok (.return_, 1)) (hP : P none ad ce) : AW X nL cells slots ad ce pc lv [] := by
  obtain ⟨p, l, e, R, s, m, args, below, meth, c, Q, G⟩ := X
  obtain ⟨hx, hb, hml, hown, hts, hlk, hK, hbs⟩ := C
  obtain ⟨-, hr, rfl⟩ := E
  intro H locs ls hH hS hl
  refine W.widen hc hs ?_
  exact W.vret hx hb hr (fun t ht hW => ⟨⟨_, ad, ce, rfl, hP, by rw [ht]; exact hH⟩, hS.F ht⟩) hS.2.2 hd hlk
theorem aw_aret (C : aw_ok X cc nL own) {v : Value} {rt : FieldType} (E : aw_me X nm (some rt) mc ms P) (hrt : (∃ n, rt = .object n) ∨ ∃ t, rt = .array t) (hv : v = .null ∨ ∃ a, v = .ref a) (hc : cells ≤ mc) (hs : slots ≤ ms) (hd : decode cc pc = .ok (.areturn, 1)) (hP : P (some v) ad ce) : AW X nL cells slots ad ce pc lv [v] := by
  obtain ⟨p, l, e, R, s, m, args, below, meth, c, Q, G⟩ := X
  obtain ⟨hx, hb, hml, hown, hts, hlk, hK, hbs⟩ := C
  obtain ⟨-, hr, rfl⟩ := E
  intro H locs ls hH hS hl
  refine W.widen hc hs ?_
  exact W.aret hx hb hr hrt hv (fun t ht hW => ⟨⟨_, ad, ce, rfl, hP, by rw [ht]; exact hH⟩, hS.F ht⟩) hS.2.2 hd hlk
end AWret
section AWcall
variable {X : aw_X} {cc : ByteArray} {nL : Nat} {own : String} {cells slots : Nat} {ad : aw_Ad} {ce : aw_He} {pc : Nat} {lv : List (Nat × Value)} {st : List Value}
variable {l0 : Launch} {G0 : aw_G} {R0 : Room} {idx : Nat} {d lo mc ms : Nat} {as rest : List Value} {P : Option Value → aw_Ad → aw_He → Prop}
theorem aw_good : ∀ w ∈ aw_tb, (w.onTables && w.keeps) = true ∨ ∃ ty, w = .arrayClass ty := by
  intro w hw
  have h := List.all_eq_true.mp aw_tb_good w hw
  exact good_of_word h
theorem aw_goodIn {y : MethodName} {b : ByteArray} {n : Nat} {r : Option FieldType} (h : Cond.code y b n r ∈ aw_tb) (pre : List Cond) (hp : ∀ w ∈ pre, w ∈ aw_tb) : GoodIn aw_tb (pre ++ (.code y b n r :: aw_tb)) := by
  have hm : ∀ w ∈ pre ++ (.code y b n r :: aw_tb), w ∈ aw_tb := by
    intro w hw
    rcases List.mem_append.mp hw with h1 | h1
    · exact hp w h1
    · rcases List.mem_cons.mp h1 with rfl | h1
      · exact h
      · exact h1
  exact fun w hw => ⟨hm w hw, aw_good w (hm w hw)⟩
/-- the world that the callee begins with -/
theorem aw_pre {s : State} {H : Heap} {G : aw_G} (hH : aw_H G ad ce H) (hK : aw_K G s) (hb : G.2.2 ≤ H.size) : PreS s H (aw_Pc G as ad ce) as := by
  refine ⟨fun a U g mk q => ?_, fun U hU hW => ?_⟩
  · obtain ⟨q0, q1, q2, q3⟩ := q
    exact ⟨q0, q1, q2.calling, q3⟩
  · exact ⟨rfl, by rw [hU]; exact hH, hK.warm hW, by rw [hU]; exact hb⟩
theorem aw_after {p : Program} {l : Launch} {e : Env} {R : Room} {s : State} {m : MethodId} {args : Array Value} {below : List Frame} {meth : Method} {c : Code} {Q : State → Prop} {G : aw_G} {H : Heap} {locs : List Loc} {ls : Array Slot} {a : Array Value}
    (hS : va_S (aw_A G) s.heap H locs) (hl : lv_has ls nL lv)
    (hr : va_Run p l e R s m args below meth c H locs cells slots mc ms (F0 m pc ls st) rest (aw_Qc G P a) (aw_A G))
    (kk : ∀ r ad' ce', P r ad' ce' → AW (p, l, e, R, s, m, args, below, meth, c, Q, G) nL (cells + mc) (slots + ms) ad' ce' (pc + 3) lv (r.toList ++ rest)) :
    W p l e R s m args below meth c H locs cells slots Q (F0 m pc ls st) := by
  intro T hT X
  obtain ⟨v, st₀, t, T', L, h0, X', hL, e1, e2, ⟨⟨r, ad', ce', hv, hp, hH⟩, hz, hk⟩, sts⟩ := hr T hT X
  cases hv
  rw [h0] at hz hk
  have hS' : va_S (aw_A G) s.heap T'.heap (locs ++ L) := ⟨Nat.le_trans hS.1 (by rw [e1]; exact hz), fun q h1 h2 => by rw [e1, hk q (Nat.lt_of_lt_of_le h1 hS.1) h2]; exact hS.2.1 q h1 h2, fun q hq => by
      rcases List.mem_append.mp hq with h | h
      · exact hS.2.2 q h
      · exact hL q h⟩
  obtain ⟨t2, a1, b1⟩ := kk v ad' ce' hp T'.heap (locs ++ L) ls (by rw [e1]; exact hH) hS' hl T' rfl X'
  exact ⟨t2, sts t2 a1, b1⟩
def aw_gM (y : MethodName) (n : Nat) : Prop := y.cls ≠ "java/lang/invoke/MethodHandle" ∧ y.cls ≠ "java/lang/invoke/VarHandle" ∧ (parseMethodDescriptor y.desc).map (fun d => d.parameters.length) = some n
/-- a static method, of its own class or of another one -/
def aw_gS (own : String) (idx : Nat) (M : aw_M) (n : Nat) : Prop := (Cond.methodLink own idx M.1 ∈ aw_tb ∧ Cond.static M.1 ∈ aw_tb ∧ Cond.initialized M.1.cls ∈ aw_tb) ∧ Cond.code M.1 M.2.1 M.2.2.1 M.2.2.2 ∈ aw_tb ∧ aw_gM M.1 n
theorem aw_callS (C : aw_ok X cc nL own) (I : aw_in X l0 G0 R0) {M : aw_M} (hM : CT l0 G0 M d lo mc ms as ad ce P) (g : aw_gS own idx M as.length) (hR : d + 1 ≤ R0.frames ∧ (M.2.2.1 + 19) + lo ≤ R0.locals) (hf : cells + mc ≤ R0.cells ∧ slots + ms ≤ R0.slots) (hst : st = as.reverse ++ rest) (hw : (rest.map fun v => v.category).sum ≤ 8) (hd : decode cc pc = .ok (.invokestatic idx, 3))
    (kk : ∀ r ad' ce', P r ad' ce' → AW X nL (cells + mc) (slots + ms) ad' ce' (pc + 3) lv (r.toList ++ rest)) : AW X nL cells slots ad ce pc lv st := by
  obtain ⟨p, l, e, R, s, m, args, below, meth, c, Q, G⟩ := X
  obtain ⟨hx, hb, hml, hown, hts, hlk, hK, hbs⟩ := C
  obtain ⟨rfl, rfl, rfl⟩ := I
  obtain ⟨⟨g1, g2, g3⟩, g4, g5⟩ := g
  intro H locs ls hH hS hl
  have cw := va_cwS (R := R) (s := s) (args := args) (own := own) (index := idx) (rm := aw_rm d lo mc ms) (mc := mc) (ms := ms) as.length hts (aw_goodIn g4 [.methodLink own idx M.1, .static M.1, .initialized M.1.cls] (by intro w hw; simp only [List.mem_cons, List.not_mem_nil, or_false] at hw; rcases hw with rfl | rfl | rfl <;> assumption)) rfl rfl rfl g5 ⟨hR.1, by show 8 + (M.2.2.1 + 11) + lo ≤ R.locals; omega⟩
  exact aw_after hS hl (va_runS (As := as) (rest := rest) ⟨hx, hb, hml, hown, hts⟩ hM cw (aw_pre hH hK (Nat.le_trans hbs hS.1)) rfl rfl hl.1 hst (lv_room hw) hd hf) kk
/-- a static private method of a nest mate -/
def aw_gSN (own : String) (idx : Nat) (host : String) (M : aw_M) (n : Nat) : Prop := (own, idx, M.1, host) ∈ aw_nM ∧ Cond.static M.1 ∈ aw_tb ∧ Cond.initialized M.1.cls ∈ aw_tb ∧ Cond.code M.1 M.2.1 M.2.2.1 M.2.2.2 ∈ aw_tb ∧ aw_gM M.1 n
theorem aw_callSN (C : aw_ok X cc nL own) (I : aw_in X l0 G0 R0) {M : aw_M} {host : String} (hM : CT l0 G0 M d lo mc ms as ad ce P) (g : aw_gSN own idx host M as.length) (hR : d + 1 ≤ R0.frames ∧ (M.2.2.1 + 19) + lo ≤ R0.locals) (hf : cells + mc ≤ R0.cells ∧ slots + ms ≤ R0.slots) (hst : st = as.reverse ++ rest) (hw : (rest.map fun v => v.category).sum ≤ 8) (hd : decode cc pc = .ok (.invokestatic idx, 3))
    (kk : ∀ r ad' ce', P r ad' ce' → AW X nL (cells + mc) (slots + ms) ad' ce' (pc + 3) lv (r.toList ++ rest)) : AW X nL cells slots ad ce pc lv st := by
  obtain ⟨p, l, e, R, s, m, args, below, meth, c, Q, G⟩ := X
  obtain ⟨hx, hb, hml, hown, hts, hlk, hK, hbs⟩ := C
  obtain ⟨rfl, rfl, rfl⟩ := I
  obtain ⟨g1, g2, g3, g4, g5⟩ := g
  intro H locs ls hH hS hl
  have cw := va_cnB (R := R) (s := s) (args := args) (own := own) (host := host) (index := idx) (rm := aw_rm d lo mc ms) (mc := mc) (ms := ms) as.length hts (aw_goodIn g4 [] (fun w hw => by cases hw)) rfl rfl rfl (hK.2.1 _ (List.mem_map.mpr ⟨_, g1, rfl⟩)) (hts _ g3) g5 ⟨hR.1, by show 8 + (M.2.2.1 + 11) + lo ≤ R.locals; omega⟩
  exact aw_after hS hl (va_runSN (As := as) (rest := rest) ⟨hx, hb, hml, hown, hts⟩ hM ⟨cw, hts _ g2, trivial⟩ (aw_pre hH hK (Nat.le_trans hbs hS.1)) rfl rfl hl.1 hst (lv_room hw) hd hf) kk
/-- a method of an object (no override) -/
def aw_gV (own : String) (idx : Nat) (M : aw_M) (n : Nat) : Prop := (Cond.methodLink own idx M.1 ∈ aw_tb ∧ Cond.instanceMethod M.1 ∈ aw_tb ∧ Cond.selects M.1.cls M.1 M.1 ∈ aw_tb ∧ Cond.initialized M.1.cls ∈ aw_tb) ∧ Cond.code M.1 M.2.1 M.2.2.1 M.2.2.2 ∈ aw_tb ∧ aw_gM M.1 n
theorem aw_callV (C : aw_ok X cc nL own) (I : aw_in X l0 G0 R0) {M : aw_M} {k : aw_Lb} {ci : Nat} {fs : List Value} {q : vw_C} (hM : CT l0 G0 M d lo mc ms (.ref (ad k) :: as) ad ce P) (g : aw_gV own idx M as.length) (hk : ce k = some (.inr (ci, fs))) (hci : aw_cl[ci]? = some q) (hq : q.1 = M.1.cls) (hR : d + 1 ≤ R0.frames ∧ (M.2.2.1 + 19) + lo ≤ R0.locals) (hf : cells + mc ≤ R0.cells ∧ slots + ms ≤ R0.slots) (hst : st = as.reverse ++ .ref (ad k) :: rest) (hw : (rest.map fun v => v.category).sum ≤ 8) (hd : decode cc pc = .ok (.invokevirtual idx, 3))
    (kk : ∀ r ad' ce', P r ad' ce' → AW X nL (cells + mc) (slots + ms) ad' ce' (pc + 3) lv (r.toList ++ rest)) : AW X nL cells slots ad ce pc lv st := by
  obtain ⟨p, l, e, R, s, m, args, below, meth, c, Q, G⟩ := X
  obtain ⟨hx, hb, hml, hown, hts, hlk, hK, hbs⟩ := C
  obtain ⟨rfl, rfl, rfl⟩ := I
  obtain ⟨⟨g1, g2, g3, g7⟩, g4, g5⟩ := g
  intro H locs ls hH hS hl
  have cw := cwV (R := R) (s := s) (args := args) (own := own) (C := M.1.cls) (index := idx) (rm := aw_rm d lo mc ms) (mc := mc) (ms := ms) as.length hts (aw_goodIn g4 [.methodLink own idx M.1, .instanceMethod M.1, .selects M.1.cls M.1 M.1, .initialized M.1.cls] (by intro w hw; simp only [List.mem_cons, List.not_mem_nil, or_false] at hw; rcases hw with rfl | rfl | rfl | rfl <;> assumption)) rfl rfl rfl ⟨rfl, g5⟩ ⟨hR.1, by show 8 + (M.2.2.1 + 11) + lo ≤ R.locals; omega⟩
  have pre := aw_pre (as := .ref (ad k) :: as) hH hK (Nat.le_trans hbs hS.1)
  refine aw_after hS hl (va_runV (As := as) (rest := rest) ⟨hx, hb, hml, hown, hts⟩ hM cw ⟨pre.1, ?_, pre.2⟩ rfl rfl hl.1 hst (lv_room hw) hd hf) kk
  rw [← hq]
  exact va_recv hK.1 (hH.P hk) (q0 := 0) hci rfl
/-- a constructor -/
def aw_gI (own : String) (idx : Nat) (M : aw_M) (n : Nat) : Prop := (Cond.methodLink own idx M.1 ∈ aw_tb ∧ Cond.instanceMethod M.1 ∈ aw_tb ∧ Cond.initialized M.1.cls ∈ aw_tb ∧ M.1.name = "<init>" ∧ M.2.2.2 = none) ∧ Cond.code M.1 M.2.1 M.2.2.1 none ∈ aw_tb ∧ aw_gM M.1 n
theorem aw_callI (C : aw_ok X cc nL own) (I : aw_in X l0 G0 R0) {y : MethodName} {b : ByteArray} {n' a : Nat} (hM : CT l0 G0 (y, b, n', none) d lo mc ms (.ref a :: as) ad ce P) (g : aw_gI own idx (y, b, n', none) as.length) (hR : d + 1 ≤ R0.frames ∧ (n' + 19) + lo ≤ R0.locals) (hf : cells + mc ≤ R0.cells ∧ slots + ms ≤ R0.slots) (hst : st = as.reverse ++ .ref a :: rest) (hw : (rest.map fun v => v.category).sum ≤ 8) (hd : decode cc pc = .ok (.invokespecial idx, 3))
    (kk : ∀ r ad' ce', P r ad' ce' → AW X nL (cells + mc) (slots + ms) ad' ce' (pc + 3) lv (r.toList ++ rest)) : AW X nL cells slots ad ce pc lv st := by
  obtain ⟨p, l, e, R, s, m, args, below, meth, c, Q, G⟩ := X
  obtain ⟨hx, hb, hml, hown, hts, hlk, hK, hbs⟩ := C
  obtain ⟨rfl, rfl, rfl⟩ := I
  obtain ⟨⟨g1, g2, g3, g7, g8⟩, g4, g5⟩ := g
  intro H locs ls hH hS hl
  have cw := cwI (R := R) (s := s) (args := args) (own := own) (index := idx) (rm := aw_rm d lo mc ms) (mc := mc) (ms := ms) as.length hts (aw_goodIn g4 [] (fun w hw => by cases hw)) rfl rfl rfl (hts _ g3) (hts _ g1) (hts _ g2) g7 g5 ⟨hR.1, by show 8 + (n' + 11) + lo ≤ R.locals; omega⟩
  exact aw_after hS hl (va_runI (As := as) (rest := rest) ⟨hx, hb, hml, hown, hts⟩ hM cw (aw_pre hH hK (Nat.le_trans hbs hS.1)) rfl rfl hl.1 hst (lv_room hw) hd hf) kk
/-- Object.<init> -/
theorem aw_objInit (C : aw_ok X cc nL own) (I : aw_in X l0 G0 R0) {a : Nat} (h1 : Cond.methodLink own idx objectInit ∈ aw_tb) (h2 : Cond.instanceMethod objectInit ∈ aw_tb) (h3 : Cond.code objectInit ⟨#[0xb1]⟩ 1 none ∈ aw_tb) (hR : 1 ≤ R0.frames ∧ 20 ≤ R0.locals) (hw : (rest.map fun v => v.category).sum ≤ 8) (hd : decode cc pc = .ok (.invokespecial idx, 3)) (kk : AW X nL cells slots ad ce (pc + 3) lv rest) : AW X nL cells slots ad ce pc lv (.ref a :: rest) := by
  obtain ⟨p, l, e, R, s, m, args, below, meth, c, Q, G⟩ := X
  obtain ⟨hx, hb, hml, hown, hts, hlk, hK, hbs⟩ := C
  obtain ⟨rfl, rfl, rfl⟩ := I
  intro H locs ls hH hS hl
  refine W.objInit hx hb hown (hts _ h1) (hts _ h2) (hts _ h3) rfl (by rw [hml]; exact hl.1) rfl hd hR.1 (by have := lv_room (m := m) (pc := pc) (ls := ls) (rest := .ref a :: rest) hw; omega) ?_
  exact kk H locs ls hH hS hl
end AWcall
end
section
theorem aw_iconst {X : aw_X} {cc : ByteArray} {nL : Nat} {own : String} (C : aw_ok X cc nL own) {cells slots : Nat} {ad : aw_Ad} {ce : aw_He} {pc : Nat} {lv : List (Nat × Value)} {st : List Value} {n : Int} {v : Int32} (hd : decode cc pc = .ok (.iconst n, 1)) (hv : Int32.ofInt n = v) (k : AW X nL cells slots ad ce (pc + 1) lv (.int v :: st)) : AW X nL cells slots ad ce pc lv st := by
  obtain ⟨p, l, e, R, s, m, args, below, meth, c, Q, G⟩ := X
  obtain ⟨hx, hb, hml, hown, hts, hlk, hK, hbs⟩ := C
  intro H locs ls hH hS hl
  exact lv_iconst hx hb hd hv (k H locs ls hH hS hl)
theorem aw_bipush {X : aw_X} {cc : ByteArray} {nL : Nat} {own : String} (C : aw_ok X cc nL own) {cells slots : Nat} {ad : aw_Ad} {ce : aw_He} {pc : Nat} {lv : List (Nat × Value)} {st : List Value} {n : Int} {v : Int32} (hd : decode cc pc = .ok (.bipush n, 2)) (hv : (Int8.ofInt n).toInt32 = v) (k : AW X nL cells slots ad ce (pc + 2) lv (.int v :: st)) : AW X nL cells slots ad ce pc lv st := by
  obtain ⟨p, l, e, R, s, m, args, below, meth, c, Q, G⟩ := X
  obtain ⟨hx, hb, hml, hown, hts, hlk, hK, hbs⟩ := C
  intro H locs ls hH hS hl
  exact lv_bipush hx hb hd hv (k H locs ls hH hS hl)
theorem aw_sipush {X : aw_X} {cc : ByteArray} {nL : Nat} {own : String} (C : aw_ok X cc nL own) {cells slots : Nat} {ad : aw_Ad} {ce : aw_He} {pc : Nat} {lv : List (Nat × Value)} {st : List Value} {n : Int} {v : Int32} (hd : decode cc pc = .ok (.sipush n, 3)) (hv : (Int16.ofInt n).toInt32 = v) (k : AW X nL cells slots ad ce (pc + 3) lv (.int v :: st)) : AW X nL cells slots ad ce pc lv st := by
  obtain ⟨p, l, e, R, s, m, args, below, meth, c, Q, G⟩ := X
  obtain ⟨hx, hb, hml, hown, hts, hlk, hK, hbs⟩ := C
  intro H locs ls hH hS hl
  exact lv_sipush hx hb hd hv (k H locs ls hH hS hl)
theorem aw_lconst {X : aw_X} {cc : ByteArray} {nL : Nat} {own : String} (C : aw_ok X cc nL own) {cells slots : Nat} {ad : aw_Ad} {ce : aw_He} {pc : Nat} {lv : List (Nat × Value)} {st : List Value} {n : Fin 2} {v : Int64} (hd : decode cc pc = .ok (.lconst n, 1)) (hv : Int64.ofNat (n : Nat) = v) (k : AW X nL cells slots ad ce (pc + 1) lv (.long v :: st)) : AW X nL cells slots ad ce pc lv st := by
  obtain ⟨p, l, e, R, s, m, args, below, meth, c, Q, G⟩ := X
  obtain ⟨hx, hb, hml, hown, hts, hlk, hK, hbs⟩ := C
  intro H locs ls hH hS hl
  exact lv_lconst hx hb hd hv (k H locs ls hH hS hl)
theorem aw_null {X : aw_X} {cc : ByteArray} {nL : Nat} {own : String} (C : aw_ok X cc nL own) {cells slots : Nat} {ad : aw_Ad} {ce : aw_He} {pc : Nat} {lv : List (Nat × Value)} {st : List Value}  (hd : decode cc pc = .ok ((.aconst_null), 1))  (k : AW X nL cells slots ad ce (pc + 1) lv (.null :: st)) : AW X nL cells slots ad ce pc lv st := by
  obtain ⟨p, l, e, R, s, m, args, below, meth, c, Q, G⟩ := X
  obtain ⟨hx, hb, hml, hown, hts, hlk, hK, hbs⟩ := C
  intro H locs ls hH hS hl
  exact lv_null hx hb hd (k H locs ls hH hS hl)
theorem aw_ldc {X : aw_X} {cc : ByteArray} {nL : Nat} {own : String} (C : aw_ok X cc nL own) {cells slots : Nat} {ad : aw_Ad} {ce : aw_He} {pc : Nat} {lv : List (Nat × Value)} {st : List Value} {idx : Nat} {v : Int32} (hc : Cond.constant own idx v ∈ aw_tb) (hd : decode cc pc = .ok (.ldc idx, 2)) (k : AW X nL cells slots ad ce (pc + 2) lv (.int v :: st)) : AW X nL cells slots ad ce pc lv st := by
  obtain ⟨p, l, e, R, s, m, args, below, meth, c, Q, G⟩ := X
  obtain ⟨hx, hb, hml, hown, hts, hlk, hK, hbs⟩ := C
  intro H locs ls hH hS hl
  exact lv_ldc hx hb hown (hts _ hc) hd (k H locs ls hH hS hl)
theorem aw_ldc2 {X : aw_X} {cc : ByteArray} {nL : Nat} {own : String} (C : aw_ok X cc nL own) {cells slots : Nat} {ad : aw_Ad} {ce : aw_He} {pc : Nat} {lv : List (Nat × Value)} {st : List Value} {idx : Nat} {v : Int64} (hc : Cond.constantLong own idx v ∈ aw_tb) (hd : decode cc pc = .ok (.ldc2_w idx, 3)) (k : AW X nL cells slots ad ce (pc + 3) lv (.long v :: st)) : AW X nL cells slots ad ce pc lv st := by
  obtain ⟨p, l, e, R, s, m, args, below, meth, c, Q, G⟩ := X
  obtain ⟨hx, hb, hml, hown, hts, hlk, hK, hbs⟩ := C
  intro H locs ls hH hS hl
  exact lv_ldc2 hx hb hown (hts _ hc) hd (k H locs ls hH hS hl)
theorem aw_iload_n {X : aw_X} {cc : ByteArray} {nL : Nat} {own : String} (C : aw_ok X cc nL own) {cells slots : Nat} {ad : aw_Ad} {ce : aw_He} {pc : Nat} {lv : List (Nat × Value)} {st : List Value} {n : Fin 4} {i j : Nat} {x : Int32} (hd : decode cc pc = .ok (.iload_n n, 1)) (hi : (n : Nat) = i) (hj : lv[j]? = some (i, .int x)) (k : AW X nL cells slots ad ce (pc + 1) lv (.int x :: st)) : AW X nL cells slots ad ce pc lv st := by
  obtain ⟨p, l, e, R, s, m, args, below, meth, c, Q, G⟩ := X
  obtain ⟨hx, hb, hml, hown, hts, hlk, hK, hbs⟩ := C
  intro H locs ls hH hS hl
  exact lv_iload_n hx hb hd hi (lv_at hl j hj) (k H locs ls hH hS hl)
theorem aw_iload {X : aw_X} {cc : ByteArray} {nL : Nat} {own : String} (C : aw_ok X cc nL own) {cells slots : Nat} {ad : aw_Ad} {ce : aw_He} {pc : Nat} {lv : List (Nat × Value)} {st : List Value} {i j : Nat} {x : Int32} (hd : decode cc pc = .ok (.iload i, 2)) (hj : lv[j]? = some (i, .int x)) (k : AW X nL cells slots ad ce (pc + 2) lv (.int x :: st)) : AW X nL cells slots ad ce pc lv st := by
  obtain ⟨p, l, e, R, s, m, args, below, meth, c, Q, G⟩ := X
  obtain ⟨hx, hb, hml, hown, hts, hlk, hK, hbs⟩ := C
  intro H locs ls hH hS hl
  exact lv_iload hx hb hd (lv_at hl j hj) (k H locs ls hH hS hl)
theorem aw_lload_n {X : aw_X} {cc : ByteArray} {nL : Nat} {own : String} (C : aw_ok X cc nL own) {cells slots : Nat} {ad : aw_Ad} {ce : aw_He} {pc : Nat} {lv : List (Nat × Value)} {st : List Value} {n : Fin 4} {i j : Nat} {x : Int64} (hd : decode cc pc = .ok (.lload_n n, 1)) (hi : (n : Nat) = i) (hj : lv[j]? = some (i, .long x)) (k : AW X nL cells slots ad ce (pc + 1) lv (.long x :: st)) : AW X nL cells slots ad ce pc lv st := by
  obtain ⟨p, l, e, R, s, m, args, below, meth, c, Q, G⟩ := X
  obtain ⟨hx, hb, hml, hown, hts, hlk, hK, hbs⟩ := C
  intro H locs ls hH hS hl
  exact lv_lload_n hx hb hd hi (lv_at hl j hj) (k H locs ls hH hS hl)
theorem aw_lload {X : aw_X} {cc : ByteArray} {nL : Nat} {own : String} (C : aw_ok X cc nL own) {cells slots : Nat} {ad : aw_Ad} {ce : aw_He} {pc : Nat} {lv : List (Nat × Value)} {st : List Value} {i j : Nat} {x : Int64} (hd : decode cc pc = .ok (.lload i, 2)) (hj : lv[j]? = some (i, .long x)) (k : AW X nL cells slots ad ce (pc + 2) lv (.long x :: st)) : AW X nL cells slots ad ce pc lv st := by
  obtain ⟨p, l, e, R, s, m, args, below, meth, c, Q, G⟩ := X
  obtain ⟨hx, hb, hml, hown, hts, hlk, hK, hbs⟩ := C
  intro H locs ls hH hS hl
  exact lv_lload hx hb hd (lv_at hl j hj) (k H locs ls hH hS hl)
theorem aw_aload_n {X : aw_X} {cc : ByteArray} {nL : Nat} {own : String} (C : aw_ok X cc nL own) {cells slots : Nat} {ad : aw_Ad} {ce : aw_He} {pc : Nat} {lv : List (Nat × Value)} {st : List Value} {n : Fin 4} {i j : Nat} {x : Nat} (hd : decode cc pc = .ok (.aload_n n, 1)) (hi : (n : Nat) = i) (hj : lv[j]? = some (i, .ref x)) (k : AW X nL cells slots ad ce (pc + 1) lv (.ref x :: st)) : AW X nL cells slots ad ce pc lv st := by
  obtain ⟨p, l, e, R, s, m, args, below, meth, c, Q, G⟩ := X
  obtain ⟨hx, hb, hml, hown, hts, hlk, hK, hbs⟩ := C
  intro H locs ls hH hS hl
  exact lv_aload_n hx hb hd hi (lv_at hl j hj) (k H locs ls hH hS hl)
theorem aw_aload {X : aw_X} {cc : ByteArray} {nL : Nat} {own : String} (C : aw_ok X cc nL own) {cells slots : Nat} {ad : aw_Ad} {ce : aw_He} {pc : Nat} {lv : List (Nat × Value)} {st : List Value} {i j : Nat} {x : Nat} (hd : decode cc pc = .ok (.aload i, 2)) (hj : lv[j]? = some (i, .ref x)) (k : AW X nL cells slots ad ce (pc + 2) lv (.ref x :: st)) : AW X nL cells slots ad ce pc lv st := by
  obtain ⟨p, l, e, R, s, m, args, below, meth, c, Q, G⟩ := X
  obtain ⟨hx, hb, hml, hown, hts, hlk, hK, hbs⟩ := C
  intro H locs ls hH hS hl
  exact lv_aload hx hb hd (lv_at hl j hj) (k H locs ls hH hS hl)
theorem aw_aload_nN {X : aw_X} {cc : ByteArray} {nL : Nat} {own : String} (C : aw_ok X cc nL own) {cells slots : Nat} {ad : aw_Ad} {ce : aw_He} {pc : Nat} {lv : List (Nat × Value)} {st : List Value} {n : Fin 4} {i j : Nat} (hd : decode cc pc = .ok (.aload_n n, 1)) (hi : (n : Nat) = i) (hj : lv[j]? = some (i, .null)) (k : AW X nL cells slots ad ce (pc + 1) lv (.null :: st)) : AW X nL cells slots ad ce pc lv st := by
  obtain ⟨p, l, e, R, s, m, args, below, meth, c, Q, G⟩ := X
  obtain ⟨hx, hb, hml, hown, hts, hlk, hK, hbs⟩ := C
  intro H locs ls hH hS hl
  exact lv_aload_nN hx hb hd hi (lv_at hl j hj) (k H locs ls hH hS hl)
theorem aw_aloadN {X : aw_X} {cc : ByteArray} {nL : Nat} {own : String} (C : aw_ok X cc nL own) {cells slots : Nat} {ad : aw_Ad} {ce : aw_He} {pc : Nat} {lv : List (Nat × Value)} {st : List Value} {i j : Nat} (hd : decode cc pc = .ok (.aload i, 2)) (hj : lv[j]? = some (i, .null)) (k : AW X nL cells slots ad ce (pc + 2) lv (.null :: st)) : AW X nL cells slots ad ce pc lv st := by
  obtain ⟨p, l, e, R, s, m, args, below, meth, c, Q, G⟩ := X
  obtain ⟨hx, hb, hml, hown, hts, hlk, hK, hbs⟩ := C
  intro H locs ls hH hS hl
  exact lv_aloadN hx hb hd (lv_at hl j hj) (k H locs ls hH hS hl)
theorem aw_istore_n {X : aw_X} {cc : ByteArray} {nL : Nat} {own : String} (C : aw_ok X cc nL own) {cells slots : Nat} {ad : aw_Ad} {ce : aw_He} {pc : Nat} {lv : List (Nat × Value)} {st : List Value} {n : Fin 4} {i : Nat} {x : Int32} {lv' : List (Nat × Value)} (hd : decode cc pc = .ok (.istore_n n, 1)) (hi : (n : Nat) = i) (hn : i < nL) (hlv : (i, Value.int x) :: lv.filter (fun q => !(q.1 == i) && !(q.1 + 1 == i && q.2.category == 2)) = lv') (k : AW X nL cells slots ad ce (pc + 1) lv' st) : AW X nL cells slots ad ce pc lv (Value.int x :: st) := by
  obtain ⟨p, l, e, R, s, m, args, below, meth, c, Q, G⟩ := X
  obtain ⟨hx, hb, hml, hown, hts, hlk, hK, hbs⟩ := C
  intro H locs ls hH hS hl
  exact lv_istore_n hx hb hd hi hl hn hlv (fun ls' hl' => k H locs ls' hH hS hl')
theorem aw_istore {X : aw_X} {cc : ByteArray} {nL : Nat} {own : String} (C : aw_ok X cc nL own) {cells slots : Nat} {ad : aw_Ad} {ce : aw_He} {pc : Nat} {lv : List (Nat × Value)} {st : List Value} {i : Nat} {x : Int32} {lv' : List (Nat × Value)} (hd : decode cc pc = .ok (.istore i, 2)) (hn : i < nL) (hlv : (i, Value.int x) :: lv.filter (fun q => !(q.1 == i) && !(q.1 + 1 == i && q.2.category == 2)) = lv') (k : AW X nL cells slots ad ce (pc + 2) lv' st) : AW X nL cells slots ad ce pc lv (Value.int x :: st) := by
  obtain ⟨p, l, e, R, s, m, args, below, meth, c, Q, G⟩ := X
  obtain ⟨hx, hb, hml, hown, hts, hlk, hK, hbs⟩ := C
  intro H locs ls hH hS hl
  exact lv_istore hx hb hd hl hn hlv (fun ls' hl' => k H locs ls' hH hS hl')
theorem aw_lstore_n {X : aw_X} {cc : ByteArray} {nL : Nat} {own : String} (C : aw_ok X cc nL own) {cells slots : Nat} {ad : aw_Ad} {ce : aw_He} {pc : Nat} {lv : List (Nat × Value)} {st : List Value} {n : Fin 4} {i : Nat} {x : Int64} {lv' : List (Nat × Value)} (hd : decode cc pc = .ok (.lstore_n n, 1)) (hi : (n : Nat) = i) (hn : i + 1 < nL) (hlv : (i, Value.long x) :: lv.filter (fun q => !(q.1 == i) && (!(q.1 == i + 1) && !(q.1 + 1 == i && q.2.category == 2))) = lv') (k : AW X nL cells slots ad ce (pc + 1) lv' st) : AW X nL cells slots ad ce pc lv (Value.long x :: st) := by
  obtain ⟨p, l, e, R, s, m, args, below, meth, c, Q, G⟩ := X
  obtain ⟨hx, hb, hml, hown, hts, hlk, hK, hbs⟩ := C
  intro H locs ls hH hS hl
  exact lv_lstore_n hx hb hd hi hl hn hlv (fun ls' hl' => k H locs ls' hH hS hl')
theorem aw_lstore {X : aw_X} {cc : ByteArray} {nL : Nat} {own : String} (C : aw_ok X cc nL own) {cells slots : Nat} {ad : aw_Ad} {ce : aw_He} {pc : Nat} {lv : List (Nat × Value)} {st : List Value} {i : Nat} {x : Int64} {lv' : List (Nat × Value)} (hd : decode cc pc = .ok (.lstore i, 2)) (hn : i + 1 < nL) (hlv : (i, Value.long x) :: lv.filter (fun q => !(q.1 == i) && (!(q.1 == i + 1) && !(q.1 + 1 == i && q.2.category == 2))) = lv') (k : AW X nL cells slots ad ce (pc + 2) lv' st) : AW X nL cells slots ad ce pc lv (Value.long x :: st) := by
  obtain ⟨p, l, e, R, s, m, args, below, meth, c, Q, G⟩ := X
  obtain ⟨hx, hb, hml, hown, hts, hlk, hK, hbs⟩ := C
  intro H locs ls hH hS hl
  exact lv_lstore hx hb hd hl hn hlv (fun ls' hl' => k H locs ls' hH hS hl')
theorem aw_astore_n {X : aw_X} {cc : ByteArray} {nL : Nat} {own : String} (C : aw_ok X cc nL own) {cells slots : Nat} {ad : aw_Ad} {ce : aw_He} {pc : Nat} {lv : List (Nat × Value)} {st : List Value} {n : Fin 4} {i : Nat} {x : Nat} {lv' : List (Nat × Value)} (hd : decode cc pc = .ok (.astore_n n, 1)) (hi : (n : Nat) = i) (hn : i < nL) (hlv : (i, Value.ref x) :: lv.filter (fun q => !(q.1 == i) && !(q.1 + 1 == i && q.2.category == 2)) = lv') (k : AW X nL cells slots ad ce (pc + 1) lv' st) : AW X nL cells slots ad ce pc lv (Value.ref x :: st) := by
  obtain ⟨p, l, e, R, s, m, args, below, meth, c, Q, G⟩ := X
  obtain ⟨hx, hb, hml, hown, hts, hlk, hK, hbs⟩ := C
  intro H locs ls hH hS hl
  exact lv_astore_n hx hb hd hi hl hn hlv (fun ls' hl' => k H locs ls' hH hS hl')
theorem aw_astore {X : aw_X} {cc : ByteArray} {nL : Nat} {own : String} (C : aw_ok X cc nL own) {cells slots : Nat} {ad : aw_Ad} {ce : aw_He} {pc : Nat} {lv : List (Nat × Value)} {st : List Value} {i : Nat} {x : Nat} {lv' : List (Nat × Value)} (hd : decode cc pc = .ok (.astore i, 2)) (hn : i < nL) (hlv : (i, Value.ref x) :: lv.filter (fun q => !(q.1 == i) && !(q.1 + 1 == i && q.2.category == 2)) = lv') (k : AW X nL cells slots ad ce (pc + 2) lv' st) : AW X nL cells slots ad ce pc lv (Value.ref x :: st) := by
  obtain ⟨p, l, e, R, s, m, args, below, meth, c, Q, G⟩ := X
  obtain ⟨hx, hb, hml, hown, hts, hlk, hK, hbs⟩ := C
  intro H locs ls hH hS hl
  exact lv_astore hx hb hd hl hn hlv (fun ls' hl' => k H locs ls' hH hS hl')
theorem aw_astore_nN {X : aw_X} {cc : ByteArray} {nL : Nat} {own : String} (C : aw_ok X cc nL own) {cells slots : Nat} {ad : aw_Ad} {ce : aw_He} {pc : Nat} {lv : List (Nat × Value)} {st : List Value} {n : Fin 4} {i : Nat}  {lv' : List (Nat × Value)} (hd : decode cc pc = .ok (.astore_n n, 1)) (hi : (n : Nat) = i) (hn : i < nL) (hlv : (i, Value.null) :: lv.filter (fun q => !(q.1 == i) && !(q.1 + 1 == i && q.2.category == 2)) = lv') (k : AW X nL cells slots ad ce (pc + 1) lv' st) : AW X nL cells slots ad ce pc lv (Value.null :: st) := by
  obtain ⟨p, l, e, R, s, m, args, below, meth, c, Q, G⟩ := X
  obtain ⟨hx, hb, hml, hown, hts, hlk, hK, hbs⟩ := C
  intro H locs ls hH hS hl
  exact lv_astore_nN hx hb hd hi hl hn hlv (fun ls' hl' => k H locs ls' hH hS hl')
theorem aw_astoreN {X : aw_X} {cc : ByteArray} {nL : Nat} {own : String} (C : aw_ok X cc nL own) {cells slots : Nat} {ad : aw_Ad} {ce : aw_He} {pc : Nat} {lv : List (Nat × Value)} {st : List Value} {i : Nat}  {lv' : List (Nat × Value)} (hd : decode cc pc = .ok (.astore i, 2)) (hn : i < nL) (hlv : (i, Value.null) :: lv.filter (fun q => !(q.1 == i) && !(q.1 + 1 == i && q.2.category == 2)) = lv') (k : AW X nL cells slots ad ce (pc + 2) lv' st) : AW X nL cells slots ad ce pc lv (Value.null :: st) := by
  obtain ⟨p, l, e, R, s, m, args, below, meth, c, Q, G⟩ := X
  obtain ⟨hx, hb, hml, hown, hts, hlk, hK, hbs⟩ := C
  intro H locs ls hH hS hl
  exact lv_astoreN hx hb hd hl hn hlv (fun ls' hl' => k H locs ls' hH hS hl')
theorem aw_iinc {X : aw_X} {cc : ByteArray} {nL : Nat} {own : String} (C : aw_ok X cc nL own) {cells slots : Nat} {ad : aw_Ad} {ce : aw_He} {pc : Nat} {lv : List (Nat × Value)} {st : List Value} {i j : Nat} {n : Int} {x v : Int32} {lv' : List (Nat × Value)} (hd : decode cc pc = .ok (.iinc i n, 3)) (hj : lv[j]? = some (i, .int x)) (hv : x + Int32.ofInt n = v) (hn : i < nL) (hlv : (i, Value.int v) :: lv.filter (fun q => !(q.1 == i) && !(q.1 + 1 == i && q.2.category == 2)) = lv') (k : AW X nL cells slots ad ce (pc + 3) lv' st) : AW X nL cells slots ad ce pc lv st := by
  obtain ⟨p, l, e, R, s, m, args, below, meth, c, Q, G⟩ := X
  obtain ⟨hx, hb, hml, hown, hts, hlk, hK, hbs⟩ := C
  intro H locs ls hH hS hl
  exact lv_iinc hx hb hd hl hj hv hn hlv (fun ls' hl' => k H locs ls' hH hS hl')
theorem aw_iadd {X : aw_X} {cc : ByteArray} {nL : Nat} {own : String} (C : aw_ok X cc nL own) {cells slots : Nat} {ad : aw_Ad} {ce : aw_He} {pc : Nat} {lv : List (Nat × Value)} {st : List Value} {x y : Int32} (hd : decode cc pc = .ok (.iadd, 1))  (k : AW X nL cells slots ad ce (pc + 1) lv (.int (x + y) :: st)) : AW X nL cells slots ad ce pc lv (.int y :: .int x :: st) := by
  obtain ⟨p, l, e, R, s, m, args, below, meth, c, Q, G⟩ := X
  obtain ⟨hx, hb, hml, hown, hts, hlk, hK, hbs⟩ := C
  intro H locs ls hH hS hl
  exact lv_iadd hx hb hd (k H locs ls hH hS hl)
theorem aw_isub {X : aw_X} {cc : ByteArray} {nL : Nat} {own : String} (C : aw_ok X cc nL own) {cells slots : Nat} {ad : aw_Ad} {ce : aw_He} {pc : Nat} {lv : List (Nat × Value)} {st : List Value} {x y : Int32} (hd : decode cc pc = .ok (.isub, 1))  (k : AW X nL cells slots ad ce (pc + 1) lv (.int (x - y) :: st)) : AW X nL cells slots ad ce pc lv (.int y :: .int x :: st) := by
  obtain ⟨p, l, e, R, s, m, args, below, meth, c, Q, G⟩ := X
  obtain ⟨hx, hb, hml, hown, hts, hlk, hK, hbs⟩ := C
  intro H locs ls hH hS hl
  exact lv_isub hx hb hd (k H locs ls hH hS hl)
theorem aw_imul {X : aw_X} {cc : ByteArray} {nL : Nat} {own : String} (C : aw_ok X cc nL own) {cells slots : Nat} {ad : aw_Ad} {ce : aw_He} {pc : Nat} {lv : List (Nat × Value)} {st : List Value} {x y : Int32} (hd : decode cc pc = .ok (.imul, 1))  (k : AW X nL cells slots ad ce (pc + 1) lv (.int (x * y) :: st)) : AW X nL cells slots ad ce pc lv (.int y :: .int x :: st) := by
  obtain ⟨p, l, e, R, s, m, args, below, meth, c, Q, G⟩ := X
  obtain ⟨hx, hb, hml, hown, hts, hlk, hK, hbs⟩ := C
  intro H locs ls hH hS hl
  exact lv_imul hx hb hd (k H locs ls hH hS hl)
theorem aw_iand {X : aw_X} {cc : ByteArray} {nL : Nat} {own : String} (C : aw_ok X cc nL own) {cells slots : Nat} {ad : aw_Ad} {ce : aw_He} {pc : Nat} {lv : List (Nat × Value)} {st : List Value} {x y : Int32} (hd : decode cc pc = .ok (.iand, 1))  (k : AW X nL cells slots ad ce (pc + 1) lv (.int (x &&& y) :: st)) : AW X nL cells slots ad ce pc lv (.int y :: .int x :: st) := by
  obtain ⟨p, l, e, R, s, m, args, below, meth, c, Q, G⟩ := X
  obtain ⟨hx, hb, hml, hown, hts, hlk, hK, hbs⟩ := C
  intro H locs ls hH hS hl
  exact lv_iand hx hb hd (k H locs ls hH hS hl)
theorem aw_ior {X : aw_X} {cc : ByteArray} {nL : Nat} {own : String} (C : aw_ok X cc nL own) {cells slots : Nat} {ad : aw_Ad} {ce : aw_He} {pc : Nat} {lv : List (Nat × Value)} {st : List Value} {x y : Int32} (hd : decode cc pc = .ok (.ior, 1))  (k : AW X nL cells slots ad ce (pc + 1) lv (.int (x ||| y) :: st)) : AW X nL cells slots ad ce pc lv (.int y :: .int x :: st) := by
  obtain ⟨p, l, e, R, s, m, args, below, meth, c, Q, G⟩ := X
  obtain ⟨hx, hb, hml, hown, hts, hlk, hK, hbs⟩ := C
  intro H locs ls hH hS hl
  exact lv_ior hx hb hd (k H locs ls hH hS hl)
theorem aw_ixor {X : aw_X} {cc : ByteArray} {nL : Nat} {own : String} (C : aw_ok X cc nL own) {cells slots : Nat} {ad : aw_Ad} {ce : aw_He} {pc : Nat} {lv : List (Nat × Value)} {st : List Value} {x y : Int32} (hd : decode cc pc = .ok (.ixor, 1))  (k : AW X nL cells slots ad ce (pc + 1) lv (.int (x ^^^ y) :: st)) : AW X nL cells slots ad ce pc lv (.int y :: .int x :: st) := by
  obtain ⟨p, l, e, R, s, m, args, below, meth, c, Q, G⟩ := X
  obtain ⟨hx, hb, hml, hown, hts, hlk, hK, hbs⟩ := C
  intro H locs ls hH hS hl
  exact lv_ixor hx hb hd (k H locs ls hH hS hl)
theorem aw_ishl {X : aw_X} {cc : ByteArray} {nL : Nat} {own : String} (C : aw_ok X cc nL own) {cells slots : Nat} {ad : aw_Ad} {ce : aw_He} {pc : Nat} {lv : List (Nat × Value)} {st : List Value} {x y : Int32} (hd : decode cc pc = .ok (.ishl, 1))  (k : AW X nL cells slots ad ce (pc + 1) lv (.int (x <<< (y &&& 31)) :: st)) : AW X nL cells slots ad ce pc lv (.int y :: .int x :: st) := by
  obtain ⟨p, l, e, R, s, m, args, below, meth, c, Q, G⟩ := X
  obtain ⟨hx, hb, hml, hown, hts, hlk, hK, hbs⟩ := C
  intro H locs ls hH hS hl
  exact lv_ishl hx hb hd (k H locs ls hH hS hl)
theorem aw_ishr {X : aw_X} {cc : ByteArray} {nL : Nat} {own : String} (C : aw_ok X cc nL own) {cells slots : Nat} {ad : aw_Ad} {ce : aw_He} {pc : Nat} {lv : List (Nat × Value)} {st : List Value} {x y : Int32} (hd : decode cc pc = .ok (.ishr, 1))  (k : AW X nL cells slots ad ce (pc + 1) lv (.int (x >>> (y &&& 31)) :: st)) : AW X nL cells slots ad ce pc lv (.int y :: .int x :: st) := by
  obtain ⟨p, l, e, R, s, m, args, below, meth, c, Q, G⟩ := X
  obtain ⟨hx, hb, hml, hown, hts, hlk, hK, hbs⟩ := C
  intro H locs ls hH hS hl
  exact lv_ishr hx hb hd (k H locs ls hH hS hl)
theorem aw_idiv {X : aw_X} {cc : ByteArray} {nL : Nat} {own : String} (C : aw_ok X cc nL own) {cells slots : Nat} {ad : aw_Ad} {ce : aw_He} {pc : Nat} {lv : List (Nat × Value)} {st : List Value} {x y : Int32} (hd : decode cc pc = .ok (.idiv, 1)) (hne : ¬ y = 0) (k : AW X nL cells slots ad ce (pc + 1) lv (.int (x / y) :: st)) : AW X nL cells slots ad ce pc lv (.int y :: .int x :: st) := by
  obtain ⟨p, l, e, R, s, m, args, below, meth, c, Q, G⟩ := X
  obtain ⟨hx, hb, hml, hown, hts, hlk, hK, hbs⟩ := C
  intro H locs ls hH hS hl
  exact lv_idiv hx hb hd hne (k H locs ls hH hS hl)
theorem aw_irem {X : aw_X} {cc : ByteArray} {nL : Nat} {own : String} (C : aw_ok X cc nL own) {cells slots : Nat} {ad : aw_Ad} {ce : aw_He} {pc : Nat} {lv : List (Nat × Value)} {st : List Value} {x y : Int32} (hd : decode cc pc = .ok (.irem, 1)) (hne : ¬ y = 0) (k : AW X nL cells slots ad ce (pc + 1) lv (.int (x - x / y * y) :: st)) : AW X nL cells slots ad ce pc lv (.int y :: .int x :: st) := by
  obtain ⟨p, l, e, R, s, m, args, below, meth, c, Q, G⟩ := X
  obtain ⟨hx, hb, hml, hown, hts, hlk, hK, hbs⟩ := C
  intro H locs ls hH hS hl
  exact lv_irem hx hb hd hne (k H locs ls hH hS hl)
theorem aw_ineg {X : aw_X} {cc : ByteArray} {nL : Nat} {own : String} (C : aw_ok X cc nL own) {cells slots : Nat} {ad : aw_Ad} {ce : aw_He} {pc : Nat} {lv : List (Nat × Value)} {st : List Value} {x : Int32} (hd : decode cc pc = .ok (.ineg, 1))  (k : AW X nL cells slots ad ce (pc + 1) lv (.int (-x) :: st)) : AW X nL cells slots ad ce pc lv (.int x :: st) := by
  obtain ⟨p, l, e, R, s, m, args, below, meth, c, Q, G⟩ := X
  obtain ⟨hx, hb, hml, hown, hts, hlk, hK, hbs⟩ := C
  intro H locs ls hH hS hl
  exact lv_ineg hx hb hd (k H locs ls hH hS hl)
theorem aw_ladd {X : aw_X} {cc : ByteArray} {nL : Nat} {own : String} (C : aw_ok X cc nL own) {cells slots : Nat} {ad : aw_Ad} {ce : aw_He} {pc : Nat} {lv : List (Nat × Value)} {st : List Value} {x y : Int64} (hd : decode cc pc = .ok (.ladd, 1))  (k : AW X nL cells slots ad ce (pc + 1) lv (.long (x + y) :: st)) : AW X nL cells slots ad ce pc lv (.long y :: .long x :: st) := by
  obtain ⟨p, l, e, R, s, m, args, below, meth, c, Q, G⟩ := X
  obtain ⟨hx, hb, hml, hown, hts, hlk, hK, hbs⟩ := C
  intro H locs ls hH hS hl
  exact lv_ladd hx hb hd (k H locs ls hH hS hl)
theorem aw_lsub {X : aw_X} {cc : ByteArray} {nL : Nat} {own : String} (C : aw_ok X cc nL own) {cells slots : Nat} {ad : aw_Ad} {ce : aw_He} {pc : Nat} {lv : List (Nat × Value)} {st : List Value} {x y : Int64} (hd : decode cc pc = .ok (.lsub, 1))  (k : AW X nL cells slots ad ce (pc + 1) lv (.long (x - y) :: st)) : AW X nL cells slots ad ce pc lv (.long y :: .long x :: st) := by
  obtain ⟨p, l, e, R, s, m, args, below, meth, c, Q, G⟩ := X
  obtain ⟨hx, hb, hml, hown, hts, hlk, hK, hbs⟩ := C
  intro H locs ls hH hS hl
  exact lv_lsub hx hb hd (k H locs ls hH hS hl)
theorem aw_lmul {X : aw_X} {cc : ByteArray} {nL : Nat} {own : String} (C : aw_ok X cc nL own) {cells slots : Nat} {ad : aw_Ad} {ce : aw_He} {pc : Nat} {lv : List (Nat × Value)} {st : List Value} {x y : Int64} (hd : decode cc pc = .ok (.lmul, 1))  (k : AW X nL cells slots ad ce (pc + 1) lv (.long (x * y) :: st)) : AW X nL cells slots ad ce pc lv (.long y :: .long x :: st) := by
  obtain ⟨p, l, e, R, s, m, args, below, meth, c, Q, G⟩ := X
  obtain ⟨hx, hb, hml, hown, hts, hlk, hK, hbs⟩ := C
  intro H locs ls hH hS hl
  exact lv_lmul hx hb hd (k H locs ls hH hS hl)
theorem aw_land {X : aw_X} {cc : ByteArray} {nL : Nat} {own : String} (C : aw_ok X cc nL own) {cells slots : Nat} {ad : aw_Ad} {ce : aw_He} {pc : Nat} {lv : List (Nat × Value)} {st : List Value} {x y : Int64} (hd : decode cc pc = .ok (.land, 1))  (k : AW X nL cells slots ad ce (pc + 1) lv (.long (x &&& y) :: st)) : AW X nL cells slots ad ce pc lv (.long y :: .long x :: st) := by
  obtain ⟨p, l, e, R, s, m, args, below, meth, c, Q, G⟩ := X
  obtain ⟨hx, hb, hml, hown, hts, hlk, hK, hbs⟩ := C
  intro H locs ls hH hS hl
  exact lv_land hx hb hd (k H locs ls hH hS hl)
theorem aw_lor {X : aw_X} {cc : ByteArray} {nL : Nat} {own : String} (C : aw_ok X cc nL own) {cells slots : Nat} {ad : aw_Ad} {ce : aw_He} {pc : Nat} {lv : List (Nat × Value)} {st : List Value} {x y : Int64} (hd : decode cc pc = .ok (.lor, 1))  (k : AW X nL cells slots ad ce (pc + 1) lv (.long (x ||| y) :: st)) : AW X nL cells slots ad ce pc lv (.long y :: .long x :: st) := by
  obtain ⟨p, l, e, R, s, m, args, below, meth, c, Q, G⟩ := X
  obtain ⟨hx, hb, hml, hown, hts, hlk, hK, hbs⟩ := C
  intro H locs ls hH hS hl
  exact lv_lor hx hb hd (k H locs ls hH hS hl)
theorem aw_lxor {X : aw_X} {cc : ByteArray} {nL : Nat} {own : String} (C : aw_ok X cc nL own) {cells slots : Nat} {ad : aw_Ad} {ce : aw_He} {pc : Nat} {lv : List (Nat × Value)} {st : List Value} {x y : Int64} (hd : decode cc pc = .ok (.lxor, 1))  (k : AW X nL cells slots ad ce (pc + 1) lv (.long (x ^^^ y) :: st)) : AW X nL cells slots ad ce pc lv (.long y :: .long x :: st) := by
  obtain ⟨p, l, e, R, s, m, args, below, meth, c, Q, G⟩ := X
  obtain ⟨hx, hb, hml, hown, hts, hlk, hK, hbs⟩ := C
  intro H locs ls hH hS hl
  exact lv_lxor hx hb hd (k H locs ls hH hS hl)
theorem aw_ldiv {X : aw_X} {cc : ByteArray} {nL : Nat} {own : String} (C : aw_ok X cc nL own) {cells slots : Nat} {ad : aw_Ad} {ce : aw_He} {pc : Nat} {lv : List (Nat × Value)} {st : List Value} {x y : Int64} (hd : decode cc pc = .ok (.ldiv, 1)) (hne : ¬ y = 0) (k : AW X nL cells slots ad ce (pc + 1) lv (.long (x / y) :: st)) : AW X nL cells slots ad ce pc lv (.long y :: .long x :: st) := by
  obtain ⟨p, l, e, R, s, m, args, below, meth, c, Q, G⟩ := X
  obtain ⟨hx, hb, hml, hown, hts, hlk, hK, hbs⟩ := C
  intro H locs ls hH hS hl
  exact lv_ldiv hx hb hd hne (k H locs ls hH hS hl)
theorem aw_lrem {X : aw_X} {cc : ByteArray} {nL : Nat} {own : String} (C : aw_ok X cc nL own) {cells slots : Nat} {ad : aw_Ad} {ce : aw_He} {pc : Nat} {lv : List (Nat × Value)} {st : List Value} {x y : Int64} (hd : decode cc pc = .ok (.lrem, 1)) (hne : ¬ y = 0) (k : AW X nL cells slots ad ce (pc + 1) lv (.long (x - x / y * y) :: st)) : AW X nL cells slots ad ce pc lv (.long y :: .long x :: st) := by
  obtain ⟨p, l, e, R, s, m, args, below, meth, c, Q, G⟩ := X
  obtain ⟨hx, hb, hml, hown, hts, hlk, hK, hbs⟩ := C
  intro H locs ls hH hS hl
  exact lv_lrem hx hb hd hne (k H locs ls hH hS hl)
theorem aw_i2l {X : aw_X} {cc : ByteArray} {nL : Nat} {own : String} (C : aw_ok X cc nL own) {cells slots : Nat} {ad : aw_Ad} {ce : aw_He} {pc : Nat} {lv : List (Nat × Value)} {st : List Value} {x : Int32} (hd : decode cc pc = .ok (.i2l, 1))  (k : AW X nL cells slots ad ce (pc + 1) lv (.long x.toInt64 :: st)) : AW X nL cells slots ad ce pc lv (.int x :: st) := by
  obtain ⟨p, l, e, R, s, m, args, below, meth, c, Q, G⟩ := X
  obtain ⟨hx, hb, hml, hown, hts, hlk, hK, hbs⟩ := C
  intro H locs ls hH hS hl
  exact lv_i2l hx hb hd rfl (k H locs ls hH hS hl)
theorem aw_l2i {X : aw_X} {cc : ByteArray} {nL : Nat} {own : String} (C : aw_ok X cc nL own) {cells slots : Nat} {ad : aw_Ad} {ce : aw_He} {pc : Nat} {lv : List (Nat × Value)} {st : List Value} {x : Int64} (hd : decode cc pc = .ok (.l2i, 1))  (k : AW X nL cells slots ad ce (pc + 1) lv (.int x.toInt32 :: st)) : AW X nL cells slots ad ce pc lv (.long x :: st) := by
  obtain ⟨p, l, e, R, s, m, args, below, meth, c, Q, G⟩ := X
  obtain ⟨hx, hb, hml, hown, hts, hlk, hK, hbs⟩ := C
  intro H locs ls hH hS hl
  exact lv_l2i hx hb hd rfl (k H locs ls hH hS hl)
theorem aw_iushr {X : aw_X} {cc : ByteArray} {nL : Nat} {own : String} (C : aw_ok X cc nL own) {cells slots : Nat} {ad : aw_Ad} {ce : aw_He} {pc : Nat} {lv : List (Nat × Value)} {st : List Value} {x y : Int32} (hd : decode cc pc = .ok (.iushr, 1))  (k : AW X nL cells slots ad ce (pc + 1) lv (.int (x.toUInt32 >>> (y.toUInt32 &&& Int32.toUInt32 31)).toInt32 :: st)) : AW X nL cells slots ad ce pc lv (.int y :: .int x :: st) := by
  obtain ⟨p, l, e, R, s, m, args, below, meth, c, Q, G⟩ := X
  obtain ⟨hx, hb, hml, hown, hts, hlk, hK, hbs⟩ := C
  intro H locs ls hH hS hl
  exact lv_iushr hx hb hd rfl (k H locs ls hH hS hl)
theorem aw_lushr {X : aw_X} {cc : ByteArray} {nL : Nat} {own : String} (C : aw_ok X cc nL own) {cells slots : Nat} {ad : aw_Ad} {ce : aw_He} {pc : Nat} {lv : List (Nat × Value)} {st : List Value} {x : Int64} {y : Int32} (hd : decode cc pc = .ok (.lushr, 1))  (k : AW X nL cells slots ad ce (pc + 1) lv (.long (x.toUInt64 >>> (y.toInt64.toUInt64 &&& Int64.toUInt64 63)).toInt64 :: st)) : AW X nL cells slots ad ce pc lv (.int y :: .long x :: st) := by
  obtain ⟨p, l, e, R, s, m, args, below, meth, c, Q, G⟩ := X
  obtain ⟨hx, hb, hml, hown, hts, hlk, hK, hbs⟩ := C
  intro H locs ls hH hS hl
  exact lv_lushr hx hb hd rfl (k H locs ls hH hS hl)
theorem aw_lshl {X : aw_X} {cc : ByteArray} {nL : Nat} {own : String} (C : aw_ok X cc nL own) {cells slots : Nat} {ad : aw_Ad} {ce : aw_He} {pc : Nat} {lv : List (Nat × Value)} {st : List Value} {x : Int64} {y : Int32} (hd : decode cc pc = .ok (.lshl, 1))  (k : AW X nL cells slots ad ce (pc + 1) lv (.long (x <<< (y.toInt64 &&& 63)) :: st)) : AW X nL cells slots ad ce pc lv (.int y :: .long x :: st) := by
  obtain ⟨p, l, e, R, s, m, args, below, meth, c, Q, G⟩ := X
  obtain ⟨hx, hb, hml, hown, hts, hlk, hK, hbs⟩ := C
  intro H locs ls hH hS hl
  exact lv_lshl hx hb hd rfl (k H locs ls hH hS hl)
theorem aw_lshr {X : aw_X} {cc : ByteArray} {nL : Nat} {own : String} (C : aw_ok X cc nL own) {cells slots : Nat} {ad : aw_Ad} {ce : aw_He} {pc : Nat} {lv : List (Nat × Value)} {st : List Value} {x : Int64} {y : Int32} (hd : decode cc pc = .ok (.lshr, 1))  (k : AW X nL cells slots ad ce (pc + 1) lv (.long (x >>> (y.toInt64 &&& 63)) :: st)) : AW X nL cells slots ad ce pc lv (.int y :: .long x :: st) := by
  obtain ⟨p, l, e, R, s, m, args, below, meth, c, Q, G⟩ := X
  obtain ⟨hx, hb, hml, hown, hts, hlk, hK, hbs⟩ := C
  intro H locs ls hH hS hl
  exact lv_lshr hx hb hd rfl (k H locs ls hH hS hl)
theorem aw_lcmp {X : aw_X} {cc : ByteArray} {nL : Nat} {own : String} (C : aw_ok X cc nL own) {cells slots : Nat} {ad : aw_Ad} {ce : aw_He} {pc : Nat} {lv : List (Nat × Value)} {st : List Value} {x y : Int64} (hd : decode cc pc = .ok (.lcmp, 1))  (k : AW X nL cells slots ad ce (pc + 1) lv (.int (lg_cmp x y) :: st)) : AW X nL cells slots ad ce pc lv (.long y :: .long x :: st) := by
  obtain ⟨p, l, e, R, s, m, args, below, meth, c, Q, G⟩ := X
  obtain ⟨hx, hb, hml, hown, hts, hlk, hK, hbs⟩ := C
  intro H locs ls hH hS hl
  exact W.lcmp hx hb hd (k H locs ls hH hS hl)
theorem aw_dup {X : aw_X} {cc : ByteArray} {nL : Nat} {own : String} (C : aw_ok X cc nL own) {cells slots : Nat} {ad : aw_Ad} {ce : aw_He} {pc : Nat} {lv : List (Nat × Value)} {st : List Value} {va : Value} (hd : decode cc pc = .ok (.dup, 1)) (h1 : va.category = 1) (k : AW X nL cells slots ad ce (pc + 1) lv (va :: va :: st)) : AW X nL cells slots ad ce pc lv (va :: st) := by
  obtain ⟨p, l, e, R, s, m, args, below, meth, c, Q, G⟩ := X
  obtain ⟨hx, hb, hml, hown, hts, hlk, hK, hbs⟩ := C
  intro H locs ls hH hS hl
  exact lv_dup hx hb hd h1 (k H locs ls hH hS hl)
theorem aw_pop {X : aw_X} {cc : ByteArray} {nL : Nat} {own : String} (C : aw_ok X cc nL own) {cells slots : Nat} {ad : aw_Ad} {ce : aw_He} {pc : Nat} {lv : List (Nat × Value)} {st : List Value} {va : Value} (hd : decode cc pc = .ok (.pop, 1)) (h1 : va.category = 1) (k : AW X nL cells slots ad ce (pc + 1) lv st) : AW X nL cells slots ad ce pc lv (va :: st) := by
  obtain ⟨p, l, e, R, s, m, args, below, meth, c, Q, G⟩ := X
  obtain ⟨hx, hb, hml, hown, hts, hlk, hK, hbs⟩ := C
  intro H locs ls hH hS hl
  exact lv_pop hx hb hd h1 (k H locs ls hH hS hl)
theorem aw_dup_x1 {X : aw_X} {cc : ByteArray} {nL : Nat} {own : String} (C : aw_ok X cc nL own) {cells slots : Nat} {ad : aw_Ad} {ce : aw_He} {pc : Nat} {lv : List (Nat × Value)} {st : List Value} {va vb : Value} (hd : decode cc pc = .ok (.dup_x1, 1)) (h1 : va.category = 1) (h2 : vb.category = 1) (k : AW X nL cells slots ad ce (pc + 1) lv (va :: vb :: va :: st)) : AW X nL cells slots ad ce pc lv (va :: vb :: st) := by
  obtain ⟨p, l, e, R, s, m, args, below, meth, c, Q, G⟩ := X
  obtain ⟨hx, hb, hml, hown, hts, hlk, hK, hbs⟩ := C
  intro H locs ls hH hS hl
  exact lv_dup_x1 hx hb hd h1 h2 (k H locs ls hH hS hl)
theorem aw_dup_x2 {X : aw_X} {cc : ByteArray} {nL : Nat} {own : String} (C : aw_ok X cc nL own) {cells slots : Nat} {ad : aw_Ad} {ce : aw_He} {pc : Nat} {lv : List (Nat × Value)} {st : List Value} {va vb vd : Value} (hd : decode cc pc = .ok (.dup_x2, 1)) (h1 : va.category = 1) (h2 : vb.category = 1) (h3 : vd.category = 1) (k : AW X nL cells slots ad ce (pc + 1) lv (va :: vb :: vd :: va :: st)) : AW X nL cells slots ad ce pc lv (va :: vb :: vd :: st) := by
  obtain ⟨p, l, e, R, s, m, args, below, meth, c, Q, G⟩ := X
  obtain ⟨hx, hb, hml, hown, hts, hlk, hK, hbs⟩ := C
  intro H locs ls hH hS hl
  exact lv_dup_x2 hx hb hd h1 h2 h3 (k H locs ls hH hS hl)
theorem aw_dup2_11 {X : aw_X} {cc : ByteArray} {nL : Nat} {own : String} (C : aw_ok X cc nL own) {cells slots : Nat} {ad : aw_Ad} {ce : aw_He} {pc : Nat} {lv : List (Nat × Value)} {st : List Value} {va vb : Value} (hd : decode cc pc = .ok (.dup2, 1)) (h1 : va.category = 1) (h2 : vb.category = 1) (k : AW X nL cells slots ad ce (pc + 1) lv (va :: vb :: va :: vb :: st)) : AW X nL cells slots ad ce pc lv (va :: vb :: st) := by
  obtain ⟨p, l, e, R, s, m, args, below, meth, c, Q, G⟩ := X
  obtain ⟨hx, hb, hml, hown, hts, hlk, hK, hbs⟩ := C
  intro H locs ls hH hS hl
  exact lv_dup2_11 hx hb hd h1 h2 (k H locs ls hH hS hl)
theorem aw_dup2_2 {X : aw_X} {cc : ByteArray} {nL : Nat} {own : String} (C : aw_ok X cc nL own) {cells slots : Nat} {ad : aw_Ad} {ce : aw_He} {pc : Nat} {lv : List (Nat × Value)} {st : List Value} {va : Value} (hd : decode cc pc = .ok (.dup2, 1)) (h1 : va.category = 2) (k : AW X nL cells slots ad ce (pc + 1) lv (va :: va :: st)) : AW X nL cells slots ad ce pc lv (va :: st) := by
  obtain ⟨p, l, e, R, s, m, args, below, meth, c, Q, G⟩ := X
  obtain ⟨hx, hb, hml, hown, hts, hlk, hK, hbs⟩ := C
  intro H locs ls hH hS hl
  exact lv_dup2_2 hx hb hd h1 (k H locs ls hH hS hl)
theorem aw_pop2_2 {X : aw_X} {cc : ByteArray} {nL : Nat} {own : String} (C : aw_ok X cc nL own) {cells slots : Nat} {ad : aw_Ad} {ce : aw_He} {pc : Nat} {lv : List (Nat × Value)} {st : List Value} {va : Value} (hd : decode cc pc = .ok (.pop2, 1)) (h1 : va.category = 2) (k : AW X nL cells slots ad ce (pc + 1) lv st) : AW X nL cells slots ad ce pc lv (va :: st) := by
  obtain ⟨p, l, e, R, s, m, args, below, meth, c, Q, G⟩ := X
  obtain ⟨hx, hb, hml, hown, hts, hlk, hK, hbs⟩ := C
  intro H locs ls hH hS hl
  exact lv_pop2_2 hx hb hd h1 (k H locs ls hH hS hl)
theorem aw_if_eq {X : aw_X} {cc : ByteArray} {nL : Nat} {own : String} (C : aw_ok X cc nL own) {cells slots : Nat} {ad : aw_Ad} {ce : aw_He} {pc : Nat} {lv : List (Nat × Value)} {st : List Value} {x : Int32} {off : Int} {tgt : Nat} (hd : decode cc pc = .ok (.ifCond .eq off, 3)) (ht : (pc : Int) + off = (tgt : Int)) (kt : x = 0 → AW X nL cells slots ad ce tgt lv st) (kf : ¬ x = 0 → AW X nL cells slots ad ce (pc + 3) lv st) : AW X nL cells slots ad ce pc lv (.int x :: st) := by
  obtain ⟨p, l, e, R, s, m, args, below, meth, c, Q, G⟩ := X
  obtain ⟨hx, hb, hml, hown, hts, hlk, hK, hbs⟩ := C
  intro H locs ls hH hS hl
  exact lv_if_eq hx hb hd ht (fun q => kt q H locs ls hH hS hl) (fun q => kf q H locs ls hH hS hl)
theorem aw_icmp_eq {X : aw_X} {cc : ByteArray} {nL : Nat} {own : String} (C : aw_ok X cc nL own) {cells slots : Nat} {ad : aw_Ad} {ce : aw_He} {pc : Nat} {lv : List (Nat × Value)} {st : List Value} {x y : Int32} {off : Int} {tgt : Nat} (hd : decode cc pc = .ok (.if_icmp .eq off, 3)) (ht : (pc : Int) + off = (tgt : Int)) (kt : x = y → AW X nL cells slots ad ce tgt lv st) (kf : ¬ x = y → AW X nL cells slots ad ce (pc + 3) lv st) : AW X nL cells slots ad ce pc lv (.int y :: .int x :: st) := by
  obtain ⟨p, l, e, R, s, m, args, below, meth, c, Q, G⟩ := X
  obtain ⟨hx, hb, hml, hown, hts, hlk, hK, hbs⟩ := C
  intro H locs ls hH hS hl
  exact lv_icmp_eq hx hb hd ht (fun q => kt q H locs ls hH hS hl) (fun q => kf q H locs ls hH hS hl)
theorem aw_if_ne {X : aw_X} {cc : ByteArray} {nL : Nat} {own : String} (C : aw_ok X cc nL own) {cells slots : Nat} {ad : aw_Ad} {ce : aw_He} {pc : Nat} {lv : List (Nat × Value)} {st : List Value} {x : Int32} {off : Int} {tgt : Nat} (hd : decode cc pc = .ok (.ifCond .ne off, 3)) (ht : (pc : Int) + off = (tgt : Int)) (kt : ¬ x = 0 → AW X nL cells slots ad ce tgt lv st) (kf : x = 0 → AW X nL cells slots ad ce (pc + 3) lv st) : AW X nL cells slots ad ce pc lv (.int x :: st) := by
  obtain ⟨p, l, e, R, s, m, args, below, meth, c, Q, G⟩ := X
  obtain ⟨hx, hb, hml, hown, hts, hlk, hK, hbs⟩ := C
  intro H locs ls hH hS hl
  exact lv_if_ne hx hb hd ht (fun q => kt q H locs ls hH hS hl) (fun q => kf q H locs ls hH hS hl)
theorem aw_icmp_ne {X : aw_X} {cc : ByteArray} {nL : Nat} {own : String} (C : aw_ok X cc nL own) {cells slots : Nat} {ad : aw_Ad} {ce : aw_He} {pc : Nat} {lv : List (Nat × Value)} {st : List Value} {x y : Int32} {off : Int} {tgt : Nat} (hd : decode cc pc = .ok (.if_icmp .ne off, 3)) (ht : (pc : Int) + off = (tgt : Int)) (kt : ¬ x = y → AW X nL cells slots ad ce tgt lv st) (kf : x = y → AW X nL cells slots ad ce (pc + 3) lv st) : AW X nL cells slots ad ce pc lv (.int y :: .int x :: st) := by
  obtain ⟨p, l, e, R, s, m, args, below, meth, c, Q, G⟩ := X
  obtain ⟨hx, hb, hml, hown, hts, hlk, hK, hbs⟩ := C
  intro H locs ls hH hS hl
  exact lv_icmp_ne hx hb hd ht (fun q => kt q H locs ls hH hS hl) (fun q => kf q H locs ls hH hS hl)
theorem aw_if_lt {X : aw_X} {cc : ByteArray} {nL : Nat} {own : String} (C : aw_ok X cc nL own) {cells slots : Nat} {ad : aw_Ad} {ce : aw_He} {pc : Nat} {lv : List (Nat × Value)} {st : List Value} {x : Int32} {off : Int} {tgt : Nat} (hd : decode cc pc = .ok (.ifCond .lt off, 3)) (ht : (pc : Int) + off = (tgt : Int)) (kt : x < 0 → AW X nL cells slots ad ce tgt lv st) (kf : ¬ x < 0 → AW X nL cells slots ad ce (pc + 3) lv st) : AW X nL cells slots ad ce pc lv (.int x :: st) := by
  obtain ⟨p, l, e, R, s, m, args, below, meth, c, Q, G⟩ := X
  obtain ⟨hx, hb, hml, hown, hts, hlk, hK, hbs⟩ := C
  intro H locs ls hH hS hl
  exact lv_if_lt hx hb hd ht (fun q => kt q H locs ls hH hS hl) (fun q => kf q H locs ls hH hS hl)
theorem aw_icmp_lt {X : aw_X} {cc : ByteArray} {nL : Nat} {own : String} (C : aw_ok X cc nL own) {cells slots : Nat} {ad : aw_Ad} {ce : aw_He} {pc : Nat} {lv : List (Nat × Value)} {st : List Value} {x y : Int32} {off : Int} {tgt : Nat} (hd : decode cc pc = .ok (.if_icmp .lt off, 3)) (ht : (pc : Int) + off = (tgt : Int)) (kt : x < y → AW X nL cells slots ad ce tgt lv st) (kf : ¬ x < y → AW X nL cells slots ad ce (pc + 3) lv st) : AW X nL cells slots ad ce pc lv (.int y :: .int x :: st) := by
  obtain ⟨p, l, e, R, s, m, args, below, meth, c, Q, G⟩ := X
  obtain ⟨hx, hb, hml, hown, hts, hlk, hK, hbs⟩ := C
  intro H locs ls hH hS hl
  exact lv_icmp_lt hx hb hd ht (fun q => kt q H locs ls hH hS hl) (fun q => kf q H locs ls hH hS hl)
theorem aw_if_ge {X : aw_X} {cc : ByteArray} {nL : Nat} {own : String} (C : aw_ok X cc nL own) {cells slots : Nat} {ad : aw_Ad} {ce : aw_He} {pc : Nat} {lv : List (Nat × Value)} {st : List Value} {x : Int32} {off : Int} {tgt : Nat} (hd : decode cc pc = .ok (.ifCond .ge off, 3)) (ht : (pc : Int) + off = (tgt : Int)) (kt : 0 ≤ x → AW X nL cells slots ad ce tgt lv st) (kf : ¬ 0 ≤ x → AW X nL cells slots ad ce (pc + 3) lv st) : AW X nL cells slots ad ce pc lv (.int x :: st) := by
  obtain ⟨p, l, e, R, s, m, args, below, meth, c, Q, G⟩ := X
  obtain ⟨hx, hb, hml, hown, hts, hlk, hK, hbs⟩ := C
  intro H locs ls hH hS hl
  exact lv_if_ge hx hb hd ht (fun q => kt q H locs ls hH hS hl) (fun q => kf q H locs ls hH hS hl)
theorem aw_icmp_ge {X : aw_X} {cc : ByteArray} {nL : Nat} {own : String} (C : aw_ok X cc nL own) {cells slots : Nat} {ad : aw_Ad} {ce : aw_He} {pc : Nat} {lv : List (Nat × Value)} {st : List Value} {x y : Int32} {off : Int} {tgt : Nat} (hd : decode cc pc = .ok (.if_icmp .ge off, 3)) (ht : (pc : Int) + off = (tgt : Int)) (kt : y ≤ x → AW X nL cells slots ad ce tgt lv st) (kf : ¬ y ≤ x → AW X nL cells slots ad ce (pc + 3) lv st) : AW X nL cells slots ad ce pc lv (.int y :: .int x :: st) := by
  obtain ⟨p, l, e, R, s, m, args, below, meth, c, Q, G⟩ := X
  obtain ⟨hx, hb, hml, hown, hts, hlk, hK, hbs⟩ := C
  intro H locs ls hH hS hl
  exact lv_icmp_ge hx hb hd ht (fun q => kt q H locs ls hH hS hl) (fun q => kf q H locs ls hH hS hl)
theorem aw_if_gt {X : aw_X} {cc : ByteArray} {nL : Nat} {own : String} (C : aw_ok X cc nL own) {cells slots : Nat} {ad : aw_Ad} {ce : aw_He} {pc : Nat} {lv : List (Nat × Value)} {st : List Value} {x : Int32} {off : Int} {tgt : Nat} (hd : decode cc pc = .ok (.ifCond .gt off, 3)) (ht : (pc : Int) + off = (tgt : Int)) (kt : 0 < x → AW X nL cells slots ad ce tgt lv st) (kf : ¬ 0 < x → AW X nL cells slots ad ce (pc + 3) lv st) : AW X nL cells slots ad ce pc lv (.int x :: st) := by
  obtain ⟨p, l, e, R, s, m, args, below, meth, c, Q, G⟩ := X
  obtain ⟨hx, hb, hml, hown, hts, hlk, hK, hbs⟩ := C
  intro H locs ls hH hS hl
  exact lv_if_gt hx hb hd ht (fun q => kt q H locs ls hH hS hl) (fun q => kf q H locs ls hH hS hl)
theorem aw_icmp_gt {X : aw_X} {cc : ByteArray} {nL : Nat} {own : String} (C : aw_ok X cc nL own) {cells slots : Nat} {ad : aw_Ad} {ce : aw_He} {pc : Nat} {lv : List (Nat × Value)} {st : List Value} {x y : Int32} {off : Int} {tgt : Nat} (hd : decode cc pc = .ok (.if_icmp .gt off, 3)) (ht : (pc : Int) + off = (tgt : Int)) (kt : y < x → AW X nL cells slots ad ce tgt lv st) (kf : ¬ y < x → AW X nL cells slots ad ce (pc + 3) lv st) : AW X nL cells slots ad ce pc lv (.int y :: .int x :: st) := by
  obtain ⟨p, l, e, R, s, m, args, below, meth, c, Q, G⟩ := X
  obtain ⟨hx, hb, hml, hown, hts, hlk, hK, hbs⟩ := C
  intro H locs ls hH hS hl
  exact lv_icmp_gt hx hb hd ht (fun q => kt q H locs ls hH hS hl) (fun q => kf q H locs ls hH hS hl)
theorem aw_if_le {X : aw_X} {cc : ByteArray} {nL : Nat} {own : String} (C : aw_ok X cc nL own) {cells slots : Nat} {ad : aw_Ad} {ce : aw_He} {pc : Nat} {lv : List (Nat × Value)} {st : List Value} {x : Int32} {off : Int} {tgt : Nat} (hd : decode cc pc = .ok (.ifCond .le off, 3)) (ht : (pc : Int) + off = (tgt : Int)) (kt : x ≤ 0 → AW X nL cells slots ad ce tgt lv st) (kf : ¬ x ≤ 0 → AW X nL cells slots ad ce (pc + 3) lv st) : AW X nL cells slots ad ce pc lv (.int x :: st) := by
  obtain ⟨p, l, e, R, s, m, args, below, meth, c, Q, G⟩ := X
  obtain ⟨hx, hb, hml, hown, hts, hlk, hK, hbs⟩ := C
  intro H locs ls hH hS hl
  exact lv_if_le hx hb hd ht (fun q => kt q H locs ls hH hS hl) (fun q => kf q H locs ls hH hS hl)
theorem aw_icmp_le {X : aw_X} {cc : ByteArray} {nL : Nat} {own : String} (C : aw_ok X cc nL own) {cells slots : Nat} {ad : aw_Ad} {ce : aw_He} {pc : Nat} {lv : List (Nat × Value)} {st : List Value} {x y : Int32} {off : Int} {tgt : Nat} (hd : decode cc pc = .ok (.if_icmp .le off, 3)) (ht : (pc : Int) + off = (tgt : Int)) (kt : x ≤ y → AW X nL cells slots ad ce tgt lv st) (kf : ¬ x ≤ y → AW X nL cells slots ad ce (pc + 3) lv st) : AW X nL cells slots ad ce pc lv (.int y :: .int x :: st) := by
  obtain ⟨p, l, e, R, s, m, args, below, meth, c, Q, G⟩ := X
  obtain ⟨hx, hb, hml, hown, hts, hlk, hK, hbs⟩ := C
  intro H locs ls hH hS hl
  exact lv_icmp_le hx hb hd ht (fun q => kt q H locs ls hH hS hl) (fun q => kf q H locs ls hH hS hl)
theorem aw_goto {X : aw_X} {cc : ByteArray} {nL : Nat} {own : String} (C : aw_ok X cc nL own) {cells slots : Nat} {ad : aw_Ad} {ce : aw_He} {pc : Nat} {lv : List (Nat × Value)} {st : List Value} {off : Int} {tgt : Nat} (hd : decode cc pc = .ok (.goto off, 3)) (ht : (pc : Int) + off = (tgt : Int)) (k : AW X nL cells slots ad ce tgt lv st) : AW X nL cells slots ad ce pc lv st := by
  obtain ⟨p, l, e, R, s, m, args, below, meth, c, Q, G⟩ := X
  obtain ⟨hx, hb, hml, hown, hts, hlk, hK, hbs⟩ := C
  intro H locs ls hH hS hl
  exact lv_goto hx hb hd ht (k H locs ls hH hS hl)
theorem aw_ifnonnull {X : aw_X} {cc : ByteArray} {nL : Nat} {own : String} (C : aw_ok X cc nL own) {cells slots : Nat} {ad : aw_Ad} {ce : aw_He} {pc : Nat} {lv : List (Nat × Value)} {st : List Value} {x : Nat} {off : Int} {tgt : Nat} (hd : decode cc pc = .ok (.ifnonnull off, 3)) (ht : (pc : Int) + off = (tgt : Int)) (k : AW X nL cells slots ad ce tgt lv st) : AW X nL cells slots ad ce pc lv (.ref x :: st) := by
  obtain ⟨p, l, e, R, s, m, args, below, meth, c, Q, G⟩ := X
  obtain ⟨hx, hb, hml, hown, hts, hlk, hK, hbs⟩ := C
  intro H locs ls hH hS hl
  exact lv_ifnonnull hx hb hd ht (k H locs ls hH hS hl)
theorem aw_ifnull {X : aw_X} {cc : ByteArray} {nL : Nat} {own : String} (C : aw_ok X cc nL own) {cells slots : Nat} {ad : aw_Ad} {ce : aw_He} {pc : Nat} {lv : List (Nat × Value)} {st : List Value} {x : Nat} {off : Int} (hd : decode cc pc = .ok (.ifnull off, 3)) (k : AW X nL cells slots ad ce (pc + 3) lv st) : AW X nL cells slots ad ce pc lv (.ref x :: st) := by
  obtain ⟨p, l, e, R, s, m, args, below, meth, c, Q, G⟩ := X
  obtain ⟨hx, hb, hml, hown, hts, hlk, hK, hbs⟩ := C
  intro H locs ls hH hS hl
  exact lv_ifnull hx hb hd (k H locs ls hH hS hl)
theorem aw_ifnullN {X : aw_X} {cc : ByteArray} {nL : Nat} {own : String} (C : aw_ok X cc nL own) {cells slots : Nat} {ad : aw_Ad} {ce : aw_He} {pc : Nat} {lv : List (Nat × Value)} {st : List Value} {off : Int} {tgt : Nat} (hd : decode cc pc = .ok (.ifnull off, 3)) (ht : (pc : Int) + off = (tgt : Int)) (k : AW X nL cells slots ad ce tgt lv st) : AW X nL cells slots ad ce pc lv (.null :: st) := by
  obtain ⟨p, l, e, R, s, m, args, below, meth, c, Q, G⟩ := X
  obtain ⟨hx, hb, hml, hown, hts, hlk, hK, hbs⟩ := C
  intro H locs ls hH hS hl
  exact lv_ifnullN hx hb hd ht (k H locs ls hH hS hl)
theorem aw_ifnonnullN {X : aw_X} {cc : ByteArray} {nL : Nat} {own : String} (C : aw_ok X cc nL own) {cells slots : Nat} {ad : aw_Ad} {ce : aw_He} {pc : Nat} {lv : List (Nat × Value)} {st : List Value} {off : Int} (hd : decode cc pc = .ok (.ifnonnull off, 3)) (k : AW X nL cells slots ad ce (pc + 3) lv st) : AW X nL cells slots ad ce pc lv (.null :: st) := by
  obtain ⟨p, l, e, R, s, m, args, below, meth, c, Q, G⟩ := X
  obtain ⟨hx, hb, hml, hown, hts, hlk, hK, hbs⟩ := C
  intro H locs ls hH hS hl
  exact lv_ifnonnullN hx hb hd (k H locs ls hH hS hl)
theorem aw_lookup {X : aw_X} {cc : ByteArray} {nL : Nat} {own : String} (C : aw_ok X cc nL own) {cells slots : Nat} {ad : aw_Ad} {ce : aw_He} {pc : Nat} {lv : List (Nat × Value)} {st : List Value} {dflt : Int} {ps : Array (Int × Int)} {len : Nat} {x : Int32} {off : Int} {tgt : Nat} (hd : decode cc pc = .ok (.lookupswitch dflt ps, len)) (hp : (ps.toList.zip (ps.toList.drop 1)).all (fun (a, next) => a.1 < next.1) = true) (ho : Op.lookupswitch.offset ps.toList dflt x.toInt = off) (ht : (pc : Int) + off = (tgt : Int)) (k : AW X nL cells slots ad ce tgt lv st) : AW X nL cells slots ad ce pc lv (.int x :: st) := by
  obtain ⟨p, l, e, R, s, m, args, below, meth, c, Q, G⟩ := X
  obtain ⟨hx, hb, hml, hown, hts, hlk, hK, hbs⟩ := C
  intro H locs ls hH hS hl
  exact lv_lookup hx hb hd hp ho ht (k H locs ls hH hS hl)
theorem aw_tableOut {X : aw_X} {cc : ByteArray} {nL : Nat} {own : String} (C : aw_ok X cc nL own) {cells slots : Nat} {ad : aw_Ad} {ce : aw_He} {pc : Nat} {lv : List (Nat × Value)} {st : List Value} {dflt lo hi : Int} {offs : Array Int} {len : Nat} {x : Int32} {tgt : Nat} (hd : decode cc pc = .ok (.tableswitch dflt lo hi offs, len)) (h : x.toInt < lo ∨ hi < x.toInt) (ht : (pc : Int) + dflt = (tgt : Int)) (k : AW X nL cells slots ad ce tgt lv st) : AW X nL cells slots ad ce pc lv (.int x :: st) := by
  obtain ⟨p, l, e, R, s, m, args, below, meth, c, Q, G⟩ := X
  obtain ⟨hx, hb, hml, hown, hts, hlk, hK, hbs⟩ := C
  intro H locs ls hH hS hl
  exact lv_tableOut hx hb hd h ht (k H locs ls hH hS hl)
theorem aw_tableIn {X : aw_X} {cc : ByteArray} {nL : Nat} {own : String} (C : aw_ok X cc nL own) {cells slots : Nat} {ad : aw_Ad} {ce : aw_He} {pc : Nat} {lv : List (Nat × Value)} {st : List Value} {dflt lo hi : Int} {offs : Array Int} {len : Nat} {x : Int32} {off : Int} {tgt : Nat} (hd : decode cc pc = .ok (.tableswitch dflt lo hi offs, len)) (h1 : ¬ x.toInt < lo) (h2 : ¬ hi < x.toInt) (ho : offs[(x.toInt - lo).toNat]? = some off) (ht : (pc : Int) + off = (tgt : Int)) (k : AW X nL cells slots ad ce tgt lv st) : AW X nL cells slots ad ce pc lv (.int x :: st) := by
  obtain ⟨p, l, e, R, s, m, args, below, meth, c, Q, G⟩ := X
  obtain ⟨hx, hb, hml, hown, hts, hlk, hK, hbs⟩ := C
  intro H locs ls hH hS hl
  exact lv_tableIn hx hb hd h1 h2 ho ht (k H locs ls hH hS hl)
end
section
/-- what the tables say of a class -/
def aw_cls (ci : Nat) (Cn : String) (T : u_T) (N : Nat) (ty : Nat → FieldType) : Prop := aw_cl[ci]? = some (Cn, T, N) ∧ (∀ w ∈ u_ws Cn T N, w ∈ aw_tb) ∧ (∀ k, k < N → parseFieldDescriptor (T k).2.2.1 = some (ty k)) ∧ ∀ a, a < N → ∀ b, b < N → a ≠ b → (T a).2.1 ≠ (T b).2.1
section AWheap
variable {X : aw_X} {cc : ByteArray} {nL : Nat} {own : String} {cells slots : Nat} {ad : aw_Ad} {ce : aw_He} {pc : Nat} {lv : List (Nat × Value)} {st : List Value} {idx : Nat} {k : aw_Lb} {ci : Nat} {Cn : String} {T : u_T} {N : Nat} {ty : Nat → FieldType} {fs : List Value}
theorem aw_get (C : aw_ok X cc nL own) (F : aw_cls ci Cn T N ty) (hk : ce k = some (.inr (ci, fs))) (i : Nat) (hi : i < N) (hlink : Cond.fieldLink own idx (T i).1 (T i).2.1 (T i).2.2.1 ∈ aw_tb) {v : Value} (hv : fs[i]? = some v) (hd : decode cc pc = .ok (.getfield idx, 3)) (kk : AW X nL cells slots ad ce (pc + 3) lv (v :: st)) : AW X nL cells slots ad ce pc lv (.ref (ad k) :: st) := by
  obtain ⟨p, l, e, R, s, m, args, below, meth, c, Q, G⟩ := X
  obtain ⟨hx, hb, hml, hown, hts, hlk, hK, hbs⟩ := C
  obtain ⟨f1, f2, f3, f4⟩ := F
  intro H locs ls hH hS hl
  exact va_get (D := G.1) (ci := ci) (T := T) (N := N) hx hb hts f2 hown hK.1 (hH.P hk) 0 rfl f1 i hi (hts _ hlink) (fun _ h => h) hv hd (kk H locs ls hH hS hl)
theorem aw_put (C : aw_ok X cc nL own) (F : aw_cls ci Cn T N ty) (hk : ce k = some (.inr (ci, fs))) (i : Nat) (hi : i < N) (hlink : Cond.fieldLink own idx (T i).1 (T i).2.1 (T i).2.2.1 ∈ aw_tb) (hfin : (T i).2.2.2 = false) {v : Value} (hn : narrow (ty i) v = v) (hfit : fits (ty i) v = true) (hlt : i < fs.length) (hd : decode cc pc = .ok (.putfield idx, 3)) (kk : AW X nL cells slots ad (aw_up ce k (some (.inr (ci, fs.set i v)))) (pc + 3) lv st) : AW X nL cells slots ad ce pc lv (v :: .ref (ad k) :: st) := by
  obtain ⟨p, l, e, R, s, m, args, below, meth, c, Q, G⟩ := X
  obtain ⟨hx, hb, hml, hown, hts, hlk, hK, hbs⟩ := C
  obtain ⟨f1, f2, f3, f4⟩ := F
  intro H locs ls hH hS hl
  have hap := va_apart (own := own) hts f2 ty f3 f4 hK.1 f1
  obtain ⟨r, h1, cell, q1, q2, q3, q4⟩ := (hH.1 k _ hk).1
  have hr : r = (Cn, T, N) := Option.some.inj (h1.symm.trans f1)
  subst hr
  obtain ⟨hS1, hfc, kC, hkC, hkind⟩ := hK.1.1 ci _ f1
  obtain ⟨cf, kf, fi, f, hi2, hsl⟩ := hS1 i hi
  have hlay := hts _ (f2 _ (u_in_lay hi))
  unfold u_lay at hlay
  rw [if_neg (by rw [hfin]; decide)] at hlay
  have hst := (u_facts hfc hkC (u_lays hts f2 hi) hi2).1
  have h6 := u_store hfc hkC hkind hlay hi2 (f3 i hi) hn hfit
  refine W.putK hx hb (f := f) ⟨hown, hts _ hlink, ⟨_, _, _, hi2⟩, hst⟩ (by rw [q2]; exact h6) q1 q3 (by rw [hsl]; exact k2_hasslot (q4 i hi)) rfl rfl hd fun H' e1 e2 e3 => ?_
  rw [hsl] at e1 ⊢
  exact kk H' _ ls (hH.set hk ⟨_, f1, t_OB.to (V := updV (vp_V fs) i v) ⟨_, e1, q2, q3, t_set q4 hap hi v⟩ (fun j _ => vp_updV_set hlt v j)⟩ e3) (hS.put e2 e3 (hH.1 k _ hk).2) hl
theorem aw_putF (C : aw_ok X cc nL own) {nm : String} {ret : Option FieldType} {mc ms : Nat} {P : Option Value → aw_Ad → aw_He → Prop} (E : aw_me X nm ret mc ms P) (hnm : nm = "<init>") (F : aw_cls ci Cn T N ty) (hk : ce k = some (.inr (ci, fs))) (i : Nat) (hi : i < N) (hlink : Cond.fieldLink own idx (T i).1 (T i).2.1 (T i).2.2.1 ∈ aw_tb) (hfin : (T i).2.2.2 = true) (hdecl : (T i).1 = own) {v : Value} (hn : narrow (ty i) v = v) (hfit : fits (ty i) v = true) (hlt : i < fs.length) (hd : decode cc pc = .ok (.putfield idx, 3)) (kk : AW X nL cells slots ad (aw_up ce k (some (.inr (ci, fs.set i v)))) (pc + 3) lv st) : AW X nL cells slots ad ce pc lv (v :: .ref (ad k) :: st) := by
  obtain ⟨p, l, e, R, s, m, args, below, meth, c, Q, G⟩ := X
  obtain ⟨hx, hb, hml, hown, hts, hlk, hK, hbs⟩ := C
  obtain ⟨f1, f2, f3, f4⟩ := F
  intro H locs ls hH hS hl
  have hin2 : meth.name = "<init>" := E.1.trans hnm
  have hap := va_apart (own := own) hts f2 ty f3 f4 hK.1 f1
  obtain ⟨r, h1, cell, q1, q2, q3, q4⟩ := (hH.1 k _ hk).1
  have hr : r = (Cn, T, N) := Option.some.inj (h1.symm.trans f1)
  subst hr
  obtain ⟨hS1, hfc, kC, hkC, hkind⟩ := hK.1.1 ci _ f1
  obtain ⟨cf, kf, fi, f, hi2, hsl⟩ := hS1 i hi
  have hlay := hts _ (f2 _ (u_in_lay hi))
  unfold u_lay at hlay
  rw [if_pos hfin] at hlay
  have hst := (u_facts hfc hkC (u_lays hts f2 hi) hi2).1
  have hcf : m.cls = cf := by
    obtain ⟨_, _, c', _, _, _, -, -, hf', -, -, -, hown2, -⟩ := Cond.laysFinal_spec hlay
    have e1 : c' = cf := by have := hi2.symm.trans hf'; simp at this; exact this.1.symm
    rw [hdecl] at hown2
    rw [← e1]; exact Option.some.inj (hown.symm.trans hown2)
  have h6 := u_fits hfc hkC hkind (Or.inr hlay) hi2 (f3 i hi) hn hfit
  refine W.putFinK hx hb hown (hts _ hlink) hi2 hst hcf hin2 (by rw [q2]; exact h6) q1 q3 (by rw [hsl]; exact k2_hasslot (q4 i hi)) rfl rfl hd fun H' e1 e2 e3 => ?_
  rw [hsl] at e1 ⊢
  exact kk H' _ ls (hH.set hk ⟨_, f1, t_OB.to (V := updV (vp_V fs) i v) ⟨_, e1, q2, q3, t_set q4 hap hi v⟩ (fun j _ => vp_updV_set hlt v j)⟩ e3) (hS.put e2 e3 (hH.1 k _ hk).2) hl
theorem aw_new (C : aw_ok X cc nL own) {l0 : Launch} {G0 : aw_G} {R0 : Room} (I : aw_in X l0 G0 R0) (F : aw_cls ci Cn T N ty) (k : aw_Lb) (hk : ce k = none) (h1 : Cond.classLink own idx Cn ∈ aw_tb) (h2 : Cond.instantiable Cn N ∈ aw_tb) (h3 : Cond.initialized Cn ∈ aw_tb) (hfs : ∀ j, j < N → defaultValue (ty j) = vp_V fs j) (hf : cells + 1 ≤ R0.cells ∧ slots + N ≤ R0.slots) (hd : decode cc pc = .ok (.new idx, 3))
    (kk : ∀ ad' : aw_Ad, (∀ j, j ≠ k → ad' j = ad j) → AW X nL (cells + 1) (slots + N) ad' (aw_up ce k (some (.inr (ci, fs)))) (pc + 3) lv (.ref (ad' k) :: st)) : AW X nL cells slots ad ce pc lv st := by
  obtain ⟨p, l, e, R, s, m, args, below, meth, c, Q, G⟩ := X
  obtain ⟨hx, hb, hml, hown, hts, hlk, hK, hbs⟩ := C
  obtain ⟨rfl, rfl, rfl⟩ := I
  obtain ⟨f1, f2, f3, f4⟩ := F
  intro H locs ls hH hS hl
  have hKn := hK.1.1 ci _ f1
  refine W.newcK hx hb hown (hts _ h1) (hts _ h2) (hts _ h3) rfl hd hf.1 hf.2 hKn.2.1 rfl fun H1 kC hkC e1 z1 o1 => ?_
  have hw := kk (aw_up ad k H.size) (fun j hj => aw_up_ne _ _ hj)
  rw [aw_up_self] at hw
  exact hw H1 locs ls (hH.new hk (Nat.le_trans hbs hS.1) ⟨_, f1, (u_born ty hts f2 hKn hkC e1 f3).to hfs⟩ o1) ⟨Nat.le_trans hS.1 (by omega), fun x h1 h2 => (o1 x (Nat.lt_of_lt_of_le h1 hS.1)).trans (hS.2.1 x h1 h2), hS.2.2⟩ hl
theorem aw_newa (C : aw_ok X cc nL own) {l0 : Launch} {G0 : aw_G} {R0 : Room} (I : aw_in X l0 G0 R0) {atype : ArrayType} (t : Nat) (ht : aw_ty[t]? = some (newarray.typeOf atype)) (k : aw_Lb) (hk : ce k = none) (h1 : Cond.arrayClass (newarray.typeOf atype) ∈ aw_tb) {n : Int32} {N' : Nat} {a0 : vp_A} (ha : ∀ cA : ClassId, vp_cell cA a0 = arrV cA N' (fun _ => defaultValue (newarray.typeOf atype))) (hn : n = nI N') (hN : N' ≤ 65536) (hf : cells + 1 ≤ R0.cells ∧ slots + N' ≤ R0.slots) (hd : decode cc pc = .ok (.newarray atype, 2))
    (kk : ∀ ad' : aw_Ad, (∀ j, j ≠ k → ad' j = ad j) → AW X nL (cells + 1) (slots + N') ad' (aw_up ce k (some (.inl (t, a0)))) (pc + 2) lv (.ref (ad' k) :: st)) : AW X nL cells slots ad ce pc lv (.int n :: st) := by
  obtain ⟨p, l, e, R, s, m, args, below, meth, c, Q, G⟩ := X
  obtain ⟨hx, hb, hml, hown, hts, hlk, hK, hbs⟩ := C
  obtain ⟨rfl, rfl, rfl⟩ := I
  intro H locs ls hH hS hl
  subst hn
  have hc0 : (nI N').toNatClampNeg = N' := nI_clamp (by omega)
  have hby : N' * componentBytes (newarray.typeOf atype) ≤ 536870912 := by
    have : componentBytes (newarray.typeOf atype) ≤ 8 := by cases atype <;> decide
    calc N' * componentBytes (newarray.typeOf atype) ≤ 65536 * 8 := Nat.mul_le_mul hN this
      _ ≤ 536870912 := by decide
  refine va_newaK hx hb (hts _ h1) rfl hd rfl (nI_pos (by omega)) hc0 hby hf.1 hf.2 rfl fun H1 cA e1 z1 o1 hAr hNm => ?_
  have hRA : s.vm.findClass ("[" ++ (newarray.typeOf atype).toString) = some (G.2.1 t) := by
    have h := (hK.1.2 t _ (aw_tys_at ht)).2
    cases atype <;> exact h
  have hcA : cA = G.2.1 t := Option.some.inj (hNm.symm.trans hRA)
  subst hcA
  have hw := kk (aw_up ad k H.size) (fun j hj => aw_up_ne _ _ hj)
  rw [aw_up_self] at hw
  refine hw H1 locs ls (hH.new hk (Nat.le_trans hbs hS.1) ?_ o1) ⟨Nat.le_trans hS.1 (by omega), fun x h1 h2 => (o1 x (Nat.lt_of_lt_of_le h1 hS.1)).trans (hS.2.1 x h1 h2), hS.2.2⟩ hl
  show H1[H.size]? = some (vp_cell _ _)
  rw [ha]
  exact e1
theorem aw_newq (C : aw_ok X cc nL own) {l0 : Launch} {G0 : aw_G} {R0 : Room} (I : aw_in X l0 G0 R0) {Cr : String} (t : Nat) (ht : aw_ty[t]? = some (.object Cr)) (k : aw_Lb) (hk : ce k = none) (h1 : Cond.classLink own idx Cr ∈ aw_tb) (h2 : Cr ∈ aw_ao) {n : Int32} {N' : Nat} (hn : n = nI N') (hN : N' ≤ 65536) (hf : cells + 1 ≤ R0.cells ∧ slots + N' ≤ R0.slots) (hd : decode cc pc = .ok (.anewarray idx, 3))
    (kk : ∀ ad' : aw_Ad, (∀ j, j ≠ k → ad' j = ad j) → AW X nL (cells + 1) (slots + N') ad' (aw_up ce k (some (.inl (t, N', .inr (.inr (.inr (.inr (fun _ => none)))))))) (pc + 3) lv (.ref (ad' k) :: st)) : AW X nL cells slots ad ce pc lv (.int n :: st) := by
  obtain ⟨p, l, e, R, s, m, args, below, meth, c, Q, G⟩ := X
  obtain ⟨hx, hb, hml, hown, hts, hlk, hK, hbs⟩ := C
  obtain ⟨rfl, rfl, rfl⟩ := I
  intro H locs ls hH hS hl
  subst hn
  have hc0 : (nI N').toNatClampNeg = N' := nI_clamp (by omega)
  refine W.anew hx hb hown (hts _ h1) (va_AO.use (hK.2.2 _ h2)) rfl hd rfl (nI_pos (by omega)) (by rw [hc0]; omega) hf.1 (by rw [hc0]; exact hf.2) fun cA kA comp f1 f2 f3 f4 => ?_
  rw [hc0]
  generalize hH1 : H.push ({ cls := cA, slots := Array.replicate N' .null, vm := .none } : Cell) = H1
  have z1 : H1.size = H.size + 1 := by rw [← hH1, Array.size_push]
  have e1 : H1[H.size]? = some (arrV cA N' (fun _ => .null)) := by rw [← hH1, Array.getElem?_push_size, ← arrV_new]
  have o1 : ∀ q : Nat, q < H.size → H1[q]? = H[q]? := fun q hq => by rw [← hH1, Array.getElem?_push, if_neg (Nat.ne_of_lt hq)]
  obtain ⟨kA2, comp2, g1, g2, g3, g4⟩ := (hK.1.2 t _ (aw_tys_at ht)).2
  have hcA : cA = G.2.1 t := Option.some.inj (f1.symm.trans g4)
  subst hcA
  have hw := kk (aw_up ad k H.size) (fun j hj => aw_up_ne _ _ hj)
  rw [aw_up_self] at hw
  refine hw H1 locs ls (hH.new hk (Nat.le_trans hbs hS.1) ?_ o1) ⟨Nat.le_trans hS.1 (by omega), fun x h1 h2 => (o1 x (Nat.lt_of_lt_of_le h1 hS.1)).trans (hS.2.1 x h1 h2), hS.2.2⟩ hl
  show H1[H.size]? = some (vp_cell _ _)
  rw [vp_cell_q]
  exact e1
variable {t n j : Nat} {i : Int32}
theorem aw_alen (C : aw_ok X cc nL own) {x : vp_A} (hk : ce k = some (.inl (t, x))) {tt : FieldType} (ht : aw_ty[t]? = some tt) (hd : decode cc pc = .ok (.arraylength, 1)) (kk : AW X nL cells slots ad ce (pc + 1) lv (.int (nI x.1) :: st)) : AW X nL cells slots ad ce pc lv (.ref (ad k) :: st) := by
  obtain ⟨p, l, e, R, s, m, args, below, meth, c, Q, G⟩ := X
  obtain ⟨hx, hb, hml, hown, hts, hlk, hK, hbs⟩ := C
  intro H locs ls hH hS hl
  exact va_alen (cA := G.2.1 t) (x := x) hx hb hK.1 (hH.P hk) 0 t rfl (aw_tys_at ht) rfl hd (kk H locs ls hH hS hl)
theorem aw_iald (C : aw_ok X cc nL own) {f : Nat → Int32} (hk : ce k = some (.inl (t, n, .inl f))) (ht : aw_ty[t]? = some .int) (hi : i = nI j) (hj : j < n) (hn : n < 2 ^ 31) (hd : decode cc pc = .ok (.iaload, 1)) (kk : AW X nL cells slots ad ce (pc + 1) lv (.int (f j) :: st)) : AW X nL cells slots ad ce pc lv (.int i :: .ref (ad k) :: st) := by
  obtain ⟨p, l, e, R, s, m, args, below, meth, c, Q, G⟩ := X
  obtain ⟨hx, hb, hml, hown, hts, hlk, hK, hbs⟩ := C
  intro H locs ls hH hS hl
  subst hi
  refine va_iald (cA := G.2.1 t) (n := n) (f := f) hx hb hK.1 (hH.P hk) 0 t rfl (aw_tys_at ht) (vp_in_nI hj hn) hd ?_
  rw [nI_clamp (Nat.lt_trans hj hn)]
  exact kk H locs ls hH hS hl
theorem aw_zald (C : aw_ok X cc nL own) {f : Nat → Int32} (hk : ce k = some (.inl (t, n, .inl f))) (ht : aw_ty[t]? = some .boolean) (hi : i = nI j) (hj : j < n) (hn : n < 2 ^ 31) (hd : decode cc pc = .ok (.baload, 1)) (kk : AW X nL cells slots ad ce (pc + 1) lv (.int (f j) :: st)) : AW X nL cells slots ad ce pc lv (.int i :: .ref (ad k) :: st) := by
  obtain ⟨p, l, e, R, s, m, args, below, meth, c, Q, G⟩ := X
  obtain ⟨hx, hb, hml, hown, hts, hlk, hK, hbs⟩ := C
  intro H locs ls hH hS hl
  subst hi
  refine va_zald (cA := G.2.1 t) (n := n) (f := f) hx hb hK.1 (hH.P hk) 0 t rfl (aw_tys_at ht) (vp_in_nI hj hn) hd ?_
  rw [nI_clamp (Nat.lt_trans hj hn)]
  exact kk H locs ls hH hS hl
theorem aw_lald (C : aw_ok X cc nL own) {f : Nat → Int64} (hk : ce k = some (.inl (t, n, .inr (.inl f)))) (ht : aw_ty[t]? = some .long) (hi : i = nI j) (hj : j < n) (hn : n < 2 ^ 31) (hd : decode cc pc = .ok (.laload, 1)) (kk : AW X nL cells slots ad ce (pc + 1) lv (.long (f j) :: st)) : AW X nL cells slots ad ce pc lv (.int i :: .ref (ad k) :: st) := by
  obtain ⟨p, l, e, R, s, m, args, below, meth, c, Q, G⟩ := X
  obtain ⟨hx, hb, hml, hown, hts, hlk, hK, hbs⟩ := C
  intro H locs ls hH hS hl
  subst hi
  refine va_lald (cA := G.2.1 t) (n := n) (f := f) hx hb hK.1 (hH.P hk) 0 t rfl (aw_tys_at ht) (vp_in_nI hj hn) hd ?_
  rw [nI_clamp (Nat.lt_trans hj hn)]
  exact kk H locs ls hH hS hl
theorem aw_aald (C : aw_ok X cc nL own) {Cr : String} {f : Nat → Option Nat} (hk : ce k = some (.inl (t, n, .inr (.inr (.inr (.inr f)))))) (ht : aw_ty[t]? = some (.object Cr)) (hi : i = nI j) (hj : j < n) (hn : n < 2 ^ 31) (hd : decode cc pc = .ok (.aaload, 1)) (kk : AW X nL cells slots ad ce (pc + 1) lv (va_rf (f j) :: st)) : AW X nL cells slots ad ce pc lv (.int i :: .ref (ad k) :: st) := by
  obtain ⟨p, l, e, R, s, m, args, below, meth, c, Q, G⟩ := X
  obtain ⟨hx, hb, hml, hown, hts, hlk, hK, hbs⟩ := C
  intro H locs ls hH hS hl
  subst hi
  refine va_aldq (cA := G.2.1 t) (n := n) (f := f) hx hb hK.1 (hH.P hk) 0 t rfl (aw_tys_at ht) (vp_in_nI hj hn) hd ?_
  rw [nI_clamp (Nat.lt_trans hj hn)]
  exact kk H locs ls hH hS hl
theorem aw_iast (C : aw_ok X cc nL own) {f : Nat → Int32} {x : Int32} (hk : ce k = some (.inl (t, n, .inl f))) (ht : aw_ty[t]? = some .int) (hi : i = nI j) (hj : j < n) (hn : n < 2 ^ 31) (hd : decode cc pc = .ok (.iastore, 1)) (kk : AW X nL cells slots ad (aw_up ce k (some (.inl (t, n, .inl (upd f j x))))) (pc + 1) lv st) : AW X nL cells slots ad ce pc lv (.int x :: .int i :: .ref (ad k) :: st) := by
  obtain ⟨p, l, e, R, s, m, args, below, meth, c, Q, G⟩ := X
  obtain ⟨hx, hb, hml, hown, hts, hlk, hK, hbs⟩ := C
  intro H locs ls hH hS hl
  subst hi
  have h0 := hH.1 k _ hk
  refine W.iast hx hb h0.1 ((hK.1.2 t _ (aw_tys_at ht)).1 n (fun j => .int (f j))) (fun q => by cases q) (by show ¬ (nI j < 0 ∨ (arrV _ _ _).slots.size ≤ _); rw [arrV_size]; exact vp_in_nI hj hn) rfl rfl hd fun H1 e z oq => ?_
  refine kk H1 _ ls (hH.set hk ?_ oq) (hS.put z oq h0.2) hl
  show H1[ad k]? = some (vp_cell _ _)
  rw [e]
  show some ((vp_cell _ _).setSlot _ _) = _
  rw [vp_cell_i, vp_cell_i, arrV_store, nI_clamp (Nat.lt_trans hj hn)]
  congr 2
  funext q
  by_cases hq : q = j
  · subst hq
    simp [updV, upd]
  · simp [updV, upd, hq]
theorem aw_zast (C : aw_ok X cc nL own) {f : Nat → Int32} {x v : Int32} (hk : ce k = some (.inl (t, n, .inl f))) (ht : aw_ty[t]? = some .boolean) (hi : i = nI j) (hj : j < n) (hn : n < 2 ^ 31) (hv : vp_nar .boolean x = v) (hd : decode cc pc = .ok (.bastore, 1)) (kk : AW X nL cells slots ad (aw_up ce k (some (.inl (t, n, .inl (upd f j v))))) (pc + 1) lv st) : AW X nL cells slots ad ce pc lv (.int x :: .int i :: .ref (ad k) :: st) := by
  obtain ⟨p, l, e, R, s, m, args, below, meth, c, Q, G⟩ := X
  obtain ⟨hx, hb, hml, hown, hts, hlk, hK, hbs⟩ := C
  intro H locs ls hH hS hl
  subst hi
  subst hv
  have h0 := hH.1 k _ hk
  refine W.zast hx hb h0.1 ((hK.1.2 t _ (aw_tys_at ht)).1 n (fun j => .int (f j))) (fun q => by cases q) (by show ¬ (nI j < 0 ∨ (arrV _ _ _).slots.size ≤ _); rw [arrV_size]; exact vp_in_nI hj hn) rfl rfl hd fun H1 e z oq => ?_
  refine kk H1 _ ls (hH.set hk ?_ oq) (hS.put z oq h0.2) hl
  show H1[ad k]? = some (vp_cell _ _)
  rw [e]
  show some ((vp_cell _ _).setSlot _ _) = _
  rw [vp_cell_i, vp_cell_i, arrV_store, nI_clamp (Nat.lt_trans hj hn)]
  congr 2
  funext q
  by_cases hq : q = j
  · subst hq
    simp [updV, upd, vp_nar]
    try rfl
  · simp [updV, upd, hq]
theorem aw_last (C : aw_ok X cc nL own) {f : Nat → Int64} {x : Int64} (hk : ce k = some (.inl (t, n, .inr (.inl f)))) (ht : aw_ty[t]? = some .long) (hi : i = nI j) (hj : j < n) (hn : n < 2 ^ 31) (hd : decode cc pc = .ok (.lastore, 1)) (kk : AW X nL cells slots ad (aw_up ce k (some (.inl (t, n, .inr (.inl (vp_updL f j x)))))) (pc + 1) lv st) : AW X nL cells slots ad ce pc lv (.long x :: .int i :: .ref (ad k) :: st) := by
  obtain ⟨p, l, e, R, s, m, args, below, meth, c, Q, G⟩ := X
  obtain ⟨hx, hb, hml, hown, hts, hlk, hK, hbs⟩ := C
  intro H locs ls hH hS hl
  subst hi
  have h0 := hH.1 k _ hk
  refine W.last hx hb h0.1 ((hK.1.2 t _ (aw_tys_at ht)).1 n (fun j => .long (f j))) (fun q => by cases q) (by show ¬ (nI j < 0 ∨ (arrV _ _ _).slots.size ≤ _); rw [arrV_size]; exact vp_in_nI hj hn) rfl rfl hd fun H1 e z oq => ?_
  refine kk H1 _ ls (hH.set hk ?_ oq) (hS.put z oq h0.2) hl
  show H1[ad k]? = some (vp_cell _ _)
  rw [e]
  show some ((vp_cell _ _).setSlot _ _) = _
  rw [vp_cell_l, vp_cell_l, arrV_store, nI_clamp (Nat.lt_trans hj hn)]
  congr 2
  funext q
  by_cases hq : q = j
  · subst hq
    simp [updV, vp_updL]
  · simp [updV, vp_updL, hq]
theorem aw_aast (C : aw_ok X cc nL own) {r : vw_C} {kv : aw_Lb} {cv : Nat} {vs : List Value} {f : Nat → Option Nat} (hk : ce k = some (.inl (t, n, .inr (.inr (.inr (.inr f)))))) (ht : aw_ty[t]? = some (.object r.1)) (hkv : ce kv = some (.inr (cv, vs))) (hc : aw_cl[cv]? = some r) (hi : i = nI j) (hj : j < n) (hn : n < 2 ^ 31) (hd : decode cc pc = .ok (.aastore, 1)) (kk : AW X nL cells slots ad (aw_up ce k (some (.inl (t, n, .inr (.inr (.inr (.inr (va_up f j (some (ad kv)))))))))) (pc + 1) lv st) : AW X nL cells slots ad ce pc lv (.ref (ad kv) :: .int i :: .ref (ad k) :: st) := by
  obtain ⟨p, l, e, R, s, m, args, below, meth, c, Q, G⟩ := X
  obtain ⟨hx, hb, hml, hown, hts, hlk, hK, hbs⟩ := C
  intro H locs ls hH hS hl
  subst hi
  have h0 := hH.1 k _ hk
  obtain ⟨r', hr', cellV, g1, g2, g3, -⟩ := (hH.1 kv _ hkv).1
  have hcls := (hK.1.1 cv r hc).2
  obtain ⟨kA, comp, k1, k2, k3, -⟩ := (hK.1.2 t _ (aw_tys_at ht)).2
  have hcomp : comp = G.1.1 cv := Option.some.inj (k3.symm.trans hcls.1)
  subst hcomp
  obtain ⟨kC, hkC, -⟩ := hcls.2
  have hlt : (nI j).toNatClampNeg < n := by rw [nI_clamp (Nat.lt_trans hj hn)]; exact hj
  refine W.aast hx hb h0.1 (fun q h => by cases h) (fun h => by cases h) k1 k2 rfl hkC ⟨nI_pos (Nat.lt_trans hj hn), by show _ < (arrV _ _ _).slots.size; rw [arrV_size]; exact hlt⟩ g1 (fun q h => by rw [g3] at h; cases h) (by rw [g2]; exact hkC) (by rw [g2]; exact va_assign hcls) rfl rfl hd fun H1 e z oq => ?_
  refine kk H1 _ ls (hH.set hk ?_ oq) (hS.put z oq h0.2) hl
  show H1[ad k]? = some (vp_cell _ _)
  rw [e]
  show some ((vp_cell _ _).setSlot _ _) = _
  rw [vp_cell_q, vp_cell_q, arrV_store, nI_clamp (Nat.lt_trans hj hn)]
  congr 2
  funext q
  by_cases hq : q = j
  · subst hq
    simp [updV, va_up, va_rf]
  · simp [updV, va_up, hq]
end AWheap
end
