section
-- ===== PART A: goes FIRST, ahead of the names: the tables' words, and 'selects' of the private methods out of them =====
/-- a private method of a class that the tables say can be made, by its rows of tables_1 -/
def lw_okq (q : MethodName × Nat) : Prop := (q.1.cls ≠ "java/lang/invoke/MethodHandle" ∧ q.1.cls ≠ "java/lang/invoke/VarHandle") ∧ Cond.instantiable q.1.cls q.2 ∈ tables_1 ∧ Cond.privateMethod q.1 ∈ tables_1 ∧ Cond.instanceMethod q.1 ∈ tables_1
theorem lw_p0 : lw_okq (⟨"WipePapers", "carrierHasSerial", "(J)Z"⟩, 8) := ⟨⟨by decide +kernel, by decide +kernel⟩, List.mem_of_getElem? (i := 8) (by decide +kernel), List.mem_of_getElem? (i := 58) (by decide +kernel), List.mem_of_getElem? (i := 59) (by decide +kernel)⟩
theorem lw_p1 : lw_okq (⟨"WipePapers", "findCarrier", "(I)LWipePapers$Carrier;"⟩, 8) := ⟨⟨by decide +kernel, by decide +kernel⟩, List.mem_of_getElem? (i := 8) (by decide +kernel), List.mem_of_getElem? (i := 62) (by decide +kernel), List.mem_of_getElem? (i := 63) (by decide +kernel)⟩
theorem lw_p2 : lw_okq (⟨"WipePapers", "findPaper", "(I)LWipePapers$Paper;"⟩, 8) := ⟨⟨by decide +kernel, by decide +kernel⟩, List.mem_of_getElem? (i := 8) (by decide +kernel), List.mem_of_getElem? (i := 242) (by decide +kernel), List.mem_of_getElem? (i := 243) (by decide +kernel)⟩
theorem lw_p3 : lw_okq (⟨"WipePapers", "listHasSerial", "(J)Z"⟩, 8) := ⟨⟨by decide +kernel, by decide +kernel⟩, List.mem_of_getElem? (i := 8) (by decide +kernel), List.mem_of_getElem? (i := 264) (by decide +kernel), List.mem_of_getElem? (i := 265) (by decide +kernel)⟩
theorem lw_p4 : lw_okq (⟨"WipePapersModel", "hasSerial", "(J)Z"⟩, 20) := ⟨⟨by decide +kernel, by decide +kernel⟩, List.mem_of_getElem? (i := 294) (by decide +kernel), List.mem_of_getElem? (i := 371) (by decide +kernel), List.mem_of_getElem? (i := 372) (by decide +kernel)⟩
theorem lw_p5 : lw_okq (⟨"WipePapersModel", "isCarrier", "(I)Z"⟩, 20) := ⟨⟨by decide +kernel, by decide +kernel⟩, List.mem_of_getElem? (i := 294) (by decide +kernel), List.mem_of_getElem? (i := 379) (by decide +kernel), List.mem_of_getElem? (i := 380) (by decide +kernel)⟩
theorem lw_p6 : lw_okq (⟨"WipePapersModel", "forget", "(I)V"⟩, 20) := ⟨⟨by decide +kernel, by decide +kernel⟩, List.mem_of_getElem? (i := 294) (by decide +kernel), List.mem_of_getElem? (i := 391) (by decide +kernel), List.mem_of_getElem? (i := 392) (by decide +kernel)⟩
theorem lw_p7 : lw_okq (⟨"WipePapersModel", "isPlace", "(II)Z"⟩, 20) := ⟨⟨by decide +kernel, by decide +kernel⟩, List.mem_of_getElem? (i := 294) (by decide +kernel), List.mem_of_getElem? (i := 403) (by decide +kernel), List.mem_of_getElem? (i := 404) (by decide +kernel)⟩
theorem lw_p8 : lw_okq (⟨"WipePapersModel", "isGone", "(I)Z"⟩, 20) := ⟨⟨by decide +kernel, by decide +kernel⟩, List.mem_of_getElem? (i := 294) (by decide +kernel), List.mem_of_getElem? (i := 407) (by decide +kernel), List.mem_of_getElem? (i := 408) (by decide +kernel)⟩
theorem lw_p9 : lw_okq (⟨"WipePapersModel", "isPaper", "(I)Z"⟩, 20) := ⟨⟨by decide +kernel, by decide +kernel⟩, List.mem_of_getElem? (i := 294) (by decide +kernel), List.mem_of_getElem? (i := 455) (by decide +kernel), List.mem_of_getElem? (i := 456) (by decide +kernel)⟩
theorem lw_p10 : lw_okq (⟨"WipePapersModel", "markOf", "(IJ)J"⟩, 20) := ⟨⟨by decide +kernel, by decide +kernel⟩, List.mem_of_getElem? (i := 294) (by decide +kernel), List.mem_of_getElem? (i := 464) (by decide +kernel), List.mem_of_getElem? (i := 465) (by decide +kernel)⟩
theorem lw_p11 : lw_okq (⟨"WipePapersModel", "isListed", "(J)Z"⟩, 20) := ⟨⟨by decide +kernel, by decide +kernel⟩, List.mem_of_getElem? (i := 294) (by decide +kernel), List.mem_of_getElem? (i := 478) (by decide +kernel), List.mem_of_getElem? (i := 479) (by decide +kernel)⟩
def lw_privs_1 : List (MethodName × Nat) := [(⟨"WipePapers", "carrierHasSerial", "(J)Z"⟩, 8), (⟨"WipePapers", "findCarrier", "(I)LWipePapers$Carrier;"⟩, 8), (⟨"WipePapers", "findPaper", "(I)LWipePapers$Paper;"⟩, 8), (⟨"WipePapers", "listHasSerial", "(J)Z"⟩, 8), (⟨"WipePapersModel", "hasSerial", "(J)Z"⟩, 20), (⟨"WipePapersModel", "isCarrier", "(I)Z"⟩, 20), (⟨"WipePapersModel", "forget", "(I)V"⟩, 20), (⟨"WipePapersModel", "isPlace", "(II)Z"⟩, 20), (⟨"WipePapersModel", "isGone", "(I)Z"⟩, 20), (⟨"WipePapersModel", "isPaper", "(I)Z"⟩, 20), (⟨"WipePapersModel", "markOf", "(IJ)J"⟩, 20), (⟨"WipePapersModel", "isListed", "(J)Z"⟩, 20)]
theorem lw_r1 : ∀ q ∈ lw_privs_1, lw_okq q := List.forall_mem_cons.mpr ⟨lw_p0, List.forall_mem_cons.mpr ⟨lw_p1, List.forall_mem_cons.mpr ⟨lw_p2, List.forall_mem_cons.mpr ⟨lw_p3, List.forall_mem_cons.mpr ⟨lw_p4, List.forall_mem_cons.mpr ⟨lw_p5, List.forall_mem_cons.mpr ⟨lw_p6, List.forall_mem_cons.mpr ⟨lw_p7, List.forall_mem_cons.mpr ⟨lw_p8, List.forall_mem_cons.mpr ⟨lw_p9, List.forall_mem_cons.mpr ⟨lw_p10, List.forall_mem_cons.mpr ⟨lw_p11, fun _ h => absurd h List.not_mem_nil⟩⟩⟩⟩⟩⟩⟩⟩⟩⟩⟩⟩
def lw_privs : List (MethodName × Nat) := lw_privs_1
def lw_tbl : List Cond := k2_sels lw_privs ++ tables_1
theorem lw_privs_ok : ∀ q ∈ lw_privs, lw_okq q := lw_r1

def aw_tb : List Cond := lw_tbl.filter goodWord
theorem aw_tb_good : aw_tb.all goodWord = true := List.all_eq_true.mpr (fun _ h => (List.mem_filter.mp h).2)
theorem tb_of {w : Cond} (i : Nat) (h : tables_1[i]? = some w) (g : goodWord w = true) : w ∈ aw_tb := List.mem_filter.mpr ⟨List.mem_append_right _ (List.mem_of_getElem? h), g⟩
theorem tb_sel {y : MethodName} (j : Nat) {n : Nat} (h : lw_privs[j]? = some (y, n)) : Cond.selects y.cls y y ∈ aw_tb := List.mem_filter.mpr ⟨List.mem_append_left _ (List.mem_map.mpr ⟨(y, n), List.mem_of_getElem? h, rfl⟩), rfl⟩
def T_C : u_T := fun k => match k with
  | 0 => ("WipePapers", "carriers", "[LWipePapers$Carrier;", true)
  | 1 => ("WipePapers", "carrierCount", "I", false)
  | 2 => ("WipePapers", "papers", "[LWipePapers$Paper;", true)
  | 3 => ("WipePapers", "paperCount", "I", false)
  | 4 => ("WipePapers", "list", "[J", true)
  | 5 => ("WipePapers", "listCount", "I", false)
  | 6 => ("WipePapers", "lostCarriers", "[I", true)
  | _ => ("WipePapers", "lostCount", "I", false)
def t_C : Nat → FieldType := fun k => match k with
  | 0 => .array (.object "WipePapers$Carrier")
  | 1 => .int
  | 2 => .array (.object "WipePapers$Paper")
  | 3 => .int
  | 4 => .array .long
  | 5 => .int
  | 6 => .array .int
  | _ => .int
def T_K : u_T := fun k => match k with
  | 0 => ("WipePapers$Carrier", "kind", "I", true)
  | 1 => ("WipePapers$Carrier", "serial", "J", true)
  | 2 => ("WipePapers$Carrier", "bytes", "[I", true)
  | 3 => ("WipePapers$Carrier", "due", "[I", true)
  | 4 => ("WipePapers$Carrier", "worn", "[Z", true)
  | 5 => ("WipePapers$Carrier", "wasRead", "[Z", true)
  | 6 => ("WipePapers$Carrier", "patterns", "[I", true)
  | 7 => ("WipePapers$Carrier", "passCount", "I", false)
  | 8 => ("WipePapers$Carrier", "readCount", "I", false)
  | 9 => ("WipePapers$Carrier", "unlikeCount", "I", false)
  | 10 => ("WipePapers$Carrier", "condition", "I", false)
  | _ => ("WipePapers$Carrier", "latestPerson", "I", false)
def t_K : Nat → FieldType := fun k => match k with
  | 0 => .int
  | 1 => .long
  | 2 => .array .int
  | 3 => .array .int
  | 4 => .array .boolean
  | 5 => .array .boolean
  | 6 => .array .int
  | 7 => .int
  | 8 => .int
  | 9 => .int
  | 10 => .int
  | _ => .int
def T_P : u_T := fun k => match k with
  | _ => ("WipePapers$Paper", "fields", "[I", true)
def t_P : Nat → FieldType := fun k => match k with
  | _ => .array .int
def T_R : u_T := fun k => match k with
  | 0 => ("WipePapersModel", "carriers", "I", false)
  | 1 => ("WipePapersModel", "kinds", "[I", true)
  | 2 => ("WipePapersModel", "serials", "[J", true)
  | 3 => ("WipePapersModel", "places", "[I", true)
  | 4 => ("WipePapersModel", "states", "[I", true)
  | 5 => ("WipePapersModel", "lasts", "[I", true)
  | 6 => ("WipePapersModel", "bytes", "[I", true)
  | 7 => ("WipePapersModel", "dues", "[I", true)
  | 8 => ("WipePapersModel", "failed", "[Z", true)
  | 9 => ("WipePapersModel", "read", "[Z", true)
  | 10 => ("WipePapersModel", "unlike", "[I", true)
  | 11 => ("WipePapersModel", "passes", "[I", true)
  | 12 => ("WipePapersModel", "patterns", "[I", true)
  | 13 => ("WipePapersModel", "papers", "I", false)
  | 14 => ("WipePapersModel", "fields", "[I", true)
  | 15 => ("WipePapersModel", "fieldCounts", "[I", true)
  | 16 => ("WipePapersModel", "listed", "I", false)
  | 17 => ("WipePapersModel", "list", "[J", true)
  | 18 => ("WipePapersModel", "losses", "I", false)
  | _ => ("WipePapersModel", "lostOnes", "[I", true)
def t_R : Nat → FieldType := fun k => match k with
  | 0 => .int
  | 1 => .array .int
  | 2 => .array .long
  | 3 => .array .int
  | 4 => .array .int
  | 5 => .array .int
  | 6 => .array .int
  | 7 => .array .int
  | 8 => .array .boolean
  | 9 => .array .boolean
  | 10 => .array .int
  | 11 => .array .int
  | 12 => .array .int
  | 13 => .int
  | 14 => .array .int
  | 15 => .array .int
  | 16 => .int
  | 17 => .array .long
  | 18 => .int
  | _ => .array .int
def aw_cl : List vw_C := [("WipePapers", T_C, 8), ("WipePapers$Carrier", T_K, 12), ("WipePapers$Paper", T_P, 1), ("WipePapersModel", T_R, 20)]
def aw_ty : List FieldType := [.int, .boolean, .long, .object "WipePapers$Carrier", .object "WipePapers$Paper"]
def aw_ao : List String := ["WipePapers$Carrier", "WipePapers$Paper"]
theorem tx_16 : (Cond.arrayOver (.object "WipePapers$Carrier")) ∈ lw_tbl := List.mem_append_right _ (List.mem_of_getElem? (i := 16) rfl)
theorem tx_18 : (Cond.arrayOver (.object "WipePapers$Paper")) ∈ lw_tbl := List.mem_append_right _ (List.mem_of_getElem? (i := 18) rfl)
theorem tx_179 : (Cond.methodLinkNest "WipePapers$Carrier" 58 ⟨"WipePapers", "patternByte", "(III)I"⟩ "WipePapers") ∈ lw_tbl := List.mem_append_right _ (List.mem_of_getElem? (i := 179) rfl)
def aw_nM : List (String × Nat × MethodName × String) := [("WipePapers$Carrier", 58, ⟨"WipePapers", "patternByte", "(III)I"⟩, "WipePapers")]
theorem ly_C_0 : u_lay "WipePapers" T_C 0 ∈ aw_tb := tb_of 27 rfl rfl
theorem ly_C_1 : u_lay "WipePapers" T_C 1 ∈ aw_tb := tb_of 29 rfl rfl
theorem ly_C_2 : u_lay "WipePapers" T_C 2 ∈ aw_tb := tb_of 31 rfl rfl
theorem ly_C_3 : u_lay "WipePapers" T_C 3 ∈ aw_tb := tb_of 33 rfl rfl
theorem ly_C_4 : u_lay "WipePapers" T_C 4 ∈ aw_tb := tb_of 35 rfl rfl
theorem ly_C_5 : u_lay "WipePapers" T_C 5 ∈ aw_tb := tb_of 37 rfl rfl
theorem ly_C_6 : u_lay "WipePapers" T_C 6 ∈ aw_tb := tb_of 39 rfl rfl
theorem ly_C_7 : u_lay "WipePapers" T_C 7 ∈ aw_tb := tb_of 41 rfl rfl
theorem lys_C : ∀ w ∈ u_ws "WipePapers" T_C 8, w ∈ aw_tb := by
  intro w hw
  obtain ⟨k, hk, rfl⟩ := List.mem_map.mp hw
  have hk := List.mem_range.mp hk
  match k, hk with
  | 0, _ => exact ly_C_0
  | 1, _ => exact ly_C_1
  | 2, _ => exact ly_C_2
  | 3, _ => exact ly_C_3
  | 4, _ => exact ly_C_4
  | 5, _ => exact ly_C_5
  | 6, _ => exact ly_C_6
  | 7, _ => exact ly_C_7
  | k + 8, hk => exact absurd hk (by omega)
theorem ly_K_0 : u_lay "WipePapers$Carrier" T_K 0 ∈ aw_tb := tb_of 92 rfl rfl
theorem ly_K_1 : u_lay "WipePapers$Carrier" T_K 1 ∈ aw_tb := tb_of 94 rfl rfl
theorem ly_K_2 : u_lay "WipePapers$Carrier" T_K 2 ∈ aw_tb := tb_of 96 rfl rfl
theorem ly_K_3 : u_lay "WipePapers$Carrier" T_K 3 ∈ aw_tb := tb_of 98 rfl rfl
theorem ly_K_4 : u_lay "WipePapers$Carrier" T_K 4 ∈ aw_tb := tb_of 100 rfl rfl
theorem ly_K_5 : u_lay "WipePapers$Carrier" T_K 5 ∈ aw_tb := tb_of 102 rfl rfl
theorem ly_K_6 : u_lay "WipePapers$Carrier" T_K 6 ∈ aw_tb := tb_of 104 rfl rfl
theorem ly_K_7 : u_lay "WipePapers$Carrier" T_K 7 ∈ aw_tb := tb_of 106 rfl rfl
theorem ly_K_8 : u_lay "WipePapers$Carrier" T_K 8 ∈ aw_tb := tb_of 108 rfl rfl
theorem ly_K_9 : u_lay "WipePapers$Carrier" T_K 9 ∈ aw_tb := tb_of 110 rfl rfl
theorem ly_K_10 : u_lay "WipePapers$Carrier" T_K 10 ∈ aw_tb := tb_of 112 rfl rfl
theorem ly_K_11 : u_lay "WipePapers$Carrier" T_K 11 ∈ aw_tb := tb_of 114 rfl rfl
theorem lys_K : ∀ w ∈ u_ws "WipePapers$Carrier" T_K 12, w ∈ aw_tb := by
  intro w hw
  obtain ⟨k, hk, rfl⟩ := List.mem_map.mp hw
  have hk := List.mem_range.mp hk
  match k, hk with
  | 0, _ => exact ly_K_0
  | 1, _ => exact ly_K_1
  | 2, _ => exact ly_K_2
  | 3, _ => exact ly_K_3
  | 4, _ => exact ly_K_4
  | 5, _ => exact ly_K_5
  | 6, _ => exact ly_K_6
  | 7, _ => exact ly_K_7
  | 8, _ => exact ly_K_8
  | 9, _ => exact ly_K_9
  | 10, _ => exact ly_K_10
  | 11, _ => exact ly_K_11
  | k + 12, hk => exact absurd hk (by omega)
theorem ly_P_0 : u_lay "WipePapers$Paper" T_P 0 ∈ aw_tb := tb_of 234 rfl rfl
theorem lys_P : ∀ w ∈ u_ws "WipePapers$Paper" T_P 1, w ∈ aw_tb := by
  intro w hw
  obtain ⟨k, hk, rfl⟩ := List.mem_map.mp hw
  have hk := List.mem_range.mp hk
  match k, hk with
  | 0, _ => exact ly_P_0
  | k + 1, hk => exact absurd hk (by omega)
theorem ly_R_0 : u_lay "WipePapersModel" T_R 0 ∈ aw_tb := tb_of 319 rfl rfl
theorem ly_R_1 : u_lay "WipePapersModel" T_R 1 ∈ aw_tb := tb_of 321 rfl rfl
theorem ly_R_2 : u_lay "WipePapersModel" T_R 2 ∈ aw_tb := tb_of 323 rfl rfl
theorem ly_R_3 : u_lay "WipePapersModel" T_R 3 ∈ aw_tb := tb_of 325 rfl rfl
theorem ly_R_4 : u_lay "WipePapersModel" T_R 4 ∈ aw_tb := tb_of 327 rfl rfl
theorem ly_R_5 : u_lay "WipePapersModel" T_R 5 ∈ aw_tb := tb_of 329 rfl rfl
theorem ly_R_6 : u_lay "WipePapersModel" T_R 6 ∈ aw_tb := tb_of 331 rfl rfl
theorem ly_R_7 : u_lay "WipePapersModel" T_R 7 ∈ aw_tb := tb_of 333 rfl rfl
theorem ly_R_8 : u_lay "WipePapersModel" T_R 8 ∈ aw_tb := tb_of 335 rfl rfl
theorem ly_R_9 : u_lay "WipePapersModel" T_R 9 ∈ aw_tb := tb_of 337 rfl rfl
theorem ly_R_10 : u_lay "WipePapersModel" T_R 10 ∈ aw_tb := tb_of 339 rfl rfl
theorem ly_R_11 : u_lay "WipePapersModel" T_R 11 ∈ aw_tb := tb_of 341 rfl rfl
theorem ly_R_12 : u_lay "WipePapersModel" T_R 12 ∈ aw_tb := tb_of 343 rfl rfl
theorem ly_R_13 : u_lay "WipePapersModel" T_R 13 ∈ aw_tb := tb_of 345 rfl rfl
theorem ly_R_14 : u_lay "WipePapersModel" T_R 14 ∈ aw_tb := tb_of 347 rfl rfl
theorem ly_R_15 : u_lay "WipePapersModel" T_R 15 ∈ aw_tb := tb_of 349 rfl rfl
theorem ly_R_16 : u_lay "WipePapersModel" T_R 16 ∈ aw_tb := tb_of 351 rfl rfl
theorem ly_R_17 : u_lay "WipePapersModel" T_R 17 ∈ aw_tb := tb_of 353 rfl rfl
theorem ly_R_18 : u_lay "WipePapersModel" T_R 18 ∈ aw_tb := tb_of 355 rfl rfl
theorem ly_R_19 : u_lay "WipePapersModel" T_R 19 ∈ aw_tb := tb_of 357 rfl rfl
theorem lys_R : ∀ w ∈ u_ws "WipePapersModel" T_R 20, w ∈ aw_tb := by
  intro w hw
  obtain ⟨k, hk, rfl⟩ := List.mem_map.mp hw
  have hk := List.mem_range.mp hk
  match k, hk with
  | 0, _ => exact ly_R_0
  | 1, _ => exact ly_R_1
  | 2, _ => exact ly_R_2
  | 3, _ => exact ly_R_3
  | 4, _ => exact ly_R_4
  | 5, _ => exact ly_R_5
  | 6, _ => exact ly_R_6
  | 7, _ => exact ly_R_7
  | 8, _ => exact ly_R_8
  | 9, _ => exact ly_R_9
  | 10, _ => exact ly_R_10
  | 11, _ => exact ly_R_11
  | 12, _ => exact ly_R_12
  | 13, _ => exact ly_R_13
  | 14, _ => exact ly_R_14
  | 15, _ => exact ly_R_15
  | 16, _ => exact ly_R_16
  | 17, _ => exact ly_R_17
  | 18, _ => exact ly_R_18
  | 19, _ => exact ly_R_19
  | k + 20, hk => exact absurd hk (by omega)
abbrev M_C_init : MethodName × ByteArray × Nat × Option FieldType := (⟨"WipePapers", "<init>", "()V"⟩, prog_1_method_1_code, 1, none)
abbrev M_C_carrier : MethodName × ByteArray × Nat × Option FieldType := (⟨"WipePapers", "carrier", "(IJI)I"⟩, prog_1_method_2_code, 5, (some .int))
abbrev M_C_within : MethodName × ByteArray × Nat × Option FieldType := (⟨"WipePapers", "within", "(III)Z"⟩, prog_1_method_28_code, 3, (some .boolean))
abbrev M_C_isSerial : MethodName × ByteArray × Nat × Option FieldType := (⟨"WipePapers", "isSerial", "(J)Z"⟩, prog_1_method_30_code, 2, (some .boolean))
abbrev M_C_carrierHasSerial : MethodName × ByteArray × Nat × Option FieldType := (⟨"WipePapers", "carrierHasSerial", "(J)Z"⟩, prog_1_method_26_code, 5, (some .boolean))
abbrev M_C_findCarrier : MethodName × ByteArray × Nat × Option FieldType := (⟨"WipePapers", "findCarrier", "(I)LWipePapers$Carrier;"⟩, prog_1_method_24_code, 2, (some (.object "WipePapers$Carrier")))
abbrev M_K_init : MethodName × ByteArray × Nat × Option FieldType := (⟨"WipePapers$Carrier", "<init>", "(IJI)V"⟩, prog_2_method_1_code, 5, none)
abbrev M_C_state : MethodName × ByteArray × Nat × Option FieldType := (⟨"WipePapers", "state", "(I)I"⟩, prog_1_method_3_code, 3, (some .int))
abbrev M_C_event : MethodName × ByteArray × Nat × Option FieldType := (⟨"WipePapers", "event", "(III)Z"⟩, prog_1_method_4_code, 5, (some .boolean))
abbrev M_C_isPerson : MethodName × ByteArray × Nat × Option FieldType := (⟨"WipePapers", "isPerson", "(I)Z"⟩, prog_1_method_29_code, 1, (some .boolean))
abbrev M_C_leadsFrom : MethodName × ByteArray × Nat × Option FieldType := (⟨"WipePapers", "leadsFrom", "(II)Z"⟩, prog_1_method_31_code, 2, (some .boolean))
abbrev M_K_forgetPasses : MethodName × ByteArray × Nat × Option FieldType := (⟨"WipePapers$Carrier", "forgetPasses", "()V"⟩, prog_2_method_6_code, 1, none)
abbrev M_K_forgetReads : MethodName × ByteArray × Nat × Option FieldType := (⟨"WipePapers$Carrier", "forgetReads", "()V"⟩, prog_2_method_7_code, 2, none)
abbrev M_C_leadsTo : MethodName × ByteArray × Nat × Option FieldType := (⟨"WipePapers", "leadsTo", "(I)I"⟩, prog_1_method_32_code, 1, (some .int))
abbrev M_C_last : MethodName × ByteArray × Nat × Option FieldType := (⟨"WipePapers", "last", "(I)I"⟩, prog_1_method_5_code, 3, (some .int))
abbrev M_C_fail : MethodName × ByteArray × Nat × Option FieldType := (⟨"WipePapers", "fail", "(II)Z"⟩, prog_1_method_6_code, 4, (some .boolean))
abbrev M_K_isGone : MethodName × ByteArray × Nat × Option FieldType := (⟨"WipePapers$Carrier", "isGone", "()Z"⟩, prog_2_method_3_code, 1, (some .boolean))
abbrev M_K_wearOut : MethodName × ByteArray × Nat × Option FieldType := (⟨"WipePapers$Carrier", "wearOut", "(I)Z"⟩, prog_2_method_4_code, 2, (some .boolean))
abbrev M_K_hasPlace : MethodName × ByteArray × Nat × Option FieldType := (⟨"WipePapers$Carrier", "hasPlace", "(I)Z"⟩, prog_2_method_2_code, 2, (some .boolean))
abbrev M_C_failed : MethodName × ByteArray × Nat × Option FieldType := (⟨"WipePapers", "failed", "(II)I"⟩, prog_1_method_7_code, 4, (some .int))
abbrev M_K_wornPlace : MethodName × ByteArray × Nat × Option FieldType := (⟨"WipePapers$Carrier", "wornPlace", "(I)I"⟩, prog_2_method_5_code, 4, (some .int))
abbrev M_C_pass : MethodName × ByteArray × Nat × Option FieldType := (⟨"WipePapers", "pass", "(II)I"⟩, prog_1_method_8_code, 4, (some .int))
abbrev M_K_overwrite : MethodName × ByteArray × Nat × Option FieldType := (⟨"WipePapers$Carrier", "overwrite", "(I)I"⟩, prog_2_method_8_code, 3, (some .int))
abbrev M_C_patternByte : MethodName × ByteArray × Nat × Option FieldType := (⟨"WipePapers", "patternByte", "(III)I"⟩, prog_1_method_33_code, 3, (some .int))
abbrev M_C_byteAt : MethodName × ByteArray × Nat × Option FieldType := (⟨"WipePapers", "byteAt", "(II)I"⟩, prog_1_method_9_code, 4, (some .int))
abbrev M_C_read : MethodName × ByteArray × Nat × Option FieldType := (⟨"WipePapers", "read", "(III)I"⟩, prog_1_method_10_code, 5, (some .int))
abbrev M_K_takeReading : MethodName × ByteArray × Nat × Option FieldType := (⟨"WipePapers$Carrier", "takeReading", "(II)I"⟩, prog_2_method_9_code, 4, (some .int))
abbrev M_C_unlike : MethodName × ByteArray × Nat × Option FieldType := (⟨"WipePapers", "unlike", "(I)I"⟩, prog_1_method_11_code, 3, (some .int))
abbrev M_C_odds : MethodName × ByteArray × Nat × Option FieldType := (⟨"WipePapers", "odds", "(IIII)J"⟩, prog_1_method_12_code, 11, (some .long))
abbrev M_C_waysToChoose : MethodName × ByteArray × Nat × Option FieldType := (⟨"WipePapers", "waysToChoose", "(II)J"⟩, prog_1_method_34_code, 5, (some .long))
abbrev M_C_commonDivisor : MethodName × ByteArray × Nat × Option FieldType := (⟨"WipePapers", "commonDivisor", "(JJ)J"⟩, prog_1_method_35_code, 11, (some .long))
abbrev M_A_maxL : MethodName × ByteArray × Nat × Option FieldType := (⟨"java/lang/Math", "max", "(JJ)J"⟩, prog_7_method_66_code, 4, (some .long))
abbrev M_C_shred : MethodName × ByteArray × Nat × Option FieldType := (⟨"WipePapers", "shred", "(II)Z"⟩, prog_1_method_13_code, 4, (some .boolean))
abbrev M_C_paper : MethodName × ByteArray × Nat × Option FieldType := (⟨"WipePapers", "paper", "(III)I"⟩, prog_1_method_14_code, 5, (some .int))
abbrev M_P_init : MethodName × ByteArray × Nat × Option FieldType := (⟨"WipePapers$Paper", "<init>", "(ILWipePapers$Carrier;II)V"⟩, prog_3_method_1_code, 7, none)
abbrev M_A_minI : MethodName × ByteArray × Nat × Option FieldType := (⟨"java/lang/Math", "min", "(II)I"⟩, prog_7_method_69_code, 2, (some .int))
abbrev M_A_maxI : MethodName × ByteArray × Nat × Option FieldType := (⟨"java/lang/Math", "max", "(II)I"⟩, prog_7_method_65_code, 2, (some .int))
abbrev M_C_at : MethodName × ByteArray × Nat × Option FieldType := (⟨"WipePapers", "at", "(II)I"⟩, prog_1_method_15_code, 4, (some .int))
abbrev M_C_findPaper : MethodName × ByteArray × Nat × Option FieldType := (⟨"WipePapers", "findPaper", "(I)LWipePapers$Paper;"⟩, prog_1_method_25_code, 2, (some (.object "WipePapers$Paper")))
abbrev M_C_mark : MethodName × ByteArray × Nat × Option FieldType := (⟨"WipePapers", "mark", "(IJI)I"⟩, prog_1_method_16_code, 7, (some .int))
abbrev M_P_markBy : MethodName × ByteArray × Nat × Option FieldType := (⟨"WipePapers$Paper", "markBy", "(J)J"⟩, prog_3_method_2_code, 6, (some .long))
abbrev M_C_check : MethodName × ByteArray × Nat × Option FieldType := (⟨"WipePapers", "check", "(IJJ)Z"⟩, prog_1_method_17_code, 7, (some .boolean))
abbrev M_C_listed : MethodName × ByteArray × Nat × Option FieldType := (⟨"WipePapers", "listed", "(J)I"⟩, prog_1_method_18_code, 3, (some .int))
abbrev M_C_listHasSerial : MethodName × ByteArray × Nat × Option FieldType := (⟨"WipePapers", "listHasSerial", "(J)Z"⟩, prog_1_method_27_code, 4, (some .boolean))
abbrev M_C_missing : MethodName × ByteArray × Nat × Option FieldType := (⟨"WipePapers", "missing", "(I)I"⟩, prog_1_method_19_code, 4, (some .int))
abbrev M_C_extra : MethodName × ByteArray × Nat × Option FieldType := (⟨"WipePapers", "extra", "(I)I"⟩, prog_1_method_20_code, 5, (some .int))
abbrev M_C_lost : MethodName × ByteArray × Nat × Option FieldType := (⟨"WipePapers", "lost", "(I)I"⟩, prog_1_method_21_code, 3, (some .int))
abbrev M_C_told : MethodName × ByteArray × Nat × Option FieldType := (⟨"WipePapers", "told", "(I)I"⟩, prog_1_method_22_code, 2, (some .int))
abbrev M_C_states : MethodName × ByteArray × Nat × Option FieldType := (⟨"WipePapers", "states", "()I"⟩, prog_1_method_23_code, 4, (some .int))
abbrev M_I_bitCount : MethodName × ByteArray × Nat × Option FieldType := (⟨"java/lang/Integer", "bitCount", "(I)I"⟩, prog_6_method_49_code, 1, (some .int))
abbrev M_R_init : MethodName × ByteArray × Nat × Option FieldType := (⟨"WipePapersModel", "<init>", "()V"⟩, prog_5_method_1_code, 1, none)
abbrev M_R_carrier : MethodName × ByteArray × Nat × Option FieldType := (⟨"WipePapersModel", "carrier", "(IJI)I"⟩, prog_5_method_8_code, 5, (some .int))
abbrev M_R_isIn : MethodName × ByteArray × Nat × Option FieldType := (⟨"WipePapersModel", "isIn", "(JJJ)Z"⟩, prog_5_method_3_code, 6, (some .boolean))
abbrev M_R_hasSerial : MethodName × ByteArray × Nat × Option FieldType := (⟨"WipePapersModel", "hasSerial", "(J)Z"⟩, prog_5_method_7_code, 5, (some .boolean))
abbrev M_R_state : MethodName × ByteArray × Nat × Option FieldType := (⟨"WipePapersModel", "state", "(I)I"⟩, prog_5_method_9_code, 2, (some .int))
abbrev M_R_isCarrier : MethodName × ByteArray × Nat × Option FieldType := (⟨"WipePapersModel", "isCarrier", "(I)Z"⟩, prog_5_method_4_code, 2, (some .boolean))
abbrev M_R_event : MethodName × ByteArray × Nat × Option FieldType := (⟨"WipePapersModel", "event", "(III)Z"⟩, prog_5_method_11_code, 4, (some .boolean))
abbrev M_R_leads : MethodName × ByteArray × Nat × Option FieldType := (⟨"WipePapersModel", "leads", "(II)I"⟩, prog_5_method_10_code, 2, (some .int))
abbrev M_R_forget : MethodName × ByteArray × Nat × Option FieldType := (⟨"WipePapersModel", "forget", "(I)V"⟩, prog_5_method_15_code, 3, none)
abbrev M_R_last : MethodName × ByteArray × Nat × Option FieldType := (⟨"WipePapersModel", "last", "(I)I"⟩, prog_5_method_12_code, 2, (some .int))
abbrev M_R_fail : MethodName × ByteArray × Nat × Option FieldType := (⟨"WipePapersModel", "fail", "(II)Z"⟩, prog_5_method_13_code, 3, (some .boolean))
abbrev M_R_isPlace : MethodName × ByteArray × Nat × Option FieldType := (⟨"WipePapersModel", "isPlace", "(II)Z"⟩, prog_5_method_5_code, 3, (some .boolean))
abbrev M_R_isGone : MethodName × ByteArray × Nat × Option FieldType := (⟨"WipePapersModel", "isGone", "(I)Z"⟩, prog_5_method_6_code, 2, (some .boolean))
abbrev M_R_failed : MethodName × ByteArray × Nat × Option FieldType := (⟨"WipePapersModel", "failed", "(II)I"⟩, prog_5_method_14_code, 5, (some .int))
abbrev M_R_pass : MethodName × ByteArray × Nat × Option FieldType := (⟨"WipePapersModel", "pass", "(II)I"⟩, prog_5_method_16_code, 5, (some .int))
abbrev M_R_byteAt : MethodName × ByteArray × Nat × Option FieldType := (⟨"WipePapersModel", "byteAt", "(II)I"⟩, prog_5_method_17_code, 3, (some .int))
abbrev M_R_read : MethodName × ByteArray × Nat × Option FieldType := (⟨"WipePapersModel", "read", "(III)I"⟩, prog_5_method_18_code, 7, (some .int))
abbrev M_R_unlike : MethodName × ByteArray × Nat × Option FieldType := (⟨"WipePapersModel", "unlike", "(I)I"⟩, prog_5_method_19_code, 2, (some .int))
abbrev M_R_odds : MethodName × ByteArray × Nat × Option FieldType := (⟨"WipePapersModel", "odds", "(IIII)J"⟩, prog_5_method_21_code, 14, (some .long))
abbrev M_R_common : MethodName × ByteArray × Nat × Option FieldType := (⟨"WipePapersModel", "common", "(JJ)J"⟩, prog_5_method_20_code, 10, (some .long))
abbrev M_R_shred : MethodName × ByteArray × Nat × Option FieldType := (⟨"WipePapersModel", "shred", "(II)Z"⟩, prog_5_method_22_code, 3, (some .boolean))
abbrev M_R_paper : MethodName × ByteArray × Nat × Option FieldType := (⟨"WipePapersModel", "paper", "(III)I"⟩, prog_5_method_23_code, 6, (some .int))
abbrev M_R_at : MethodName × ByteArray × Nat × Option FieldType := (⟨"WipePapersModel", "at", "(II)I"⟩, prog_5_method_25_code, 3, (some .int))
abbrev M_R_isPaper : MethodName × ByteArray × Nat × Option FieldType := (⟨"WipePapersModel", "isPaper", "(I)Z"⟩, prog_5_method_24_code, 2, (some .boolean))
abbrev M_R_mark : MethodName × ByteArray × Nat × Option FieldType := (⟨"WipePapersModel", "mark", "(IJI)I"⟩, prog_5_method_27_code, 5, (some .int))
abbrev M_R_markOf : MethodName × ByteArray × Nat × Option FieldType := (⟨"WipePapersModel", "markOf", "(IJ)J"⟩, prog_5_method_26_code, 7, (some .long))
abbrev M_R_check : MethodName × ByteArray × Nat × Option FieldType := (⟨"WipePapersModel", "check", "(IJJ)Z"⟩, prog_5_method_28_code, 8, (some .boolean))
abbrev M_R_listed : MethodName × ByteArray × Nat × Option FieldType := (⟨"WipePapersModel", "listed", "(J)I"⟩, prog_5_method_30_code, 3, (some .int))
abbrev M_R_isListed : MethodName × ByteArray × Nat × Option FieldType := (⟨"WipePapersModel", "isListed", "(J)Z"⟩, prog_5_method_29_code, 5, (some .boolean))
abbrev M_R_missing : MethodName × ByteArray × Nat × Option FieldType := (⟨"WipePapersModel", "missing", "(I)I"⟩, prog_5_method_31_code, 4, (some .int))
abbrev M_R_extra : MethodName × ByteArray × Nat × Option FieldType := (⟨"WipePapersModel", "extra", "(I)I"⟩, prog_5_method_32_code, 4, (some .int))
abbrev M_R_lost : MethodName × ByteArray × Nat × Option FieldType := (⟨"WipePapersModel", "lost", "(I)I"⟩, prog_5_method_33_code, 2, (some .int))
abbrev M_R_told : MethodName × ByteArray × Nat × Option FieldType := (⟨"WipePapersModel", "told", "(I)I"⟩, prog_5_method_34_code, 2, (some .int))
abbrev M_R_states : MethodName × ByteArray × Nat × Option FieldType := (⟨"WipePapersModel", "states", "()I"⟩, prog_5_method_35_code, 5, (some .int))
theorem tw_0 : (Cond.initialized "WipePapersLaw") ∈ aw_tb := tb_of 0 rfl rfl
theorem tw_1 : (Cond.initialized "WipePapers") ∈ aw_tb := tb_of 1 rfl rfl
theorem tw_2 : (Cond.initialized "WipePapersModel") ∈ aw_tb := tb_of 2 rfl rfl
theorem tw_3 : (Cond.initialized "WipePapers$Carrier") ∈ aw_tb := tb_of 3 rfl rfl
theorem tw_4 : (Cond.initialized "java/lang/Math") ∈ aw_tb := tb_of 4 rfl rfl
theorem tw_5 : (Cond.initialized "WipePapers$Paper") ∈ aw_tb := tb_of 5 rfl rfl
theorem tw_6 : (Cond.initialized "java/lang/Integer") ∈ aw_tb := tb_of 6 rfl rfl
theorem tw_7 : (Cond.classLink "WipePapersLaw" 7 "WipePapers") ∈ aw_tb := tb_of 7 rfl rfl
theorem tw_8 : (Cond.instantiable "WipePapers" 8) ∈ aw_tb := tb_of 8 rfl rfl
theorem tw_9 : (Cond.methodLink "WipePapersLaw" 9 ⟨"WipePapers", "<init>", "()V"⟩) ∈ aw_tb := tb_of 9 rfl rfl
theorem tw_10 : (Cond.instanceMethod ⟨"WipePapers", "<init>", "()V"⟩) ∈ aw_tb := tb_of 10 rfl rfl
theorem tw_11 : (Cond.code ⟨"WipePapers", "<init>", "()V"⟩ prog_1_method_1_code 1 (none : Option Jvm.ClassFile.FieldType)) ∈ aw_tb := tb_of 11 rfl rfl
theorem tw_12 : (Cond.methodLink "WipePapers" 1 ⟨"java/lang/Object", "<init>", "()V"⟩) ∈ aw_tb := tb_of 12 rfl rfl
theorem tw_13 : (Cond.instanceMethod ⟨"java/lang/Object", "<init>", "()V"⟩) ∈ aw_tb := tb_of 13 rfl rfl
theorem tw_14 : (Cond.code ⟨"java/lang/Object", "<init>", "()V"⟩ object_method_1_code 1 (none : Option Jvm.ClassFile.FieldType)) ∈ aw_tb := tb_of 14 rfl rfl
theorem tw_15 : (Cond.classLink "WipePapers" 9 "WipePapers$Carrier") ∈ aw_tb := tb_of 15 rfl rfl
theorem tw_17 : (Cond.classLink "WipePapers" 19 "WipePapers$Paper") ∈ aw_tb := tb_of 17 rfl rfl
theorem tw_19 : (Cond.fieldLink "WipePapers" 11 "WipePapers" "carriers" "[LWipePapers$Carrier;") ∈ aw_tb := tb_of 19 rfl rfl
theorem tw_20 : (Cond.fieldLink "WipePapers" 15 "WipePapers" "carrierCount" "I") ∈ aw_tb := tb_of 20 rfl rfl
theorem tw_21 : (Cond.fieldLink "WipePapers" 21 "WipePapers" "papers" "[LWipePapers$Paper;") ∈ aw_tb := tb_of 21 rfl rfl
theorem tw_22 : (Cond.fieldLink "WipePapers" 25 "WipePapers" "paperCount" "I") ∈ aw_tb := tb_of 22 rfl rfl
theorem tw_23 : (Cond.fieldLink "WipePapers" 28 "WipePapers" "list" "[J") ∈ aw_tb := tb_of 23 rfl rfl
theorem tw_24 : (Cond.fieldLink "WipePapers" 32 "WipePapers" "listCount" "I") ∈ aw_tb := tb_of 24 rfl rfl
theorem tw_25 : (Cond.fieldLink "WipePapers" 35 "WipePapers" "lostCarriers" "[I") ∈ aw_tb := tb_of 25 rfl rfl
theorem tw_26 : (Cond.fieldLink "WipePapers" 39 "WipePapers" "lostCount" "I") ∈ aw_tb := tb_of 26 rfl rfl
theorem tw_44 : (Cond.arrayClass .long) ∈ aw_tb := tb_of 44 rfl rfl
theorem tw_45 : (Cond.arrayClass .int) ∈ aw_tb := tb_of 45 rfl rfl
theorem tw_46 : (Cond.methodLink "WipePapersLaw" 15 ⟨"WipePapers", "carrier", "(IJI)I"⟩) ∈ aw_tb := tb_of 46 rfl rfl
theorem tw_47 : (Cond.instanceMethod ⟨"WipePapers", "carrier", "(IJI)I"⟩) ∈ aw_tb := tb_of 47 rfl rfl
theorem tw_48 : (Cond.selects "WipePapers" ⟨"WipePapers", "carrier", "(IJI)I"⟩ ⟨"WipePapers", "carrier", "(IJI)I"⟩) ∈ aw_tb := tb_of 48 rfl rfl
theorem tw_49 : (Cond.code ⟨"WipePapers", "carrier", "(IJI)I"⟩ prog_1_method_2_code 5 (some .int)) ∈ aw_tb := tb_of 49 rfl rfl
theorem tw_50 : (Cond.methodLink "WipePapers" 42 ⟨"WipePapers", "within", "(III)Z"⟩) ∈ aw_tb := tb_of 50 rfl rfl
theorem tw_51 : (Cond.static ⟨"WipePapers", "within", "(III)Z"⟩) ∈ aw_tb := tb_of 51 rfl rfl
theorem tw_52 : (Cond.code ⟨"WipePapers", "within", "(III)Z"⟩ prog_1_method_28_code 3 (some .boolean)) ∈ aw_tb := tb_of 52 rfl rfl
theorem tw_53 : (Cond.methodLink "WipePapers" 46 ⟨"WipePapers", "isSerial", "(J)Z"⟩) ∈ aw_tb := tb_of 53 rfl rfl
theorem tw_54 : (Cond.static ⟨"WipePapers", "isSerial", "(J)Z"⟩) ∈ aw_tb := tb_of 54 rfl rfl
theorem tw_55 : (Cond.code ⟨"WipePapers", "isSerial", "(J)Z"⟩ prog_1_method_30_code 2 (some .boolean)) ∈ aw_tb := tb_of 55 rfl rfl
theorem tw_56 : (Cond.constantLong "WipePapers" 148 1000000000000) ∈ aw_tb := tb_of 56 rfl rfl
theorem tw_57 : (Cond.methodLink "WipePapers" 50 ⟨"WipePapers", "carrierHasSerial", "(J)Z"⟩) ∈ aw_tb := tb_of 57 rfl rfl
theorem tw_59 : (Cond.instanceMethod ⟨"WipePapers", "carrierHasSerial", "(J)Z"⟩) ∈ aw_tb := tb_of 59 rfl rfl
theorem tw_60 : (Cond.code ⟨"WipePapers", "carrierHasSerial", "(J)Z"⟩ prog_1_method_26_code 5 (some .boolean)) ∈ aw_tb := tb_of 60 rfl rfl
theorem tw_61 : (Cond.methodLink "WipePapers" 56 ⟨"WipePapers", "findCarrier", "(I)LWipePapers$Carrier;"⟩) ∈ aw_tb := tb_of 61 rfl rfl
theorem tw_63 : (Cond.instanceMethod ⟨"WipePapers", "findCarrier", "(I)LWipePapers$Carrier;"⟩) ∈ aw_tb := tb_of 63 rfl rfl
theorem tw_64 : (Cond.code ⟨"WipePapers", "findCarrier", "(I)LWipePapers$Carrier;"⟩ prog_1_method_24_code 2 (some (.object "WipePapers$Carrier"))) ∈ aw_tb := tb_of 64 rfl rfl
theorem tw_65 : (Cond.instantiable "WipePapers$Carrier" 12) ∈ aw_tb := tb_of 65 rfl rfl
theorem tw_66 : (Cond.methodLink "WipePapers" 53 ⟨"WipePapers$Carrier", "<init>", "(IJI)V"⟩) ∈ aw_tb := tb_of 66 rfl rfl
theorem tw_67 : (Cond.instanceMethod ⟨"WipePapers$Carrier", "<init>", "(IJI)V"⟩) ∈ aw_tb := tb_of 67 rfl rfl
theorem tw_68 : (Cond.code ⟨"WipePapers$Carrier", "<init>", "(IJI)V"⟩ prog_2_method_1_code 5 (none : Option Jvm.ClassFile.FieldType)) ∈ aw_tb := tb_of 68 rfl rfl
theorem tw_69 : (Cond.methodLink "WipePapers$Carrier" 3 ⟨"java/lang/Object", "<init>", "()V"⟩) ∈ aw_tb := tb_of 69 rfl rfl
theorem tw_70 : (Cond.fieldLink "WipePapers$Carrier" 9 "WipePapers$Carrier" "kind" "I") ∈ aw_tb := tb_of 70 rfl rfl
theorem tw_71 : (Cond.fieldLink "WipePapers$Paper" 33 "WipePapers$Carrier" "kind" "I") ∈ aw_tb := tb_of 71 rfl rfl
theorem tw_72 : (Cond.fieldLink "WipePapers" 117 "WipePapers$Carrier" "kind" "I") ∈ aw_tb := tb_of 72 rfl rfl
theorem tw_73 : (Cond.fieldLink "WipePapers$Carrier" 15 "WipePapers$Carrier" "serial" "J") ∈ aw_tb := tb_of 73 rfl rfl
theorem tw_74 : (Cond.fieldLink "WipePapers" 139 "WipePapers$Carrier" "serial" "J") ∈ aw_tb := tb_of 74 rfl rfl
theorem tw_75 : (Cond.fieldLink "WipePapers$Carrier" 19 "WipePapers$Carrier" "bytes" "[I") ∈ aw_tb := tb_of 75 rfl rfl
theorem tw_76 : (Cond.fieldLink "WipePapers" 97 "WipePapers$Carrier" "bytes" "[I") ∈ aw_tb := tb_of 76 rfl rfl
theorem tw_77 : (Cond.fieldLink "WipePapers$Carrier" 23 "WipePapers$Carrier" "due" "[I") ∈ aw_tb := tb_of 77 rfl rfl
theorem tw_78 : (Cond.fieldLink "WipePapers$Carrier" 26 "WipePapers$Carrier" "worn" "[Z") ∈ aw_tb := tb_of 78 rfl rfl
theorem tw_79 : (Cond.fieldLink "WipePapers$Carrier" 30 "WipePapers$Carrier" "wasRead" "[Z") ∈ aw_tb := tb_of 79 rfl rfl
theorem tw_80 : (Cond.fieldLink "WipePapers$Paper" 15 "WipePapers$Carrier" "patterns" "[I") ∈ aw_tb := tb_of 80 rfl rfl
theorem tw_81 : (Cond.fieldLink "WipePapers$Carrier" 33 "WipePapers$Carrier" "patterns" "[I") ∈ aw_tb := tb_of 81 rfl rfl
theorem tw_82 : (Cond.fieldLink "WipePapers$Paper" 9 "WipePapers$Carrier" "passCount" "I") ∈ aw_tb := tb_of 82 rfl rfl
theorem tw_83 : (Cond.fieldLink "WipePapers$Carrier" 36 "WipePapers$Carrier" "passCount" "I") ∈ aw_tb := tb_of 83 rfl rfl
theorem tw_84 : (Cond.fieldLink "WipePapers$Carrier" 39 "WipePapers$Carrier" "readCount" "I") ∈ aw_tb := tb_of 84 rfl rfl
theorem tw_85 : (Cond.fieldLink "WipePapers$Carrier" 42 "WipePapers$Carrier" "unlikeCount" "I") ∈ aw_tb := tb_of 85 rfl rfl
theorem tw_86 : (Cond.fieldLink "WipePapers" 104 "WipePapers$Carrier" "unlikeCount" "I") ∈ aw_tb := tb_of 86 rfl rfl
theorem tw_87 : (Cond.fieldLink "WipePapers$Carrier" 45 "WipePapers$Carrier" "condition" "I") ∈ aw_tb := tb_of 87 rfl rfl
theorem tw_88 : (Cond.fieldLink "WipePapers$Paper" 36 "WipePapers$Carrier" "condition" "I") ∈ aw_tb := tb_of 88 rfl rfl
theorem tw_89 : (Cond.fieldLink "WipePapers" 60 "WipePapers$Carrier" "condition" "I") ∈ aw_tb := tb_of 89 rfl rfl
theorem tw_90 : (Cond.fieldLink "WipePapers$Carrier" 48 "WipePapers$Carrier" "latestPerson" "I") ∈ aw_tb := tb_of 90 rfl rfl
theorem tw_91 : (Cond.fieldLink "WipePapers" 78 "WipePapers$Carrier" "latestPerson" "I") ∈ aw_tb := tb_of 91 rfl rfl
theorem tw_117 : (Cond.arrayClass .boolean) ∈ aw_tb := tb_of 117 rfl rfl
theorem tw_118 : (Cond.methodLink "WipePapersLaw" 20 ⟨"WipePapers", "state", "(I)I"⟩) ∈ aw_tb := tb_of 118 rfl rfl
theorem tw_119 : (Cond.instanceMethod ⟨"WipePapers", "state", "(I)I"⟩) ∈ aw_tb := tb_of 119 rfl rfl
theorem tw_120 : (Cond.selects "WipePapers" ⟨"WipePapers", "state", "(I)I"⟩ ⟨"WipePapers", "state", "(I)I"⟩) ∈ aw_tb := tb_of 120 rfl rfl
theorem tw_121 : (Cond.code ⟨"WipePapers", "state", "(I)I"⟩ prog_1_method_3_code 3 (some .int)) ∈ aw_tb := tb_of 121 rfl rfl
theorem tw_122 : (Cond.methodLink "WipePapersLaw" 25 ⟨"WipePapers", "event", "(III)Z"⟩) ∈ aw_tb := tb_of 122 rfl rfl
theorem tw_123 : (Cond.instanceMethod ⟨"WipePapers", "event", "(III)Z"⟩) ∈ aw_tb := tb_of 123 rfl rfl
theorem tw_124 : (Cond.selects "WipePapers" ⟨"WipePapers", "event", "(III)Z"⟩ ⟨"WipePapers", "event", "(III)Z"⟩) ∈ aw_tb := tb_of 124 rfl rfl
theorem tw_125 : (Cond.code ⟨"WipePapers", "event", "(III)Z"⟩ prog_1_method_4_code 5 (some .boolean)) ∈ aw_tb := tb_of 125 rfl rfl
theorem tw_126 : (Cond.methodLink "WipePapers" 63 ⟨"WipePapers", "isPerson", "(I)Z"⟩) ∈ aw_tb := tb_of 126 rfl rfl
theorem tw_127 : (Cond.static ⟨"WipePapers", "isPerson", "(I)Z"⟩) ∈ aw_tb := tb_of 127 rfl rfl
theorem tw_128 : (Cond.code ⟨"WipePapers", "isPerson", "(I)Z"⟩ prog_1_method_29_code 1 (some .boolean)) ∈ aw_tb := tb_of 128 rfl rfl
theorem tw_129 : (Cond.methodLink "WipePapers" 67 ⟨"WipePapers", "leadsFrom", "(II)Z"⟩) ∈ aw_tb := tb_of 129 rfl rfl
theorem tw_130 : (Cond.static ⟨"WipePapers", "leadsFrom", "(II)Z"⟩) ∈ aw_tb := tb_of 130 rfl rfl
theorem tw_131 : (Cond.code ⟨"WipePapers", "leadsFrom", "(II)Z"⟩ prog_1_method_31_code 2 (some .boolean)) ∈ aw_tb := tb_of 131 rfl rfl
theorem tw_132 : (Cond.methodLink "WipePapers" 71 ⟨"WipePapers$Carrier", "forgetPasses", "()V"⟩) ∈ aw_tb := tb_of 132 rfl rfl
theorem tw_133 : (Cond.instanceMethod ⟨"WipePapers$Carrier", "forgetPasses", "()V"⟩) ∈ aw_tb := tb_of 133 rfl rfl
theorem tw_134 : (Cond.selects "WipePapers$Carrier" ⟨"WipePapers$Carrier", "forgetPasses", "()V"⟩ ⟨"WipePapers$Carrier", "forgetPasses", "()V"⟩) ∈ aw_tb := tb_of 134 rfl rfl
theorem tw_135 : (Cond.code ⟨"WipePapers$Carrier", "forgetPasses", "()V"⟩ prog_2_method_6_code 1 (none : Option Jvm.ClassFile.FieldType)) ∈ aw_tb := tb_of 135 rfl rfl
theorem tw_136 : (Cond.methodLink "WipePapers$Carrier" 55 ⟨"WipePapers$Carrier", "forgetReads", "()V"⟩) ∈ aw_tb := tb_of 136 rfl rfl
theorem tw_137 : (Cond.instanceMethod ⟨"WipePapers$Carrier", "forgetReads", "()V"⟩) ∈ aw_tb := tb_of 137 rfl rfl
theorem tw_138 : (Cond.selects "WipePapers$Carrier" ⟨"WipePapers$Carrier", "forgetReads", "()V"⟩ ⟨"WipePapers$Carrier", "forgetReads", "()V"⟩) ∈ aw_tb := tb_of 138 rfl rfl
theorem tw_139 : (Cond.code ⟨"WipePapers$Carrier", "forgetReads", "()V"⟩ prog_2_method_7_code 2 (none : Option Jvm.ClassFile.FieldType)) ∈ aw_tb := tb_of 139 rfl rfl
theorem tw_140 : (Cond.methodLink "WipePapers" 74 ⟨"WipePapers", "leadsTo", "(I)I"⟩) ∈ aw_tb := tb_of 140 rfl rfl
theorem tw_141 : (Cond.static ⟨"WipePapers", "leadsTo", "(I)I"⟩) ∈ aw_tb := tb_of 141 rfl rfl
theorem tw_142 : (Cond.code ⟨"WipePapers", "leadsTo", "(I)I"⟩ prog_1_method_32_code 1 (some .int)) ∈ aw_tb := tb_of 142 rfl rfl
theorem tw_143 : (Cond.methodLink "WipePapersLaw" 30 ⟨"WipePapers", "last", "(I)I"⟩) ∈ aw_tb := tb_of 143 rfl rfl
theorem tw_144 : (Cond.instanceMethod ⟨"WipePapers", "last", "(I)I"⟩) ∈ aw_tb := tb_of 144 rfl rfl
theorem tw_145 : (Cond.selects "WipePapers" ⟨"WipePapers", "last", "(I)I"⟩ ⟨"WipePapers", "last", "(I)I"⟩) ∈ aw_tb := tb_of 145 rfl rfl
theorem tw_146 : (Cond.code ⟨"WipePapers", "last", "(I)I"⟩ prog_1_method_5_code 3 (some .int)) ∈ aw_tb := tb_of 146 rfl rfl
theorem tw_147 : (Cond.methodLink "WipePapersLaw" 34 ⟨"WipePapers", "fail", "(II)Z"⟩) ∈ aw_tb := tb_of 147 rfl rfl
theorem tw_148 : (Cond.instanceMethod ⟨"WipePapers", "fail", "(II)Z"⟩) ∈ aw_tb := tb_of 148 rfl rfl
theorem tw_149 : (Cond.selects "WipePapers" ⟨"WipePapers", "fail", "(II)Z"⟩ ⟨"WipePapers", "fail", "(II)Z"⟩) ∈ aw_tb := tb_of 149 rfl rfl
theorem tw_150 : (Cond.code ⟨"WipePapers", "fail", "(II)Z"⟩ prog_1_method_6_code 4 (some .boolean)) ∈ aw_tb := tb_of 150 rfl rfl
theorem tw_151 : (Cond.methodLink "WipePapers" 81 ⟨"WipePapers$Carrier", "isGone", "()Z"⟩) ∈ aw_tb := tb_of 151 rfl rfl
theorem tw_152 : (Cond.instanceMethod ⟨"WipePapers$Carrier", "isGone", "()Z"⟩) ∈ aw_tb := tb_of 152 rfl rfl
theorem tw_153 : (Cond.selects "WipePapers$Carrier" ⟨"WipePapers$Carrier", "isGone", "()Z"⟩ ⟨"WipePapers$Carrier", "isGone", "()Z"⟩) ∈ aw_tb := tb_of 153 rfl rfl
theorem tw_154 : (Cond.code ⟨"WipePapers$Carrier", "isGone", "()Z"⟩ prog_2_method_3_code 1 (some .boolean)) ∈ aw_tb := tb_of 154 rfl rfl
theorem tw_155 : (Cond.methodLink "WipePapers" 85 ⟨"WipePapers$Carrier", "wearOut", "(I)Z"⟩) ∈ aw_tb := tb_of 155 rfl rfl
theorem tw_156 : (Cond.instanceMethod ⟨"WipePapers$Carrier", "wearOut", "(I)Z"⟩) ∈ aw_tb := tb_of 156 rfl rfl
theorem tw_157 : (Cond.selects "WipePapers$Carrier" ⟨"WipePapers$Carrier", "wearOut", "(I)Z"⟩ ⟨"WipePapers$Carrier", "wearOut", "(I)Z"⟩) ∈ aw_tb := tb_of 157 rfl rfl
theorem tw_158 : (Cond.code ⟨"WipePapers$Carrier", "wearOut", "(I)Z"⟩ prog_2_method_4_code 2 (some .boolean)) ∈ aw_tb := tb_of 158 rfl rfl
theorem tw_159 : (Cond.methodLink "WipePapers$Carrier" 51 ⟨"WipePapers$Carrier", "hasPlace", "(I)Z"⟩) ∈ aw_tb := tb_of 159 rfl rfl
theorem tw_160 : (Cond.instanceMethod ⟨"WipePapers$Carrier", "hasPlace", "(I)Z"⟩) ∈ aw_tb := tb_of 160 rfl rfl
theorem tw_161 : (Cond.selects "WipePapers$Carrier" ⟨"WipePapers$Carrier", "hasPlace", "(I)Z"⟩ ⟨"WipePapers$Carrier", "hasPlace", "(I)Z"⟩) ∈ aw_tb := tb_of 161 rfl rfl
theorem tw_162 : (Cond.code ⟨"WipePapers$Carrier", "hasPlace", "(I)Z"⟩ prog_2_method_2_code 2 (some .boolean)) ∈ aw_tb := tb_of 162 rfl rfl
theorem tw_163 : (Cond.methodLink "WipePapersLaw" 39 ⟨"WipePapers", "failed", "(II)I"⟩) ∈ aw_tb := tb_of 163 rfl rfl
theorem tw_164 : (Cond.instanceMethod ⟨"WipePapers", "failed", "(II)I"⟩) ∈ aw_tb := tb_of 164 rfl rfl
theorem tw_165 : (Cond.selects "WipePapers" ⟨"WipePapers", "failed", "(II)I"⟩ ⟨"WipePapers", "failed", "(II)I"⟩) ∈ aw_tb := tb_of 165 rfl rfl
theorem tw_166 : (Cond.code ⟨"WipePapers", "failed", "(II)I"⟩ prog_1_method_7_code 4 (some .int)) ∈ aw_tb := tb_of 166 rfl rfl
theorem tw_167 : (Cond.methodLink "WipePapers" 88 ⟨"WipePapers$Carrier", "wornPlace", "(I)I"⟩) ∈ aw_tb := tb_of 167 rfl rfl
theorem tw_168 : (Cond.instanceMethod ⟨"WipePapers$Carrier", "wornPlace", "(I)I"⟩) ∈ aw_tb := tb_of 168 rfl rfl
theorem tw_169 : (Cond.selects "WipePapers$Carrier" ⟨"WipePapers$Carrier", "wornPlace", "(I)I"⟩ ⟨"WipePapers$Carrier", "wornPlace", "(I)I"⟩) ∈ aw_tb := tb_of 169 rfl rfl
theorem tw_170 : (Cond.code ⟨"WipePapers$Carrier", "wornPlace", "(I)I"⟩ prog_2_method_5_code 4 (some .int)) ∈ aw_tb := tb_of 170 rfl rfl
theorem tw_171 : (Cond.methodLink "WipePapersLaw" 44 ⟨"WipePapers", "pass", "(II)I"⟩) ∈ aw_tb := tb_of 171 rfl rfl
theorem tw_172 : (Cond.instanceMethod ⟨"WipePapers", "pass", "(II)I"⟩) ∈ aw_tb := tb_of 172 rfl rfl
theorem tw_173 : (Cond.selects "WipePapers" ⟨"WipePapers", "pass", "(II)I"⟩ ⟨"WipePapers", "pass", "(II)I"⟩) ∈ aw_tb := tb_of 173 rfl rfl
theorem tw_174 : (Cond.code ⟨"WipePapers", "pass", "(II)I"⟩ prog_1_method_8_code 4 (some .int)) ∈ aw_tb := tb_of 174 rfl rfl
theorem tw_175 : (Cond.methodLink "WipePapers" 91 ⟨"WipePapers$Carrier", "overwrite", "(I)I"⟩) ∈ aw_tb := tb_of 175 rfl rfl
theorem tw_176 : (Cond.instanceMethod ⟨"WipePapers$Carrier", "overwrite", "(I)I"⟩) ∈ aw_tb := tb_of 176 rfl rfl
theorem tw_177 : (Cond.selects "WipePapers$Carrier" ⟨"WipePapers$Carrier", "overwrite", "(I)I"⟩ ⟨"WipePapers$Carrier", "overwrite", "(I)I"⟩) ∈ aw_tb := tb_of 177 rfl rfl
theorem tw_178 : (Cond.code ⟨"WipePapers$Carrier", "overwrite", "(I)I"⟩ prog_2_method_8_code 3 (some .int)) ∈ aw_tb := tb_of 178 rfl rfl
theorem tw_180 : (Cond.static ⟨"WipePapers", "patternByte", "(III)I"⟩) ∈ aw_tb := tb_of 180 rfl rfl
theorem tw_181 : (Cond.code ⟨"WipePapers", "patternByte", "(III)I"⟩ prog_1_method_33_code 3 (some .int)) ∈ aw_tb := tb_of 181 rfl rfl
theorem tw_182 : (Cond.methodLink "WipePapersLaw" 48 ⟨"WipePapers", "byteAt", "(II)I"⟩) ∈ aw_tb := tb_of 182 rfl rfl
theorem tw_183 : (Cond.instanceMethod ⟨"WipePapers", "byteAt", "(II)I"⟩) ∈ aw_tb := tb_of 183 rfl rfl
theorem tw_184 : (Cond.selects "WipePapers" ⟨"WipePapers", "byteAt", "(II)I"⟩ ⟨"WipePapers", "byteAt", "(II)I"⟩) ∈ aw_tb := tb_of 184 rfl rfl
theorem tw_185 : (Cond.code ⟨"WipePapers", "byteAt", "(II)I"⟩ prog_1_method_9_code 4 (some .int)) ∈ aw_tb := tb_of 185 rfl rfl
theorem tw_186 : (Cond.methodLink "WipePapers" 94 ⟨"WipePapers$Carrier", "hasPlace", "(I)Z"⟩) ∈ aw_tb := tb_of 186 rfl rfl
theorem tw_187 : (Cond.methodLink "WipePapersLaw" 52 ⟨"WipePapers", "read", "(III)I"⟩) ∈ aw_tb := tb_of 187 rfl rfl
theorem tw_188 : (Cond.instanceMethod ⟨"WipePapers", "read", "(III)I"⟩) ∈ aw_tb := tb_of 188 rfl rfl
theorem tw_189 : (Cond.selects "WipePapers" ⟨"WipePapers", "read", "(III)I"⟩ ⟨"WipePapers", "read", "(III)I"⟩) ∈ aw_tb := tb_of 189 rfl rfl
theorem tw_190 : (Cond.code ⟨"WipePapers", "read", "(III)I"⟩ prog_1_method_10_code 5 (some .int)) ∈ aw_tb := tb_of 190 rfl rfl
theorem tw_191 : (Cond.methodLink "WipePapers" 100 ⟨"WipePapers$Carrier", "takeReading", "(II)I"⟩) ∈ aw_tb := tb_of 191 rfl rfl
theorem tw_192 : (Cond.instanceMethod ⟨"WipePapers$Carrier", "takeReading", "(II)I"⟩) ∈ aw_tb := tb_of 192 rfl rfl
theorem tw_193 : (Cond.selects "WipePapers$Carrier" ⟨"WipePapers$Carrier", "takeReading", "(II)I"⟩ ⟨"WipePapers$Carrier", "takeReading", "(II)I"⟩) ∈ aw_tb := tb_of 193 rfl rfl
theorem tw_194 : (Cond.code ⟨"WipePapers$Carrier", "takeReading", "(II)I"⟩ prog_2_method_9_code 4 (some .int)) ∈ aw_tb := tb_of 194 rfl rfl
theorem tw_195 : (Cond.methodLink "WipePapersLaw" 57 ⟨"WipePapers", "unlike", "(I)I"⟩) ∈ aw_tb := tb_of 195 rfl rfl
theorem tw_196 : (Cond.instanceMethod ⟨"WipePapers", "unlike", "(I)I"⟩) ∈ aw_tb := tb_of 196 rfl rfl
theorem tw_197 : (Cond.selects "WipePapers" ⟨"WipePapers", "unlike", "(I)I"⟩ ⟨"WipePapers", "unlike", "(I)I"⟩) ∈ aw_tb := tb_of 197 rfl rfl
theorem tw_198 : (Cond.code ⟨"WipePapers", "unlike", "(I)I"⟩ prog_1_method_11_code 3 (some .int)) ∈ aw_tb := tb_of 198 rfl rfl
theorem tw_199 : (Cond.methodLink "WipePapersLaw" 61 ⟨"WipePapers", "odds", "(IIII)J"⟩) ∈ aw_tb := tb_of 199 rfl rfl
theorem tw_200 : (Cond.instanceMethod ⟨"WipePapers", "odds", "(IIII)J"⟩) ∈ aw_tb := tb_of 200 rfl rfl
theorem tw_201 : (Cond.selects "WipePapers" ⟨"WipePapers", "odds", "(IIII)J"⟩ ⟨"WipePapers", "odds", "(IIII)J"⟩) ∈ aw_tb := tb_of 201 rfl rfl
theorem tw_202 : (Cond.code ⟨"WipePapers", "odds", "(IIII)J"⟩ prog_1_method_12_code 11 (some .long)) ∈ aw_tb := tb_of 202 rfl rfl
theorem tw_203 : (Cond.constantLong "WipePapers" 107 (-1)) ∈ aw_tb := tb_of 203 rfl rfl
theorem tw_204 : (Cond.methodLink "WipePapers" 109 ⟨"WipePapers", "waysToChoose", "(II)J"⟩) ∈ aw_tb := tb_of 204 rfl rfl
theorem tw_205 : (Cond.static ⟨"WipePapers", "waysToChoose", "(II)J"⟩) ∈ aw_tb := tb_of 205 rfl rfl
theorem tw_206 : (Cond.code ⟨"WipePapers", "waysToChoose", "(II)J"⟩ prog_1_method_34_code 5 (some .long)) ∈ aw_tb := tb_of 206 rfl rfl
theorem tw_207 : (Cond.methodLink "WipePapers" 113 ⟨"WipePapers", "commonDivisor", "(JJ)J"⟩) ∈ aw_tb := tb_of 207 rfl rfl
theorem tw_208 : (Cond.static ⟨"WipePapers", "commonDivisor", "(JJ)J"⟩) ∈ aw_tb := tb_of 208 rfl rfl
theorem tw_209 : (Cond.code ⟨"WipePapers", "commonDivisor", "(JJ)J"⟩ prog_1_method_35_code 11 (some .long)) ∈ aw_tb := tb_of 209 rfl rfl
theorem tw_210 : (Cond.methodLink "WipePapers" 150 ⟨"java/lang/Math", "max", "(JJ)J"⟩) ∈ aw_tb := tb_of 210 rfl rfl
theorem tw_211 : (Cond.static ⟨"java/lang/Math", "max", "(JJ)J"⟩) ∈ aw_tb := tb_of 211 rfl rfl
theorem tw_212 : (Cond.code ⟨"java/lang/Math", "max", "(JJ)J"⟩ prog_7_method_66_code 4 (some .long)) ∈ aw_tb := tb_of 212 rfl rfl
theorem tw_213 : (Cond.methodLink "WipePapersLaw" 66 ⟨"WipePapers", "shred", "(II)Z"⟩) ∈ aw_tb := tb_of 213 rfl rfl
theorem tw_214 : (Cond.instanceMethod ⟨"WipePapers", "shred", "(II)Z"⟩) ∈ aw_tb := tb_of 214 rfl rfl
theorem tw_215 : (Cond.selects "WipePapers" ⟨"WipePapers", "shred", "(II)Z"⟩ ⟨"WipePapers", "shred", "(II)Z"⟩) ∈ aw_tb := tb_of 215 rfl rfl
theorem tw_216 : (Cond.code ⟨"WipePapers", "shred", "(II)Z"⟩ prog_1_method_13_code 4 (some .boolean)) ∈ aw_tb := tb_of 216 rfl rfl
theorem tw_217 : (Cond.methodLink "WipePapersLaw" 70 ⟨"WipePapers", "paper", "(III)I"⟩) ∈ aw_tb := tb_of 217 rfl rfl
theorem tw_218 : (Cond.instanceMethod ⟨"WipePapers", "paper", "(III)I"⟩) ∈ aw_tb := tb_of 218 rfl rfl
theorem tw_219 : (Cond.selects "WipePapers" ⟨"WipePapers", "paper", "(III)I"⟩ ⟨"WipePapers", "paper", "(III)I"⟩) ∈ aw_tb := tb_of 219 rfl rfl
theorem tw_220 : (Cond.code ⟨"WipePapers", "paper", "(III)I"⟩ prog_1_method_14_code 5 (some .int)) ∈ aw_tb := tb_of 220 rfl rfl
theorem tw_221 : (Cond.instantiable "WipePapers$Paper" 1) ∈ aw_tb := tb_of 221 rfl rfl
theorem tw_222 : (Cond.methodLink "WipePapers" 120 ⟨"WipePapers$Paper", "<init>", "(ILWipePapers$Carrier;II)V"⟩) ∈ aw_tb := tb_of 222 rfl rfl
theorem tw_223 : (Cond.instanceMethod ⟨"WipePapers$Paper", "<init>", "(ILWipePapers$Carrier;II)V"⟩) ∈ aw_tb := tb_of 223 rfl rfl
theorem tw_224 : (Cond.code ⟨"WipePapers$Paper", "<init>", "(ILWipePapers$Carrier;II)V"⟩ prog_3_method_1_code 7 (none : Option Jvm.ClassFile.FieldType)) ∈ aw_tb := tb_of 224 rfl rfl
theorem tw_225 : (Cond.methodLink "WipePapers$Paper" 3 ⟨"java/lang/Object", "<init>", "()V"⟩) ∈ aw_tb := tb_of 225 rfl rfl
theorem tw_226 : (Cond.methodLink "WipePapers$Paper" 19 ⟨"java/lang/Math", "min", "(II)I"⟩) ∈ aw_tb := tb_of 226 rfl rfl
theorem tw_227 : (Cond.static ⟨"java/lang/Math", "min", "(II)I"⟩) ∈ aw_tb := tb_of 227 rfl rfl
theorem tw_228 : (Cond.code ⟨"java/lang/Math", "min", "(II)I"⟩ prog_7_method_69_code 2 (some .int)) ∈ aw_tb := tb_of 228 rfl rfl
theorem tw_229 : (Cond.methodLink "WipePapers$Paper" 25 ⟨"java/lang/Math", "max", "(II)I"⟩) ∈ aw_tb := tb_of 229 rfl rfl
theorem tw_230 : (Cond.static ⟨"java/lang/Math", "max", "(II)I"⟩) ∈ aw_tb := tb_of 230 rfl rfl
theorem tw_231 : (Cond.code ⟨"java/lang/Math", "max", "(II)I"⟩ prog_7_method_65_code 2 (some .int)) ∈ aw_tb := tb_of 231 rfl rfl
theorem tw_232 : (Cond.fieldLink "WipePapers$Paper" 28 "WipePapers$Paper" "fields" "[I") ∈ aw_tb := tb_of 232 rfl rfl
theorem tw_233 : (Cond.fieldLink "WipePapers" 127 "WipePapers$Paper" "fields" "[I") ∈ aw_tb := tb_of 233 rfl rfl
theorem tw_237 : (Cond.methodLink "WipePapersLaw" 74 ⟨"WipePapers", "at", "(II)I"⟩) ∈ aw_tb := tb_of 237 rfl rfl
theorem tw_238 : (Cond.instanceMethod ⟨"WipePapers", "at", "(II)I"⟩) ∈ aw_tb := tb_of 238 rfl rfl
theorem tw_239 : (Cond.selects "WipePapers" ⟨"WipePapers", "at", "(II)I"⟩ ⟨"WipePapers", "at", "(II)I"⟩) ∈ aw_tb := tb_of 239 rfl rfl
theorem tw_240 : (Cond.code ⟨"WipePapers", "at", "(II)I"⟩ prog_1_method_15_code 4 (some .int)) ∈ aw_tb := tb_of 240 rfl rfl
theorem tw_241 : (Cond.methodLink "WipePapers" 123 ⟨"WipePapers", "findPaper", "(I)LWipePapers$Paper;"⟩) ∈ aw_tb := tb_of 241 rfl rfl
theorem tw_243 : (Cond.instanceMethod ⟨"WipePapers", "findPaper", "(I)LWipePapers$Paper;"⟩) ∈ aw_tb := tb_of 243 rfl rfl
theorem tw_244 : (Cond.code ⟨"WipePapers", "findPaper", "(I)LWipePapers$Paper;"⟩ prog_1_method_25_code 2 (some (.object "WipePapers$Paper"))) ∈ aw_tb := tb_of 244 rfl rfl
theorem tw_245 : (Cond.methodLink "WipePapersLaw" 78 ⟨"WipePapers", "mark", "(IJI)I"⟩) ∈ aw_tb := tb_of 245 rfl rfl
theorem tw_246 : (Cond.instanceMethod ⟨"WipePapers", "mark", "(IJI)I"⟩) ∈ aw_tb := tb_of 246 rfl rfl
theorem tw_247 : (Cond.selects "WipePapers" ⟨"WipePapers", "mark", "(IJI)I"⟩ ⟨"WipePapers", "mark", "(IJI)I"⟩) ∈ aw_tb := tb_of 247 rfl rfl
theorem tw_248 : (Cond.code ⟨"WipePapers", "mark", "(IJI)I"⟩ prog_1_method_16_code 7 (some .int)) ∈ aw_tb := tb_of 248 rfl rfl
theorem tw_249 : (Cond.methodLink "WipePapers" 130 ⟨"WipePapers$Paper", "markBy", "(J)J"⟩) ∈ aw_tb := tb_of 249 rfl rfl
theorem tw_250 : (Cond.instanceMethod ⟨"WipePapers$Paper", "markBy", "(J)J"⟩) ∈ aw_tb := tb_of 250 rfl rfl
theorem tw_251 : (Cond.selects "WipePapers$Paper" ⟨"WipePapers$Paper", "markBy", "(J)J"⟩ ⟨"WipePapers$Paper", "markBy", "(J)J"⟩) ∈ aw_tb := tb_of 251 rfl rfl
theorem tw_252 : (Cond.code ⟨"WipePapers$Paper", "markBy", "(J)J"⟩ prog_3_method_2_code 6 (some .long)) ∈ aw_tb := tb_of 252 rfl rfl
theorem tw_253 : (Cond.constantLong "WipePapers$Paper" 39 6364136223846793005) ∈ aw_tb := tb_of 253 rfl rfl
theorem tw_254 : (Cond.constantLong "WipePapers" 134 255) ∈ aw_tb := tb_of 254 rfl rfl
theorem tw_255 : (Cond.methodLink "WipePapersLaw" 82 ⟨"WipePapers", "check", "(IJJ)Z"⟩) ∈ aw_tb := tb_of 255 rfl rfl
theorem tw_256 : (Cond.instanceMethod ⟨"WipePapers", "check", "(IJJ)Z"⟩) ∈ aw_tb := tb_of 256 rfl rfl
theorem tw_257 : (Cond.selects "WipePapers" ⟨"WipePapers", "check", "(IJJ)Z"⟩ ⟨"WipePapers", "check", "(IJJ)Z"⟩) ∈ aw_tb := tb_of 257 rfl rfl
theorem tw_258 : (Cond.code ⟨"WipePapers", "check", "(IJJ)Z"⟩ prog_1_method_17_code 7 (some .boolean)) ∈ aw_tb := tb_of 258 rfl rfl
theorem tw_259 : (Cond.methodLink "WipePapersLaw" 87 ⟨"WipePapers", "listed", "(J)I"⟩) ∈ aw_tb := tb_of 259 rfl rfl
theorem tw_260 : (Cond.instanceMethod ⟨"WipePapers", "listed", "(J)I"⟩) ∈ aw_tb := tb_of 260 rfl rfl
theorem tw_261 : (Cond.selects "WipePapers" ⟨"WipePapers", "listed", "(J)I"⟩ ⟨"WipePapers", "listed", "(J)I"⟩) ∈ aw_tb := tb_of 261 rfl rfl
theorem tw_262 : (Cond.code ⟨"WipePapers", "listed", "(J)I"⟩ prog_1_method_18_code 3 (some .int)) ∈ aw_tb := tb_of 262 rfl rfl
theorem tw_263 : (Cond.methodLink "WipePapers" 136 ⟨"WipePapers", "listHasSerial", "(J)Z"⟩) ∈ aw_tb := tb_of 263 rfl rfl
theorem tw_265 : (Cond.instanceMethod ⟨"WipePapers", "listHasSerial", "(J)Z"⟩) ∈ aw_tb := tb_of 265 rfl rfl
theorem tw_266 : (Cond.code ⟨"WipePapers", "listHasSerial", "(J)Z"⟩ prog_1_method_27_code 4 (some .boolean)) ∈ aw_tb := tb_of 266 rfl rfl
theorem tw_267 : (Cond.methodLink "WipePapersLaw" 92 ⟨"WipePapers", "missing", "(I)I"⟩) ∈ aw_tb := tb_of 267 rfl rfl
theorem tw_268 : (Cond.instanceMethod ⟨"WipePapers", "missing", "(I)I"⟩) ∈ aw_tb := tb_of 268 rfl rfl
theorem tw_269 : (Cond.selects "WipePapers" ⟨"WipePapers", "missing", "(I)I"⟩ ⟨"WipePapers", "missing", "(I)I"⟩) ∈ aw_tb := tb_of 269 rfl rfl
theorem tw_270 : (Cond.code ⟨"WipePapers", "missing", "(I)I"⟩ prog_1_method_19_code 4 (some .int)) ∈ aw_tb := tb_of 270 rfl rfl
theorem tw_271 : (Cond.methodLink "WipePapersLaw" 96 ⟨"WipePapers", "extra", "(I)I"⟩) ∈ aw_tb := tb_of 271 rfl rfl
theorem tw_272 : (Cond.instanceMethod ⟨"WipePapers", "extra", "(I)I"⟩) ∈ aw_tb := tb_of 272 rfl rfl
theorem tw_273 : (Cond.selects "WipePapers" ⟨"WipePapers", "extra", "(I)I"⟩ ⟨"WipePapers", "extra", "(I)I"⟩) ∈ aw_tb := tb_of 273 rfl rfl
theorem tw_274 : (Cond.code ⟨"WipePapers", "extra", "(I)I"⟩ prog_1_method_20_code 5 (some .int)) ∈ aw_tb := tb_of 274 rfl rfl
theorem tw_275 : (Cond.methodLink "WipePapersLaw" 100 ⟨"WipePapers", "lost", "(I)I"⟩) ∈ aw_tb := tb_of 275 rfl rfl
theorem tw_276 : (Cond.instanceMethod ⟨"WipePapers", "lost", "(I)I"⟩) ∈ aw_tb := tb_of 276 rfl rfl
theorem tw_277 : (Cond.selects "WipePapers" ⟨"WipePapers", "lost", "(I)I"⟩ ⟨"WipePapers", "lost", "(I)I"⟩) ∈ aw_tb := tb_of 277 rfl rfl
theorem tw_278 : (Cond.code ⟨"WipePapers", "lost", "(I)I"⟩ prog_1_method_21_code 3 (some .int)) ∈ aw_tb := tb_of 278 rfl rfl
theorem tw_279 : (Cond.methodLink "WipePapersLaw" 104 ⟨"WipePapers", "told", "(I)I"⟩) ∈ aw_tb := tb_of 279 rfl rfl
theorem tw_280 : (Cond.instanceMethod ⟨"WipePapers", "told", "(I)I"⟩) ∈ aw_tb := tb_of 280 rfl rfl
theorem tw_281 : (Cond.selects "WipePapers" ⟨"WipePapers", "told", "(I)I"⟩ ⟨"WipePapers", "told", "(I)I"⟩) ∈ aw_tb := tb_of 281 rfl rfl
theorem tw_282 : (Cond.code ⟨"WipePapers", "told", "(I)I"⟩ prog_1_method_22_code 2 (some .int)) ∈ aw_tb := tb_of 282 rfl rfl
theorem tw_283 : (Cond.methodLink "WipePapersLaw" 108 ⟨"WipePapers", "states", "()I"⟩) ∈ aw_tb := tb_of 283 rfl rfl
theorem tw_284 : (Cond.instanceMethod ⟨"WipePapers", "states", "()I"⟩) ∈ aw_tb := tb_of 284 rfl rfl
theorem tw_285 : (Cond.selects "WipePapers" ⟨"WipePapers", "states", "()I"⟩ ⟨"WipePapers", "states", "()I"⟩) ∈ aw_tb := tb_of 285 rfl rfl
theorem tw_286 : (Cond.code ⟨"WipePapers", "states", "()I"⟩ prog_1_method_23_code 4 (some .int)) ∈ aw_tb := tb_of 286 rfl rfl
theorem tw_287 : (Cond.methodLink "WipePapers" 143 ⟨"java/lang/Integer", "bitCount", "(I)I"⟩) ∈ aw_tb := tb_of 287 rfl rfl
theorem tw_288 : (Cond.static ⟨"java/lang/Integer", "bitCount", "(I)I"⟩) ∈ aw_tb := tb_of 288 rfl rfl
theorem tw_289 : (Cond.code ⟨"java/lang/Integer", "bitCount", "(I)I"⟩ prog_6_method_49_code 1 (some .int)) ∈ aw_tb := tb_of 289 rfl rfl
theorem tw_290 : (Cond.constant "java/lang/Integer" 265 1431655765) ∈ aw_tb := tb_of 290 rfl rfl
theorem tw_291 : (Cond.constant "java/lang/Integer" 266 858993459) ∈ aw_tb := tb_of 291 rfl rfl
theorem tw_292 : (Cond.constant "java/lang/Integer" 267 252645135) ∈ aw_tb := tb_of 292 rfl rfl
theorem tw_293 : (Cond.classLink "WipePapersLaw" 10 "WipePapersModel") ∈ aw_tb := tb_of 293 rfl rfl
theorem tw_294 : (Cond.instantiable "WipePapersModel" 20) ∈ aw_tb := tb_of 294 rfl rfl
theorem tw_295 : (Cond.methodLink "WipePapersLaw" 12 ⟨"WipePapersModel", "<init>", "()V"⟩) ∈ aw_tb := tb_of 295 rfl rfl
theorem tw_296 : (Cond.instanceMethod ⟨"WipePapersModel", "<init>", "()V"⟩) ∈ aw_tb := tb_of 296 rfl rfl
theorem tw_297 : (Cond.code ⟨"WipePapersModel", "<init>", "()V"⟩ prog_5_method_1_code 1 (none : Option Jvm.ClassFile.FieldType)) ∈ aw_tb := tb_of 297 rfl rfl
theorem tw_298 : (Cond.methodLink "WipePapersModel" 1 ⟨"java/lang/Object", "<init>", "()V"⟩) ∈ aw_tb := tb_of 298 rfl rfl
theorem tw_299 : (Cond.fieldLink "WipePapersModel" 60 "WipePapersModel" "carriers" "I") ∈ aw_tb := tb_of 299 rfl rfl
theorem tw_300 : (Cond.fieldLink "WipePapersModel" 7 "WipePapersModel" "kinds" "[I") ∈ aw_tb := tb_of 300 rfl rfl
theorem tw_301 : (Cond.fieldLink "WipePapersModel" 13 "WipePapersModel" "serials" "[J") ∈ aw_tb := tb_of 301 rfl rfl
theorem tw_302 : (Cond.fieldLink "WipePapersModel" 17 "WipePapersModel" "places" "[I") ∈ aw_tb := tb_of 302 rfl rfl
theorem tw_303 : (Cond.fieldLink "WipePapersModel" 20 "WipePapersModel" "states" "[I") ∈ aw_tb := tb_of 303 rfl rfl
theorem tw_304 : (Cond.fieldLink "WipePapersModel" 23 "WipePapersModel" "lasts" "[I") ∈ aw_tb := tb_of 304 rfl rfl
theorem tw_305 : (Cond.fieldLink "WipePapersModel" 26 "WipePapersModel" "bytes" "[I") ∈ aw_tb := tb_of 305 rfl rfl
theorem tw_306 : (Cond.fieldLink "WipePapersModel" 29 "WipePapersModel" "dues" "[I") ∈ aw_tb := tb_of 306 rfl rfl
theorem tw_307 : (Cond.fieldLink "WipePapersModel" 32 "WipePapersModel" "failed" "[Z") ∈ aw_tb := tb_of 307 rfl rfl
theorem tw_308 : (Cond.fieldLink "WipePapersModel" 36 "WipePapersModel" "read" "[Z") ∈ aw_tb := tb_of 308 rfl rfl
theorem tw_309 : (Cond.fieldLink "WipePapersModel" 39 "WipePapersModel" "unlike" "[I") ∈ aw_tb := tb_of 309 rfl rfl
theorem tw_310 : (Cond.fieldLink "WipePapersModel" 42 "WipePapersModel" "passes" "[I") ∈ aw_tb := tb_of 310 rfl rfl
theorem tw_311 : (Cond.fieldLink "WipePapersModel" 45 "WipePapersModel" "patterns" "[I") ∈ aw_tb := tb_of 311 rfl rfl
theorem tw_312 : (Cond.fieldLink "WipePapersModel" 113 "WipePapersModel" "papers" "I") ∈ aw_tb := tb_of 312 rfl rfl
theorem tw_313 : (Cond.fieldLink "WipePapersModel" 48 "WipePapersModel" "fields" "[I") ∈ aw_tb := tb_of 313 rfl rfl
theorem tw_314 : (Cond.fieldLink "WipePapersModel" 51 "WipePapersModel" "fieldCounts" "[I") ∈ aw_tb := tb_of 314 rfl rfl
theorem tw_315 : (Cond.fieldLink "WipePapersModel" 131 "WipePapersModel" "listed" "I") ∈ aw_tb := tb_of 315 rfl rfl
theorem tw_316 : (Cond.fieldLink "WipePapersModel" 54 "WipePapersModel" "list" "[J") ∈ aw_tb := tb_of 316 rfl rfl
theorem tw_317 : (Cond.fieldLink "WipePapersModel" 137 "WipePapersModel" "losses" "I") ∈ aw_tb := tb_of 317 rfl rfl
theorem tw_318 : (Cond.fieldLink "WipePapersModel" 57 "WipePapersModel" "lostOnes" "[I") ∈ aw_tb := tb_of 318 rfl rfl
theorem tw_360 : (Cond.methodLink "WipePapersLaw" 19 ⟨"WipePapersModel", "carrier", "(IJI)I"⟩) ∈ aw_tb := tb_of 360 rfl rfl
theorem tw_361 : (Cond.instanceMethod ⟨"WipePapersModel", "carrier", "(IJI)I"⟩) ∈ aw_tb := tb_of 361 rfl rfl
theorem tw_362 : (Cond.selects "WipePapersModel" ⟨"WipePapersModel", "carrier", "(IJI)I"⟩ ⟨"WipePapersModel", "carrier", "(IJI)I"⟩) ∈ aw_tb := tb_of 362 rfl rfl
theorem tw_363 : (Cond.code ⟨"WipePapersModel", "carrier", "(IJI)I"⟩ prog_5_method_8_code 5 (some .int)) ∈ aw_tb := tb_of 363 rfl rfl
theorem tw_364 : (Cond.constantLong "WipePapersModel" 68 3) ∈ aw_tb := tb_of 364 rfl rfl
theorem tw_365 : (Cond.methodLink "WipePapersModel" 70 ⟨"WipePapersModel", "isIn", "(JJJ)Z"⟩) ∈ aw_tb := tb_of 365 rfl rfl
theorem tw_366 : (Cond.static ⟨"WipePapersModel", "isIn", "(JJJ)Z"⟩) ∈ aw_tb := tb_of 366 rfl rfl
theorem tw_367 : (Cond.code ⟨"WipePapersModel", "isIn", "(JJJ)Z"⟩ prog_5_method_3_code 6 (some .boolean)) ∈ aw_tb := tb_of 367 rfl rfl
theorem tw_368 : (Cond.constantLong "WipePapersModel" 74 1000000000000) ∈ aw_tb := tb_of 368 rfl rfl
theorem tw_369 : (Cond.constantLong "WipePapersModel" 76 64) ∈ aw_tb := tb_of 369 rfl rfl
theorem tw_370 : (Cond.methodLink "WipePapersModel" 78 ⟨"WipePapersModel", "hasSerial", "(J)Z"⟩) ∈ aw_tb := tb_of 370 rfl rfl
theorem tw_372 : (Cond.instanceMethod ⟨"WipePapersModel", "hasSerial", "(J)Z"⟩) ∈ aw_tb := tb_of 372 rfl rfl
theorem tw_373 : (Cond.code ⟨"WipePapersModel", "hasSerial", "(J)Z"⟩ prog_5_method_7_code 5 (some .boolean)) ∈ aw_tb := tb_of 373 rfl rfl
theorem tw_374 : (Cond.methodLink "WipePapersLaw" 24 ⟨"WipePapersModel", "state", "(I)I"⟩) ∈ aw_tb := tb_of 374 rfl rfl
theorem tw_375 : (Cond.instanceMethod ⟨"WipePapersModel", "state", "(I)I"⟩) ∈ aw_tb := tb_of 375 rfl rfl
theorem tw_376 : (Cond.selects "WipePapersModel" ⟨"WipePapersModel", "state", "(I)I"⟩ ⟨"WipePapersModel", "state", "(I)I"⟩) ∈ aw_tb := tb_of 376 rfl rfl
theorem tw_377 : (Cond.code ⟨"WipePapersModel", "state", "(I)I"⟩ prog_5_method_9_code 2 (some .int)) ∈ aw_tb := tb_of 377 rfl rfl
theorem tw_378 : (Cond.methodLink "WipePapersModel" 64 ⟨"WipePapersModel", "isCarrier", "(I)Z"⟩) ∈ aw_tb := tb_of 378 rfl rfl
theorem tw_380 : (Cond.instanceMethod ⟨"WipePapersModel", "isCarrier", "(I)Z"⟩) ∈ aw_tb := tb_of 380 rfl rfl
theorem tw_381 : (Cond.code ⟨"WipePapersModel", "isCarrier", "(I)Z"⟩ prog_5_method_4_code 2 (some .boolean)) ∈ aw_tb := tb_of 381 rfl rfl
theorem tw_382 : (Cond.methodLink "WipePapersLaw" 29 ⟨"WipePapersModel", "event", "(III)Z"⟩) ∈ aw_tb := tb_of 382 rfl rfl
theorem tw_383 : (Cond.instanceMethod ⟨"WipePapersModel", "event", "(III)Z"⟩) ∈ aw_tb := tb_of 383 rfl rfl
theorem tw_384 : (Cond.selects "WipePapersModel" ⟨"WipePapersModel", "event", "(III)Z"⟩ ⟨"WipePapersModel", "event", "(III)Z"⟩) ∈ aw_tb := tb_of 384 rfl rfl
theorem tw_385 : (Cond.code ⟨"WipePapersModel", "event", "(III)Z"⟩ prog_5_method_11_code 4 (some .boolean)) ∈ aw_tb := tb_of 385 rfl rfl
theorem tw_386 : (Cond.constantLong "WipePapersModel" 82 9) ∈ aw_tb := tb_of 386 rfl rfl
theorem tw_387 : (Cond.methodLink "WipePapersModel" 84 ⟨"WipePapersModel", "leads", "(II)I"⟩) ∈ aw_tb := tb_of 387 rfl rfl
theorem tw_388 : (Cond.static ⟨"WipePapersModel", "leads", "(II)I"⟩) ∈ aw_tb := tb_of 388 rfl rfl
theorem tw_389 : (Cond.code ⟨"WipePapersModel", "leads", "(II)I"⟩ prog_5_method_10_code 2 (some .int)) ∈ aw_tb := tb_of 389 rfl rfl
theorem tw_390 : (Cond.methodLink "WipePapersModel" 88 ⟨"WipePapersModel", "forget", "(I)V"⟩) ∈ aw_tb := tb_of 390 rfl rfl
theorem tw_392 : (Cond.instanceMethod ⟨"WipePapersModel", "forget", "(I)V"⟩) ∈ aw_tb := tb_of 392 rfl rfl
theorem tw_393 : (Cond.code ⟨"WipePapersModel", "forget", "(I)V"⟩ prog_5_method_15_code 3 (none : Option Jvm.ClassFile.FieldType)) ∈ aw_tb := tb_of 393 rfl rfl
theorem tw_394 : (Cond.methodLink "WipePapersLaw" 33 ⟨"WipePapersModel", "last", "(I)I"⟩) ∈ aw_tb := tb_of 394 rfl rfl
theorem tw_395 : (Cond.instanceMethod ⟨"WipePapersModel", "last", "(I)I"⟩) ∈ aw_tb := tb_of 395 rfl rfl
theorem tw_396 : (Cond.selects "WipePapersModel" ⟨"WipePapersModel", "last", "(I)I"⟩ ⟨"WipePapersModel", "last", "(I)I"⟩) ∈ aw_tb := tb_of 396 rfl rfl
theorem tw_397 : (Cond.code ⟨"WipePapersModel", "last", "(I)I"⟩ prog_5_method_12_code 2 (some .int)) ∈ aw_tb := tb_of 397 rfl rfl
theorem tw_398 : (Cond.methodLink "WipePapersLaw" 38 ⟨"WipePapersModel", "fail", "(II)Z"⟩) ∈ aw_tb := tb_of 398 rfl rfl
theorem tw_399 : (Cond.instanceMethod ⟨"WipePapersModel", "fail", "(II)Z"⟩) ∈ aw_tb := tb_of 399 rfl rfl
theorem tw_400 : (Cond.selects "WipePapersModel" ⟨"WipePapersModel", "fail", "(II)Z"⟩ ⟨"WipePapersModel", "fail", "(II)Z"⟩) ∈ aw_tb := tb_of 400 rfl rfl
theorem tw_401 : (Cond.code ⟨"WipePapersModel", "fail", "(II)Z"⟩ prog_5_method_13_code 3 (some .boolean)) ∈ aw_tb := tb_of 401 rfl rfl
theorem tw_402 : (Cond.methodLink "WipePapersModel" 92 ⟨"WipePapersModel", "isPlace", "(II)Z"⟩) ∈ aw_tb := tb_of 402 rfl rfl
theorem tw_404 : (Cond.instanceMethod ⟨"WipePapersModel", "isPlace", "(II)Z"⟩) ∈ aw_tb := tb_of 404 rfl rfl
theorem tw_405 : (Cond.code ⟨"WipePapersModel", "isPlace", "(II)Z"⟩ prog_5_method_5_code 3 (some .boolean)) ∈ aw_tb := tb_of 405 rfl rfl
theorem tw_406 : (Cond.methodLink "WipePapersModel" 96 ⟨"WipePapersModel", "isGone", "(I)Z"⟩) ∈ aw_tb := tb_of 406 rfl rfl
theorem tw_408 : (Cond.instanceMethod ⟨"WipePapersModel", "isGone", "(I)Z"⟩) ∈ aw_tb := tb_of 408 rfl rfl
theorem tw_409 : (Cond.code ⟨"WipePapersModel", "isGone", "(I)Z"⟩ prog_5_method_6_code 2 (some .boolean)) ∈ aw_tb := tb_of 409 rfl rfl
theorem tw_410 : (Cond.methodLink "WipePapersLaw" 43 ⟨"WipePapersModel", "failed", "(II)I"⟩) ∈ aw_tb := tb_of 410 rfl rfl
theorem tw_411 : (Cond.instanceMethod ⟨"WipePapersModel", "failed", "(II)I"⟩) ∈ aw_tb := tb_of 411 rfl rfl
theorem tw_412 : (Cond.selects "WipePapersModel" ⟨"WipePapersModel", "failed", "(II)I"⟩ ⟨"WipePapersModel", "failed", "(II)I"⟩) ∈ aw_tb := tb_of 412 rfl rfl
theorem tw_413 : (Cond.code ⟨"WipePapersModel", "failed", "(II)I"⟩ prog_5_method_14_code 5 (some .int)) ∈ aw_tb := tb_of 413 rfl rfl
theorem tw_414 : (Cond.methodLink "WipePapersLaw" 47 ⟨"WipePapersModel", "pass", "(II)I"⟩) ∈ aw_tb := tb_of 414 rfl rfl
theorem tw_415 : (Cond.instanceMethod ⟨"WipePapersModel", "pass", "(II)I"⟩) ∈ aw_tb := tb_of 415 rfl rfl
theorem tw_416 : (Cond.selects "WipePapersModel" ⟨"WipePapersModel", "pass", "(II)I"⟩ ⟨"WipePapersModel", "pass", "(II)I"⟩) ∈ aw_tb := tb_of 416 rfl rfl
theorem tw_417 : (Cond.code ⟨"WipePapersModel", "pass", "(II)I"⟩ prog_5_method_16_code 5 (some .int)) ∈ aw_tb := tb_of 417 rfl rfl
theorem tw_418 : (Cond.constantLong "WipePapersModel" 99 257) ∈ aw_tb := tb_of 418 rfl rfl
theorem tw_419 : (Cond.methodLink "WipePapersLaw" 51 ⟨"WipePapersModel", "byteAt", "(II)I"⟩) ∈ aw_tb := tb_of 419 rfl rfl
theorem tw_420 : (Cond.instanceMethod ⟨"WipePapersModel", "byteAt", "(II)I"⟩) ∈ aw_tb := tb_of 420 rfl rfl
theorem tw_421 : (Cond.selects "WipePapersModel" ⟨"WipePapersModel", "byteAt", "(II)I"⟩ ⟨"WipePapersModel", "byteAt", "(II)I"⟩) ∈ aw_tb := tb_of 421 rfl rfl
theorem tw_422 : (Cond.code ⟨"WipePapersModel", "byteAt", "(II)I"⟩ prog_5_method_17_code 3 (some .int)) ∈ aw_tb := tb_of 422 rfl rfl
theorem tw_423 : (Cond.methodLink "WipePapersLaw" 56 ⟨"WipePapersModel", "read", "(III)I"⟩) ∈ aw_tb := tb_of 423 rfl rfl
theorem tw_424 : (Cond.instanceMethod ⟨"WipePapersModel", "read", "(III)I"⟩) ∈ aw_tb := tb_of 424 rfl rfl
theorem tw_425 : (Cond.selects "WipePapersModel" ⟨"WipePapersModel", "read", "(III)I"⟩ ⟨"WipePapersModel", "read", "(III)I"⟩) ∈ aw_tb := tb_of 425 rfl rfl
theorem tw_426 : (Cond.code ⟨"WipePapersModel", "read", "(III)I"⟩ prog_5_method_18_code 7 (some .int)) ∈ aw_tb := tb_of 426 rfl rfl
theorem tw_427 : (Cond.constantLong "WipePapersModel" 101 255) ∈ aw_tb := tb_of 427 rfl rfl
theorem tw_428 : (Cond.methodLink "WipePapersLaw" 60 ⟨"WipePapersModel", "unlike", "(I)I"⟩) ∈ aw_tb := tb_of 428 rfl rfl
theorem tw_429 : (Cond.instanceMethod ⟨"WipePapersModel", "unlike", "(I)I"⟩) ∈ aw_tb := tb_of 429 rfl rfl
theorem tw_430 : (Cond.selects "WipePapersModel" ⟨"WipePapersModel", "unlike", "(I)I"⟩ ⟨"WipePapersModel", "unlike", "(I)I"⟩) ∈ aw_tb := tb_of 430 rfl rfl
theorem tw_431 : (Cond.code ⟨"WipePapersModel", "unlike", "(I)I"⟩ prog_5_method_19_code 2 (some .int)) ∈ aw_tb := tb_of 431 rfl rfl
theorem tw_432 : (Cond.methodLink "WipePapersLaw" 65 ⟨"WipePapersModel", "odds", "(IIII)J"⟩) ∈ aw_tb := tb_of 432 rfl rfl
theorem tw_433 : (Cond.instanceMethod ⟨"WipePapersModel", "odds", "(IIII)J"⟩) ∈ aw_tb := tb_of 433 rfl rfl
theorem tw_434 : (Cond.selects "WipePapersModel" ⟨"WipePapersModel", "odds", "(IIII)J"⟩ ⟨"WipePapersModel", "odds", "(IIII)J"⟩) ∈ aw_tb := tb_of 434 rfl rfl
theorem tw_435 : (Cond.code ⟨"WipePapersModel", "odds", "(IIII)J"⟩ prog_5_method_21_code 14 (some .long)) ∈ aw_tb := tb_of 435 rfl rfl
theorem tw_436 : (Cond.constantLong "WipePapersModel" 103 40) ∈ aw_tb := tb_of 436 rfl rfl
theorem tw_437 : (Cond.constantLong "WipePapersModel" 105 (-1)) ∈ aw_tb := tb_of 437 rfl rfl
theorem tw_438 : (Cond.methodLink "WipePapersModel" 107 ⟨"WipePapersModel", "common", "(JJ)J"⟩) ∈ aw_tb := tb_of 438 rfl rfl
theorem tw_439 : (Cond.static ⟨"WipePapersModel", "common", "(JJ)J"⟩) ∈ aw_tb := tb_of 439 rfl rfl
theorem tw_440 : (Cond.code ⟨"WipePapersModel", "common", "(JJ)J"⟩ prog_5_method_20_code 10 (some .long)) ∈ aw_tb := tb_of 440 rfl rfl
theorem tw_441 : (Cond.methodLink "WipePapersLaw" 69 ⟨"WipePapersModel", "shred", "(II)Z"⟩) ∈ aw_tb := tb_of 441 rfl rfl
theorem tw_442 : (Cond.instanceMethod ⟨"WipePapersModel", "shred", "(II)Z"⟩) ∈ aw_tb := tb_of 442 rfl rfl
theorem tw_443 : (Cond.selects "WipePapersModel" ⟨"WipePapersModel", "shred", "(II)Z"⟩ ⟨"WipePapersModel", "shred", "(II)Z"⟩) ∈ aw_tb := tb_of 443 rfl rfl
theorem tw_444 : (Cond.code ⟨"WipePapersModel", "shred", "(II)Z"⟩ prog_5_method_22_code 3 (some .boolean)) ∈ aw_tb := tb_of 444 rfl rfl
theorem tw_445 : (Cond.constantLong "WipePapersModel" 111 100) ∈ aw_tb := tb_of 445 rfl rfl
theorem tw_446 : (Cond.methodLink "WipePapersLaw" 73 ⟨"WipePapersModel", "paper", "(III)I"⟩) ∈ aw_tb := tb_of 446 rfl rfl
theorem tw_447 : (Cond.instanceMethod ⟨"WipePapersModel", "paper", "(III)I"⟩) ∈ aw_tb := tb_of 447 rfl rfl
theorem tw_448 : (Cond.selects "WipePapersModel" ⟨"WipePapersModel", "paper", "(III)I"⟩ ⟨"WipePapersModel", "paper", "(III)I"⟩) ∈ aw_tb := tb_of 448 rfl rfl
theorem tw_449 : (Cond.code ⟨"WipePapersModel", "paper", "(III)I"⟩ prog_5_method_23_code 6 (some .int)) ∈ aw_tb := tb_of 449 rfl rfl
theorem tw_450 : (Cond.methodLink "WipePapersLaw" 77 ⟨"WipePapersModel", "at", "(II)I"⟩) ∈ aw_tb := tb_of 450 rfl rfl
theorem tw_451 : (Cond.instanceMethod ⟨"WipePapersModel", "at", "(II)I"⟩) ∈ aw_tb := tb_of 451 rfl rfl
theorem tw_452 : (Cond.selects "WipePapersModel" ⟨"WipePapersModel", "at", "(II)I"⟩ ⟨"WipePapersModel", "at", "(II)I"⟩) ∈ aw_tb := tb_of 452 rfl rfl
theorem tw_453 : (Cond.code ⟨"WipePapersModel", "at", "(II)I"⟩ prog_5_method_25_code 3 (some .int)) ∈ aw_tb := tb_of 453 rfl rfl
theorem tw_454 : (Cond.methodLink "WipePapersModel" 116 ⟨"WipePapersModel", "isPaper", "(I)Z"⟩) ∈ aw_tb := tb_of 454 rfl rfl
theorem tw_456 : (Cond.instanceMethod ⟨"WipePapersModel", "isPaper", "(I)Z"⟩) ∈ aw_tb := tb_of 456 rfl rfl
theorem tw_457 : (Cond.code ⟨"WipePapersModel", "isPaper", "(I)Z"⟩ prog_5_method_24_code 2 (some .boolean)) ∈ aw_tb := tb_of 457 rfl rfl
theorem tw_458 : (Cond.methodLink "WipePapersLaw" 81 ⟨"WipePapersModel", "mark", "(IJI)I"⟩) ∈ aw_tb := tb_of 458 rfl rfl
theorem tw_459 : (Cond.instanceMethod ⟨"WipePapersModel", "mark", "(IJI)I"⟩) ∈ aw_tb := tb_of 459 rfl rfl
theorem tw_460 : (Cond.selects "WipePapersModel" ⟨"WipePapersModel", "mark", "(IJI)I"⟩ ⟨"WipePapersModel", "mark", "(IJI)I"⟩) ∈ aw_tb := tb_of 460 rfl rfl
theorem tw_461 : (Cond.code ⟨"WipePapersModel", "mark", "(IJI)I"⟩ prog_5_method_27_code 5 (some .int)) ∈ aw_tb := tb_of 461 rfl rfl
theorem tw_462 : (Cond.constantLong "WipePapersModel" 121 7) ∈ aw_tb := tb_of 462 rfl rfl
theorem tw_463 : (Cond.methodLink "WipePapersModel" 123 ⟨"WipePapersModel", "markOf", "(IJ)J"⟩) ∈ aw_tb := tb_of 463 rfl rfl
theorem tw_465 : (Cond.instanceMethod ⟨"WipePapersModel", "markOf", "(IJ)J"⟩) ∈ aw_tb := tb_of 465 rfl rfl
theorem tw_466 : (Cond.code ⟨"WipePapersModel", "markOf", "(IJ)J"⟩ prog_5_method_26_code 7 (some .long)) ∈ aw_tb := tb_of 466 rfl rfl
theorem tw_467 : (Cond.constantLong "WipePapersModel" 119 6364136223846793005) ∈ aw_tb := tb_of 467 rfl rfl
theorem tw_468 : (Cond.methodLink "WipePapersLaw" 86 ⟨"WipePapersModel", "check", "(IJJ)Z"⟩) ∈ aw_tb := tb_of 468 rfl rfl
theorem tw_469 : (Cond.instanceMethod ⟨"WipePapersModel", "check", "(IJJ)Z"⟩) ∈ aw_tb := tb_of 469 rfl rfl
theorem tw_470 : (Cond.selects "WipePapersModel" ⟨"WipePapersModel", "check", "(IJJ)Z"⟩ ⟨"WipePapersModel", "check", "(IJJ)Z"⟩) ∈ aw_tb := tb_of 470 rfl rfl
theorem tw_471 : (Cond.code ⟨"WipePapersModel", "check", "(IJJ)Z"⟩ prog_5_method_28_code 8 (some .boolean)) ∈ aw_tb := tb_of 471 rfl rfl
theorem tw_472 : (Cond.methodLink "WipePapersModel" 127 ⟨"WipePapersModel", "mark", "(IJI)I"⟩) ∈ aw_tb := tb_of 472 rfl rfl
theorem tw_473 : (Cond.methodLink "WipePapersLaw" 91 ⟨"WipePapersModel", "listed", "(J)I"⟩) ∈ aw_tb := tb_of 473 rfl rfl
theorem tw_474 : (Cond.instanceMethod ⟨"WipePapersModel", "listed", "(J)I"⟩) ∈ aw_tb := tb_of 474 rfl rfl
theorem tw_475 : (Cond.selects "WipePapersModel" ⟨"WipePapersModel", "listed", "(J)I"⟩ ⟨"WipePapersModel", "listed", "(J)I"⟩) ∈ aw_tb := tb_of 475 rfl rfl
theorem tw_476 : (Cond.code ⟨"WipePapersModel", "listed", "(J)I"⟩ prog_5_method_30_code 3 (some .int)) ∈ aw_tb := tb_of 476 rfl rfl
theorem tw_477 : (Cond.methodLink "WipePapersModel" 134 ⟨"WipePapersModel", "isListed", "(J)Z"⟩) ∈ aw_tb := tb_of 477 rfl rfl
theorem tw_479 : (Cond.instanceMethod ⟨"WipePapersModel", "isListed", "(J)Z"⟩) ∈ aw_tb := tb_of 479 rfl rfl
theorem tw_480 : (Cond.code ⟨"WipePapersModel", "isListed", "(J)Z"⟩ prog_5_method_29_code 5 (some .boolean)) ∈ aw_tb := tb_of 480 rfl rfl
theorem tw_481 : (Cond.methodLink "WipePapersLaw" 95 ⟨"WipePapersModel", "missing", "(I)I"⟩) ∈ aw_tb := tb_of 481 rfl rfl
theorem tw_482 : (Cond.instanceMethod ⟨"WipePapersModel", "missing", "(I)I"⟩) ∈ aw_tb := tb_of 482 rfl rfl
theorem tw_483 : (Cond.selects "WipePapersModel" ⟨"WipePapersModel", "missing", "(I)I"⟩ ⟨"WipePapersModel", "missing", "(I)I"⟩) ∈ aw_tb := tb_of 483 rfl rfl
theorem tw_484 : (Cond.code ⟨"WipePapersModel", "missing", "(I)I"⟩ prog_5_method_31_code 4 (some .int)) ∈ aw_tb := tb_of 484 rfl rfl
theorem tw_485 : (Cond.methodLink "WipePapersLaw" 99 ⟨"WipePapersModel", "extra", "(I)I"⟩) ∈ aw_tb := tb_of 485 rfl rfl
theorem tw_486 : (Cond.instanceMethod ⟨"WipePapersModel", "extra", "(I)I"⟩) ∈ aw_tb := tb_of 486 rfl rfl
theorem tw_487 : (Cond.selects "WipePapersModel" ⟨"WipePapersModel", "extra", "(I)I"⟩ ⟨"WipePapersModel", "extra", "(I)I"⟩) ∈ aw_tb := tb_of 487 rfl rfl
theorem tw_488 : (Cond.code ⟨"WipePapersModel", "extra", "(I)I"⟩ prog_5_method_32_code 4 (some .int)) ∈ aw_tb := tb_of 488 rfl rfl
theorem tw_489 : (Cond.methodLink "WipePapersLaw" 103 ⟨"WipePapersModel", "lost", "(I)I"⟩) ∈ aw_tb := tb_of 489 rfl rfl
theorem tw_490 : (Cond.instanceMethod ⟨"WipePapersModel", "lost", "(I)I"⟩) ∈ aw_tb := tb_of 490 rfl rfl
theorem tw_491 : (Cond.selects "WipePapersModel" ⟨"WipePapersModel", "lost", "(I)I"⟩ ⟨"WipePapersModel", "lost", "(I)I"⟩) ∈ aw_tb := tb_of 491 rfl rfl
theorem tw_492 : (Cond.code ⟨"WipePapersModel", "lost", "(I)I"⟩ prog_5_method_33_code 2 (some .int)) ∈ aw_tb := tb_of 492 rfl rfl
theorem tw_493 : (Cond.methodLink "WipePapersLaw" 107 ⟨"WipePapersModel", "told", "(I)I"⟩) ∈ aw_tb := tb_of 493 rfl rfl
theorem tw_494 : (Cond.instanceMethod ⟨"WipePapersModel", "told", "(I)I"⟩) ∈ aw_tb := tb_of 494 rfl rfl
theorem tw_495 : (Cond.selects "WipePapersModel" ⟨"WipePapersModel", "told", "(I)I"⟩ ⟨"WipePapersModel", "told", "(I)I"⟩) ∈ aw_tb := tb_of 495 rfl rfl
theorem tw_496 : (Cond.code ⟨"WipePapersModel", "told", "(I)I"⟩ prog_5_method_34_code 2 (some .int)) ∈ aw_tb := tb_of 496 rfl rfl
theorem tw_497 : (Cond.methodLink "WipePapersLaw" 112 ⟨"WipePapersModel", "states", "()I"⟩) ∈ aw_tb := tb_of 497 rfl rfl
theorem tw_498 : (Cond.instanceMethod ⟨"WipePapersModel", "states", "()I"⟩) ∈ aw_tb := tb_of 498 rfl rfl
theorem tw_499 : (Cond.selects "WipePapersModel" ⟨"WipePapersModel", "states", "()I"⟩ ⟨"WipePapersModel", "states", "()I"⟩) ∈ aw_tb := tb_of 499 rfl rfl
theorem tw_500 : (Cond.code ⟨"WipePapersModel", "states", "()I"⟩ prog_5_method_35_code 5 (some .int)) ∈ aw_tb := tb_of 500 rfl rfl
theorem tw_501 : (Cond.constantLong "WipePapersLaw" 13 4294967295) ∈ aw_tb := tb_of 501 rfl rfl
end
section
/-! THE JUDGEMENT AW: a frame of a method over ONE heap, seen through labels (family, number, part); labels have addresses 'ad' and cells 'ce'. Everything behind 01.names; aw_cl, aw_ty, aw_tb, aw_nM are the claim's own tables. -/
abbrev aw_Lb : Type := Nat × Nat × Nat
abbrev aw_Cell : Type := (Nat × vp_A) ⊕ (Nat × List Value)
abbrev aw_Ad : Type := aw_Lb → Nat
abbrev aw_He : Type := aw_Lb → Option aw_Cell
def aw_up {α : Type} (f : aw_Lb → α) (k : aw_Lb) (v : α) : aw_Lb → α := fun j => if j = k then v else f j
theorem aw_up_self {α : Type} (f : aw_Lb → α) (k : aw_Lb) (v : α) : aw_up f k v k = v := by simp [aw_up]
theorem aw_up_ne {α : Type} (f : aw_Lb → α) {k j : aw_Lb} (v : α) (h : j ≠ k) : aw_up f k v j = f j := by simp [aw_up, h]
theorem aw_up_up {α : Type} (f : aw_Lb → α) (k : aw_Lb) (v w : α) : aw_up (aw_up f k v) k w = aw_up f k w := by
  funext j
  by_cases h : j = k <;> simp [aw_up, h]
theorem aw_up_id {α : Type} {f : aw_Lb → α} {k : aw_Lb} {v : α} (h : f k = v) : aw_up f k v = f := by
  funext j
  by_cases hj : j = k
  · subst hj; simp [aw_up, h]
  · simp [aw_up, hj]
theorem aw_up_comm {α : Type} (f : aw_Lb → α) {k j : aw_Lb} (v w : α) (h : k ≠ j) : aw_up (aw_up f k v) j w = aw_up (aw_up f j w) k v := by
  funext i
  by_cases h1 : i = j
  · subst h1; simp [aw_up, Ne.symm h]
  · by_cases h2 : i = k <;> simp [aw_up, h1, h2, h]
def aw_E (aC : Nat → ClassId) (x : aw_Cell) : va_E := match x with
  | .inl a => .inl (aC a.1, a.2)
  | .inr o => .inr o
/-- classes and slots, the array classes, the first address that is ours -/
abbrev aw_G : Type := va_G × (Nat → ClassId) × Nat
def aw_A (G : aw_G) : Nat → Prop := fun q => G.2.2 ≤ q
def aw_H (G : aw_G) (ad : aw_Ad) (ce : aw_He) (H : Heap) : Prop :=
  (∀ k e, ce k = some e → va_at G.1 aw_cl (ad k, aw_E G.2.1 e) H ∧ aw_A G (ad k)) ∧ ∀ j k e f, ce j = some e → ce k = some f → ad j = ad k → j = k
def aw_tys (aC : Nat → ClassId) : List (ClassId × FieldType) := aw_ty.zipIdx.map (fun q => (aC q.2, q.1))
theorem aw_tys_at {aC : Nat → ClassId} {k : Nat} {t : FieldType} (h : aw_ty[k]? = some t) : (aw_tys aC)[k]? = some (aC k, t) := by
  simp [aw_tys, List.getElem?_zipIdx, h]
def aw_nst : List Cond := aw_nM.map (fun q => Cond.methodLinkNest q.1 q.2.1 q.2.2.1 q.2.2.2)
def aw_K (G : aw_G) (U : State) : Prop := va_K G.1 aw_cl (aw_tys G.2.1) U ∧ (∀ w ∈ aw_nst, va_Nw w U) ∧ ∀ q ∈ aw_ao, va_AO q U
theorem aw_K.warm {G : aw_G} {s U : State} (hW : s.WarmedH U.vm) (h : aw_K G s) : aw_K G U := by
  refine ⟨va_K.moved hW.alike h.1, fun w hw => ?_, fun q hq => (h.2.2 q hq).moved hW.alike⟩
  have h2 := h.2.1 w hw
  obtain ⟨q, -, rfl⟩ := List.mem_map.mp hw
  exact va_Nw.warmM hW h2
theorem aw_K.calling {G : aw_G} {U : State} {g : JFrame} {mk : MethodId} {a : Array Value} (h : aw_K G U) : aw_K G (U.calling g mk a) := by
  refine ⟨va_K.moved (u := U) (U := U.calling g mk a) (Vm.Alike.refl U.vm) h.1, fun w hw => ?_, fun q hq => va_AO.moved (u := U) (U := U.calling g mk a) (Vm.Alike.refl U.vm) (h.2.2 q hq)⟩
  have h2 := h.2.1 w hw
  obtain ⟨q, -, rfl⟩ := List.mem_map.mp hw
  exact va_Nw.same rfl (rfl : U.vm = (U.calling g mk a).vm) h2
theorem aw_H.P {G : aw_G} {ad : aw_Ad} {ce : aw_He} {H : Heap} (h : aw_H G ad ce H) {k : aw_Lb} {e : aw_Cell} (hk : ce k = some e) : va_P G.1 aw_cl [(ad k, aw_E G.2.1 e)] H := by
  intro j q hq
  match j, hq with
  | 0, hq => cases hq; exact (h.1 k e hk).1
  | j + 1, hq => simp at hq
theorem aw_H.set {G : aw_G} {ad : aw_Ad} {ce : aw_He} {H H1 : Heap} (h : aw_H G ad ce H) {k : aw_Lb} {e0 e : aw_Cell} (hk : ce k = some e0) (he : va_at G.1 aw_cl (ad k, aw_E G.2.1 e) H1) (ho : ∀ q : Nat, q ≠ ad k → H1[q]? = H[q]?) : aw_H G ad (aw_up ce k (some e)) H1 := by
  have dom : ∀ j f, aw_up ce k (some e) j = some f → ∃ f0, ce j = some f0 := by
    intro j f hj
    by_cases hjk : j = k
    · subst hjk; exact ⟨e0, hk⟩
    · rw [aw_up_ne _ _ hjk] at hj; exact ⟨f, hj⟩
  refine ⟨fun j f hj => ?_, fun j i f g hj hi hji => ?_⟩
  · by_cases hjk : j = k
    · subst hjk
      rw [aw_up_self] at hj
      cases hj
      exact ⟨he, (h.1 j e0 hk).2⟩
    · rw [aw_up_ne _ _ hjk] at hj
      have h1 := h.1 j f hj
      refine ⟨h1.1.kept (ho _ (fun q => hjk (h.2 j k f e0 hj hk q))), h1.2⟩
  · obtain ⟨f0, hj0⟩ := dom j f hj
    obtain ⟨g0, hi0⟩ := dom i g hi
    exact h.2 j i f0 g0 hj0 hi0 hji
theorem aw_H.new {G : aw_G} {ad : aw_Ad} {ce : aw_He} {H H1 : Heap} (h : aw_H G ad ce H) {k : aw_Lb} {e : aw_Cell} (hk : ce k = none) (hb : G.2.2 ≤ H.size) (he : va_at G.1 aw_cl (H.size, aw_E G.2.1 e) H1) (ho : ∀ q : Nat, q < H.size → H1[q]? = H[q]?) : aw_H G (aw_up ad k H.size) (aw_up ce k (some e)) H1 := by
  have lt : ∀ j f, ce j = some f → ad j < H.size := fun j f hj => (h.1 j f hj).1.lt
  have ne : ∀ j f, ce j = some f → j ≠ k := fun j f hj q => by rw [q, hk] at hj; cases hj
  have cs : ∀ j f, aw_up ce k (some e) j = some f → (j = k ∧ f = e) ∨ ce j = some f := by
    intro j f hj
    by_cases hjk : j = k
    · subst hjk; rw [aw_up_self] at hj; cases hj; exact Or.inl ⟨rfl, rfl⟩
    · rw [aw_up_ne _ _ hjk] at hj; exact Or.inr hj
  refine ⟨fun j f hj => ?_, fun j i f g hj hi hji => ?_⟩
  · rcases cs j f hj with ⟨rfl, rfl⟩ | hj
    · rw [aw_up_self]; exact ⟨he, hb⟩
    · have h1 := h.1 j f hj
      rw [aw_up_ne _ _ (ne j f hj)]
      exact ⟨h1.1.kept (ho _ (lt j f hj)), h1.2⟩
  · rcases cs j f hj with ⟨rfl, rfl⟩ | hj1 <;> rcases cs i g hi with ⟨rfl, rfl⟩ | hi1
    · rfl
    · rw [aw_up_self, aw_up_ne _ _ (ne i g hi1)] at hji
      have := lt i g hi1
      omega
    · rw [aw_up_self, aw_up_ne _ _ (ne j f hj1)] at hji
      have := lt j f hj1
      omega
    · rw [aw_up_ne _ _ (ne j f hj1), aw_up_ne _ _ (ne i g hi1)] at hji
      exact h.2 j i f g hj1 hi1 hji
/-- everything that stays while a method's body runs -/
abbrev aw_X : Type := Program × Launch × Env × Room × State × MethodId × Array Value × List Frame × Method × Code × (State → Prop) × aw_G
def AW (X : aw_X) (nL cells slots : Nat) (ad : aw_Ad) (ce : aw_He) (pc : Nat) (lv : List (Nat × Value)) (st : List Value) : Prop := match X with
  | (p, l, e, R, s, m, args, below, meth, c, Q, G) => ∀ (H : Heap) (locs : List Loc) (ls : Array Slot), aw_H G ad ce H → va_S (aw_A G) s.heap H locs → lv_has ls nL lv → W p l e R s m args below meth c H locs cells slots Q (F0 m pc ls st)
def aw_ok (X : aw_X) (cc : ByteArray) (nL : Nat) (own : String) : Prop := match X with
  | (p, _, _, _, s, m, args, _, meth, c, _, G) => p.tables.exec = Jvm.exec ∧ c.code = cc ∧ c.maxLocals = nL ∧ s.vm.findClass own = some m.cls ∧ (∀ w ∈ aw_tb, w.before args s = true) ∧ meth.locks = false ∧ aw_K G s ∧ G.2.2 ≤ s.heap.size
def aw_in (X : aw_X) (l0 : Launch) (G0 : aw_G) (R0 : Room) : Prop := match X with
  | (_, l, _, R, _, _, _, _, _, _, _, G) => l = l0 ∧ G = G0 ∧ R = R0
def aw_Qc (G : aw_G) (P : Option Value → aw_Ad → aw_He → Prop) : Array Value → State → Outcome → State → Prop := fun _ st oc t =>
  (∃ (r : Option Value) (ad : aw_Ad) (ce : aw_He), oc = .returned r ∧ P r ad ce ∧ aw_H G ad ce t.heap) ∧ va_F (aw_A G) st t
def aw_Pc (G : aw_G) (as : List Value) (ad : aw_Ad) (ce : aw_He) : Array Value → State → Prop := va_Pc as (fun U => aw_H G ad ce U.heap ∧ aw_K G U ∧ G.2.2 ≤ U.heap.size)
abbrev aw_M : Type := MethodName × ByteArray × Nat × Option FieldType
def aw_rm (d lo mc ms : Nat) : Room := { frames := d, cells := mc, slots := ms, locals := lo }
/-- A METHOD'S CONTRACT: with these arguments over this heap it returns, and P holds of the answer and of the heap behind it; depth d, at most mc new cells of ms slots -/
def CT (l : Launch) (G : aw_G) (M : aw_M) (d lo mc ms : Nat) (as : List Value) (ad : aw_Ad) (ce : aw_He) (P : Option Value → aw_Ad → aw_He → Prop) : Prop :=
  Met l M.1 (.code M.1 M.2.1 M.2.2.1 M.2.2.2 :: aw_tb) (aw_rm d lo mc ms) (aw_Pc G as ad ce) (aw_Qc G P) mc ms (aw_A G)
def aw_me (X : aw_X) (nm : String) (ret : Option FieldType) (mc ms : Nat) (P : Option Value → aw_Ad → aw_He → Prop) : Prop := match X with
  | (_, _, _, _, s, _, args, below, meth, _, Q, G) => meth.name = nm ∧ meth.sig.returnType = ret ∧ Q = MQ below (aw_Qc G P) args s mc ms (aw_A G)
theorem CT.of {l : Launch} {G : aw_G} {y : MethodName} {cc : ByteArray} {nL : Nat} {ret : Option FieldType} {d lo mc ms : Nat} {as : List Value} {ad : aw_Ad} {ce : aw_He} {P : Option Value → aw_Ad → aw_He → Prop} (hy : plainName y.cls = true) (hlen : (lg_sl as).length ≤ nL)
    (body : ∀ X : aw_X, aw_ok X cc nL y.cls → aw_in X l G (aw_rm d lo mc ms) → aw_me X y.name ret mc ms P → AW X nL 0 0 ad ce 0 (lv_args 0 as) []) : CT l G (y, cc, nL, ret) d lo mc ms as ad ce P := by
  refine Met.ofW (cc := cc) (maxL := nL) (ret := ret) hy rfl ?_
  intro p e s m args below meth c s₁ B hml hv
  obtain ⟨rfl, hH, hK, hbs⟩ := hv
  have hts := atoms_spec (ws := .code y cc nL ret :: aw_tb) B.pre
  have hown : s.vm.findClass y.cls = some m.cls := findClass_of_methodNamed B.named
  have h := body (p, l, e, aw_rm d lo mc ms, s, m, as.toArray, below, meth, c, MQ below (aw_Qc G P) as.toArray s mc ms (aw_A G), G) ⟨B.exec, B.bytes, hml, hown, fun w hw => hts w (List.mem_cons_of_mem _ hw), B.notSynchronized, hK, hbs⟩ ⟨rfl, rfl, rfl⟩ ⟨(name_of_methodNamed B.named B.method).1, B.returns, rfl⟩
  rw [lg_entry_eq]
  exact h s.heap [] _ hH va_S.rf (lv_entry as hlen)
section AWret
variable {X : aw_X} {cc : ByteArray} {nL : Nat} {own : String} {cells slots : Nat} {ad : aw_Ad} {ce : aw_He} {pc : Nat} {lv : List (Nat × Value)} {nm : String} {mc ms : Nat} {P : Option Value → aw_Ad → aw_He → Prop}
theorem aw_iret (C : aw_ok X cc nL own) {ty : FieldType} {v : Int32} (E : aw_me X nm (some ty) mc ms P) (hn : narrow ty (.int v) = .int v) (hc : cells ≤ mc) (hs : slots ≤ ms) (hd : decode cc pc = .ok (.ireturn, 1)) (hP : P (some (.int v)) ad ce) : AW X nL cells slots ad ce pc lv [.int v] := by
  obtain ⟨p, l, e, R, s, m, args, below, meth, c, Q, G⟩ := X
  obtain ⟨hx, hb, hml, hown, hts, hlk, hK, hbs⟩ := C
  obtain ⟨-, hr, rfl⟩ := E
  intro H locs ls hH hS hl
  refine W.widen hc hs ?_
  exact W.zret hx hb hr hn (fun t ht hW => ⟨⟨_, ad, ce, rfl, hP, by rw [ht]; exact hH⟩, hS.F ht⟩) hS.2.2 hd hlk
theorem aw_lret (C : aw_ok X cc nL own) {v : Int64} (E : aw_me X nm (some .long) mc ms P) (hc : cells ≤ mc) (hs : slots ≤ ms) (hd : decode cc pc = .ok (.lreturn, 1)) (hP : P (some (.long v)) ad ce) : AW X nL cells slots ad ce pc lv [.long v] := by
  obtain ⟨p, l, e, R, s, m, args, below, meth, c, Q, G⟩ := X
  obtain ⟨hx, hb, hml, hown, hts, hlk, hK, hbs⟩ := C
  obtain ⟨-, hr, rfl⟩ := E
  intro H locs ls hH hS hl
  refine W.widen hc hs ?_
  exact W.lret hx hb hr (fun t ht hW => ⟨⟨_, ad, ce, rfl, hP, by rw [ht]; exact hH⟩, hS.F ht⟩) hS.2.2 hd hlk
theorem aw_vret (C : aw_ok X cc nL own) (E : aw_me X nm none mc ms P) (hc : cells ≤ mc) (hs : slots ≤ ms) (hd : decode cc pc = .ok (.return_, 1)) (hP : P none ad ce) : AW X nL cells slots ad ce pc lv [] := by
  obtain ⟨p, l, e, R, s, m, args, below, meth, c, Q, G⟩ := X
  obtain ⟨hx, hb, hml, hown, hts, hlk, hK, hbs⟩ := C
  obtain ⟨-, hr, rfl⟩ := E
  intro H locs ls hH hS hl
  refine W.widen hc hs ?_
  exact W.vret hx hb hr (fun t ht hW => ⟨⟨_, ad, ce, rfl, hP, by rw [ht]; exact hH⟩, hS.F ht⟩) hS.2.2 hd hlk
theorem aw_aret (C : aw_ok X cc nL own) {v : Value} {rt : FieldType} (E : aw_me X nm (some rt) mc ms P) (hrt : (∃ n, rt = .object n) ∨ ∃ t, rt = .array t) (hv : v = .null ∨ ∃ a, v = .ref a) (hc : cells ≤ mc) (hs : slots ≤ ms) (hd : decode cc pc = .ok (.areturn, 1)) (hP : P (some v) ad ce) : AW X nL cells slots ad ce pc lv [v] := by
  obtain ⟨p, l, e, R, s, m, args, below, meth, c, Q, G⟩ := X
  obtain ⟨hx, hb, hml, hown, hts, hlk, hK, hbs⟩ := C
  obtain ⟨-, hr, rfl⟩ := E
  intro H locs ls hH hS hl
  refine W.widen hc hs ?_
  exact W.aret hx hb hr hrt hv (fun t ht hW => ⟨⟨_, ad, ce, rfl, hP, by rw [ht]; exact hH⟩, hS.F ht⟩) hS.2.2 hd hlk
end AWret
section AWcall
variable {X : aw_X} {cc : ByteArray} {nL : Nat} {own : String} {cells slots : Nat} {ad : aw_Ad} {ce : aw_He} {pc : Nat} {lv : List (Nat × Value)} {st : List Value}
variable {l0 : Launch} {G0 : aw_G} {R0 : Room} {idx : Nat} {d lo mc ms : Nat} {as rest : List Value} {P : Option Value → aw_Ad → aw_He → Prop}
theorem aw_good : ∀ w ∈ aw_tb, (w.onTables && w.keeps) = true ∨ ∃ ty, w = .arrayClass ty := by
  intro w hw
  have h := List.all_eq_true.mp aw_tb_good w hw
  exact good_of_word h
theorem aw_goodIn {y : MethodName} {b : ByteArray} {n : Nat} {r : Option FieldType} (h : Cond.code y b n r ∈ aw_tb) (pre : List Cond) (hp : ∀ w ∈ pre, w ∈ aw_tb) : GoodIn aw_tb (pre ++ (.code y b n r :: aw_tb)) := by
  have hm : ∀ w ∈ pre ++ (.code y b n r :: aw_tb), w ∈ aw_tb := by
    intro w hw
    rcases List.mem_append.mp hw with h1 | h1
    · exact hp w h1
    · rcases List.mem_cons.mp h1 with rfl | h1
      · exact h
      · exact h1
  exact fun w hw => ⟨hm w hw, aw_good w (hm w hw)⟩
/-- the world that the callee begins with -/
theorem aw_pre {s : State} {H : Heap} {G : aw_G} (hH : aw_H G ad ce H) (hK : aw_K G s) (hb : G.2.2 ≤ H.size) : PreS s H (aw_Pc G as ad ce) as := by
  refine ⟨fun a U g mk q => ?_, fun U hU hW => ?_⟩
  · obtain ⟨q0, q1, q2, q3⟩ := q
    exact ⟨q0, q1, q2.calling, q3⟩
  · exact ⟨rfl, by rw [hU]; exact hH, hK.warm hW, by rw [hU]; exact hb⟩
theorem aw_after {p : Program} {l : Launch} {e : Env} {R : Room} {s : State} {m : MethodId} {args : Array Value} {below : List Frame} {meth : Method} {c : Code} {Q : State → Prop} {G : aw_G} {H : Heap} {locs : List Loc} {ls : Array Slot} {a : Array Value}
    (hS : va_S (aw_A G) s.heap H locs) (hl : lv_has ls nL lv)
    (hr : va_Run p l e R s m args below meth c H locs cells slots mc ms (F0 m pc ls st) rest (aw_Qc G P a) (aw_A G))
    (kk : ∀ r ad' ce', P r ad' ce' → AW (p, l, e, R, s, m, args, below, meth, c, Q, G) nL (cells + mc) (slots + ms) ad' ce' (pc + 3) lv (r.toList ++ rest)) :
    W p l e R s m args below meth c H locs cells slots Q (F0 m pc ls st) := by
  intro T hT X
  obtain ⟨v, st₀, t, T', L, h0, X', hL, e1, e2, ⟨⟨r, ad', ce', hv, hp, hH⟩, hz, hk⟩, sts⟩ := hr T hT X
  cases hv
  rw [h0] at hz hk
  have hS' : va_S (aw_A G) s.heap T'.heap (locs ++ L) := ⟨Nat.le_trans hS.1 (by rw [e1]; exact hz), fun q h1 h2 => by rw [e1, hk q (Nat.lt_of_lt_of_le h1 hS.1) h2]; exact hS.2.1 q h1 h2, fun q hq => by
      rcases List.mem_append.mp hq with h | h
      · exact hS.2.2 q h
      · exact hL q h⟩
  obtain ⟨t2, a1, b1⟩ := kk v ad' ce' hp T'.heap (locs ++ L) ls (by rw [e1]; exact hH) hS' hl T' rfl X'
  exact ⟨t2, sts t2 a1, b1⟩
def aw_gM (y : MethodName) (n : Nat) : Prop := y.cls ≠ "java/lang/invoke/MethodHandle" ∧ y.cls ≠ "java/lang/invoke/VarHandle" ∧ (parseMethodDescriptor y.desc).map (fun d => d.parameters.length) = some n
/-- a static method, of its own class or of another one -/
def aw_gS (own : String) (idx : Nat) (M : aw_M) (n : Nat) : Prop := (Cond.methodLink own idx M.1 ∈ aw_tb ∧ Cond.static M.1 ∈ aw_tb ∧ Cond.initialized M.1.cls ∈ aw_tb) ∧ Cond.code M.1 M.2.1 M.2.2.1 M.2.2.2 ∈ aw_tb ∧ aw_gM M.1 n
theorem aw_callS (C : aw_ok X cc nL own) (I : aw_in X l0 G0 R0) {M : aw_M} (hM : CT l0 G0 M d lo mc ms as ad ce P) (g : aw_gS own idx M as.length) (hR : d + 1 ≤ R0.frames ∧ (M.2.2.1 + 19) + lo ≤ R0.locals) (hf : cells + mc ≤ R0.cells ∧ slots + ms ≤ R0.slots) (hst : st = as.reverse ++ rest) (hw : (rest.map fun v => v.category).sum ≤ 8) (hd : decode cc pc = .ok (.invokestatic idx, 3))
    (kk : ∀ r ad' ce', P r ad' ce' → AW X nL (cells + mc) (slots + ms) ad' ce' (pc + 3) lv (r.toList ++ rest)) : AW X nL cells slots ad ce pc lv st := by
  obtain ⟨p, l, e, R, s, m, args, below, meth, c, Q, G⟩ := X
  obtain ⟨hx, hb, hml, hown, hts, hlk, hK, hbs⟩ := C
  obtain ⟨rfl, rfl, rfl⟩ := I
  obtain ⟨⟨g1, g2, g3⟩, g4, g5⟩ := g
  intro H locs ls hH hS hl
  have cw := va_cwS (R := R) (s := s) (args := args) (own := own) (index := idx) (rm := aw_rm d lo mc ms) (mc := mc) (ms := ms) as.length hts (aw_goodIn g4 [.methodLink own idx M.1, .static M.1, .initialized M.1.cls] (by intro w hw; simp only [List.mem_cons, List.not_mem_nil, or_false] at hw; rcases hw with rfl | rfl | rfl <;> assumption)) rfl rfl rfl g5 ⟨hR.1, by show 8 + (M.2.2.1 + 11) + lo ≤ R.locals; omega⟩
  exact aw_after hS hl (va_runS (As := as) (rest := rest) ⟨hx, hb, hml, hown, hts⟩ hM cw (aw_pre hH hK (Nat.le_trans hbs hS.1)) rfl rfl hl.1 hst (lv_room hw) hd hf) kk
/-- a static private method of a nest mate -/
def aw_gSN (own : String) (idx : Nat) (host : String) (M : aw_M) (n : Nat) : Prop := (own, idx, M.1, host) ∈ aw_nM ∧ Cond.static M.1 ∈ aw_tb ∧ Cond.initialized M.1.cls ∈ aw_tb ∧ Cond.code M.1 M.2.1 M.2.2.1 M.2.2.2 ∈ aw_tb ∧ aw_gM M.1 n
theorem aw_callSN (C : aw_ok X cc nL own) (I : aw_in X l0 G0 R0) {M : aw_M} {host : String} (hM : CT l0 G0 M d lo mc ms as ad ce P) (g : aw_gSN own idx host M as.length) (hR : d + 1 ≤ R0.frames ∧ (M.2.2.1 + 19) + lo ≤ R0.locals) (hf : cells + mc ≤ R0.cells ∧ slots + ms ≤ R0.slots) (hst : st = as.reverse ++ rest) (hw : (rest.map fun v => v.category).sum ≤ 8) (hd : decode cc pc = .ok (.invokestatic idx, 3))
    (kk : ∀ r ad' ce', P r ad' ce' → AW X nL (cells + mc) (slots + ms) ad' ce' (pc + 3) lv (r.toList ++ rest)) : AW X nL cells slots ad ce pc lv st := by
  obtain ⟨p, l, e, R, s, m, args, below, meth, c, Q, G⟩ := X
  obtain ⟨hx, hb, hml, hown, hts, hlk, hK, hbs⟩ := C
  obtain ⟨rfl, rfl, rfl⟩ := I
  obtain ⟨g1, g2, g3, g4, g5⟩ := g
  intro H locs ls hH hS hl
  have cw := va_cnB (R := R) (s := s) (args := args) (own := own) (host := host) (index := idx) (rm := aw_rm d lo mc ms) (mc := mc) (ms := ms) as.length hts (aw_goodIn g4 [] (fun w hw => by cases hw)) rfl rfl rfl (hK.2.1 _ (List.mem_map.mpr ⟨_, g1, rfl⟩)) (hts _ g3) g5 ⟨hR.1, by show 8 + (M.2.2.1 + 11) + lo ≤ R.locals; omega⟩
  exact aw_after hS hl (va_runSN (As := as) (rest := rest) ⟨hx, hb, hml, hown, hts⟩ hM ⟨cw, hts _ g2, trivial⟩ (aw_pre hH hK (Nat.le_trans hbs hS.1)) rfl rfl hl.1 hst (lv_room hw) hd hf) kk
/-- a method of an object (no override) -/
def aw_gV (own : String) (idx : Nat) (M : aw_M) (n : Nat) : Prop := (Cond.methodLink own idx M.1 ∈ aw_tb ∧ Cond.instanceMethod M.1 ∈ aw_tb ∧ Cond.selects M.1.cls M.1 M.1 ∈ aw_tb ∧ Cond.initialized M.1.cls ∈ aw_tb) ∧ Cond.code M.1 M.2.1 M.2.2.1 M.2.2.2 ∈ aw_tb ∧ aw_gM M.1 n
theorem aw_callV (C : aw_ok X cc nL own) (I : aw_in X l0 G0 R0) {M : aw_M} {k : aw_Lb} {ci : Nat} {fs : List Value} {q : vw_C} (hM : CT l0 G0 M d lo mc ms (.ref (ad k) :: as) ad ce P) (g : aw_gV own idx M as.length) (hk : ce k = some (.inr (ci, fs))) (hci : aw_cl[ci]? = some q) (hq : q.1 = M.1.cls) (hR : d + 1 ≤ R0.frames ∧ (M.2.2.1 + 19) + lo ≤ R0.locals) (hf : cells + mc ≤ R0.cells ∧ slots + ms ≤ R0.slots) (hst : st = as.reverse ++ .ref (ad k) :: rest) (hw : (rest.map fun v => v.category).sum ≤ 8) (hd : decode cc pc = .ok (.invokevirtual idx, 3))
    (kk : ∀ r ad' ce', P r ad' ce' → AW X nL (cells + mc) (slots + ms) ad' ce' (pc + 3) lv (r.toList ++ rest)) : AW X nL cells slots ad ce pc lv st := by
  obtain ⟨p, l, e, R, s, m, args, below, meth, c, Q, G⟩ := X
  obtain ⟨hx, hb, hml, hown, hts, hlk, hK, hbs⟩ := C
  obtain ⟨rfl, rfl, rfl⟩ := I
  obtain ⟨⟨g1, g2, g3, g7⟩, g4, g5⟩ := g
  intro H locs ls hH hS hl
  have cw := cwV (R := R) (s := s) (args := args) (own := own) (C := M.1.cls) (index := idx) (rm := aw_rm d lo mc ms) (mc := mc) (ms := ms) as.length hts (aw_goodIn g4 [.methodLink own idx M.1, .instanceMethod M.1, .selects M.1.cls M.1 M.1, .initialized M.1.cls] (by intro w hw; simp only [List.mem_cons, List.not_mem_nil, or_false] at hw; rcases hw with rfl | rfl | rfl | rfl <;> assumption)) rfl rfl rfl ⟨rfl, g5⟩ ⟨hR.1, by show 8 + (M.2.2.1 + 11) + lo ≤ R.locals; omega⟩
  have pre := aw_pre (as := .ref (ad k) :: as) hH hK (Nat.le_trans hbs hS.1)
  refine aw_after hS hl (va_runV (As := as) (rest := rest) ⟨hx, hb, hml, hown, hts⟩ hM cw ⟨pre.1, ?_, pre.2⟩ rfl rfl hl.1 hst (lv_room hw) hd hf) kk
  rw [← hq]
  exact va_recv hK.1 (hH.P hk) (q0 := 0) hci rfl
/-- a constructor -/
def aw_gI (own : String) (idx : Nat) (M : aw_M) (n : Nat) : Prop := (Cond.methodLink own idx M.1 ∈ aw_tb ∧ Cond.instanceMethod M.1 ∈ aw_tb ∧ Cond.initialized M.1.cls ∈ aw_tb ∧ M.1.name = "<init>" ∧ M.2.2.2 = none) ∧ Cond.code M.1 M.2.1 M.2.2.1 none ∈ aw_tb ∧ aw_gM M.1 n
theorem aw_callI (C : aw_ok X cc nL own) (I : aw_in X l0 G0 R0) {y : MethodName} {b : ByteArray} {n' a : Nat} (hM : CT l0 G0 (y, b, n', none) d lo mc ms (.ref a :: as) ad ce P) (g : aw_gI own idx (y, b, n', none) as.length) (hR : d + 1 ≤ R0.frames ∧ (n' + 19) + lo ≤ R0.locals) (hf : cells + mc ≤ R0.cells ∧ slots + ms ≤ R0.slots) (hst : st = as.reverse ++ .ref a :: rest) (hw : (rest.map fun v => v.category).sum ≤ 8) (hd : decode cc pc = .ok (.invokespecial idx, 3))
    (kk : ∀ r ad' ce', P r ad' ce' → AW X nL (cells + mc) (slots + ms) ad' ce' (pc + 3) lv (r.toList ++ rest)) : AW X nL cells slots ad ce pc lv st := by
  obtain ⟨p, l, e, R, s, m, args, below, meth, c, Q, G⟩ := X
  obtain ⟨hx, hb, hml, hown, hts, hlk, hK, hbs⟩ := C
  obtain ⟨rfl, rfl, rfl⟩ := I
  obtain ⟨⟨g1, g2, g3, g7, g8⟩, g4, g5⟩ := g
  intro H locs ls hH hS hl
  have cw := cwI (R := R) (s := s) (args := args) (own := own) (index := idx) (rm := aw_rm d lo mc ms) (mc := mc) (ms := ms) as.length hts (aw_goodIn g4 [] (fun w hw => by cases hw)) rfl rfl rfl (hts _ g3) (hts _ g1) (hts _ g2) g7 g5 ⟨hR.1, by show 8 + (n' + 11) + lo ≤ R.locals; omega⟩
  exact aw_after hS hl (va_runI (As := as) (rest := rest) ⟨hx, hb, hml, hown, hts⟩ hM cw (aw_pre hH hK (Nat.le_trans hbs hS.1)) rfl rfl hl.1 hst (lv_room hw) hd hf) kk
/-- Object.<init> -/
theorem aw_objInit (C : aw_ok X cc nL own) (I : aw_in X l0 G0 R0) {a : Nat} (h1 : Cond.methodLink own idx objectInit ∈ aw_tb) (h2 : Cond.instanceMethod objectInit ∈ aw_tb) (h3 : Cond.code objectInit ⟨#[0xb1]⟩ 1 none ∈ aw_tb) (hR : 1 ≤ R0.frames ∧ 20 ≤ R0.locals) (hw : (rest.map fun v => v.category).sum ≤ 8) (hd : decode cc pc = .ok (.invokespecial idx, 3)) (kk : AW X nL cells slots ad ce (pc + 3) lv rest) : AW X nL cells slots ad ce pc lv (.ref a :: rest) := by
  obtain ⟨p, l, e, R, s, m, args, below, meth, c, Q, G⟩ := X
  obtain ⟨hx, hb, hml, hown, hts, hlk, hK, hbs⟩ := C
  obtain ⟨rfl, rfl, rfl⟩ := I
  intro H locs ls hH hS hl
  refine W.objInit hx hb hown (hts _ h1) (hts _ h2) (hts _ h3) rfl (by rw [hml]; exact hl.1) rfl hd hR.1 (by have := lv_room (m := m) (pc := pc) (ls := ls) (rest := .ref a :: rest) hw; omega) ?_
  exact kk H locs ls hH hS hl
end AWcall
end
section
theorem aw_iconst {X : aw_X} {cc : ByteArray} {nL : Nat} {own : String} (C : aw_ok X cc nL own) {cells slots : Nat} {ad : aw_Ad} {ce : aw_He} {pc : Nat} {lv : List (Nat × Value)} {st : List Value} {n : Int} {v : Int32} (hd : decode cc pc = .ok (.iconst n, 1)) (hv : Int32.ofInt n = v) (k : AW X nL cells slots ad ce (pc + 1) lv (.int v :: st)) : AW X nL cells slots ad ce pc lv st := by
  obtain ⟨p, l, e, R, s, m, args, below, meth, c, Q, G⟩ := X
  obtain ⟨hx, hb, hml, hown, hts, hlk, hK, hbs⟩ := C
  intro H locs ls hH hS hl
  exact lv_iconst hx hb hd hv (k H locs ls hH hS hl)
theorem aw_bipush {X : aw_X} {cc : ByteArray} {nL : Nat} {own : String} (C : aw_ok X cc nL own) {cells slots : Nat} {ad : aw_Ad} {ce : aw_He} {pc : Nat} {lv : List (Nat × Value)} {st : List Value} {n : Int} {v : Int32} (hd : decode cc pc = .ok (.bipush n, 2)) (hv : (Int8.ofInt n).toInt32 = v) (k : AW X nL cells slots ad ce (pc + 2) lv (.int v :: st)) : AW X nL cells slots ad ce pc lv st := by
  obtain ⟨p, l, e, R, s, m, args, below, meth, c, Q, G⟩ := X
  obtain ⟨hx, hb, hml, hown, hts, hlk, hK, hbs⟩ := C
  intro H locs ls hH hS hl
  exact lv_bipush hx hb hd hv (k H locs ls hH hS hl)
theorem aw_sipush {X : aw_X} {cc : ByteArray} {nL : Nat} {own : String} (C : aw_ok X cc nL own) {cells slots : Nat} {ad : aw_Ad} {ce : aw_He} {pc : Nat} {lv : List (Nat × Value)} {st : List Value} {n : Int} {v : Int32} (hd : decode cc pc = .ok (.sipush n, 3)) (hv : (Int16.ofInt n).toInt32 = v) (k : AW X nL cells slots ad ce (pc + 3) lv (.int v :: st)) : AW X nL cells slots ad ce pc lv st := by
  obtain ⟨p, l, e, R, s, m, args, below, meth, c, Q, G⟩ := X
  obtain ⟨hx, hb, hml, hown, hts, hlk, hK, hbs⟩ := C
  intro H locs ls hH hS hl
  exact lv_sipush hx hb hd hv (k H locs ls hH hS hl)
theorem aw_lconst {X : aw_X} {cc : ByteArray} {nL : Nat} {own : String} (C : aw_ok X cc nL own) {cells slots : Nat} {ad : aw_Ad} {ce : aw_He} {pc : Nat} {lv : List (Nat × Value)} {st : List Value} {n : Fin 2} {v : Int64} (hd : decode cc pc = .ok (.lconst n, 1)) (hv : Int64.ofNat (n : Nat) = v) (k : AW X nL cells slots ad ce (pc + 1) lv (.long v :: st)) : AW X nL cells slots ad ce pc lv st := by
  obtain ⟨p, l, e, R, s, m, args, below, meth, c, Q, G⟩ := X
  obtain ⟨hx, hb, hml, hown, hts, hlk, hK, hbs⟩ := C
  intro H locs ls hH hS hl
  exact lv_lconst hx hb hd hv (k H locs ls hH hS hl)
theorem aw_null {X : aw_X} {cc : ByteArray} {nL : Nat} {own : String} (C : aw_ok X cc nL own) {cells slots : Nat} {ad : aw_Ad} {ce : aw_He} {pc : Nat} {lv : List (Nat × Value)} {st : List Value}  (hd : decode cc pc = .ok ((.aconst_null), 1))  (k : AW X nL cells slots ad ce (pc + 1) lv (.null :: st)) : AW X nL cells slots ad ce pc lv st := by
  obtain ⟨p, l, e, R, s, m, args, below, meth, c, Q, G⟩ := X
  obtain ⟨hx, hb, hml, hown, hts, hlk, hK, hbs⟩ := C
  intro H locs ls hH hS hl
  exact lv_null hx hb hd (k H locs ls hH hS hl)
theorem aw_ldc {X : aw_X} {cc : ByteArray} {nL : Nat} {own : String} (C : aw_ok X cc nL own) {cells slots : Nat} {ad : aw_Ad} {ce : aw_He} {pc : Nat} {lv : List (Nat × Value)} {st : List Value} {idx : Nat} {v : Int32} (hc : Cond.constant own idx v ∈ aw_tb) (hd : decode cc pc = .ok (.ldc idx, 2)) (k : AW X nL cells slots ad ce (pc + 2) lv (.int v :: st)) : AW X nL cells slots ad ce pc lv st := by
  obtain ⟨p, l, e, R, s, m, args, below, meth, c, Q, G⟩ := X
  obtain ⟨hx, hb, hml, hown, hts, hlk, hK, hbs⟩ := C
  intro H locs ls hH hS hl
  exact lv_ldc hx hb hown (hts _ hc) hd (k H locs ls hH hS hl)
theorem aw_ldc2 {X : aw_X} {cc : ByteArray} {nL : Nat} {own : String} (C : aw_ok X cc nL own) {cells slots : Nat} {ad : aw_Ad} {ce : aw_He} {pc : Nat} {lv : List (Nat × Value)} {st : List Value} {idx : Nat} {v : Int64} (hc : Cond.constantLong own idx v ∈ aw_tb) (hd : decode cc pc = .ok (.ldc2_w idx, 3)) (k : AW X nL cells slots ad ce (pc + 3) lv (.long v :: st)) : AW X nL cells slots ad ce pc lv st := by
  obtain ⟨p, l, e, R, s, m, args, below, meth, c, Q, G⟩ := X
  obtain ⟨hx, hb, hml, hown, hts, hlk, hK, hbs⟩ := C
  intro H locs ls hH hS hl
  exact lv_ldc2 hx hb hown (hts _ hc) hd (k H locs ls hH hS hl)
theorem aw_ldcw {X : aw_X} {cc : ByteArray} {nL : Nat} {own : String} (C : aw_ok X cc nL own) {cells slots : Nat} {ad : aw_Ad} {ce : aw_He} {pc : Nat} {lv : List (Nat × Value)} {st : List Value} {idx : Nat} {v : Int32} (hc : Cond.constant own idx v ∈ aw_tb) (hd : decode cc pc = .ok (.ldc_w idx, 3)) (k : AW X nL cells slots ad ce (pc + 3) lv (.int v :: st)) : AW X nL cells slots ad ce pc lv st := by
  obtain ⟨p, l, e, R, s, m, args, below, meth, c, Q, G⟩ := X
  obtain ⟨hx, hb, hml, hown, hts, hlk, hK, hbs⟩ := C
  intro H locs ls hH hS hl
  exact lv_ldcw hx hb hown (hts _ hc) hd (k H locs ls hH hS hl)
theorem aw_iload_n {X : aw_X} {cc : ByteArray} {nL : Nat} {own : String} (C : aw_ok X cc nL own) {cells slots : Nat} {ad : aw_Ad} {ce : aw_He} {pc : Nat} {lv : List (Nat × Value)} {st : List Value} {n : Fin 4} {i j : Nat} {x : Int32} (hd : decode cc pc = .ok (.iload_n n, 1)) (hi : (n : Nat) = i) (hj : lv[j]? = some (i, .int x)) (k : AW X nL cells slots ad ce (pc + 1) lv (.int x :: st)) : AW X nL cells slots ad ce pc lv st := by
  obtain ⟨p, l, e, R, s, m, args, below, meth, c, Q, G⟩ := X
  obtain ⟨hx, hb, hml, hown, hts, hlk, hK, hbs⟩ := C
  intro H locs ls hH hS hl
  exact lv_iload_n hx hb hd hi (lv_at hl j hj) (k H locs ls hH hS hl)
theorem aw_iload {X : aw_X} {cc : ByteArray} {nL : Nat} {own : String} (C : aw_ok X cc nL own) {cells slots : Nat} {ad : aw_Ad} {ce : aw_He} {pc : Nat} {lv : List (Nat × Value)} {st : List Value} {i j : Nat} {x : Int32} (hd : decode cc pc = .ok (.iload i, 2)) (hj : lv[j]? = some (i, .int x)) (k : AW X nL cells slots ad ce (pc + 2) lv (.int x :: st)) : AW X nL cells slots ad ce pc lv st := by
  obtain ⟨p, l, e, R, s, m, args, below, meth, c, Q, G⟩ := X
  obtain ⟨hx, hb, hml, hown, hts, hlk, hK, hbs⟩ := C
  intro H locs ls hH hS hl
  exact lv_iload hx hb hd (lv_at hl j hj) (k H locs ls hH hS hl)
theorem aw_lload_n {X : aw_X} {cc : ByteArray} {nL : Nat} {own : String} (C : aw_ok X cc nL own) {cells slots : Nat} {ad : aw_Ad} {ce : aw_He} {pc : Nat} {lv : List (Nat × Value)} {st : List Value} {n : Fin 4} {i j : Nat} {x : Int64} (hd : decode cc pc = .ok (.lload_n n, 1)) (hi : (n : Nat) = i) (hj : lv[j]? = some (i, .long x)) (k : AW X nL cells slots ad ce (pc + 1) lv (.long x :: st)) : AW X nL cells slots ad ce pc lv st := by
  obtain ⟨p, l, e, R, s, m, args, below, meth, c, Q, G⟩ := X
  obtain ⟨hx, hb, hml, hown, hts, hlk, hK, hbs⟩ := C
  intro H locs ls hH hS hl
  exact lv_lload_n hx hb hd hi (lv_at hl j hj) (k H locs ls hH hS hl)
theorem aw_lload {X : aw_X} {cc : ByteArray} {nL : Nat} {own : String} (C : aw_ok X cc nL own) {cells slots : Nat} {ad : aw_Ad} {ce : aw_He} {pc : Nat} {lv : List (Nat × Value)} {st : List Value} {i j : Nat} {x : Int64} (hd : decode cc pc = .ok (.lload i, 2)) (hj : lv[j]? = some (i, .long x)) (k : AW X nL cells slots ad ce (pc + 2) lv (.long x :: st)) : AW X nL cells slots ad ce pc lv st := by
  obtain ⟨p, l, e, R, s, m, args, below, meth, c, Q, G⟩ := X
  obtain ⟨hx, hb, hml, hown, hts, hlk, hK, hbs⟩ := C
  intro H locs ls hH hS hl
  exact lv_lload hx hb hd (lv_at hl j hj) (k H locs ls hH hS hl)
theorem aw_aload_n {X : aw_X} {cc : ByteArray} {nL : Nat} {own : String} (C : aw_ok X cc nL own) {cells slots : Nat} {ad : aw_Ad} {ce : aw_He} {pc : Nat} {lv : List (Nat × Value)} {st : List Value} {n : Fin 4} {i j : Nat} {x : Nat} (hd : decode cc pc = .ok (.aload_n n, 1)) (hi : (n : Nat) = i) (hj : lv[j]? = some (i, .ref x)) (k : AW X nL cells slots ad ce (pc + 1) lv (.ref x :: st)) : AW X nL cells slots ad ce pc lv st := by
  obtain ⟨p, l, e, R, s, m, args, below, meth, c, Q, G⟩ := X
  obtain ⟨hx, hb, hml, hown, hts, hlk, hK, hbs⟩ := C
  intro H locs ls hH hS hl
  exact lv_aload_n hx hb hd hi (lv_at hl j hj) (k H locs ls hH hS hl)
theorem aw_aload {X : aw_X} {cc : ByteArray} {nL : Nat} {own : String} (C : aw_ok X cc nL own) {cells slots : Nat} {ad : aw_Ad} {ce : aw_He} {pc : Nat} {lv : List (Nat × Value)} {st : List Value} {i j : Nat} {x : Nat} (hd : decode cc pc = .ok (.aload i, 2)) (hj : lv[j]? = some (i, .ref x)) (k : AW X nL cells slots ad ce (pc + 2) lv (.ref x :: st)) : AW X nL cells slots ad ce pc lv st := by
  obtain ⟨p, l, e, R, s, m, args, below, meth, c, Q, G⟩ := X
  obtain ⟨hx, hb, hml, hown, hts, hlk, hK, hbs⟩ := C
  intro H locs ls hH hS hl
  exact lv_aload hx hb hd (lv_at hl j hj) (k H locs ls hH hS hl)
theorem aw_aload_nN {X : aw_X} {cc : ByteArray} {nL : Nat} {own : String} (C : aw_ok X cc nL own) {cells slots : Nat} {ad : aw_Ad} {ce : aw_He} {pc : Nat} {lv : List (Nat × Value)} {st : List Value} {n : Fin 4} {i j : Nat} (hd : decode cc pc = .ok (.aload_n n, 1)) (hi : (n : Nat) = i) (hj : lv[j]? = some (i, .null)) (k : AW X nL cells slots ad ce (pc + 1) lv (.null :: st)) : AW X nL cells slots ad ce pc lv st := by
  obtain ⟨p, l, e, R, s, m, args, below, meth, c, Q, G⟩ := X
  obtain ⟨hx, hb, hml, hown, hts, hlk, hK, hbs⟩ := C
  intro H locs ls hH hS hl
  exact lv_aload_nN hx hb hd hi (lv_at hl j hj) (k H locs ls hH hS hl)
theorem aw_aloadN {X : aw_X} {cc : ByteArray} {nL : Nat} {own : String} (C : aw_ok X cc nL own) {cells slots : Nat} {ad : aw_Ad} {ce : aw_He} {pc : Nat} {lv : List (Nat × Value)} {st : List Value} {i j : Nat} (hd : decode cc pc = .ok (.aload i, 2)) (hj : lv[j]? = some (i, .null)) (k : AW X nL cells slots ad ce (pc + 2) lv (.null :: st)) : AW X nL cells slots ad ce pc lv st := by
  obtain ⟨p, l, e, R, s, m, args, below, meth, c, Q, G⟩ := X
  obtain ⟨hx, hb, hml, hown, hts, hlk, hK, hbs⟩ := C
  intro H locs ls hH hS hl
  exact lv_aloadN hx hb hd (lv_at hl j hj) (k H locs ls hH hS hl)
theorem aw_istore_n {X : aw_X} {cc : ByteArray} {nL : Nat} {own : String} (C : aw_ok X cc nL own) {cells slots : Nat} {ad : aw_Ad} {ce : aw_He} {pc : Nat} {lv : List (Nat × Value)} {st : List Value} {n : Fin 4} {i : Nat} {x : Int32} {lv' : List (Nat × Value)} (hd : decode cc pc = .ok (.istore_n n, 1)) (hi : (n : Nat) = i) (hn : i < nL) (hlv : (i, Value.int x) :: lv.filter (fun q => !(q.1 == i) && !(q.1 + 1 == i && q.2.category == 2)) = lv') (k : AW X nL cells slots ad ce (pc + 1) lv' st) : AW X nL cells slots ad ce pc lv (Value.int x :: st) := by
  obtain ⟨p, l, e, R, s, m, args, below, meth, c, Q, G⟩ := X
  obtain ⟨hx, hb, hml, hown, hts, hlk, hK, hbs⟩ := C
  intro H locs ls hH hS hl
  exact lv_istore_n hx hb hd hi hl hn hlv (fun ls' hl' => k H locs ls' hH hS hl')
theorem aw_istore {X : aw_X} {cc : ByteArray} {nL : Nat} {own : String} (C : aw_ok X cc nL own) {cells slots : Nat} {ad : aw_Ad} {ce : aw_He} {pc : Nat} {lv : List (Nat × Value)} {st : List Value} {i : Nat} {x : Int32} {lv' : List (Nat × Value)} (hd : decode cc pc = .ok (.istore i, 2)) (hn : i < nL) (hlv : (i, Value.int x) :: lv.filter (fun q => !(q.1 == i) && !(q.1 + 1 == i && q.2.category == 2)) = lv') (k : AW X nL cells slots ad ce (pc + 2) lv' st) : AW X nL cells slots ad ce pc lv (Value.int x :: st) := by
  obtain ⟨p, l, e, R, s, m, args, below, meth, c, Q, G⟩ := X
  obtain ⟨hx, hb, hml, hown, hts, hlk, hK, hbs⟩ := C
  intro H locs ls hH hS hl
  exact lv_istore hx hb hd hl hn hlv (fun ls' hl' => k H locs ls' hH hS hl')
theorem aw_lstore_n {X : aw_X} {cc : ByteArray} {nL : Nat} {own : String} (C : aw_ok X cc nL own) {cells slots : Nat} {ad : aw_Ad} {ce : aw_He} {pc : Nat} {lv : List (Nat × Value)} {st : List Value} {n : Fin 4} {i : Nat} {x : Int64} {lv' : List (Nat × Value)} (hd : decode cc pc = .ok (.lstore_n n, 1)) (hi : (n : Nat) = i) (hn : i + 1 < nL) (hlv : (i, Value.long x) :: lv.filter (fun q => !(q.1 == i) && (!(q.1 == i + 1) && !(q.1 + 1 == i && q.2.category == 2))) = lv') (k : AW X nL cells slots ad ce (pc + 1) lv' st) : AW X nL cells slots ad ce pc lv (Value.long x :: st) := by
  obtain ⟨p, l, e, R, s, m, args, below, meth, c, Q, G⟩ := X
  obtain ⟨hx, hb, hml, hown, hts, hlk, hK, hbs⟩ := C
  intro H locs ls hH hS hl
  exact lv_lstore_n hx hb hd hi hl hn hlv (fun ls' hl' => k H locs ls' hH hS hl')
theorem aw_lstore {X : aw_X} {cc : ByteArray} {nL : Nat} {own : String} (C : aw_ok X cc nL own) {cells slots : Nat} {ad : aw_Ad} {ce : aw_He} {pc : Nat} {lv : List (Nat × Value)} {st : List Value} {i : Nat} {x : Int64} {lv' : List (Nat × Value)} (hd : decode cc pc = .ok (.lstore i, 2)) (hn : i + 1 < nL) (hlv : (i, Value.long x) :: lv.filter (fun q => !(q.1 == i) && (!(q.1 == i + 1) && !(q.1 + 1 == i && q.2.category == 2))) = lv') (k : AW X nL cells slots ad ce (pc + 2) lv' st) : AW X nL cells slots ad ce pc lv (Value.long x :: st) := by
  obtain ⟨p, l, e, R, s, m, args, below, meth, c, Q, G⟩ := X
  obtain ⟨hx, hb, hml, hown, hts, hlk, hK, hbs⟩ := C
  intro H locs ls hH hS hl
  exact lv_lstore hx hb hd hl hn hlv (fun ls' hl' => k H locs ls' hH hS hl')
theorem aw_astore_n {X : aw_X} {cc : ByteArray} {nL : Nat} {own : String} (C : aw_ok X cc nL own) {cells slots : Nat} {ad : aw_Ad} {ce : aw_He} {pc : Nat} {lv : List (Nat × Value)} {st : List Value} {n : Fin 4} {i : Nat} {x : Nat} {lv' : List (Nat × Value)} (hd : decode cc pc = .ok (.astore_n n, 1)) (hi : (n : Nat) = i) (hn : i < nL) (hlv : (i, Value.ref x) :: lv.filter (fun q => !(q.1 == i) && !(q.1 + 1 == i && q.2.category == 2)) = lv') (k : AW X nL cells slots ad ce (pc + 1) lv' st) : AW X nL cells slots ad ce pc lv (Value.ref x :: st) := by
  obtain ⟨p, l, e, R, s, m, args, below, meth, c, Q, G⟩ := X
  obtain ⟨hx, hb, hml, hown, hts, hlk, hK, hbs⟩ := C
  intro H locs ls hH hS hl
  exact lv_astore_n hx hb hd hi hl hn hlv (fun ls' hl' => k H locs ls' hH hS hl')
theorem aw_astore {X : aw_X} {cc : ByteArray} {nL : Nat} {own : String} (C : aw_ok X cc nL own) {cells slots : Nat} {ad : aw_Ad} {ce : aw_He} {pc : Nat} {lv : List (Nat × Value)} {st : List Value} {i : Nat} {x : Nat} {lv' : List (Nat × Value)} (hd : decode cc pc = .ok (.astore i, 2)) (hn : i < nL) (hlv : (i, Value.ref x) :: lv.filter (fun q => !(q.1 == i) && !(q.1 + 1 == i && q.2.category == 2)) = lv') (k : AW X nL cells slots ad ce (pc + 2) lv' st) : AW X nL cells slots ad ce pc lv (Value.ref x :: st) := by
  obtain ⟨p, l, e, R, s, m, args, below, meth, c, Q, G⟩ := X
  obtain ⟨hx, hb, hml, hown, hts, hlk, hK, hbs⟩ := C
  intro H locs ls hH hS hl
  exact lv_astore hx hb hd hl hn hlv (fun ls' hl' => k H locs ls' hH hS hl')
theorem aw_astore_nN {X : aw_X} {cc : ByteArray} {nL : Nat} {own : String} (C : aw_ok X cc nL own) {cells slots : Nat} {ad : aw_Ad} {ce : aw_He} {pc : Nat} {lv : List (Nat × Value)} {st : List Value} {n : Fin 4} {i : Nat}  {lv' : List (Nat × Value)} (hd : decode cc pc = .ok (.astore_n n, 1)) (hi : (n : Nat) = i) (hn : i < nL) (hlv : (i, Value.null) :: lv.filter (fun q => !(q.1 == i) && !(q.1 + 1 == i && q.2.category == 2)) = lv') (k : AW X nL cells slots ad ce (pc + 1) lv' st) : AW X nL cells slots ad ce pc lv (Value.null :: st) := by
  obtain ⟨p, l, e, R, s, m, args, below, meth, c, Q, G⟩ := X
  obtain ⟨hx, hb, hml, hown, hts, hlk, hK, hbs⟩ := C
  intro H locs ls hH hS hl
  exact lv_astore_nN hx hb hd hi hl hn hlv (fun ls' hl' => k H locs ls' hH hS hl')
theorem aw_astoreN {X : aw_X} {cc : ByteArray} {nL : Nat} {own : String} (C : aw_ok X cc nL own) {cells slots : Nat} {ad : aw_Ad} {ce : aw_He} {pc : Nat} {lv : List (Nat × Value)} {st : List Value} {i : Nat}  {lv' : List (Nat × Value)} (hd : decode cc pc = .ok (.astore i, 2)) (hn : i < nL) (hlv : (i, Value.null) :: lv.filter (fun q => !(q.1 == i) && !(q.1 + 1 == i && q.2.category == 2)) = lv') (k : AW X nL cells slots ad ce (pc + 2) lv' st) : AW X nL cells slots ad ce pc lv (Value.null :: st) := by
  obtain ⟨p, l, e, R, s, m, args, below, meth, c, Q, G⟩ := X
  obtain ⟨hx, hb, hml, hown, hts, hlk, hK, hbs⟩ := C
  intro H locs ls hH hS hl
  exact lv_astoreN hx hb hd hl hn hlv (fun ls' hl' => k H locs ls' hH hS hl')
theorem aw_iinc {X : aw_X} {cc : ByteArray} {nL : Nat} {own : String} (C : aw_ok X cc nL own) {cells slots : Nat} {ad : aw_Ad} {ce : aw_He} {pc : Nat} {lv : List (Nat × Value)} {st : List Value} {i j : Nat} {n : Int} {x v : Int32} {lv' : List (Nat × Value)} (hd : decode cc pc = .ok (.iinc i n, 3)) (hj : lv[j]? = some (i, .int x)) (hv : x + Int32.ofInt n = v) (hn : i < nL) (hlv : (i, Value.int v) :: lv.filter (fun q => !(q.1 == i) && !(q.1 + 1 == i && q.2.category == 2)) = lv') (k : AW X nL cells slots ad ce (pc + 3) lv' st) : AW X nL cells slots ad ce pc lv st := by
  obtain ⟨p, l, e, R, s, m, args, below, meth, c, Q, G⟩ := X
  obtain ⟨hx, hb, hml, hown, hts, hlk, hK, hbs⟩ := C
  intro H locs ls hH hS hl
  exact lv_iinc hx hb hd hl hj hv hn hlv (fun ls' hl' => k H locs ls' hH hS hl')
theorem aw_iadd {X : aw_X} {cc : ByteArray} {nL : Nat} {own : String} (C : aw_ok X cc nL own) {cells slots : Nat} {ad : aw_Ad} {ce : aw_He} {pc : Nat} {lv : List (Nat × Value)} {st : List Value} {x y : Int32} (hd : decode cc pc = .ok (.iadd, 1))  (k : AW X nL cells slots ad ce (pc + 1) lv (.int (x + y) :: st)) : AW X nL cells slots ad ce pc lv (.int y :: .int x :: st) := by
  obtain ⟨p, l, e, R, s, m, args, below, meth, c, Q, G⟩ := X
  obtain ⟨hx, hb, hml, hown, hts, hlk, hK, hbs⟩ := C
  intro H locs ls hH hS hl
  exact lv_iadd hx hb hd (k H locs ls hH hS hl)
theorem aw_isub {X : aw_X} {cc : ByteArray} {nL : Nat} {own : String} (C : aw_ok X cc nL own) {cells slots : Nat} {ad : aw_Ad} {ce : aw_He} {pc : Nat} {lv : List (Nat × Value)} {st : List Value} {x y : Int32} (hd : decode cc pc = .ok (.isub, 1))  (k : AW X nL cells slots ad ce (pc + 1) lv (.int (x - y) :: st)) : AW X nL cells slots ad ce pc lv (.int y :: .int x :: st) := by
  obtain ⟨p, l, e, R, s, m, args, below, meth, c, Q, G⟩ := X
  obtain ⟨hx, hb, hml, hown, hts, hlk, hK, hbs⟩ := C
  intro H locs ls hH hS hl
  exact lv_isub hx hb hd (k H locs ls hH hS hl)
theorem aw_imul {X : aw_X} {cc : ByteArray} {nL : Nat} {own : String} (C : aw_ok X cc nL own) {cells slots : Nat} {ad : aw_Ad} {ce : aw_He} {pc : Nat} {lv : List (Nat × Value)} {st : List Value} {x y : Int32} (hd : decode cc pc = .ok (.imul, 1))  (k : AW X nL cells slots ad ce (pc + 1) lv (.int (x * y) :: st)) : AW X nL cells slots ad ce pc lv (.int y :: .int x :: st) := by
  obtain ⟨p, l, e, R, s, m, args, below, meth, c, Q, G⟩ := X
  obtain ⟨hx, hb, hml, hown, hts, hlk, hK, hbs⟩ := C
  intro H locs ls hH hS hl
  exact lv_imul hx hb hd (k H locs ls hH hS hl)
theorem aw_iand {X : aw_X} {cc : ByteArray} {nL : Nat} {own : String} (C : aw_ok X cc nL own) {cells slots : Nat} {ad : aw_Ad} {ce : aw_He} {pc : Nat} {lv : List (Nat × Value)} {st : List Value} {x y : Int32} (hd : decode cc pc = .ok (.iand, 1))  (k : AW X nL cells slots ad ce (pc + 1) lv (.int (x &&& y) :: st)) : AW X nL cells slots ad ce pc lv (.int y :: .int x :: st) := by
  obtain ⟨p, l, e, R, s, m, args, below, meth, c, Q, G⟩ := X
  obtain ⟨hx, hb, hml, hown, hts, hlk, hK, hbs⟩ := C
  intro H locs ls hH hS hl
  exact lv_iand hx hb hd (k H locs ls hH hS hl)
theorem aw_ior {X : aw_X} {cc : ByteArray} {nL : Nat} {own : String} (C : aw_ok X cc nL own) {cells slots : Nat} {ad : aw_Ad} {ce : aw_He} {pc : Nat} {lv : List (Nat × Value)} {st : List Value} {x y : Int32} (hd : decode cc pc = .ok (.ior, 1))  (k : AW X nL cells slots ad ce (pc + 1) lv (.int (x ||| y) :: st)) : AW X nL cells slots ad ce pc lv (.int y :: .int x :: st) := by
  obtain ⟨p, l, e, R, s, m, args, below, meth, c, Q, G⟩ := X
  obtain ⟨hx, hb, hml, hown, hts, hlk, hK, hbs⟩ := C
  intro H locs ls hH hS hl
  exact lv_ior hx hb hd (k H locs ls hH hS hl)
theorem aw_ixor {X : aw_X} {cc : ByteArray} {nL : Nat} {own : String} (C : aw_ok X cc nL own) {cells slots : Nat} {ad : aw_Ad} {ce : aw_He} {pc : Nat} {lv : List (Nat × Value)} {st : List Value} {x y : Int32} (hd : decode cc pc = .ok (.ixor, 1))  (k : AW X nL cells slots ad ce (pc + 1) lv (.int (x ^^^ y) :: st)) : AW X nL cells slots ad ce pc lv (.int y :: .int x :: st) := by
  obtain ⟨p, l, e, R, s, m, args, below, meth, c, Q, G⟩ := X
  obtain ⟨hx, hb, hml, hown, hts, hlk, hK, hbs⟩ := C
  intro H locs ls hH hS hl
  exact lv_ixor hx hb hd (k H locs ls hH hS hl)
theorem aw_ishl {X : aw_X} {cc : ByteArray} {nL : Nat} {own : String} (C : aw_ok X cc nL own) {cells slots : Nat} {ad : aw_Ad} {ce : aw_He} {pc : Nat} {lv : List (Nat × Value)} {st : List Value} {x y : Int32} (hd : decode cc pc = .ok (.ishl, 1))  (k : AW X nL cells slots ad ce (pc + 1) lv (.int (x <<< (y &&& 31)) :: st)) : AW X nL cells slots ad ce pc lv (.int y :: .int x :: st) := by
  obtain ⟨p, l, e, R, s, m, args, below, meth, c, Q, G⟩ := X
  obtain ⟨hx, hb, hml, hown, hts, hlk, hK, hbs⟩ := C
  intro H locs ls hH hS hl
  exact lv_ishl hx hb hd (k H locs ls hH hS hl)
theorem aw_ishr {X : aw_X} {cc : ByteArray} {nL : Nat} {own : String} (C : aw_ok X cc nL own) {cells slots : Nat} {ad : aw_Ad} {ce : aw_He} {pc : Nat} {lv : List (Nat × Value)} {st : List Value} {x y : Int32} (hd : decode cc pc = .ok (.ishr, 1))  (k : AW X nL cells slots ad ce (pc + 1) lv (.int (x >>> (y &&& 31)) :: st)) : AW X nL cells slots ad ce pc lv (.int y :: .int x :: st) := by
  obtain ⟨p, l, e, R, s, m, args, below, meth, c, Q, G⟩ := X
  obtain ⟨hx, hb, hml, hown, hts, hlk, hK, hbs⟩ := C
  intro H locs ls hH hS hl
  exact lv_ishr hx hb hd (k H locs ls hH hS hl)
theorem aw_idiv {X : aw_X} {cc : ByteArray} {nL : Nat} {own : String} (C : aw_ok X cc nL own) {cells slots : Nat} {ad : aw_Ad} {ce : aw_He} {pc : Nat} {lv : List (Nat × Value)} {st : List Value} {x y : Int32} (hd : decode cc pc = .ok (.idiv, 1)) (hne : ¬ y = 0) (k : AW X nL cells slots ad ce (pc + 1) lv (.int (x / y) :: st)) : AW X nL cells slots ad ce pc lv (.int y :: .int x :: st) := by
  obtain ⟨p, l, e, R, s, m, args, below, meth, c, Q, G⟩ := X
  obtain ⟨hx, hb, hml, hown, hts, hlk, hK, hbs⟩ := C
  intro H locs ls hH hS hl
  exact lv_idiv hx hb hd hne (k H locs ls hH hS hl)
theorem aw_irem {X : aw_X} {cc : ByteArray} {nL : Nat} {own : String} (C : aw_ok X cc nL own) {cells slots : Nat} {ad : aw_Ad} {ce : aw_He} {pc : Nat} {lv : List (Nat × Value)} {st : List Value} {x y : Int32} (hd : decode cc pc = .ok (.irem, 1)) (hne : ¬ y = 0) (k : AW X nL cells slots ad ce (pc + 1) lv (.int (x - x / y * y) :: st)) : AW X nL cells slots ad ce pc lv (.int y :: .int x :: st) := by
  obtain ⟨p, l, e, R, s, m, args, below, meth, c, Q, G⟩ := X
  obtain ⟨hx, hb, hml, hown, hts, hlk, hK, hbs⟩ := C
  intro H locs ls hH hS hl
  exact lv_irem hx hb hd hne (k H locs ls hH hS hl)
theorem aw_ineg {X : aw_X} {cc : ByteArray} {nL : Nat} {own : String} (C : aw_ok X cc nL own) {cells slots : Nat} {ad : aw_Ad} {ce : aw_He} {pc : Nat} {lv : List (Nat × Value)} {st : List Value} {x : Int32} (hd : decode cc pc = .ok (.ineg, 1))  (k : AW X nL cells slots ad ce (pc + 1) lv (.int (-x) :: st)) : AW X nL cells slots ad ce pc lv (.int x :: st) := by
  obtain ⟨p, l, e, R, s, m, args, below, meth, c, Q, G⟩ := X
  obtain ⟨hx, hb, hml, hown, hts, hlk, hK, hbs⟩ := C
  intro H locs ls hH hS hl
  exact lv_ineg hx hb hd (k H locs ls hH hS hl)
theorem aw_ladd {X : aw_X} {cc : ByteArray} {nL : Nat} {own : String} (C : aw_ok X cc nL own) {cells slots : Nat} {ad : aw_Ad} {ce : aw_He} {pc : Nat} {lv : List (Nat × Value)} {st : List Value} {x y : Int64} (hd : decode cc pc = .ok (.ladd, 1))  (k : AW X nL cells slots ad ce (pc + 1) lv (.long (x + y) :: st)) : AW X nL cells slots ad ce pc lv (.long y :: .long x :: st) := by
  obtain ⟨p, l, e, R, s, m, args, below, meth, c, Q, G⟩ := X
  obtain ⟨hx, hb, hml, hown, hts, hlk, hK, hbs⟩ := C
  intro H locs ls hH hS hl
  exact lv_ladd hx hb hd (k H locs ls hH hS hl)
theorem aw_lsub {X : aw_X} {cc : ByteArray} {nL : Nat} {own : String} (C : aw_ok X cc nL own) {cells slots : Nat} {ad : aw_Ad} {ce : aw_He} {pc : Nat} {lv : List (Nat × Value)} {st : List Value} {x y : Int64} (hd : decode cc pc = .ok (.lsub, 1))  (k : AW X nL cells slots ad ce (pc + 1) lv (.long (x - y) :: st)) : AW X nL cells slots ad ce pc lv (.long y :: .long x :: st) := by
  obtain ⟨p, l, e, R, s, m, args, below, meth, c, Q, G⟩ := X
  obtain ⟨hx, hb, hml, hown, hts, hlk, hK, hbs⟩ := C
  intro H locs ls hH hS hl
  exact lv_lsub hx hb hd (k H locs ls hH hS hl)
theorem aw_lmul {X : aw_X} {cc : ByteArray} {nL : Nat} {own : String} (C : aw_ok X cc nL own) {cells slots : Nat} {ad : aw_Ad} {ce : aw_He} {pc : Nat} {lv : List (Nat × Value)} {st : List Value} {x y : Int64} (hd : decode cc pc = .ok (.lmul, 1))  (k : AW X nL cells slots ad ce (pc + 1) lv (.long (x * y) :: st)) : AW X nL cells slots ad ce pc lv (.long y :: .long x :: st) := by
  obtain ⟨p, l, e, R, s, m, args, below, meth, c, Q, G⟩ := X
  obtain ⟨hx, hb, hml, hown, hts, hlk, hK, hbs⟩ := C
  intro H locs ls hH hS hl
  exact lv_lmul hx hb hd (k H locs ls hH hS hl)
theorem aw_land {X : aw_X} {cc : ByteArray} {nL : Nat} {own : String} (C : aw_ok X cc nL own) {cells slots : Nat} {ad : aw_Ad} {ce : aw_He} {pc : Nat} {lv : List (Nat × Value)} {st : List Value} {x y : Int64} (hd : decode cc pc = .ok (.land, 1))  (k : AW X nL cells slots ad ce (pc + 1) lv (.long (x &&& y) :: st)) : AW X nL cells slots ad ce pc lv (.long y :: .long x :: st) := by
  obtain ⟨p, l, e, R, s, m, args, below, meth, c, Q, G⟩ := X
  obtain ⟨hx, hb, hml, hown, hts, hlk, hK, hbs⟩ := C
  intro H locs ls hH hS hl
  exact lv_land hx hb hd (k H locs ls hH hS hl)
theorem aw_lor {X : aw_X} {cc : ByteArray} {nL : Nat} {own : String} (C : aw_ok X cc nL own) {cells slots : Nat} {ad : aw_Ad} {ce : aw_He} {pc : Nat} {lv : List (Nat × Value)} {st : List Value} {x y : Int64} (hd : decode cc pc = .ok (.lor, 1))  (k : AW X nL cells slots ad ce (pc + 1) lv (.long (x ||| y) :: st)) : AW X nL cells slots ad ce pc lv (.long y :: .long x :: st) := by
  obtain ⟨p, l, e, R, s, m, args, below, meth, c, Q, G⟩ := X
  obtain ⟨hx, hb, hml, hown, hts, hlk, hK, hbs⟩ := C
  intro H locs ls hH hS hl
  exact lv_lor hx hb hd (k H locs ls hH hS hl)
theorem aw_lxor {X : aw_X} {cc : ByteArray} {nL : Nat} {own : String} (C : aw_ok X cc nL own) {cells slots : Nat} {ad : aw_Ad} {ce : aw_He} {pc : Nat} {lv : List (Nat × Value)} {st : List Value} {x y : Int64} (hd : decode cc pc = .ok (.lxor, 1))  (k : AW X nL cells slots ad ce (pc + 1) lv (.long (x ^^^ y) :: st)) : AW X nL cells slots ad ce pc lv (.long y :: .long x :: st) := by
  obtain ⟨p, l, e, R, s, m, args, below, meth, c, Q, G⟩ := X
  obtain ⟨hx, hb, hml, hown, hts, hlk, hK, hbs⟩ := C
  intro H locs ls hH hS hl
  exact lv_lxor hx hb hd (k H locs ls hH hS hl)
theorem aw_ldiv {X : aw_X} {cc : ByteArray} {nL : Nat} {own : String} (C : aw_ok X cc nL own) {cells slots : Nat} {ad : aw_Ad} {ce : aw_He} {pc : Nat} {lv : List (Nat × Value)} {st : List Value} {x y : Int64} (hd : decode cc pc = .ok (.ldiv, 1)) (hne : ¬ y = 0) (k : AW X nL cells slots ad ce (pc + 1) lv (.long (x / y) :: st)) : AW X nL cells slots ad ce pc lv (.long y :: .long x :: st) := by
  obtain ⟨p, l, e, R, s, m, args, below, meth, c, Q, G⟩ := X
  obtain ⟨hx, hb, hml, hown, hts, hlk, hK, hbs⟩ := C
  intro H locs ls hH hS hl
  exact lv_ldiv hx hb hd hne (k H locs ls hH hS hl)
theorem aw_lrem {X : aw_X} {cc : ByteArray} {nL : Nat} {own : String} (C : aw_ok X cc nL own) {cells slots : Nat} {ad : aw_Ad} {ce : aw_He} {pc : Nat} {lv : List (Nat × Value)} {st : List Value} {x y : Int64} (hd : decode cc pc = .ok (.lrem, 1)) (hne : ¬ y = 0) (k : AW X nL cells slots ad ce (pc + 1) lv (.long (x - x / y * y) :: st)) : AW X nL cells slots ad ce pc lv (.long y :: .long x :: st) := by
  obtain ⟨p, l, e, R, s, m, args, below, meth, c, Q, G⟩ := X
  obtain ⟨hx, hb, hml, hown, hts, hlk, hK, hbs⟩ := C
  intro H locs ls hH hS hl
  exact lv_lrem hx hb hd hne (k H locs ls hH hS hl)
theorem aw_i2l {X : aw_X} {cc : ByteArray} {nL : Nat} {own : String} (C : aw_ok X cc nL own) {cells slots : Nat} {ad : aw_Ad} {ce : aw_He} {pc : Nat} {lv : List (Nat × Value)} {st : List Value} {x : Int32} (hd : decode cc pc = .ok (.i2l, 1))  (k : AW X nL cells slots ad ce (pc + 1) lv (.long x.toInt64 :: st)) : AW X nL cells slots ad ce pc lv (.int x :: st) := by
  obtain ⟨p, l, e, R, s, m, args, below, meth, c, Q, G⟩ := X
  obtain ⟨hx, hb, hml, hown, hts, hlk, hK, hbs⟩ := C
  intro H locs ls hH hS hl
  exact lv_i2l hx hb hd rfl (k H locs ls hH hS hl)
theorem aw_l2i {X : aw_X} {cc : ByteArray} {nL : Nat} {own : String} (C : aw_ok X cc nL own) {cells slots : Nat} {ad : aw_Ad} {ce : aw_He} {pc : Nat} {lv : List (Nat × Value)} {st : List Value} {x : Int64} (hd : decode cc pc = .ok (.l2i, 1))  (k : AW X nL cells slots ad ce (pc + 1) lv (.int x.toInt32 :: st)) : AW X nL cells slots ad ce pc lv (.long x :: st) := by
  obtain ⟨p, l, e, R, s, m, args, below, meth, c, Q, G⟩ := X
  obtain ⟨hx, hb, hml, hown, hts, hlk, hK, hbs⟩ := C
  intro H locs ls hH hS hl
  exact lv_l2i hx hb hd rfl (k H locs ls hH hS hl)
theorem aw_iushr {X : aw_X} {cc : ByteArray} {nL : Nat} {own : String} (C : aw_ok X cc nL own) {cells slots : Nat} {ad : aw_Ad} {ce : aw_He} {pc : Nat} {lv : List (Nat × Value)} {st : List Value} {x y : Int32} (hd : decode cc pc = .ok (.iushr, 1))  (k : AW X nL cells slots ad ce (pc + 1) lv (.int (x.toUInt32 >>> (y.toUInt32 &&& Int32.toUInt32 31)).toInt32 :: st)) : AW X nL cells slots ad ce pc lv (.int y :: .int x :: st) := by
  obtain ⟨p, l, e, R, s, m, args, below, meth, c, Q, G⟩ := X
  obtain ⟨hx, hb, hml, hown, hts, hlk, hK, hbs⟩ := C
  intro H locs ls hH hS hl
  exact lv_iushr hx hb hd rfl (k H locs ls hH hS hl)
theorem aw_lushr {X : aw_X} {cc : ByteArray} {nL : Nat} {own : String} (C : aw_ok X cc nL own) {cells slots : Nat} {ad : aw_Ad} {ce : aw_He} {pc : Nat} {lv : List (Nat × Value)} {st : List Value} {x : Int64} {y : Int32} (hd : decode cc pc = .ok (.lushr, 1))  (k : AW X nL cells slots ad ce (pc + 1) lv (.long (x.toUInt64 >>> (y.toInt64.toUInt64 &&& Int64.toUInt64 63)).toInt64 :: st)) : AW X nL cells slots ad ce pc lv (.int y :: .long x :: st) := by
  obtain ⟨p, l, e, R, s, m, args, below, meth, c, Q, G⟩ := X
  obtain ⟨hx, hb, hml, hown, hts, hlk, hK, hbs⟩ := C
  intro H locs ls hH hS hl
  exact lv_lushr hx hb hd rfl (k H locs ls hH hS hl)
theorem aw_lshl {X : aw_X} {cc : ByteArray} {nL : Nat} {own : String} (C : aw_ok X cc nL own) {cells slots : Nat} {ad : aw_Ad} {ce : aw_He} {pc : Nat} {lv : List (Nat × Value)} {st : List Value} {x : Int64} {y : Int32} (hd : decode cc pc = .ok (.lshl, 1))  (k : AW X nL cells slots ad ce (pc + 1) lv (.long (x <<< (y.toInt64 &&& 63)) :: st)) : AW X nL cells slots ad ce pc lv (.int y :: .long x :: st) := by
  obtain ⟨p, l, e, R, s, m, args, below, meth, c, Q, G⟩ := X
  obtain ⟨hx, hb, hml, hown, hts, hlk, hK, hbs⟩ := C
  intro H locs ls hH hS hl
  exact lv_lshl hx hb hd rfl (k H locs ls hH hS hl)
theorem aw_lshr {X : aw_X} {cc : ByteArray} {nL : Nat} {own : String} (C : aw_ok X cc nL own) {cells slots : Nat} {ad : aw_Ad} {ce : aw_He} {pc : Nat} {lv : List (Nat × Value)} {st : List Value} {x : Int64} {y : Int32} (hd : decode cc pc = .ok (.lshr, 1))  (k : AW X nL cells slots ad ce (pc + 1) lv (.long (x >>> (y.toInt64 &&& 63)) :: st)) : AW X nL cells slots ad ce pc lv (.int y :: .long x :: st) := by
  obtain ⟨p, l, e, R, s, m, args, below, meth, c, Q, G⟩ := X
  obtain ⟨hx, hb, hml, hown, hts, hlk, hK, hbs⟩ := C
  intro H locs ls hH hS hl
  exact lv_lshr hx hb hd rfl (k H locs ls hH hS hl)
theorem aw_lcmp {X : aw_X} {cc : ByteArray} {nL : Nat} {own : String} (C : aw_ok X cc nL own) {cells slots : Nat} {ad : aw_Ad} {ce : aw_He} {pc : Nat} {lv : List (Nat × Value)} {st : List Value} {x y : Int64} (hd : decode cc pc = .ok (.lcmp, 1))  (k : AW X nL cells slots ad ce (pc + 1) lv (.int (lg_cmp x y) :: st)) : AW X nL cells slots ad ce pc lv (.long y :: .long x :: st) := by
  obtain ⟨p, l, e, R, s, m, args, below, meth, c, Q, G⟩ := X
  obtain ⟨hx, hb, hml, hown, hts, hlk, hK, hbs⟩ := C
  intro H locs ls hH hS hl
  exact W.lcmp hx hb hd (k H locs ls hH hS hl)
theorem aw_dup {X : aw_X} {cc : ByteArray} {nL : Nat} {own : String} (C : aw_ok X cc nL own) {cells slots : Nat} {ad : aw_Ad} {ce : aw_He} {pc : Nat} {lv : List (Nat × Value)} {st : List Value} {va : Value} (hd : decode cc pc = .ok (.dup, 1)) (h1 : va.category = 1) (k : AW X nL cells slots ad ce (pc + 1) lv (va :: va :: st)) : AW X nL cells slots ad ce pc lv (va :: st) := by
  obtain ⟨p, l, e, R, s, m, args, below, meth, c, Q, G⟩ := X
  obtain ⟨hx, hb, hml, hown, hts, hlk, hK, hbs⟩ := C
  intro H locs ls hH hS hl
  exact lv_dup hx hb hd h1 (k H locs ls hH hS hl)
theorem aw_pop {X : aw_X} {cc : ByteArray} {nL : Nat} {own : String} (C : aw_ok X cc nL own) {cells slots : Nat} {ad : aw_Ad} {ce : aw_He} {pc : Nat} {lv : List (Nat × Value)} {st : List Value} {va : Value} (hd : decode cc pc = .ok (.pop, 1)) (h1 : va.category = 1) (k : AW X nL cells slots ad ce (pc + 1) lv st) : AW X nL cells slots ad ce pc lv (va :: st) := by
  obtain ⟨p, l, e, R, s, m, args, below, meth, c, Q, G⟩ := X
  obtain ⟨hx, hb, hml, hown, hts, hlk, hK, hbs⟩ := C
  intro H locs ls hH hS hl
  exact lv_pop hx hb hd h1 (k H locs ls hH hS hl)
theorem aw_dup_x1 {X : aw_X} {cc : ByteArray} {nL : Nat} {own : String} (C : aw_ok X cc nL own) {cells slots : Nat} {ad : aw_Ad} {ce : aw_He} {pc : Nat} {lv : List (Nat × Value)} {st : List Value} {va vb : Value} (hd : decode cc pc = .ok (.dup_x1, 1)) (h1 : va.category = 1) (h2 : vb.category = 1) (k : AW X nL cells slots ad ce (pc + 1) lv (va :: vb :: va :: st)) : AW X nL cells slots ad ce pc lv (va :: vb :: st) := by
  obtain ⟨p, l, e, R, s, m, args, below, meth, c, Q, G⟩ := X
  obtain ⟨hx, hb, hml, hown, hts, hlk, hK, hbs⟩ := C
  intro H locs ls hH hS hl
  exact lv_dup_x1 hx hb hd h1 h2 (k H locs ls hH hS hl)
theorem aw_dup_x2 {X : aw_X} {cc : ByteArray} {nL : Nat} {own : String} (C : aw_ok X cc nL own) {cells slots : Nat} {ad : aw_Ad} {ce : aw_He} {pc : Nat} {lv : List (Nat × Value)} {st : List Value} {va vb vd : Value} (hd : decode cc pc = .ok (.dup_x2, 1)) (h1 : va.category = 1) (h2 : vb.category = 1) (h3 : vd.category = 1) (k : AW X nL cells slots ad ce (pc + 1) lv (va :: vb :: vd :: va :: st)) : AW X nL cells slots ad ce pc lv (va :: vb :: vd :: st) := by
  obtain ⟨p, l, e, R, s, m, args, below, meth, c, Q, G⟩ := X
  obtain ⟨hx, hb, hml, hown, hts, hlk, hK, hbs⟩ := C
  intro H locs ls hH hS hl
  exact lv_dup_x2 hx hb hd h1 h2 h3 (k H locs ls hH hS hl)
theorem aw_dup2_11 {X : aw_X} {cc : ByteArray} {nL : Nat} {own : String} (C : aw_ok X cc nL own) {cells slots : Nat} {ad : aw_Ad} {ce : aw_He} {pc : Nat} {lv : List (Nat × Value)} {st : List Value} {va vb : Value} (hd : decode cc pc = .ok (.dup2, 1)) (h1 : va.category = 1) (h2 : vb.category = 1) (k : AW X nL cells slots ad ce (pc + 1) lv (va :: vb :: va :: vb :: st)) : AW X nL cells slots ad ce pc lv (va :: vb :: st) := by
  obtain ⟨p, l, e, R, s, m, args, below, meth, c, Q, G⟩ := X
  obtain ⟨hx, hb, hml, hown, hts, hlk, hK, hbs⟩ := C
  intro H locs ls hH hS hl
  exact lv_dup2_11 hx hb hd h1 h2 (k H locs ls hH hS hl)
theorem aw_dup2_2 {X : aw_X} {cc : ByteArray} {nL : Nat} {own : String} (C : aw_ok X cc nL own) {cells slots : Nat} {ad : aw_Ad} {ce : aw_He} {pc : Nat} {lv : List (Nat × Value)} {st : List Value} {va : Value} (hd : decode cc pc = .ok (.dup2, 1)) (h1 : va.category = 2) (k : AW X nL cells slots ad ce (pc + 1) lv (va :: va :: st)) : AW X nL cells slots ad ce pc lv (va :: st) := by
  obtain ⟨p, l, e, R, s, m, args, below, meth, c, Q, G⟩ := X
  obtain ⟨hx, hb, hml, hown, hts, hlk, hK, hbs⟩ := C
  intro H locs ls hH hS hl
  exact lv_dup2_2 hx hb hd h1 (k H locs ls hH hS hl)
theorem aw_pop2_2 {X : aw_X} {cc : ByteArray} {nL : Nat} {own : String} (C : aw_ok X cc nL own) {cells slots : Nat} {ad : aw_Ad} {ce : aw_He} {pc : Nat} {lv : List (Nat × Value)} {st : List Value} {va : Value} (hd : decode cc pc = .ok (.pop2, 1)) (h1 : va.category = 2) (k : AW X nL cells slots ad ce (pc + 1) lv st) : AW X nL cells slots ad ce pc lv (va :: st) := by
  obtain ⟨p, l, e, R, s, m, args, below, meth, c, Q, G⟩ := X
  obtain ⟨hx, hb, hml, hown, hts, hlk, hK, hbs⟩ := C
  intro H locs ls hH hS hl
  exact lv_pop2_2 hx hb hd h1 (k H locs ls hH hS hl)
theorem aw_if_eq {X : aw_X} {cc : ByteArray} {nL : Nat} {own : String} (C : aw_ok X cc nL own) {cells slots : Nat} {ad : aw_Ad} {ce : aw_He} {pc : Nat} {lv : List (Nat × Value)} {st : List Value} {x : Int32} {off : Int} {tgt : Nat} (hd : decode cc pc = .ok (.ifCond .eq off, 3)) (ht : (pc : Int) + off = (tgt : Int)) (kt : x = 0 → AW X nL cells slots ad ce tgt lv st) (kf : ¬ x = 0 → AW X nL cells slots ad ce (pc + 3) lv st) : AW X nL cells slots ad ce pc lv (.int x :: st) := by
  obtain ⟨p, l, e, R, s, m, args, below, meth, c, Q, G⟩ := X
  obtain ⟨hx, hb, hml, hown, hts, hlk, hK, hbs⟩ := C
  intro H locs ls hH hS hl
  exact lv_if_eq hx hb hd ht (fun q => kt q H locs ls hH hS hl) (fun q => kf q H locs ls hH hS hl)
theorem aw_icmp_eq {X : aw_X} {cc : ByteArray} {nL : Nat} {own : String} (C : aw_ok X cc nL own) {cells slots : Nat} {ad : aw_Ad} {ce : aw_He} {pc : Nat} {lv : List (Nat × Value)} {st : List Value} {x y : Int32} {off : Int} {tgt : Nat} (hd : decode cc pc = .ok (.if_icmp .eq off, 3)) (ht : (pc : Int) + off = (tgt : Int)) (kt : x = y → AW X nL cells slots ad ce tgt lv st) (kf : ¬ x = y → AW X nL cells slots ad ce (pc + 3) lv st) : AW X nL cells slots ad ce pc lv (.int y :: .int x :: st) := by
  obtain ⟨p, l, e, R, s, m, args, below, meth, c, Q, G⟩ := X
  obtain ⟨hx, hb, hml, hown, hts, hlk, hK, hbs⟩ := C
  intro H locs ls hH hS hl
  exact lv_icmp_eq hx hb hd ht (fun q => kt q H locs ls hH hS hl) (fun q => kf q H locs ls hH hS hl)
theorem aw_if_ne {X : aw_X} {cc : ByteArray} {nL : Nat} {own : String} (C : aw_ok X cc nL own) {cells slots : Nat} {ad : aw_Ad} {ce : aw_He} {pc : Nat} {lv : List (Nat × Value)} {st : List Value} {x : Int32} {off : Int} {tgt : Nat} (hd : decode cc pc = .ok (.ifCond .ne off, 3)) (ht : (pc : Int) + off = (tgt : Int)) (kt : ¬ x = 0 → AW X nL cells slots ad ce tgt lv st) (kf : x = 0 → AW X nL cells slots ad ce (pc + 3) lv st) : AW X nL cells slots ad ce pc lv (.int x :: st) := by
  obtain ⟨p, l, e, R, s, m, args, below, meth, c, Q, G⟩ := X
  obtain ⟨hx, hb, hml, hown, hts, hlk, hK, hbs⟩ := C
  intro H locs ls hH hS hl
  exact lv_if_ne hx hb hd ht (fun q => kt q H locs ls hH hS hl) (fun q => kf q H locs ls hH hS hl)
theorem aw_icmp_ne {X : aw_X} {cc : ByteArray} {nL : Nat} {own : String} (C : aw_ok X cc nL own) {cells slots : Nat} {ad : aw_Ad} {ce : aw_He} {pc : Nat} {lv : List (Nat × Value)} {st : List Value} {x y : Int32} {off : Int} {tgt : Nat} (hd : decode cc pc = .ok (.if_icmp .ne off, 3)) (ht : (pc : Int) + off = (tgt : Int)) (kt : ¬ x = y → AW X nL cells slots ad ce tgt lv st) (kf : x = y → AW X nL cells slots ad ce (pc + 3) lv st) : AW X nL cells slots ad ce pc lv (.int y :: .int x :: st) := by
  obtain ⟨p, l, e, R, s, m, args, below, meth, c, Q, G⟩ := X
  obtain ⟨hx, hb, hml, hown, hts, hlk, hK, hbs⟩ := C
  intro H locs ls hH hS hl
  exact lv_icmp_ne hx hb hd ht (fun q => kt q H locs ls hH hS hl) (fun q => kf q H locs ls hH hS hl)
theorem aw_if_lt {X : aw_X} {cc : ByteArray} {nL : Nat} {own : String} (C : aw_ok X cc nL own) {cells slots : Nat} {ad : aw_Ad} {ce : aw_He} {pc : Nat} {lv : List (Nat × Value)} {st : List Value} {x : Int32} {off : Int} {tgt : Nat} (hd : decode cc pc = .ok (.ifCond .lt off, 3)) (ht : (pc : Int) + off = (tgt : Int)) (kt : x < 0 → AW X nL cells slots ad ce tgt lv st) (kf : ¬ x < 0 → AW X nL cells slots ad ce (pc + 3) lv st) : AW X nL cells slots ad ce pc lv (.int x :: st) := by
  obtain ⟨p, l, e, R, s, m, args, below, meth, c, Q, G⟩ := X
  obtain ⟨hx, hb, hml, hown, hts, hlk, hK, hbs⟩ := C
  intro H locs ls hH hS hl
  exact lv_if_lt hx hb hd ht (fun q => kt q H locs ls hH hS hl) (fun q => kf q H locs ls hH hS hl)
theorem aw_icmp_lt {X : aw_X} {cc : ByteArray} {nL : Nat} {own : String} (C : aw_ok X cc nL own) {cells slots : Nat} {ad : aw_Ad} {ce : aw_He} {pc : Nat} {lv : List (Nat × Value)} {st : List Value} {x y : Int32} {off : Int} {tgt : Nat} (hd : decode cc pc = .ok (.if_icmp .lt off, 3)) (ht : (pc : Int) + off = (tgt : Int)) (kt : x < y → AW X nL cells slots ad ce tgt lv st) (kf : ¬ x < y → AW X nL cells slots ad ce (pc + 3) lv st) : AW X nL cells slots ad ce pc lv (.int y :: .int x :: st) := by
  obtain ⟨p, l, e, R, s, m, args, below, meth, c, Q, G⟩ := X
  obtain ⟨hx, hb, hml, hown, hts, hlk, hK, hbs⟩ := C
  intro H locs ls hH hS hl
  exact lv_icmp_lt hx hb hd ht (fun q => kt q H locs ls hH hS hl) (fun q => kf q H locs ls hH hS hl)
theorem aw_if_ge {X : aw_X} {cc : ByteArray} {nL : Nat} {own : String} (C : aw_ok X cc nL own) {cells slots : Nat} {ad : aw_Ad} {ce : aw_He} {pc : Nat} {lv : List (Nat × Value)} {st : List Value} {x : Int32} {off : Int} {tgt : Nat} (hd : decode cc pc = .ok (.ifCond .ge off, 3)) (ht : (pc : Int) + off = (tgt : Int)) (kt : 0 ≤ x → AW X nL cells slots ad ce tgt lv st) (kf : ¬ 0 ≤ x → AW X nL cells slots ad ce (pc + 3) lv st) : AW X nL cells slots ad ce pc lv (.int x :: st) := by
  obtain ⟨p, l, e, R, s, m, args, below, meth, c, Q, G⟩ := X
  obtain ⟨hx, hb, hml, hown, hts, hlk, hK, hbs⟩ := C
  intro H locs ls hH hS hl
  exact lv_if_ge hx hb hd ht (fun q => kt q H locs ls hH hS hl) (fun q => kf q H locs ls hH hS hl)
theorem aw_icmp_ge {X : aw_X} {cc : ByteArray} {nL : Nat} {own : String} (C : aw_ok X cc nL own) {cells slots : Nat} {ad : aw_Ad} {ce : aw_He} {pc : Nat} {lv : List (Nat × Value)} {st : List Value} {x y : Int32} {off : Int} {tgt : Nat} (hd : decode cc pc = .ok (.if_icmp .ge off, 3)) (ht : (pc : Int) + off = (tgt : Int)) (kt : y ≤ x → AW X nL cells slots ad ce tgt lv st) (kf : ¬ y ≤ x → AW X nL cells slots ad ce (pc + 3) lv st) : AW X nL cells slots ad ce pc lv (.int y :: .int x :: st) := by
  obtain ⟨p, l, e, R, s, m, args, below, meth, c, Q, G⟩ := X
  obtain ⟨hx, hb, hml, hown, hts, hlk, hK, hbs⟩ := C
  intro H locs ls hH hS hl
  exact lv_icmp_ge hx hb hd ht (fun q => kt q H locs ls hH hS hl) (fun q => kf q H locs ls hH hS hl)
theorem aw_if_gt {X : aw_X} {cc : ByteArray} {nL : Nat} {own : String} (C : aw_ok X cc nL own) {cells slots : Nat} {ad : aw_Ad} {ce : aw_He} {pc : Nat} {lv : List (Nat × Value)} {st : List Value} {x : Int32} {off : Int} {tgt : Nat} (hd : decode cc pc = .ok (.ifCond .gt off, 3)) (ht : (pc : Int) + off = (tgt : Int)) (kt : 0 < x → AW X nL cells slots ad ce tgt lv st) (kf : ¬ 0 < x → AW X nL cells slots ad ce (pc + 3) lv st) : AW X nL cells slots ad ce pc lv (.int x :: st) := by
  obtain ⟨p, l, e, R, s, m, args, below, meth, c, Q, G⟩ := X
  obtain ⟨hx, hb, hml, hown, hts, hlk, hK, hbs⟩ := C
  intro H locs ls hH hS hl
  exact lv_if_gt hx hb hd ht (fun q => kt q H locs ls hH hS hl) (fun q => kf q H locs ls hH hS hl)
theorem aw_icmp_gt {X : aw_X} {cc : ByteArray} {nL : Nat} {own : String} (C : aw_ok X cc nL own) {cells slots : Nat} {ad : aw_Ad} {ce : aw_He} {pc : Nat} {lv : List (Nat × Value)} {st : List Value} {x y : Int32} {off : Int} {tgt : Nat} (hd : decode cc pc = .ok (.if_icmp .gt off, 3)) (ht : (pc : Int) + off = (tgt : Int)) (kt : y < x → AW X nL cells slots ad ce tgt lv st) (kf : ¬ y < x → AW X nL cells slots ad ce (pc + 3) lv st) : AW X nL cells slots ad ce pc lv (.int y :: .int x :: st) := by
  obtain ⟨p, l, e, R, s, m, args, below, meth, c, Q, G⟩ := X
  obtain ⟨hx, hb, hml, hown, hts, hlk, hK, hbs⟩ := C
  intro H locs ls hH hS hl
  exact lv_icmp_gt hx hb hd ht (fun q => kt q H locs ls hH hS hl) (fun q => kf q H locs ls hH hS hl)
theorem aw_if_le {X : aw_X} {cc : ByteArray} {nL : Nat} {own : String} (C : aw_ok X cc nL own) {cells slots : Nat} {ad : aw_Ad} {ce : aw_He} {pc : Nat} {lv : List (Nat × Value)} {st : List Value} {x : Int32} {off : Int} {tgt : Nat} (hd : decode cc pc = .ok (.ifCond .le off, 3)) (ht : (pc : Int) + off = (tgt : Int)) (kt : x ≤ 0 → AW X nL cells slots ad ce tgt lv st) (kf : ¬ x ≤ 0 → AW X nL cells slots ad ce (pc + 3) lv st) : AW X nL cells slots ad ce pc lv (.int x :: st) := by
  obtain ⟨p, l, e, R, s, m, args, below, meth, c, Q, G⟩ := X
  obtain ⟨hx, hb, hml, hown, hts, hlk, hK, hbs⟩ := C
  intro H locs ls hH hS hl
  exact lv_if_le hx hb hd ht (fun q => kt q H locs ls hH hS hl) (fun q => kf q H locs ls hH hS hl)
theorem aw_icmp_le {X : aw_X} {cc : ByteArray} {nL : Nat} {own : String} (C : aw_ok X cc nL own) {cells slots : Nat} {ad : aw_Ad} {ce : aw_He} {pc : Nat} {lv : List (Nat × Value)} {st : List Value} {x y : Int32} {off : Int} {tgt : Nat} (hd : decode cc pc = .ok (.if_icmp .le off, 3)) (ht : (pc : Int) + off = (tgt : Int)) (kt : x ≤ y → AW X nL cells slots ad ce tgt lv st) (kf : ¬ x ≤ y → AW X nL cells slots ad ce (pc + 3) lv st) : AW X nL cells slots ad ce pc lv (.int y :: .int x :: st) := by
  obtain ⟨p, l, e, R, s, m, args, below, meth, c, Q, G⟩ := X
  obtain ⟨hx, hb, hml, hown, hts, hlk, hK, hbs⟩ := C
  intro H locs ls hH hS hl
  exact lv_icmp_le hx hb hd ht (fun q => kt q H locs ls hH hS hl) (fun q => kf q H locs ls hH hS hl)
theorem aw_goto {X : aw_X} {cc : ByteArray} {nL : Nat} {own : String} (C : aw_ok X cc nL own) {cells slots : Nat} {ad : aw_Ad} {ce : aw_He} {pc : Nat} {lv : List (Nat × Value)} {st : List Value} {off : Int} {tgt : Nat} (hd : decode cc pc = .ok (.goto off, 3)) (ht : (pc : Int) + off = (tgt : Int)) (k : AW X nL cells slots ad ce tgt lv st) : AW X nL cells slots ad ce pc lv st := by
  obtain ⟨p, l, e, R, s, m, args, below, meth, c, Q, G⟩ := X
  obtain ⟨hx, hb, hml, hown, hts, hlk, hK, hbs⟩ := C
  intro H locs ls hH hS hl
  exact lv_goto hx hb hd ht (k H locs ls hH hS hl)
theorem aw_ifnonnull {X : aw_X} {cc : ByteArray} {nL : Nat} {own : String} (C : aw_ok X cc nL own) {cells slots : Nat} {ad : aw_Ad} {ce : aw_He} {pc : Nat} {lv : List (Nat × Value)} {st : List Value} {x : Nat} {off : Int} {tgt : Nat} (hd : decode cc pc = .ok (.ifnonnull off, 3)) (ht : (pc : Int) + off = (tgt : Int)) (k : AW X nL cells slots ad ce tgt lv st) : AW X nL cells slots ad ce pc lv (.ref x :: st) := by
  obtain ⟨p, l, e, R, s, m, args, below, meth, c, Q, G⟩ := X
  obtain ⟨hx, hb, hml, hown, hts, hlk, hK, hbs⟩ := C
  intro H locs ls hH hS hl
  exact lv_ifnonnull hx hb hd ht (k H locs ls hH hS hl)
theorem aw_ifnull {X : aw_X} {cc : ByteArray} {nL : Nat} {own : String} (C : aw_ok X cc nL own) {cells slots : Nat} {ad : aw_Ad} {ce : aw_He} {pc : Nat} {lv : List (Nat × Value)} {st : List Value} {x : Nat} {off : Int} (hd : decode cc pc = .ok (.ifnull off, 3)) (k : AW X nL cells slots ad ce (pc + 3) lv st) : AW X nL cells slots ad ce pc lv (.ref x :: st) := by
  obtain ⟨p, l, e, R, s, m, args, below, meth, c, Q, G⟩ := X
  obtain ⟨hx, hb, hml, hown, hts, hlk, hK, hbs⟩ := C
  intro H locs ls hH hS hl
  exact lv_ifnull hx hb hd (k H locs ls hH hS hl)
theorem aw_ifnullN {X : aw_X} {cc : ByteArray} {nL : Nat} {own : String} (C : aw_ok X cc nL own) {cells slots : Nat} {ad : aw_Ad} {ce : aw_He} {pc : Nat} {lv : List (Nat × Value)} {st : List Value} {off : Int} {tgt : Nat} (hd : decode cc pc = .ok (.ifnull off, 3)) (ht : (pc : Int) + off = (tgt : Int)) (k : AW X nL cells slots ad ce tgt lv st) : AW X nL cells slots ad ce pc lv (.null :: st) := by
  obtain ⟨p, l, e, R, s, m, args, below, meth, c, Q, G⟩ := X
  obtain ⟨hx, hb, hml, hown, hts, hlk, hK, hbs⟩ := C
  intro H locs ls hH hS hl
  exact lv_ifnullN hx hb hd ht (k H locs ls hH hS hl)
theorem aw_ifnonnullN {X : aw_X} {cc : ByteArray} {nL : Nat} {own : String} (C : aw_ok X cc nL own) {cells slots : Nat} {ad : aw_Ad} {ce : aw_He} {pc : Nat} {lv : List (Nat × Value)} {st : List Value} {off : Int} (hd : decode cc pc = .ok (.ifnonnull off, 3)) (k : AW X nL cells slots ad ce (pc + 3) lv st) : AW X nL cells slots ad ce pc lv (.null :: st) := by
  obtain ⟨p, l, e, R, s, m, args, below, meth, c, Q, G⟩ := X
  obtain ⟨hx, hb, hml, hown, hts, hlk, hK, hbs⟩ := C
  intro H locs ls hH hS hl
  exact lv_ifnonnullN hx hb hd (k H locs ls hH hS hl)
theorem aw_lookup {X : aw_X} {cc : ByteArray} {nL : Nat} {own : String} (C : aw_ok X cc nL own) {cells slots : Nat} {ad : aw_Ad} {ce : aw_He} {pc : Nat} {lv : List (Nat × Value)} {st : List Value} {dflt : Int} {ps : Array (Int × Int)} {len : Nat} {x : Int32} {off : Int} {tgt : Nat} (hd : decode cc pc = .ok (.lookupswitch dflt ps, len)) (hp : (ps.toList.zip (ps.toList.drop 1)).all (fun (a, next) => a.1 < next.1) = true) (ho : Op.lookupswitch.offset ps.toList dflt x.toInt = off) (ht : (pc : Int) + off = (tgt : Int)) (k : AW X nL cells slots ad ce tgt lv st) : AW X nL cells slots ad ce pc lv (.int x :: st) := by
  obtain ⟨p, l, e, R, s, m, args, below, meth, c, Q, G⟩ := X
  obtain ⟨hx, hb, hml, hown, hts, hlk, hK, hbs⟩ := C
  intro H locs ls hH hS hl
  exact lv_lookup hx hb hd hp ho ht (k H locs ls hH hS hl)
theorem aw_tableOut {X : aw_X} {cc : ByteArray} {nL : Nat} {own : String} (C : aw_ok X cc nL own) {cells slots : Nat} {ad : aw_Ad} {ce : aw_He} {pc : Nat} {lv : List (Nat × Value)} {st : List Value} {dflt lo hi : Int} {offs : Array Int} {len : Nat} {x : Int32} {tgt : Nat} (hd : decode cc pc = .ok (.tableswitch dflt lo hi offs, len)) (h : x.toInt < lo ∨ hi < x.toInt) (ht : (pc : Int) + dflt = (tgt : Int)) (k : AW X nL cells slots ad ce tgt lv st) : AW X nL cells slots ad ce pc lv (.int x :: st) := by
  obtain ⟨p, l, e, R, s, m, args, below, meth, c, Q, G⟩ := X
  obtain ⟨hx, hb, hml, hown, hts, hlk, hK, hbs⟩ := C
  intro H locs ls hH hS hl
  exact lv_tableOut hx hb hd h ht (k H locs ls hH hS hl)
theorem aw_tableIn {X : aw_X} {cc : ByteArray} {nL : Nat} {own : String} (C : aw_ok X cc nL own) {cells slots : Nat} {ad : aw_Ad} {ce : aw_He} {pc : Nat} {lv : List (Nat × Value)} {st : List Value} {dflt lo hi : Int} {offs : Array Int} {len : Nat} {x : Int32} {off : Int} {tgt : Nat} (hd : decode cc pc = .ok (.tableswitch dflt lo hi offs, len)) (h1 : ¬ x.toInt < lo) (h2 : ¬ hi < x.toInt) (ho : offs[(x.toInt - lo).toNat]? = some off) (ht : (pc : Int) + off = (tgt : Int)) (k : AW X nL cells slots ad ce tgt lv st) : AW X nL cells slots ad ce pc lv (.int x :: st) := by
  obtain ⟨p, l, e, R, s, m, args, below, meth, c, Q, G⟩ := X
  obtain ⟨hx, hb, hml, hown, hts, hlk, hK, hbs⟩ := C
  intro H locs ls hH hS hl
  exact lv_tableIn hx hb hd h1 h2 ho ht (k H locs ls hH hS hl)
end
section
/-- what the tables say of a class -/
def aw_cls (ci : Nat) (Cn : String) (T : u_T) (N : Nat) (ty : Nat → FieldType) : Prop := aw_cl[ci]? = some (Cn, T, N) ∧ (∀ w ∈ u_ws Cn T N, w ∈ aw_tb) ∧ (∀ k, k < N → parseFieldDescriptor (T k).2.2.1 = some (ty k)) ∧ ∀ a, a < N → ∀ b, b < N → a ≠ b → (T a).2.1 ≠ (T b).2.1
section AWheap
variable {X : aw_X} {cc : ByteArray} {nL : Nat} {own : String} {cells slots : Nat} {ad : aw_Ad} {ce : aw_He} {pc : Nat} {lv : List (Nat × Value)} {st : List Value} {idx : Nat} {k : aw_Lb} {ci : Nat} {Cn : String} {T : u_T} {N : Nat} {ty : Nat → FieldType} {fs : List Value}
theorem aw_get (C : aw_ok X cc nL own) (F : aw_cls ci Cn T N ty) (hk : ce k = some (.inr (ci, fs))) (i : Nat) (hi : i < N) (hlink : Cond.fieldLink own idx (T i).1 (T i).2.1 (T i).2.2.1 ∈ aw_tb) {v : Value} (hv : fs[i]? = some v) (hd : decode cc pc = .ok (.getfield idx, 3)) (kk : AW X nL cells slots ad ce (pc + 3) lv (v :: st)) : AW X nL cells slots ad ce pc lv (.ref (ad k) :: st) := by
  obtain ⟨p, l, e, R, s, m, args, below, meth, c, Q, G⟩ := X
  obtain ⟨hx, hb, hml, hown, hts, hlk, hK, hbs⟩ := C
  obtain ⟨f1, f2, f3, f4⟩ := F
  intro H locs ls hH hS hl
  exact va_get (D := G.1) (ci := ci) (T := T) (N := N) hx hb hts f2 hown hK.1 (hH.P hk) 0 rfl f1 i hi (hts _ hlink) (fun _ h => h) hv hd (kk H locs ls hH hS hl)
theorem aw_put (C : aw_ok X cc nL own) (F : aw_cls ci Cn T N ty) (hk : ce k = some (.inr (ci, fs))) (i : Nat) (hi : i < N) (hlink : Cond.fieldLink own idx (T i).1 (T i).2.1 (T i).2.2.1 ∈ aw_tb) (hfin : (T i).2.2.2 = false) {v : Value} (hn : narrow (ty i) v = v) (hfit : fits (ty i) v = true) (hlt : i < fs.length) (hd : decode cc pc = .ok (.putfield idx, 3)) (kk : AW X nL cells slots ad (aw_up ce k (some (.inr (ci, fs.set i v)))) (pc + 3) lv st) : AW X nL cells slots ad ce pc lv (v :: .ref (ad k) :: st) := by
  obtain ⟨p, l, e, R, s, m, args, below, meth, c, Q, G⟩ := X
  obtain ⟨hx, hb, hml, hown, hts, hlk, hK, hbs⟩ := C
  obtain ⟨f1, f2, f3, f4⟩ := F
  intro H locs ls hH hS hl
  have hap := va_apart (own := own) hts f2 ty f3 f4 hK.1 f1
  obtain ⟨r, h1, cell, q1, q2, q3, q4⟩ := (hH.1 k _ hk).1
  have hr : r = (Cn, T, N) := Option.some.inj (h1.symm.trans f1)
  subst hr
  obtain ⟨hS1, hfc, kC, hkC, hkind⟩ := hK.1.1 ci _ f1
  obtain ⟨cf, kf, fi, f, hi2, hsl⟩ := hS1 i hi
  have hlay := hts _ (f2 _ (u_in_lay hi))
  unfold u_lay at hlay
  rw [if_neg (by rw [hfin]; decide)] at hlay
  have hst := (u_facts hfc hkC (u_lays hts f2 hi) hi2).1
  have h6 := u_store hfc hkC hkind hlay hi2 (f3 i hi) hn hfit
  refine W.putK hx hb (f := f) ⟨hown, hts _ hlink, ⟨_, _, _, hi2⟩, hst⟩ (by rw [q2]; exact h6) q1 q3 (by rw [hsl]; exact k2_hasslot (q4 i hi)) rfl rfl hd fun H' e1 e2 e3 => ?_
  rw [hsl] at e1 ⊢
  exact kk H' _ ls (hH.set hk ⟨_, f1, t_OB.to (V := updV (vp_V fs) i v) ⟨_, e1, q2, q3, t_set q4 hap hi v⟩ (fun j _ => vp_updV_set hlt v j)⟩ e3) (hS.put e2 e3 (hH.1 k _ hk).2) hl
theorem aw_putF (C : aw_ok X cc nL own) {nm : String} {ret : Option FieldType} {mc ms : Nat} {P : Option Value → aw_Ad → aw_He → Prop} (E : aw_me X nm ret mc ms P) (hnm : nm = "<init>") (F : aw_cls ci Cn T N ty) (hk : ce k = some (.inr (ci, fs))) (i : Nat) (hi : i < N) (hlink : Cond.fieldLink own idx (T i).1 (T i).2.1 (T i).2.2.1 ∈ aw_tb) (hfin : (T i).2.2.2 = true) (hdecl : (T i).1 = own) {v : Value} (hn : narrow (ty i) v = v) (hfit : fits (ty i) v = true) (hlt : i < fs.length) (hd : decode cc pc = .ok (.putfield idx, 3)) (kk : AW X nL cells slots ad (aw_up ce k (some (.inr (ci, fs.set i v)))) (pc + 3) lv st) : AW X nL cells slots ad ce pc lv (v :: .ref (ad k) :: st) := by
  obtain ⟨p, l, e, R, s, m, args, below, meth, c, Q, G⟩ := X
  obtain ⟨hx, hb, hml, hown, hts, hlk, hK, hbs⟩ := C
  obtain ⟨f1, f2, f3, f4⟩ := F
  intro H locs ls hH hS hl
  have hin2 : meth.name = "<init>" := E.1.trans hnm
  have hap := va_apart (own := own) hts f2 ty f3 f4 hK.1 f1
  obtain ⟨r, h1, cell, q1, q2, q3, q4⟩ := (hH.1 k _ hk).1
  have hr : r = (Cn, T, N) := Option.some.inj (h1.symm.trans f1)
  subst hr
  obtain ⟨hS1, hfc, kC, hkC, hkind⟩ := hK.1.1 ci _ f1
  obtain ⟨cf, kf, fi, f, hi2, hsl⟩ := hS1 i hi
  have hlay := hts _ (f2 _ (u_in_lay hi))
  unfold u_lay at hlay
  rw [if_pos hfin] at hlay
  have hst := (u_facts hfc hkC (u_lays hts f2 hi) hi2).1
  have hcf : m.cls = cf := by
    obtain ⟨_, _, c', _, _, _, -, -, hf', -, -, -, hown2, -⟩ := Cond.laysFinal_spec hlay
    have e1 : c' = cf := by have := hi2.symm.trans hf'; simp at this; exact this.1.symm
    rw [hdecl] at hown2
    rw [← e1]; exact Option.some.inj (hown.symm.trans hown2)
  have h6 := u_fits hfc hkC hkind (Or.inr hlay) hi2 (f3 i hi) hn hfit
  refine W.putFinK hx hb hown (hts _ hlink) hi2 hst hcf hin2 (by rw [q2]; exact h6) q1 q3 (by rw [hsl]; exact k2_hasslot (q4 i hi)) rfl rfl hd fun H' e1 e2 e3 => ?_
  rw [hsl] at e1 ⊢
  exact kk H' _ ls (hH.set hk ⟨_, f1, t_OB.to (V := updV (vp_V fs) i v) ⟨_, e1, q2, q3, t_set q4 hap hi v⟩ (fun j _ => vp_updV_set hlt v j)⟩ e3) (hS.put e2 e3 (hH.1 k _ hk).2) hl
theorem aw_new (C : aw_ok X cc nL own) {l0 : Launch} {G0 : aw_G} {R0 : Room} (I : aw_in X l0 G0 R0) (F : aw_cls ci Cn T N ty) (k : aw_Lb) (hk : ce k = none) (h1 : Cond.classLink own idx Cn ∈ aw_tb) (h2 : Cond.instantiable Cn N ∈ aw_tb) (h3 : Cond.initialized Cn ∈ aw_tb) (hfs : ∀ j, j < N → defaultValue (ty j) = vp_V fs j) (hf : cells + 1 ≤ R0.cells ∧ slots + N ≤ R0.slots) (hd : decode cc pc = .ok (.new idx, 3))
    (kk : ∀ ad' : aw_Ad, (∀ j, j ≠ k → ad' j = ad j) → AW X nL (cells + 1) (slots + N) ad' (aw_up ce k (some (.inr (ci, fs)))) (pc + 3) lv (.ref (ad' k) :: st)) : AW X nL cells slots ad ce pc lv st := by
  obtain ⟨p, l, e, R, s, m, args, below, meth, c, Q, G⟩ := X
  obtain ⟨hx, hb, hml, hown, hts, hlk, hK, hbs⟩ := C
  obtain ⟨rfl, rfl, rfl⟩ := I
  obtain ⟨f1, f2, f3, f4⟩ := F
  intro H locs ls hH hS hl
  have hKn := hK.1.1 ci _ f1
  refine W.newcK hx hb hown (hts _ h1) (hts _ h2) (hts _ h3) rfl hd hf.1 hf.2 hKn.2.1 rfl fun H1 kC hkC e1 z1 o1 => ?_
  have hw := kk (aw_up ad k H.size) (fun j hj => aw_up_ne _ _ hj)
  rw [aw_up_self] at hw
  exact hw H1 locs ls (hH.new hk (Nat.le_trans hbs hS.1) ⟨_, f1, (u_born ty hts f2 hKn hkC e1 f3).to hfs⟩ o1) ⟨Nat.le_trans hS.1 (by omega), fun x h1 h2 => (o1 x (Nat.lt_of_lt_of_le h1 hS.1)).trans (hS.2.1 x h1 h2), hS.2.2⟩ hl
theorem aw_newa (C : aw_ok X cc nL own) {l0 : Launch} {G0 : aw_G} {R0 : Room} (I : aw_in X l0 G0 R0) {atype : ArrayType} (t : Nat) (ht : aw_ty[t]? = some (newarray.typeOf atype)) (k : aw_Lb) (hk : ce k = none) (h1 : Cond.arrayClass (newarray.typeOf atype) ∈ aw_tb) {n : Int32} {N' : Nat} {a0 : vp_A} (ha : ∀ cA : ClassId, vp_cell cA a0 = arrV cA N' (fun _ => defaultValue (newarray.typeOf atype))) (hn : n = nI N') (hN : N' ≤ 65536) (hf : cells + 1 ≤ R0.cells ∧ slots + N' ≤ R0.slots) (hd : decode cc pc = .ok (.newarray atype, 2))
    (kk : ∀ ad' : aw_Ad, (∀ j, j ≠ k → ad' j = ad j) → AW X nL (cells + 1) (slots + N') ad' (aw_up ce k (some (.inl (t, a0)))) (pc + 2) lv (.ref (ad' k) :: st)) : AW X nL cells slots ad ce pc lv (.int n :: st) := by
  obtain ⟨p, l, e, R, s, m, args, below, meth, c, Q, G⟩ := X
  obtain ⟨hx, hb, hml, hown, hts, hlk, hK, hbs⟩ := C
  obtain ⟨rfl, rfl, rfl⟩ := I
  intro H locs ls hH hS hl
  subst hn
  have hc0 : (nI N').toNatClampNeg = N' := nI_clamp (by omega)
  have hby : N' * componentBytes (newarray.typeOf atype) ≤ 536870912 := by
    have : componentBytes (newarray.typeOf atype) ≤ 8 := by cases atype <;> decide
    calc N' * componentBytes (newarray.typeOf atype) ≤ 65536 * 8 := Nat.mul_le_mul hN this
      _ ≤ 536870912 := by decide
  refine va_newaK hx hb (hts _ h1) rfl hd rfl (nI_pos (by omega)) hc0 hby hf.1 hf.2 rfl fun H1 cA e1 z1 o1 hAr hNm => ?_
  have hRA : s.vm.findClass ("[" ++ (newarray.typeOf atype).toString) = some (G.2.1 t) := by
    have h := (hK.1.2 t _ (aw_tys_at ht)).2
    cases atype <;> exact h
  have hcA : cA = G.2.1 t := Option.some.inj (hNm.symm.trans hRA)
  subst hcA
  have hw := kk (aw_up ad k H.size) (fun j hj => aw_up_ne _ _ hj)
  rw [aw_up_self] at hw
  refine hw H1 locs ls (hH.new hk (Nat.le_trans hbs hS.1) ?_ o1) ⟨Nat.le_trans hS.1 (by omega), fun x h1 h2 => (o1 x (Nat.lt_of_lt_of_le h1 hS.1)).trans (hS.2.1 x h1 h2), hS.2.2⟩ hl
  show H1[H.size]? = some (vp_cell _ _)
  rw [ha]
  exact e1
theorem aw_newq (C : aw_ok X cc nL own) {l0 : Launch} {G0 : aw_G} {R0 : Room} (I : aw_in X l0 G0 R0) {Cr : String} (t : Nat) (ht : aw_ty[t]? = some (.object Cr)) (k : aw_Lb) (hk : ce k = none) (h1 : Cond.classLink own idx Cr ∈ aw_tb) (h2 : Cr ∈ aw_ao) {n : Int32} {N' : Nat} (hn : n = nI N') (hN : N' ≤ 65536) (hf : cells + 1 ≤ R0.cells ∧ slots + N' ≤ R0.slots) (hd : decode cc pc = .ok (.anewarray idx, 3))
    (kk : ∀ ad' : aw_Ad, (∀ j, j ≠ k → ad' j = ad j) → AW X nL (cells + 1) (slots + N') ad' (aw_up ce k (some (.inl (t, N', .inr (.inr (.inr (.inr (fun _ => none)))))))) (pc + 3) lv (.ref (ad' k) :: st)) : AW X nL cells slots ad ce pc lv (.int n :: st) := by
  obtain ⟨p, l, e, R, s, m, args, below, meth, c, Q, G⟩ := X
  obtain ⟨hx, hb, hml, hown, hts, hlk, hK, hbs⟩ := C
  obtain ⟨rfl, rfl, rfl⟩ := I
  intro H locs ls hH hS hl
  subst hn
  have hc0 : (nI N').toNatClampNeg = N' := nI_clamp (by omega)
  refine W.anew hx hb hown (hts _ h1) (va_AO.use (hK.2.2 _ h2)) rfl hd rfl (nI_pos (by omega)) (by rw [hc0]; omega) hf.1 (by rw [hc0]; exact hf.2) fun cA kA comp f1 f2 f3 f4 => ?_
  rw [hc0]
  generalize hH1 : H.push ({ cls := cA, slots := Array.replicate N' .null, vm := .none } : Cell) = H1
  have z1 : H1.size = H.size + 1 := by rw [← hH1, Array.size_push]
  have e1 : H1[H.size]? = some (arrV cA N' (fun _ => .null)) := by rw [← hH1, Array.getElem?_push_size, ← arrV_new]
  have o1 : ∀ q : Nat, q < H.size → H1[q]? = H[q]? := fun q hq => by rw [← hH1, Array.getElem?_push, if_neg (Nat.ne_of_lt hq)]
  obtain ⟨kA2, comp2, g1, g2, g3, g4⟩ := (hK.1.2 t _ (aw_tys_at ht)).2
  have hcA : cA = G.2.1 t := Option.some.inj (f1.symm.trans g4)
  subst hcA
  have hw := kk (aw_up ad k H.size) (fun j hj => aw_up_ne _ _ hj)
  rw [aw_up_self] at hw
  refine hw H1 locs ls (hH.new hk (Nat.le_trans hbs hS.1) ?_ o1) ⟨Nat.le_trans hS.1 (by omega), fun x h1 h2 => (o1 x (Nat.lt_of_lt_of_le h1 hS.1)).trans (hS.2.1 x h1 h2), hS.2.2⟩ hl
  show H1[H.size]? = some (vp_cell _ _)
  rw [vp_cell_q]
  exact e1
variable {t n j : Nat} {i : Int32}
theorem aw_alen (C : aw_ok X cc nL own) {x : vp_A} (hk : ce k = some (.inl (t, x))) {tt : FieldType} (ht : aw_ty[t]? = some tt) (hd : decode cc pc = .ok (.arraylength, 1)) (kk : AW X nL cells slots ad ce (pc + 1) lv (.int (nI x.1) :: st)) : AW X nL cells slots ad ce pc lv (.ref (ad k) :: st) := by
  obtain ⟨p, l, e, R, s, m, args, below, meth, c, Q, G⟩ := X
  obtain ⟨hx, hb, hml, hown, hts, hlk, hK, hbs⟩ := C
  intro H locs ls hH hS hl
  exact va_alen (cA := G.2.1 t) (x := x) hx hb hK.1 (hH.P hk) 0 t rfl (aw_tys_at ht) rfl hd (kk H locs ls hH hS hl)
theorem aw_iald (C : aw_ok X cc nL own) {f : Nat → Int32} (hk : ce k = some (.inl (t, n, .inl f))) (ht : aw_ty[t]? = some .int) (hi : i = nI j) (hj : j < n) (hn : n < 2 ^ 31) (hd : decode cc pc = .ok (.iaload, 1)) (kk : AW X nL cells slots ad ce (pc + 1) lv (.int (f j) :: st)) : AW X nL cells slots ad ce pc lv (.int i :: .ref (ad k) :: st) := by
  obtain ⟨p, l, e, R, s, m, args, below, meth, c, Q, G⟩ := X
  obtain ⟨hx, hb, hml, hown, hts, hlk, hK, hbs⟩ := C
  intro H locs ls hH hS hl
  subst hi
  refine va_iald (cA := G.2.1 t) (n := n) (f := f) hx hb hK.1 (hH.P hk) 0 t rfl (aw_tys_at ht) (vp_in_nI hj hn) hd ?_
  rw [nI_clamp (Nat.lt_trans hj hn)]
  exact kk H locs ls hH hS hl
theorem aw_zald (C : aw_ok X cc nL own) {f : Nat → Int32} (hk : ce k = some (.inl (t, n, .inl f))) (ht : aw_ty[t]? = some .boolean) (hi : i = nI j) (hj : j < n) (hn : n < 2 ^ 31) (hd : decode cc pc = .ok (.baload, 1)) (kk : AW X nL cells slots ad ce (pc + 1) lv (.int (f j) :: st)) : AW X nL cells slots ad ce pc lv (.int i :: .ref (ad k) :: st) := by
  obtain ⟨p, l, e, R, s, m, args, below, meth, c, Q, G⟩ := X
  obtain ⟨hx, hb, hml, hown, hts, hlk, hK, hbs⟩ := C
  intro H locs ls hH hS hl
  subst hi
  refine va_zald (cA := G.2.1 t) (n := n) (f := f) hx hb hK.1 (hH.P hk) 0 t rfl (aw_tys_at ht) (vp_in_nI hj hn) hd ?_
  rw [nI_clamp (Nat.lt_trans hj hn)]
  exact kk H locs ls hH hS hl
theorem aw_lald (C : aw_ok X cc nL own) {f : Nat → Int64} (hk : ce k = some (.inl (t, n, .inr (.inl f)))) (ht : aw_ty[t]? = some .long) (hi : i = nI j) (hj : j < n) (hn : n < 2 ^ 31) (hd : decode cc pc = .ok (.laload, 1)) (kk : AW X nL cells slots ad ce (pc + 1) lv (.long (f j) :: st)) : AW X nL cells slots ad ce pc lv (.int i :: .ref (ad k) :: st) := by
  obtain ⟨p, l, e, R, s, m, args, below, meth, c, Q, G⟩ := X
  obtain ⟨hx, hb, hml, hown, hts, hlk, hK, hbs⟩ := C
  intro H locs ls hH hS hl
  subst hi
  refine va_lald (cA := G.2.1 t) (n := n) (f := f) hx hb hK.1 (hH.P hk) 0 t rfl (aw_tys_at ht) (vp_in_nI hj hn) hd ?_
  rw [nI_clamp (Nat.lt_trans hj hn)]
  exact kk H locs ls hH hS hl
theorem aw_aald (C : aw_ok X cc nL own) {Cr : String} {f : Nat → Option Nat} (hk : ce k = some (.inl (t, n, .inr (.inr (.inr (.inr f)))))) (ht : aw_ty[t]? = some (.object Cr)) (hi : i = nI j) (hj : j < n) (hn : n < 2 ^ 31) (hd : decode cc pc = .ok (.aaload, 1)) (kk : AW X nL cells slots ad ce (pc + 1) lv (va_rf (f j) :: st)) : AW X nL cells slots ad ce pc lv (.int i :: .ref (ad k) :: st) := by
  obtain ⟨p, l, e, R, s, m, args, below, meth, c, Q, G⟩ := X
  obtain ⟨hx, hb, hml, hown, hts, hlk, hK, hbs⟩ := C
  intro H locs ls hH hS hl
  subst hi
  refine va_aldq (cA := G.2.1 t) (n := n) (f := f) hx hb hK.1 (hH.P hk) 0 t rfl (aw_tys_at ht) (vp_in_nI hj hn) hd ?_
  rw [nI_clamp (Nat.lt_trans hj hn)]
  exact kk H locs ls hH hS hl
theorem aw_iast (C : aw_ok X cc nL own) {f : Nat → Int32} {x : Int32} (hk : ce k = some (.inl (t, n, .inl f))) (ht : aw_ty[t]? = some .int) (hi : i = nI j) (hj : j < n) (hn : n < 2 ^ 31) (hd : decode cc pc = .ok (.iastore, 1)) (kk : AW X nL cells slots ad (aw_up ce k (some (.inl (t, n, .inl (upd f j x))))) (pc + 1) lv st) : AW X nL cells slots ad ce pc lv (.int x :: .int i :: .ref (ad k) :: st) := by
  obtain ⟨p, l, e, R, s, m, args, below, meth, c, Q, G⟩ := X
  obtain ⟨hx, hb, hml, hown, hts, hlk, hK, hbs⟩ := C
  intro H locs ls hH hS hl
  subst hi
  have h0 := hH.1 k _ hk
  refine W.iast hx hb h0.1 ((hK.1.2 t _ (aw_tys_at ht)).1 n (fun j => .int (f j))) (fun q => by cases q) (by show ¬ (nI j < 0 ∨ (arrV _ _ _).slots.size ≤ _); rw [arrV_size]; exact vp_in_nI hj hn) rfl rfl hd fun H1 e z oq => ?_
  refine kk H1 _ ls (hH.set hk ?_ oq) (hS.put z oq h0.2) hl
  show H1[ad k]? = some (vp_cell _ _)
  rw [e]
  show some ((vp_cell _ _).setSlot _ _) = _
  rw [vp_cell_i, vp_cell_i, arrV_store, nI_clamp (Nat.lt_trans hj hn)]
  congr 2
  funext q
  by_cases hq : q = j
  · subst hq
    simp [updV, upd]
  · simp [updV, upd, hq]
theorem aw_zast (C : aw_ok X cc nL own) {f : Nat → Int32} {x v : Int32} (hk : ce k = some (.inl (t, n, .inl f))) (ht : aw_ty[t]? = some .boolean) (hi : i = nI j) (hj : j < n) (hn : n < 2 ^ 31) (hv : vp_nar .boolean x = v) (hd : decode cc pc = .ok (.bastore, 1)) (kk : AW X nL cells slots ad (aw_up ce k (some (.inl (t, n, .inl (upd f j v))))) (pc + 1) lv st) : AW X nL cells slots ad ce pc lv (.int x :: .int i :: .ref (ad k) :: st) := by
  obtain ⟨p, l, e, R, s, m, args, below, meth, c, Q, G⟩ := X
  obtain ⟨hx, hb, hml, hown, hts, hlk, hK, hbs⟩ := C
  intro H locs ls hH hS hl
  subst hi
  subst hv
  have h0 := hH.1 k _ hk
  refine W.zast hx hb h0.1 ((hK.1.2 t _ (aw_tys_at ht)).1 n (fun j => .int (f j))) (fun q => by cases q) (by show ¬ (nI j < 0 ∨ (arrV _ _ _).slots.size ≤ _); rw [arrV_size]; exact vp_in_nI hj hn) rfl rfl hd fun H1 e z oq => ?_
  refine kk H1 _ ls (hH.set hk ?_ oq) (hS.put z oq h0.2) hl
  show H1[ad k]? = some (vp_cell _ _)
  rw [e]
  show some ((vp_cell _ _).setSlot _ _) = _
  rw [vp_cell_i, vp_cell_i, arrV_store, nI_clamp (Nat.lt_trans hj hn)]
  congr 2
  funext q
  by_cases hq : q = j
  · subst hq
    simp [updV, upd, vp_nar]
    try rfl
  · simp [updV, upd, hq]
theorem aw_last (C : aw_ok X cc nL own) {f : Nat → Int64} {x : Int64} (hk : ce k = some (.inl (t, n, .inr (.inl f)))) (ht : aw_ty[t]? = some .long) (hi : i = nI j) (hj : j < n) (hn : n < 2 ^ 31) (hd : decode cc pc = .ok (.lastore, 1)) (kk : AW X nL cells slots ad (aw_up ce k (some (.inl (t, n, .inr (.inl (vp_updL f j x)))))) (pc + 1) lv st) : AW X nL cells slots ad ce pc lv (.long x :: .int i :: .ref (ad k) :: st) := by
  obtain ⟨p, l, e, R, s, m, args, below, meth, c, Q, G⟩ := X
  obtain ⟨hx, hb, hml, hown, hts, hlk, hK, hbs⟩ := C
  intro H locs ls hH hS hl
  subst hi
  have h0 := hH.1 k _ hk
  refine W.last hx hb h0.1 ((hK.1.2 t _ (aw_tys_at ht)).1 n (fun j => .long (f j))) (fun q => by cases q) (by show ¬ (nI j < 0 ∨ (arrV _ _ _).slots.size ≤ _); rw [arrV_size]; exact vp_in_nI hj hn) rfl rfl hd fun H1 e z oq => ?_
  refine kk H1 _ ls (hH.set hk ?_ oq) (hS.put z oq h0.2) hl
  show H1[ad k]? = some (vp_cell _ _)
  rw [e]
  show some ((vp_cell _ _).setSlot _ _) = _
  rw [vp_cell_l, vp_cell_l, arrV_store, nI_clamp (Nat.lt_trans hj hn)]
  congr 2
  funext q
  by_cases hq : q = j
  · subst hq
    simp [updV, vp_updL]
  · simp [updV, vp_updL, hq]
theorem aw_aast (C : aw_ok X cc nL own) {r : vw_C} {kv : aw_Lb} {cv : Nat} {vs : List Value} {f : Nat → Option Nat} (hk : ce k = some (.inl (t, n, .inr (.inr (.inr (.inr f)))))) (ht : aw_ty[t]? = some (.object r.1)) (hkv : ce kv = some (.inr (cv, vs))) (hc : aw_cl[cv]? = some r) (hi : i = nI j) (hj : j < n) (hn : n < 2 ^ 31) (hd : decode cc pc = .ok (.aastore, 1)) (kk : AW X nL cells slots ad (aw_up ce k (some (.inl (t, n, .inr (.inr (.inr (.inr (va_up f j (some (ad kv)))))))))) (pc + 1) lv st) : AW X nL cells slots ad ce pc lv (.ref (ad kv) :: .int i :: .ref (ad k) :: st) := by
  obtain ⟨p, l, e, R, s, m, args, below, meth, c, Q, G⟩ := X
  obtain ⟨hx, hb, hml, hown, hts, hlk, hK, hbs⟩ := C
  intro H locs ls hH hS hl
  subst hi
  have h0 := hH.1 k _ hk
  obtain ⟨r', hr', cellV, g1, g2, g3, -⟩ := (hH.1 kv _ hkv).1
  have hcls := (hK.1.1 cv r hc).2
  obtain ⟨kA, comp, k1, k2, k3, -⟩ := (hK.1.2 t _ (aw_tys_at ht)).2
  have hcomp : comp = G.1.1 cv := Option.some.inj (k3.symm.trans hcls.1)
  subst hcomp
  obtain ⟨kC, hkC, -⟩ := hcls.2
  have hlt : (nI j).toNatClampNeg < n := by rw [nI_clamp (Nat.lt_trans hj hn)]; exact hj
  refine W.aast hx hb h0.1 (fun q h => by cases h) (fun h => by cases h) k1 k2 rfl hkC ⟨nI_pos (Nat.lt_trans hj hn), by show _ < (arrV _ _ _).slots.size; rw [arrV_size]; exact hlt⟩ g1 (fun q h => by rw [g3] at h; cases h) (by rw [g2]; exact hkC) (by rw [g2]; exact va_assign hcls) rfl rfl hd fun H1 e z oq => ?_
  refine kk H1 _ ls (hH.set hk ?_ oq) (hS.put z oq h0.2) hl
  show H1[ad k]? = some (vp_cell _ _)
  rw [e]
  show some ((vp_cell _ _).setSlot _ _) = _
  rw [vp_cell_q, vp_cell_q, arrV_store, nI_clamp (Nat.lt_trans hj hn)]
  congr 2
  funext q
  by_cases hq : q = j
  · subst hq
    simp [updV, va_up, va_rf]
  · simp [updV, va_up, hq]
end AWheap
end
section
theorem d_C_init_0 : decode prog_1_method_1_code 0 = .ok (.aload_n 0, 1) := by decide +kernel
theorem d_C_init_1 : decode prog_1_method_1_code 1 = .ok (.invokespecial 1, 3) := by decide +kernel
theorem d_C_init_4 : decode prog_1_method_1_code 4 = .ok (.aload_n 0, 1) := by decide +kernel
theorem d_C_init_5 : decode prog_1_method_1_code 5 = .ok (.bipush 10, 2) := by decide +kernel
theorem d_C_init_7 : decode prog_1_method_1_code 7 = .ok (.anewarray 9, 3) := by decide +kernel
theorem d_C_init_10 : decode prog_1_method_1_code 10 = .ok (.putfield 11, 3) := by decide +kernel
theorem d_C_init_13 : decode prog_1_method_1_code 13 = .ok (.aload_n 0, 1) := by decide +kernel
theorem d_C_init_14 : decode prog_1_method_1_code 14 = .ok (.iconst 0, 1) := by decide +kernel
theorem d_C_init_15 : decode prog_1_method_1_code 15 = .ok (.putfield 15, 3) := by decide +kernel
theorem d_C_init_18 : decode prog_1_method_1_code 18 = .ok (.aload_n 0, 1) := by decide +kernel
theorem d_C_init_19 : decode prog_1_method_1_code 19 = .ok (.bipush 20, 2) := by decide +kernel
theorem d_C_init_21 : decode prog_1_method_1_code 21 = .ok (.anewarray 19, 3) := by decide +kernel
theorem d_C_init_24 : decode prog_1_method_1_code 24 = .ok (.putfield 21, 3) := by decide +kernel
theorem d_C_init_27 : decode prog_1_method_1_code 27 = .ok (.aload_n 0, 1) := by decide +kernel
theorem d_C_init_28 : decode prog_1_method_1_code 28 = .ok (.iconst 0, 1) := by decide +kernel
theorem d_C_init_29 : decode prog_1_method_1_code 29 = .ok (.putfield 25, 3) := by decide +kernel
theorem d_C_init_32 : decode prog_1_method_1_code 32 = .ok (.aload_n 0, 1) := by decide +kernel
theorem d_C_init_33 : decode prog_1_method_1_code 33 = .ok (.bipush 20, 2) := by decide +kernel
theorem d_C_init_35 : decode prog_1_method_1_code 35 = .ok (.newarray .long, 2) := by decide +kernel
theorem d_C_init_37 : decode prog_1_method_1_code 37 = .ok (.putfield 28, 3) := by decide +kernel
theorem d_C_init_40 : decode prog_1_method_1_code 40 = .ok (.aload_n 0, 1) := by decide +kernel
theorem d_C_init_41 : decode prog_1_method_1_code 41 = .ok (.iconst 0, 1) := by decide +kernel
theorem d_C_init_42 : decode prog_1_method_1_code 42 = .ok (.putfield 32, 3) := by decide +kernel
theorem d_C_init_45 : decode prog_1_method_1_code 45 = .ok (.aload_n 0, 1) := by decide +kernel
theorem d_C_init_46 : decode prog_1_method_1_code 46 = .ok (.bipush 10, 2) := by decide +kernel
theorem d_C_init_48 : decode prog_1_method_1_code 48 = .ok (.newarray .int, 2) := by decide +kernel
theorem d_C_init_50 : decode prog_1_method_1_code 50 = .ok (.putfield 35, 3) := by decide +kernel
theorem d_C_init_53 : decode prog_1_method_1_code 53 = .ok (.aload_n 0, 1) := by decide +kernel
theorem d_C_init_54 : decode prog_1_method_1_code 54 = .ok (.iconst 0, 1) := by decide +kernel
theorem d_C_init_55 : decode prog_1_method_1_code 55 = .ok (.putfield 39, 3) := by decide +kernel
theorem d_C_init_58 : decode prog_1_method_1_code 58 = .ok (.return_, 1) := by decide +kernel
theorem d_C_carrier_0 : decode prog_1_method_2_code 0 = .ok (.iload_n 1, 1) := by decide +kernel
theorem d_C_carrier_1 : decode prog_1_method_2_code 1 = .ok (.iconst 0, 1) := by decide +kernel
theorem d_C_carrier_2 : decode prog_1_method_2_code 2 = .ok (.iconst 3, 1) := by decide +kernel
theorem d_C_carrier_3 : decode prog_1_method_2_code 3 = .ok (.invokestatic 42, 3) := by decide +kernel
theorem d_C_carrier_6 : decode prog_1_method_2_code 6 = .ok (.ifCond .eq 21, 3) := by decide +kernel
theorem d_C_carrier_9 : decode prog_1_method_2_code 9 = .ok (.lload_n 2, 1) := by decide +kernel
theorem d_C_carrier_10 : decode prog_1_method_2_code 10 = .ok (.invokestatic 46, 3) := by decide +kernel
theorem d_C_carrier_13 : decode prog_1_method_2_code 13 = .ok (.ifCond .eq 14, 3) := by decide +kernel
theorem d_C_carrier_16 : decode prog_1_method_2_code 16 = .ok (.iload 4, 2) := by decide +kernel
theorem d_C_carrier_18 : decode prog_1_method_2_code 18 = .ok (.iconst 1, 1) := by decide +kernel
theorem d_C_carrier_19 : decode prog_1_method_2_code 19 = .ok (.bipush 64, 2) := by decide +kernel
theorem d_C_carrier_21 : decode prog_1_method_2_code 21 = .ok (.invokestatic 42, 3) := by decide +kernel
theorem d_C_carrier_24 : decode prog_1_method_2_code 24 = .ok (.ifCond .ne 5, 3) := by decide +kernel
theorem d_C_carrier_27 : decode prog_1_method_2_code 27 = .ok (.iconst (-1), 1) := by decide +kernel
theorem d_C_carrier_28 : decode prog_1_method_2_code 28 = .ok (.ireturn, 1) := by decide +kernel
theorem d_C_carrier_29 : decode prog_1_method_2_code 29 = .ok (.aload_n 0, 1) := by decide +kernel
theorem d_C_carrier_30 : decode prog_1_method_2_code 30 = .ok (.getfield 15, 3) := by decide +kernel
theorem d_C_carrier_33 : decode prog_1_method_2_code 33 = .ok (.aload_n 0, 1) := by decide +kernel
theorem d_C_carrier_34 : decode prog_1_method_2_code 34 = .ok (.getfield 11, 3) := by decide +kernel
theorem d_C_carrier_37 : decode prog_1_method_2_code 37 = .ok (.arraylength, 1) := by decide +kernel
theorem d_C_carrier_38 : decode prog_1_method_2_code 38 = .ok (.if_icmp .ge 11, 3) := by decide +kernel
theorem d_C_carrier_41 : decode prog_1_method_2_code 41 = .ok (.aload_n 0, 1) := by decide +kernel
theorem d_C_carrier_42 : decode prog_1_method_2_code 42 = .ok (.lload_n 2, 1) := by decide +kernel
theorem d_C_carrier_43 : decode prog_1_method_2_code 43 = .ok (.invokevirtual 50, 3) := by decide +kernel
theorem d_C_carrier_46 : decode prog_1_method_2_code 46 = .ok (.ifCond .eq 5, 3) := by decide +kernel
theorem d_C_carrier_49 : decode prog_1_method_2_code 49 = .ok (.iconst (-1), 1) := by decide +kernel
theorem d_C_carrier_50 : decode prog_1_method_2_code 50 = .ok (.ireturn, 1) := by decide +kernel
theorem d_C_carrier_51 : decode prog_1_method_2_code 51 = .ok (.aload_n 0, 1) := by decide +kernel
theorem d_C_carrier_52 : decode prog_1_method_2_code 52 = .ok (.getfield 11, 3) := by decide +kernel
theorem d_C_carrier_55 : decode prog_1_method_2_code 55 = .ok (.aload_n 0, 1) := by decide +kernel
theorem d_C_carrier_56 : decode prog_1_method_2_code 56 = .ok (.getfield 15, 3) := by decide +kernel
theorem d_C_carrier_59 : decode prog_1_method_2_code 59 = .ok (.new 9, 3) := by decide +kernel
theorem d_C_carrier_62 : decode prog_1_method_2_code 62 = .ok (.dup, 1) := by decide +kernel
theorem d_C_carrier_63 : decode prog_1_method_2_code 63 = .ok (.iload_n 1, 1) := by decide +kernel
theorem d_C_carrier_64 : decode prog_1_method_2_code 64 = .ok (.lload_n 2, 1) := by decide +kernel
theorem d_C_carrier_65 : decode prog_1_method_2_code 65 = .ok (.iload 4, 2) := by decide +kernel
theorem d_C_carrier_67 : decode prog_1_method_2_code 67 = .ok (.invokespecial 53, 3) := by decide +kernel
theorem d_C_carrier_70 : decode prog_1_method_2_code 70 = .ok (.aastore, 1) := by decide +kernel
theorem d_C_carrier_71 : decode prog_1_method_2_code 71 = .ok (.aload_n 0, 1) := by decide +kernel
theorem d_C_carrier_72 : decode prog_1_method_2_code 72 = .ok (.dup, 1) := by decide +kernel
theorem d_C_carrier_73 : decode prog_1_method_2_code 73 = .ok (.getfield 15, 3) := by decide +kernel
theorem d_C_carrier_76 : decode prog_1_method_2_code 76 = .ok (.iconst 1, 1) := by decide +kernel
theorem d_C_carrier_77 : decode prog_1_method_2_code 77 = .ok (.iadd, 1) := by decide +kernel
theorem d_C_carrier_78 : decode prog_1_method_2_code 78 = .ok (.putfield 15, 3) := by decide +kernel
theorem d_C_carrier_81 : decode prog_1_method_2_code 81 = .ok (.aload_n 0, 1) := by decide +kernel
theorem d_C_carrier_82 : decode prog_1_method_2_code 82 = .ok (.getfield 15, 3) := by decide +kernel
theorem d_C_carrier_85 : decode prog_1_method_2_code 85 = .ok (.iconst 1, 1) := by decide +kernel
theorem d_C_carrier_86 : decode prog_1_method_2_code 86 = .ok (.isub, 1) := by decide +kernel
theorem d_C_carrier_87 : decode prog_1_method_2_code 87 = .ok (.ireturn, 1) := by decide +kernel
theorem d_C_within_0 : decode prog_1_method_28_code 0 = .ok (.iload_n 0, 1) := by decide +kernel
theorem d_C_within_1 : decode prog_1_method_28_code 1 = .ok (.iload_n 1, 1) := by decide +kernel
theorem d_C_within_2 : decode prog_1_method_28_code 2 = .ok (.if_icmp .lt 12, 3) := by decide +kernel
theorem d_C_within_5 : decode prog_1_method_28_code 5 = .ok (.iload_n 0, 1) := by decide +kernel
theorem d_C_within_6 : decode prog_1_method_28_code 6 = .ok (.iload_n 2, 1) := by decide +kernel
theorem d_C_within_7 : decode prog_1_method_28_code 7 = .ok (.if_icmp .gt 7, 3) := by decide +kernel
theorem d_C_within_10 : decode prog_1_method_28_code 10 = .ok (.iconst 1, 1) := by decide +kernel
theorem d_C_within_11 : decode prog_1_method_28_code 11 = .ok (.goto 4, 3) := by decide +kernel
theorem d_C_within_14 : decode prog_1_method_28_code 14 = .ok (.iconst 0, 1) := by decide +kernel
theorem d_C_within_15 : decode prog_1_method_28_code 15 = .ok (.ireturn, 1) := by decide +kernel
theorem d_C_isSerial_0 : decode prog_1_method_30_code 0 = .ok (.lload_n 0, 1) := by decide +kernel
theorem d_C_isSerial_1 : decode prog_1_method_30_code 1 = .ok (.lconst 0, 1) := by decide +kernel
theorem d_C_isSerial_2 : decode prog_1_method_30_code 2 = .ok (.lcmp, 1) := by decide +kernel
theorem d_C_isSerial_3 : decode prog_1_method_30_code 3 = .ok (.ifCond .lt 15, 3) := by decide +kernel
theorem d_C_isSerial_6 : decode prog_1_method_30_code 6 = .ok (.lload_n 0, 1) := by decide +kernel
theorem d_C_isSerial_7 : decode prog_1_method_30_code 7 = .ok (.ldc2_w 148, 3) := by decide +kernel
theorem d_C_isSerial_10 : decode prog_1_method_30_code 10 = .ok (.lcmp, 1) := by decide +kernel
theorem d_C_isSerial_11 : decode prog_1_method_30_code 11 = .ok (.ifCond .gt 7, 3) := by decide +kernel
theorem d_C_isSerial_14 : decode prog_1_method_30_code 14 = .ok (.iconst 1, 1) := by decide +kernel
theorem d_C_isSerial_15 : decode prog_1_method_30_code 15 = .ok (.goto 4, 3) := by decide +kernel
theorem d_C_isSerial_18 : decode prog_1_method_30_code 18 = .ok (.iconst 0, 1) := by decide +kernel
theorem d_C_isSerial_19 : decode prog_1_method_30_code 19 = .ok (.ireturn, 1) := by decide +kernel
theorem d_C_carrierHasSerial_0 : decode prog_1_method_26_code 0 = .ok (.iconst 0, 1) := by decide +kernel
theorem d_C_carrierHasSerial_1 : decode prog_1_method_26_code 1 = .ok (.istore_n 3, 1) := by decide +kernel
theorem d_C_carrierHasSerial_2 : decode prog_1_method_26_code 2 = .ok (.iload_n 3, 1) := by decide +kernel
theorem d_C_carrierHasSerial_3 : decode prog_1_method_26_code 3 = .ok (.aload_n 0, 1) := by decide +kernel
theorem d_C_carrierHasSerial_4 : decode prog_1_method_26_code 4 = .ok (.getfield 15, 3) := by decide +kernel
theorem d_C_carrierHasSerial_7 : decode prog_1_method_26_code 7 = .ok (.if_icmp .ge 33, 3) := by decide +kernel
theorem d_C_carrierHasSerial_10 : decode prog_1_method_26_code 10 = .ok (.aload_n 0, 1) := by decide +kernel
theorem d_C_carrierHasSerial_11 : decode prog_1_method_26_code 11 = .ok (.iload_n 3, 1) := by decide +kernel
theorem d_C_carrierHasSerial_12 : decode prog_1_method_26_code 12 = .ok (.invokevirtual 56, 3) := by decide +kernel
theorem d_C_carrierHasSerial_15 : decode prog_1_method_26_code 15 = .ok (.astore 4, 2) := by decide +kernel
theorem d_C_carrierHasSerial_17 : decode prog_1_method_26_code 17 = .ok (.aload 4, 2) := by decide +kernel
theorem d_C_carrierHasSerial_19 : decode prog_1_method_26_code 19 = .ok (.ifnull 15, 3) := by decide +kernel
theorem d_C_carrierHasSerial_22 : decode prog_1_method_26_code 22 = .ok (.aload 4, 2) := by decide +kernel
theorem d_C_carrierHasSerial_24 : decode prog_1_method_26_code 24 = .ok (.getfield 139, 3) := by decide +kernel
theorem d_C_carrierHasSerial_27 : decode prog_1_method_26_code 27 = .ok (.lload_n 1, 1) := by decide +kernel
theorem d_C_carrierHasSerial_28 : decode prog_1_method_26_code 28 = .ok (.lcmp, 1) := by decide +kernel
theorem d_C_carrierHasSerial_29 : decode prog_1_method_26_code 29 = .ok (.ifCond .ne 5, 3) := by decide +kernel
theorem d_C_carrierHasSerial_32 : decode prog_1_method_26_code 32 = .ok (.iconst 1, 1) := by decide +kernel
theorem d_C_carrierHasSerial_33 : decode prog_1_method_26_code 33 = .ok (.ireturn, 1) := by decide +kernel
theorem d_C_carrierHasSerial_34 : decode prog_1_method_26_code 34 = .ok (.iinc 3 1, 3) := by decide +kernel
theorem d_C_carrierHasSerial_37 : decode prog_1_method_26_code 37 = .ok (.goto (-35), 3) := by decide +kernel
theorem d_C_carrierHasSerial_40 : decode prog_1_method_26_code 40 = .ok (.iconst 0, 1) := by decide +kernel
theorem d_C_carrierHasSerial_41 : decode prog_1_method_26_code 41 = .ok (.ireturn, 1) := by decide +kernel
theorem d_C_findCarrier_0 : decode prog_1_method_24_code 0 = .ok (.iload_n 1, 1) := by decide +kernel
theorem d_C_findCarrier_1 : decode prog_1_method_24_code 1 = .ok (.ifCond .lt 20, 3) := by decide +kernel
theorem d_C_findCarrier_4 : decode prog_1_method_24_code 4 = .ok (.iload_n 1, 1) := by decide +kernel
theorem d_C_findCarrier_5 : decode prog_1_method_24_code 5 = .ok (.aload_n 0, 1) := by decide +kernel
theorem d_C_findCarrier_6 : decode prog_1_method_24_code 6 = .ok (.getfield 15, 3) := by decide +kernel
theorem d_C_findCarrier_9 : decode prog_1_method_24_code 9 = .ok (.if_icmp .ge 12, 3) := by decide +kernel
theorem d_C_findCarrier_12 : decode prog_1_method_24_code 12 = .ok (.iload_n 1, 1) := by decide +kernel
theorem d_C_findCarrier_13 : decode prog_1_method_24_code 13 = .ok (.aload_n 0, 1) := by decide +kernel
theorem d_C_findCarrier_14 : decode prog_1_method_24_code 14 = .ok (.getfield 11, 3) := by decide +kernel
theorem d_C_findCarrier_17 : decode prog_1_method_24_code 17 = .ok (.arraylength, 1) := by decide +kernel
theorem d_C_findCarrier_18 : decode prog_1_method_24_code 18 = .ok (.if_icmp .lt 5, 3) := by decide +kernel
theorem d_C_findCarrier_21 : decode prog_1_method_24_code 21 = .ok (.aconst_null, 1) := by decide +kernel
theorem d_C_findCarrier_22 : decode prog_1_method_24_code 22 = .ok (.areturn, 1) := by decide +kernel
theorem d_C_findCarrier_23 : decode prog_1_method_24_code 23 = .ok (.aload_n 0, 1) := by decide +kernel
theorem d_C_findCarrier_24 : decode prog_1_method_24_code 24 = .ok (.getfield 11, 3) := by decide +kernel
theorem d_C_findCarrier_27 : decode prog_1_method_24_code 27 = .ok (.iload_n 1, 1) := by decide +kernel
theorem d_C_findCarrier_28 : decode prog_1_method_24_code 28 = .ok (.aaload, 1) := by decide +kernel
theorem d_C_findCarrier_29 : decode prog_1_method_24_code 29 = .ok (.areturn, 1) := by decide +kernel
theorem d_K_init_0 : decode prog_2_method_1_code 0 = .ok (.aload_n 0, 1) := by decide +kernel
theorem d_K_init_1 : decode prog_2_method_1_code 1 = .ok (.invokespecial 3, 3) := by decide +kernel
theorem d_K_init_4 : decode prog_2_method_1_code 4 = .ok (.aload_n 0, 1) := by decide +kernel
theorem d_K_init_5 : decode prog_2_method_1_code 5 = .ok (.iload_n 1, 1) := by decide +kernel
theorem d_K_init_6 : decode prog_2_method_1_code 6 = .ok (.putfield 9, 3) := by decide +kernel
theorem d_K_init_9 : decode prog_2_method_1_code 9 = .ok (.aload_n 0, 1) := by decide +kernel
theorem d_K_init_10 : decode prog_2_method_1_code 10 = .ok (.lload_n 2, 1) := by decide +kernel
theorem d_K_init_11 : decode prog_2_method_1_code 11 = .ok (.putfield 15, 3) := by decide +kernel
theorem d_K_init_14 : decode prog_2_method_1_code 14 = .ok (.aload_n 0, 1) := by decide +kernel
theorem d_K_init_15 : decode prog_2_method_1_code 15 = .ok (.iload 4, 2) := by decide +kernel
theorem d_K_init_17 : decode prog_2_method_1_code 17 = .ok (.newarray .int, 2) := by decide +kernel
theorem d_K_init_19 : decode prog_2_method_1_code 19 = .ok (.putfield 19, 3) := by decide +kernel
theorem d_K_init_22 : decode prog_2_method_1_code 22 = .ok (.aload_n 0, 1) := by decide +kernel
theorem d_K_init_23 : decode prog_2_method_1_code 23 = .ok (.iload 4, 2) := by decide +kernel
theorem d_K_init_25 : decode prog_2_method_1_code 25 = .ok (.newarray .int, 2) := by decide +kernel
theorem d_K_init_27 : decode prog_2_method_1_code 27 = .ok (.putfield 23, 3) := by decide +kernel
theorem d_K_init_30 : decode prog_2_method_1_code 30 = .ok (.aload_n 0, 1) := by decide +kernel
theorem d_K_init_31 : decode prog_2_method_1_code 31 = .ok (.iload 4, 2) := by decide +kernel
theorem d_K_init_33 : decode prog_2_method_1_code 33 = .ok (.newarray .boolean, 2) := by decide +kernel
theorem d_K_init_35 : decode prog_2_method_1_code 35 = .ok (.putfield 26, 3) := by decide +kernel
theorem d_K_init_38 : decode prog_2_method_1_code 38 = .ok (.aload_n 0, 1) := by decide +kernel
theorem d_K_init_39 : decode prog_2_method_1_code 39 = .ok (.iload 4, 2) := by decide +kernel
theorem d_K_init_41 : decode prog_2_method_1_code 41 = .ok (.newarray .boolean, 2) := by decide +kernel
theorem d_K_init_43 : decode prog_2_method_1_code 43 = .ok (.putfield 30, 3) := by decide +kernel
theorem d_K_init_46 : decode prog_2_method_1_code 46 = .ok (.aload_n 0, 1) := by decide +kernel
theorem d_K_init_47 : decode prog_2_method_1_code 47 = .ok (.bipush 6, 2) := by decide +kernel
theorem d_K_init_49 : decode prog_2_method_1_code 49 = .ok (.newarray .int, 2) := by decide +kernel
theorem d_K_init_51 : decode prog_2_method_1_code 51 = .ok (.putfield 33, 3) := by decide +kernel
theorem d_K_init_54 : decode prog_2_method_1_code 54 = .ok (.aload_n 0, 1) := by decide +kernel
theorem d_K_init_55 : decode prog_2_method_1_code 55 = .ok (.iconst 0, 1) := by decide +kernel
theorem d_K_init_56 : decode prog_2_method_1_code 56 = .ok (.putfield 36, 3) := by decide +kernel
theorem d_K_init_59 : decode prog_2_method_1_code 59 = .ok (.aload_n 0, 1) := by decide +kernel
theorem d_K_init_60 : decode prog_2_method_1_code 60 = .ok (.iconst 0, 1) := by decide +kernel
theorem d_K_init_61 : decode prog_2_method_1_code 61 = .ok (.putfield 39, 3) := by decide +kernel
theorem d_K_init_64 : decode prog_2_method_1_code 64 = .ok (.aload_n 0, 1) := by decide +kernel
theorem d_K_init_65 : decode prog_2_method_1_code 65 = .ok (.iconst 0, 1) := by decide +kernel
theorem d_K_init_66 : decode prog_2_method_1_code 66 = .ok (.putfield 42, 3) := by decide +kernel
theorem d_K_init_69 : decode prog_2_method_1_code 69 = .ok (.aload_n 0, 1) := by decide +kernel
theorem d_K_init_70 : decode prog_2_method_1_code 70 = .ok (.iconst 0, 1) := by decide +kernel
theorem d_K_init_71 : decode prog_2_method_1_code 71 = .ok (.putfield 45, 3) := by decide +kernel
theorem d_K_init_74 : decode prog_2_method_1_code 74 = .ok (.aload_n 0, 1) := by decide +kernel
theorem d_K_init_75 : decode prog_2_method_1_code 75 = .ok (.iconst (-1), 1) := by decide +kernel
theorem d_K_init_76 : decode prog_2_method_1_code 76 = .ok (.putfield 48, 3) := by decide +kernel
theorem d_K_init_79 : decode prog_2_method_1_code 79 = .ok (.return_, 1) := by decide +kernel
theorem d_C_state_0 : decode prog_1_method_3_code 0 = .ok (.aload_n 0, 1) := by decide +kernel
theorem d_C_state_1 : decode prog_1_method_3_code 1 = .ok (.iload_n 1, 1) := by decide +kernel
theorem d_C_state_2 : decode prog_1_method_3_code 2 = .ok (.invokevirtual 56, 3) := by decide +kernel
theorem d_C_state_5 : decode prog_1_method_3_code 5 = .ok (.astore_n 2, 1) := by decide +kernel
theorem d_C_state_6 : decode prog_1_method_3_code 6 = .ok (.aload_n 2, 1) := by decide +kernel
theorem d_C_state_7 : decode prog_1_method_3_code 7 = .ok (.ifnonnull 7, 3) := by decide +kernel
theorem d_C_state_10 : decode prog_1_method_3_code 10 = .ok (.iconst (-1), 1) := by decide +kernel
theorem d_C_state_11 : decode prog_1_method_3_code 11 = .ok (.goto 7, 3) := by decide +kernel
theorem d_C_state_14 : decode prog_1_method_3_code 14 = .ok (.aload_n 2, 1) := by decide +kernel
theorem d_C_state_15 : decode prog_1_method_3_code 15 = .ok (.getfield 60, 3) := by decide +kernel
theorem d_C_state_18 : decode prog_1_method_3_code 18 = .ok (.ireturn, 1) := by decide +kernel
theorem d_C_event_0 : decode prog_1_method_4_code 0 = .ok (.aload_n 0, 1) := by decide +kernel
theorem d_C_event_1 : decode prog_1_method_4_code 1 = .ok (.iload_n 1, 1) := by decide +kernel
theorem d_C_event_2 : decode prog_1_method_4_code 2 = .ok (.invokevirtual 56, 3) := by decide +kernel
theorem d_C_event_5 : decode prog_1_method_4_code 5 = .ok (.astore 4, 2) := by decide +kernel
theorem d_C_event_7 : decode prog_1_method_4_code 7 = .ok (.aload 4, 2) := by decide +kernel
theorem d_C_event_9 : decode prog_1_method_4_code 9 = .ok (.ifnull 22, 3) := by decide +kernel
theorem d_C_event_12 : decode prog_1_method_4_code 12 = .ok (.iload_n 3, 1) := by decide +kernel
theorem d_C_event_13 : decode prog_1_method_4_code 13 = .ok (.invokestatic 63, 3) := by decide +kernel
theorem d_C_event_16 : decode prog_1_method_4_code 16 = .ok (.ifCond .eq 15, 3) := by decide +kernel
theorem d_C_event_19 : decode prog_1_method_4_code 19 = .ok (.iload_n 2, 1) := by decide +kernel
theorem d_C_event_20 : decode prog_1_method_4_code 20 = .ok (.aload 4, 2) := by decide +kernel
theorem d_C_event_22 : decode prog_1_method_4_code 22 = .ok (.getfield 60, 3) := by decide +kernel
theorem d_C_event_25 : decode prog_1_method_4_code 25 = .ok (.invokestatic 67, 3) := by decide +kernel
theorem d_C_event_28 : decode prog_1_method_4_code 28 = .ok (.ifCond .ne 5, 3) := by decide +kernel
theorem d_C_event_31 : decode prog_1_method_4_code 31 = .ok (.iconst 0, 1) := by decide +kernel
theorem d_C_event_32 : decode prog_1_method_4_code 32 = .ok (.ireturn, 1) := by decide +kernel
theorem d_C_event_33 : decode prog_1_method_4_code 33 = .ok (.iload_n 2, 1) := by decide +kernel
theorem d_C_event_34 : decode prog_1_method_4_code 34 = .ok (.iconst 3, 1) := by decide +kernel
theorem d_C_event_35 : decode prog_1_method_4_code 35 = .ok (.if_icmp .ne 8, 3) := by decide +kernel
theorem d_C_event_38 : decode prog_1_method_4_code 38 = .ok (.aload 4, 2) := by decide +kernel
theorem d_C_event_40 : decode prog_1_method_4_code 40 = .ok (.invokevirtual 71, 3) := by decide +kernel
theorem d_C_event_43 : decode prog_1_method_4_code 43 = .ok (.aload 4, 2) := by decide +kernel
theorem d_C_event_45 : decode prog_1_method_4_code 45 = .ok (.iload_n 2, 1) := by decide +kernel
theorem d_C_event_46 : decode prog_1_method_4_code 46 = .ok (.invokestatic 74, 3) := by decide +kernel
theorem d_C_event_49 : decode prog_1_method_4_code 49 = .ok (.putfield 60, 3) := by decide +kernel
theorem d_C_event_52 : decode prog_1_method_4_code 52 = .ok (.aload 4, 2) := by decide +kernel
theorem d_C_event_54 : decode prog_1_method_4_code 54 = .ok (.iload_n 3, 1) := by decide +kernel
theorem d_C_event_55 : decode prog_1_method_4_code 55 = .ok (.putfield 78, 3) := by decide +kernel
theorem d_C_event_58 : decode prog_1_method_4_code 58 = .ok (.iconst 1, 1) := by decide +kernel
theorem d_C_event_59 : decode prog_1_method_4_code 59 = .ok (.ireturn, 1) := by decide +kernel
theorem d_C_isPerson_0 : decode prog_1_method_29_code 0 = .ok (.iload_n 0, 1) := by decide +kernel
theorem d_C_isPerson_1 : decode prog_1_method_29_code 1 = .ok (.iconst 0, 1) := by decide +kernel
theorem d_C_isPerson_2 : decode prog_1_method_29_code 2 = .ok (.bipush 9, 2) := by decide +kernel
theorem d_C_isPerson_4 : decode prog_1_method_29_code 4 = .ok (.invokestatic 42, 3) := by decide +kernel
theorem d_C_isPerson_7 : decode prog_1_method_29_code 7 = .ok (.ireturn, 1) := by decide +kernel
theorem d_C_leadsFrom_0 : decode prog_1_method_31_code 0 = .ok (.iload_n 0, 1) := by decide +kernel
theorem d_C_leadsFrom_1 : decode prog_1_method_31_code 1 = .ok (.tableswitch 74 0 4 #[35, 45, 56, 45, 63], 35) := by decide +kernel
theorem d_C_leadsFrom_36 : decode prog_1_method_31_code 36 = .ok (.iload_n 1, 1) := by decide +kernel
theorem d_C_leadsFrom_37 : decode prog_1_method_31_code 37 = .ok (.ifCond .ne 7, 3) := by decide +kernel
theorem d_C_leadsFrom_40 : decode prog_1_method_31_code 40 = .ok (.iconst 1, 1) := by decide +kernel
theorem d_C_leadsFrom_41 : decode prog_1_method_31_code 41 = .ok (.goto 4, 3) := by decide +kernel
theorem d_C_leadsFrom_44 : decode prog_1_method_31_code 44 = .ok (.iconst 0, 1) := by decide +kernel
theorem d_C_leadsFrom_45 : decode prog_1_method_31_code 45 = .ok (.ireturn, 1) := by decide +kernel
theorem d_C_leadsFrom_46 : decode prog_1_method_31_code 46 = .ok (.iload_n 1, 1) := by decide +kernel
theorem d_C_leadsFrom_47 : decode prog_1_method_31_code 47 = .ok (.iconst 1, 1) := by decide +kernel
theorem d_C_leadsFrom_48 : decode prog_1_method_31_code 48 = .ok (.if_icmp .ne 7, 3) := by decide +kernel
theorem d_C_leadsFrom_51 : decode prog_1_method_31_code 51 = .ok (.iconst 1, 1) := by decide +kernel
theorem d_C_leadsFrom_52 : decode prog_1_method_31_code 52 = .ok (.goto 4, 3) := by decide +kernel
theorem d_C_leadsFrom_55 : decode prog_1_method_31_code 55 = .ok (.iconst 0, 1) := by decide +kernel
theorem d_C_leadsFrom_56 : decode prog_1_method_31_code 56 = .ok (.ireturn, 1) := by decide +kernel
theorem d_C_leadsFrom_57 : decode prog_1_method_31_code 57 = .ok (.iload_n 1, 1) := by decide +kernel
theorem d_C_leadsFrom_58 : decode prog_1_method_31_code 58 = .ok (.iconst 0, 1) := by decide +kernel
theorem d_C_leadsFrom_59 : decode prog_1_method_31_code 59 = .ok (.iconst 3, 1) := by decide +kernel
theorem d_C_leadsFrom_60 : decode prog_1_method_31_code 60 = .ok (.invokestatic 42, 3) := by decide +kernel
theorem d_C_leadsFrom_63 : decode prog_1_method_31_code 63 = .ok (.ireturn, 1) := by decide +kernel
theorem d_C_leadsFrom_64 : decode prog_1_method_31_code 64 = .ok (.iload_n 1, 1) := by decide +kernel
theorem d_C_leadsFrom_65 : decode prog_1_method_31_code 65 = .ok (.iconst 3, 1) := by decide +kernel
theorem d_C_leadsFrom_66 : decode prog_1_method_31_code 66 = .ok (.if_icmp .ne 7, 3) := by decide +kernel
theorem d_C_leadsFrom_69 : decode prog_1_method_31_code 69 = .ok (.iconst 1, 1) := by decide +kernel
theorem d_C_leadsFrom_70 : decode prog_1_method_31_code 70 = .ok (.goto 4, 3) := by decide +kernel
theorem d_C_leadsFrom_73 : decode prog_1_method_31_code 73 = .ok (.iconst 0, 1) := by decide +kernel
theorem d_C_leadsFrom_74 : decode prog_1_method_31_code 74 = .ok (.ireturn, 1) := by decide +kernel
theorem d_C_leadsFrom_75 : decode prog_1_method_31_code 75 = .ok (.iconst 0, 1) := by decide +kernel
theorem d_C_leadsFrom_76 : decode prog_1_method_31_code 76 = .ok (.ireturn, 1) := by decide +kernel
theorem d_K_forgetPasses_0 : decode prog_2_method_6_code 0 = .ok (.aload_n 0, 1) := by decide +kernel
theorem d_K_forgetPasses_1 : decode prog_2_method_6_code 1 = .ok (.iconst 0, 1) := by decide +kernel
theorem d_K_forgetPasses_2 : decode prog_2_method_6_code 2 = .ok (.putfield 36, 3) := by decide +kernel
theorem d_K_forgetPasses_5 : decode prog_2_method_6_code 5 = .ok (.aload_n 0, 1) := by decide +kernel
theorem d_K_forgetPasses_6 : decode prog_2_method_6_code 6 = .ok (.invokevirtual 55, 3) := by decide +kernel
theorem d_K_forgetPasses_9 : decode prog_2_method_6_code 9 = .ok (.return_, 1) := by decide +kernel
theorem d_K_forgetReads_0 : decode prog_2_method_7_code 0 = .ok (.iconst 0, 1) := by decide +kernel
theorem d_K_forgetReads_1 : decode prog_2_method_7_code 1 = .ok (.istore_n 1, 1) := by decide +kernel
theorem d_K_forgetReads_2 : decode prog_2_method_7_code 2 = .ok (.iload_n 1, 1) := by decide +kernel
theorem d_K_forgetReads_3 : decode prog_2_method_7_code 3 = .ok (.aload_n 0, 1) := by decide +kernel
theorem d_K_forgetReads_4 : decode prog_2_method_7_code 4 = .ok (.getfield 30, 3) := by decide +kernel
theorem d_K_forgetReads_7 : decode prog_2_method_7_code 7 = .ok (.arraylength, 1) := by decide +kernel
theorem d_K_forgetReads_8 : decode prog_2_method_7_code 8 = .ok (.if_icmp .ge 16, 3) := by decide +kernel
theorem d_K_forgetReads_11 : decode prog_2_method_7_code 11 = .ok (.aload_n 0, 1) := by decide +kernel
theorem d_K_forgetReads_12 : decode prog_2_method_7_code 12 = .ok (.getfield 30, 3) := by decide +kernel
theorem d_K_forgetReads_15 : decode prog_2_method_7_code 15 = .ok (.iload_n 1, 1) := by decide +kernel
theorem d_K_forgetReads_16 : decode prog_2_method_7_code 16 = .ok (.iconst 0, 1) := by decide +kernel
theorem d_K_forgetReads_17 : decode prog_2_method_7_code 17 = .ok (.bastore, 1) := by decide +kernel
theorem d_K_forgetReads_18 : decode prog_2_method_7_code 18 = .ok (.iinc 1 1, 3) := by decide +kernel
theorem d_K_forgetReads_21 : decode prog_2_method_7_code 21 = .ok (.goto (-19), 3) := by decide +kernel
theorem d_K_forgetReads_24 : decode prog_2_method_7_code 24 = .ok (.aload_n 0, 1) := by decide +kernel
theorem d_K_forgetReads_25 : decode prog_2_method_7_code 25 = .ok (.iconst 0, 1) := by decide +kernel
theorem d_K_forgetReads_26 : decode prog_2_method_7_code 26 = .ok (.putfield 39, 3) := by decide +kernel
theorem d_K_forgetReads_29 : decode prog_2_method_7_code 29 = .ok (.aload_n 0, 1) := by decide +kernel
theorem d_K_forgetReads_30 : decode prog_2_method_7_code 30 = .ok (.iconst 0, 1) := by decide +kernel
theorem d_K_forgetReads_31 : decode prog_2_method_7_code 31 = .ok (.putfield 42, 3) := by decide +kernel
theorem d_K_forgetReads_34 : decode prog_2_method_7_code 34 = .ok (.return_, 1) := by decide +kernel
theorem d_C_leadsTo_0 : decode prog_1_method_32_code 0 = .ok (.iload_n 0, 1) := by decide +kernel
theorem d_C_leadsTo_1 : decode prog_1_method_32_code 1 = .ok (.tableswitch 33 1 3 #[27, 29, 31], 27) := by decide +kernel
theorem d_C_leadsTo_28 : decode prog_1_method_32_code 28 = .ok (.iconst 0, 1) := by decide +kernel
theorem d_C_leadsTo_29 : decode prog_1_method_32_code 29 = .ok (.ireturn, 1) := by decide +kernel
theorem d_C_leadsTo_30 : decode prog_1_method_32_code 30 = .ok (.iconst 4, 1) := by decide +kernel
theorem d_C_leadsTo_31 : decode prog_1_method_32_code 31 = .ok (.ireturn, 1) := by decide +kernel
theorem d_C_leadsTo_32 : decode prog_1_method_32_code 32 = .ok (.iconst 2, 1) := by decide +kernel
theorem d_C_leadsTo_33 : decode prog_1_method_32_code 33 = .ok (.ireturn, 1) := by decide +kernel
theorem d_C_leadsTo_34 : decode prog_1_method_32_code 34 = .ok (.iconst 1, 1) := by decide +kernel
theorem d_C_leadsTo_35 : decode prog_1_method_32_code 35 = .ok (.ireturn, 1) := by decide +kernel
theorem d_C_last_0 : decode prog_1_method_5_code 0 = .ok (.aload_n 0, 1) := by decide +kernel
theorem d_C_last_1 : decode prog_1_method_5_code 1 = .ok (.iload_n 1, 1) := by decide +kernel
theorem d_C_last_2 : decode prog_1_method_5_code 2 = .ok (.invokevirtual 56, 3) := by decide +kernel
theorem d_C_last_5 : decode prog_1_method_5_code 5 = .ok (.astore_n 2, 1) := by decide +kernel
theorem d_C_last_6 : decode prog_1_method_5_code 6 = .ok (.aload_n 2, 1) := by decide +kernel
theorem d_C_last_7 : decode prog_1_method_5_code 7 = .ok (.ifnonnull 7, 3) := by decide +kernel
theorem d_C_last_10 : decode prog_1_method_5_code 10 = .ok (.iconst (-1), 1) := by decide +kernel
theorem d_C_last_11 : decode prog_1_method_5_code 11 = .ok (.goto 7, 3) := by decide +kernel
theorem d_C_last_14 : decode prog_1_method_5_code 14 = .ok (.aload_n 2, 1) := by decide +kernel
theorem d_C_last_15 : decode prog_1_method_5_code 15 = .ok (.getfield 78, 3) := by decide +kernel
theorem d_C_last_18 : decode prog_1_method_5_code 18 = .ok (.ireturn, 1) := by decide +kernel
theorem d_C_fail_0 : decode prog_1_method_6_code 0 = .ok (.aload_n 0, 1) := by decide +kernel
theorem d_C_fail_1 : decode prog_1_method_6_code 1 = .ok (.iload_n 1, 1) := by decide +kernel
theorem d_C_fail_2 : decode prog_1_method_6_code 2 = .ok (.invokevirtual 56, 3) := by decide +kernel
theorem d_C_fail_5 : decode prog_1_method_6_code 5 = .ok (.astore_n 3, 1) := by decide +kernel
theorem d_C_fail_6 : decode prog_1_method_6_code 6 = .ok (.aload_n 3, 1) := by decide +kernel
theorem d_C_fail_7 : decode prog_1_method_6_code 7 = .ok (.ifnull 22, 3) := by decide +kernel
theorem d_C_fail_10 : decode prog_1_method_6_code 10 = .ok (.aload_n 3, 1) := by decide +kernel
theorem d_C_fail_11 : decode prog_1_method_6_code 11 = .ok (.invokevirtual 81, 3) := by decide +kernel
theorem d_C_fail_14 : decode prog_1_method_6_code 14 = .ok (.ifCond .ne 15, 3) := by decide +kernel
theorem d_C_fail_17 : decode prog_1_method_6_code 17 = .ok (.aload_n 3, 1) := by decide +kernel
theorem d_C_fail_18 : decode prog_1_method_6_code 18 = .ok (.iload_n 2, 1) := by decide +kernel
theorem d_C_fail_19 : decode prog_1_method_6_code 19 = .ok (.invokevirtual 85, 3) := by decide +kernel
theorem d_C_fail_22 : decode prog_1_method_6_code 22 = .ok (.ifCond .eq 7, 3) := by decide +kernel
theorem d_C_fail_25 : decode prog_1_method_6_code 25 = .ok (.iconst 1, 1) := by decide +kernel
theorem d_C_fail_26 : decode prog_1_method_6_code 26 = .ok (.goto 4, 3) := by decide +kernel
theorem d_C_fail_29 : decode prog_1_method_6_code 29 = .ok (.iconst 0, 1) := by decide +kernel
theorem d_C_fail_30 : decode prog_1_method_6_code 30 = .ok (.ireturn, 1) := by decide +kernel
theorem d_K_isGone_0 : decode prog_2_method_3_code 0 = .ok (.aload_n 0, 1) := by decide +kernel
theorem d_K_isGone_1 : decode prog_2_method_3_code 1 = .ok (.getfield 45, 3) := by decide +kernel
theorem d_K_isGone_4 : decode prog_2_method_3_code 4 = .ok (.iconst 5, 1) := by decide +kernel
theorem d_K_isGone_5 : decode prog_2_method_3_code 5 = .ok (.if_icmp .eq 12, 3) := by decide +kernel
theorem d_K_isGone_8 : decode prog_2_method_3_code 8 = .ok (.aload_n 0, 1) := by decide +kernel
theorem d_K_isGone_9 : decode prog_2_method_3_code 9 = .ok (.getfield 45, 3) := by decide +kernel
theorem d_K_isGone_12 : decode prog_2_method_3_code 12 = .ok (.bipush 6, 2) := by decide +kernel
theorem d_K_isGone_14 : decode prog_2_method_3_code 14 = .ok (.if_icmp .ne 7, 3) := by decide +kernel
theorem d_K_isGone_17 : decode prog_2_method_3_code 17 = .ok (.iconst 1, 1) := by decide +kernel
theorem d_K_isGone_18 : decode prog_2_method_3_code 18 = .ok (.goto 4, 3) := by decide +kernel
theorem d_K_isGone_21 : decode prog_2_method_3_code 21 = .ok (.iconst 0, 1) := by decide +kernel
theorem d_K_isGone_22 : decode prog_2_method_3_code 22 = .ok (.ireturn, 1) := by decide +kernel
theorem d_K_wearOut_0 : decode prog_2_method_4_code 0 = .ok (.aload_n 0, 1) := by decide +kernel
theorem d_K_wearOut_1 : decode prog_2_method_4_code 1 = .ok (.iload_n 1, 1) := by decide +kernel
theorem d_K_wearOut_2 : decode prog_2_method_4_code 2 = .ok (.invokevirtual 51, 3) := by decide +kernel
theorem d_K_wearOut_5 : decode prog_2_method_4_code 5 = .ok (.ifCond .eq 12, 3) := by decide +kernel
theorem d_K_wearOut_8 : decode prog_2_method_4_code 8 = .ok (.aload_n 0, 1) := by decide +kernel
theorem d_K_wearOut_9 : decode prog_2_method_4_code 9 = .ok (.getfield 26, 3) := by decide +kernel
theorem d_K_wearOut_12 : decode prog_2_method_4_code 12 = .ok (.iload_n 1, 1) := by decide +kernel
theorem d_K_wearOut_13 : decode prog_2_method_4_code 13 = .ok (.baload, 1) := by decide +kernel
theorem d_K_wearOut_14 : decode prog_2_method_4_code 14 = .ok (.ifCond .eq 5, 3) := by decide +kernel
theorem d_K_wearOut_17 : decode prog_2_method_4_code 17 = .ok (.iconst 0, 1) := by decide +kernel
theorem d_K_wearOut_18 : decode prog_2_method_4_code 18 = .ok (.ireturn, 1) := by decide +kernel
theorem d_K_wearOut_19 : decode prog_2_method_4_code 19 = .ok (.aload_n 0, 1) := by decide +kernel
theorem d_K_wearOut_20 : decode prog_2_method_4_code 20 = .ok (.getfield 26, 3) := by decide +kernel
theorem d_K_wearOut_23 : decode prog_2_method_4_code 23 = .ok (.iload_n 1, 1) := by decide +kernel
theorem d_K_wearOut_24 : decode prog_2_method_4_code 24 = .ok (.iconst 1, 1) := by decide +kernel
theorem d_K_wearOut_25 : decode prog_2_method_4_code 25 = .ok (.bastore, 1) := by decide +kernel
theorem d_K_wearOut_26 : decode prog_2_method_4_code 26 = .ok (.iconst 1, 1) := by decide +kernel
theorem d_K_wearOut_27 : decode prog_2_method_4_code 27 = .ok (.ireturn, 1) := by decide +kernel
theorem d_K_hasPlace_0 : decode prog_2_method_2_code 0 = .ok (.iload_n 1, 1) := by decide +kernel
theorem d_K_hasPlace_1 : decode prog_2_method_2_code 1 = .ok (.ifCond .lt 16, 3) := by decide +kernel
theorem d_K_hasPlace_4 : decode prog_2_method_2_code 4 = .ok (.iload_n 1, 1) := by decide +kernel
theorem d_K_hasPlace_5 : decode prog_2_method_2_code 5 = .ok (.aload_n 0, 1) := by decide +kernel
theorem d_K_hasPlace_6 : decode prog_2_method_2_code 6 = .ok (.getfield 19, 3) := by decide +kernel
theorem d_K_hasPlace_9 : decode prog_2_method_2_code 9 = .ok (.arraylength, 1) := by decide +kernel
theorem d_K_hasPlace_10 : decode prog_2_method_2_code 10 = .ok (.if_icmp .ge 7, 3) := by decide +kernel
theorem d_K_hasPlace_13 : decode prog_2_method_2_code 13 = .ok (.iconst 1, 1) := by decide +kernel
theorem d_K_hasPlace_14 : decode prog_2_method_2_code 14 = .ok (.goto 4, 3) := by decide +kernel
theorem d_K_hasPlace_17 : decode prog_2_method_2_code 17 = .ok (.iconst 0, 1) := by decide +kernel
theorem d_K_hasPlace_18 : decode prog_2_method_2_code 18 = .ok (.ireturn, 1) := by decide +kernel
theorem d_C_failed_0 : decode prog_1_method_7_code 0 = .ok (.aload_n 0, 1) := by decide +kernel
theorem d_C_failed_1 : decode prog_1_method_7_code 1 = .ok (.iload_n 1, 1) := by decide +kernel
theorem d_C_failed_2 : decode prog_1_method_7_code 2 = .ok (.invokevirtual 56, 3) := by decide +kernel
theorem d_C_failed_5 : decode prog_1_method_7_code 5 = .ok (.astore_n 3, 1) := by decide +kernel
theorem d_C_failed_6 : decode prog_1_method_7_code 6 = .ok (.aload_n 3, 1) := by decide +kernel
theorem d_C_failed_7 : decode prog_1_method_7_code 7 = .ok (.ifnonnull 7, 3) := by decide +kernel
theorem d_C_failed_10 : decode prog_1_method_7_code 10 = .ok (.iconst (-1), 1) := by decide +kernel
theorem d_C_failed_11 : decode prog_1_method_7_code 11 = .ok (.goto 8, 3) := by decide +kernel
theorem d_C_failed_14 : decode prog_1_method_7_code 14 = .ok (.aload_n 3, 1) := by decide +kernel
theorem d_C_failed_15 : decode prog_1_method_7_code 15 = .ok (.iload_n 2, 1) := by decide +kernel
theorem d_C_failed_16 : decode prog_1_method_7_code 16 = .ok (.invokevirtual 88, 3) := by decide +kernel
theorem d_C_failed_19 : decode prog_1_method_7_code 19 = .ok (.ireturn, 1) := by decide +kernel
theorem d_K_wornPlace_0 : decode prog_2_method_5_code 0 = .ok (.iconst 0, 1) := by decide +kernel
theorem d_K_wornPlace_1 : decode prog_2_method_5_code 1 = .ok (.istore_n 2, 1) := by decide +kernel
theorem d_K_wornPlace_2 : decode prog_2_method_5_code 2 = .ok (.iconst 0, 1) := by decide +kernel
theorem d_K_wornPlace_3 : decode prog_2_method_5_code 3 = .ok (.istore_n 3, 1) := by decide +kernel
theorem d_K_wornPlace_4 : decode prog_2_method_5_code 4 = .ok (.iload_n 3, 1) := by decide +kernel
theorem d_K_wornPlace_5 : decode prog_2_method_5_code 5 = .ok (.aload_n 0, 1) := by decide +kernel
theorem d_K_wornPlace_6 : decode prog_2_method_5_code 6 = .ok (.getfield 26, 3) := by decide +kernel
theorem d_K_wornPlace_9 : decode prog_2_method_5_code 9 = .ok (.arraylength, 1) := by decide +kernel
theorem d_K_wornPlace_10 : decode prog_2_method_5_code 10 = .ok (.if_icmp .ge 28, 3) := by decide +kernel
theorem d_K_wornPlace_13 : decode prog_2_method_5_code 13 = .ok (.aload_n 0, 1) := by decide +kernel
theorem d_K_wornPlace_14 : decode prog_2_method_5_code 14 = .ok (.getfield 26, 3) := by decide +kernel
theorem d_K_wornPlace_17 : decode prog_2_method_5_code 17 = .ok (.iload_n 3, 1) := by decide +kernel
theorem d_K_wornPlace_18 : decode prog_2_method_5_code 18 = .ok (.baload, 1) := by decide +kernel
theorem d_K_wornPlace_19 : decode prog_2_method_5_code 19 = .ok (.ifCond .eq 13, 3) := by decide +kernel
theorem d_K_wornPlace_22 : decode prog_2_method_5_code 22 = .ok (.iload_n 2, 1) := by decide +kernel
theorem d_K_wornPlace_23 : decode prog_2_method_5_code 23 = .ok (.iload_n 1, 1) := by decide +kernel
theorem d_K_wornPlace_24 : decode prog_2_method_5_code 24 = .ok (.if_icmp .ne 5, 3) := by decide +kernel
theorem d_K_wornPlace_27 : decode prog_2_method_5_code 27 = .ok (.iload_n 3, 1) := by decide +kernel
theorem d_K_wornPlace_28 : decode prog_2_method_5_code 28 = .ok (.ireturn, 1) := by decide +kernel
theorem d_K_wornPlace_29 : decode prog_2_method_5_code 29 = .ok (.iinc 2 1, 3) := by decide +kernel
theorem d_K_wornPlace_32 : decode prog_2_method_5_code 32 = .ok (.iinc 3 1, 3) := by decide +kernel
theorem d_K_wornPlace_35 : decode prog_2_method_5_code 35 = .ok (.goto (-31), 3) := by decide +kernel
theorem d_K_wornPlace_38 : decode prog_2_method_5_code 38 = .ok (.iconst (-1), 1) := by decide +kernel
theorem d_K_wornPlace_39 : decode prog_2_method_5_code 39 = .ok (.ireturn, 1) := by decide +kernel
theorem d_C_pass_0 : decode prog_1_method_8_code 0 = .ok (.aload_n 0, 1) := by decide +kernel
theorem d_C_pass_1 : decode prog_1_method_8_code 1 = .ok (.iload_n 1, 1) := by decide +kernel
theorem d_C_pass_2 : decode prog_1_method_8_code 2 = .ok (.invokevirtual 56, 3) := by decide +kernel
theorem d_C_pass_5 : decode prog_1_method_8_code 5 = .ok (.astore_n 3, 1) := by decide +kernel
theorem d_C_pass_6 : decode prog_1_method_8_code 6 = .ok (.aload_n 3, 1) := by decide +kernel
theorem d_C_pass_7 : decode prog_1_method_8_code 7 = .ok (.ifnull 14, 3) := by decide +kernel
theorem d_C_pass_10 : decode prog_1_method_8_code 10 = .ok (.iload_n 2, 1) := by decide +kernel
theorem d_C_pass_11 : decode prog_1_method_8_code 11 = .ok (.iconst 0, 1) := by decide +kernel
theorem d_C_pass_12 : decode prog_1_method_8_code 12 = .ok (.sipush 257, 3) := by decide +kernel
theorem d_C_pass_15 : decode prog_1_method_8_code 15 = .ok (.invokestatic 42, 3) := by decide +kernel
theorem d_C_pass_18 : decode prog_1_method_8_code 18 = .ok (.ifCond .ne 5, 3) := by decide +kernel
theorem d_C_pass_21 : decode prog_1_method_8_code 21 = .ok (.iconst (-1), 1) := by decide +kernel
theorem d_C_pass_22 : decode prog_1_method_8_code 22 = .ok (.ireturn, 1) := by decide +kernel
theorem d_C_pass_23 : decode prog_1_method_8_code 23 = .ok (.aload_n 3, 1) := by decide +kernel
theorem d_C_pass_24 : decode prog_1_method_8_code 24 = .ok (.iload_n 2, 1) := by decide +kernel
theorem d_C_pass_25 : decode prog_1_method_8_code 25 = .ok (.invokevirtual 91, 3) := by decide +kernel
theorem d_C_pass_28 : decode prog_1_method_8_code 28 = .ok (.ireturn, 1) := by decide +kernel
theorem d_K_overwrite_0 : decode prog_2_method_8_code 0 = .ok (.aload_n 0, 1) := by decide +kernel
theorem d_K_overwrite_1 : decode prog_2_method_8_code 1 = .ok (.getfield 45, 3) := by decide +kernel
theorem d_K_overwrite_4 : decode prog_2_method_8_code 4 = .ok (.iconst 2, 1) := by decide +kernel
theorem d_K_overwrite_5 : decode prog_2_method_8_code 5 = .ok (.if_icmp .ne 15, 3) := by decide +kernel
theorem d_K_overwrite_8 : decode prog_2_method_8_code 8 = .ok (.aload_n 0, 1) := by decide +kernel
theorem d_K_overwrite_9 : decode prog_2_method_8_code 9 = .ok (.getfield 36, 3) := by decide +kernel
theorem d_K_overwrite_12 : decode prog_2_method_8_code 12 = .ok (.aload_n 0, 1) := by decide +kernel
theorem d_K_overwrite_13 : decode prog_2_method_8_code 13 = .ok (.getfield 33, 3) := by decide +kernel
theorem d_K_overwrite_16 : decode prog_2_method_8_code 16 = .ok (.arraylength, 1) := by decide +kernel
theorem d_K_overwrite_17 : decode prog_2_method_8_code 17 = .ok (.if_icmp .lt 5, 3) := by decide +kernel
theorem d_K_overwrite_20 : decode prog_2_method_8_code 20 = .ok (.iconst (-1), 1) := by decide +kernel
theorem d_K_overwrite_21 : decode prog_2_method_8_code 21 = .ok (.ireturn, 1) := by decide +kernel
theorem d_K_overwrite_22 : decode prog_2_method_8_code 22 = .ok (.iconst 0, 1) := by decide +kernel
theorem d_K_overwrite_23 : decode prog_2_method_8_code 23 = .ok (.istore_n 2, 1) := by decide +kernel
theorem d_K_overwrite_24 : decode prog_2_method_8_code 24 = .ok (.iload_n 2, 1) := by decide +kernel
theorem d_K_overwrite_25 : decode prog_2_method_8_code 25 = .ok (.aload_n 0, 1) := by decide +kernel
theorem d_K_overwrite_26 : decode prog_2_method_8_code 26 = .ok (.getfield 19, 3) := by decide +kernel
theorem d_K_overwrite_29 : decode prog_2_method_8_code 29 = .ok (.arraylength, 1) := by decide +kernel
theorem d_K_overwrite_30 : decode prog_2_method_8_code 30 = .ok (.if_icmp .ge 47, 3) := by decide +kernel
theorem d_K_overwrite_33 : decode prog_2_method_8_code 33 = .ok (.aload_n 0, 1) := by decide +kernel
theorem d_K_overwrite_34 : decode prog_2_method_8_code 34 = .ok (.getfield 23, 3) := by decide +kernel
theorem d_K_overwrite_37 : decode prog_2_method_8_code 37 = .ok (.iload_n 2, 1) := by decide +kernel
theorem d_K_overwrite_38 : decode prog_2_method_8_code 38 = .ok (.iload_n 1, 1) := by decide +kernel
theorem d_K_overwrite_39 : decode prog_2_method_8_code 39 = .ok (.iload_n 2, 1) := by decide +kernel
theorem d_K_overwrite_40 : decode prog_2_method_8_code 40 = .ok (.aload_n 0, 1) := by decide +kernel
theorem d_K_overwrite_41 : decode prog_2_method_8_code 41 = .ok (.getfield 19, 3) := by decide +kernel
theorem d_K_overwrite_44 : decode prog_2_method_8_code 44 = .ok (.iload_n 2, 1) := by decide +kernel
theorem d_K_overwrite_45 : decode prog_2_method_8_code 45 = .ok (.iaload, 1) := by decide +kernel
theorem d_K_overwrite_46 : decode prog_2_method_8_code 46 = .ok (.invokestatic 58, 3) := by decide +kernel
theorem d_K_overwrite_49 : decode prog_2_method_8_code 49 = .ok (.iastore, 1) := by decide +kernel
theorem d_K_overwrite_50 : decode prog_2_method_8_code 50 = .ok (.aload_n 0, 1) := by decide +kernel
theorem d_K_overwrite_51 : decode prog_2_method_8_code 51 = .ok (.getfield 26, 3) := by decide +kernel
theorem d_K_overwrite_54 : decode prog_2_method_8_code 54 = .ok (.iload_n 2, 1) := by decide +kernel
theorem d_K_overwrite_55 : decode prog_2_method_8_code 55 = .ok (.baload, 1) := by decide +kernel
theorem d_K_overwrite_56 : decode prog_2_method_8_code 56 = .ok (.ifCond .ne 15, 3) := by decide +kernel
theorem d_K_overwrite_59 : decode prog_2_method_8_code 59 = .ok (.aload_n 0, 1) := by decide +kernel
theorem d_K_overwrite_60 : decode prog_2_method_8_code 60 = .ok (.getfield 19, 3) := by decide +kernel
theorem d_K_overwrite_63 : decode prog_2_method_8_code 63 = .ok (.iload_n 2, 1) := by decide +kernel
theorem d_K_overwrite_64 : decode prog_2_method_8_code 64 = .ok (.aload_n 0, 1) := by decide +kernel
theorem d_K_overwrite_65 : decode prog_2_method_8_code 65 = .ok (.getfield 23, 3) := by decide +kernel
theorem d_K_overwrite_68 : decode prog_2_method_8_code 68 = .ok (.iload_n 2, 1) := by decide +kernel
theorem d_K_overwrite_69 : decode prog_2_method_8_code 69 = .ok (.iaload, 1) := by decide +kernel
theorem d_K_overwrite_70 : decode prog_2_method_8_code 70 = .ok (.iastore, 1) := by decide +kernel
theorem d_K_overwrite_71 : decode prog_2_method_8_code 71 = .ok (.iinc 2 1, 3) := by decide +kernel
theorem d_K_overwrite_74 : decode prog_2_method_8_code 74 = .ok (.goto (-50), 3) := by decide +kernel
theorem d_K_overwrite_77 : decode prog_2_method_8_code 77 = .ok (.aload_n 0, 1) := by decide +kernel
theorem d_K_overwrite_78 : decode prog_2_method_8_code 78 = .ok (.invokevirtual 55, 3) := by decide +kernel
theorem d_K_overwrite_81 : decode prog_2_method_8_code 81 = .ok (.aload_n 0, 1) := by decide +kernel
theorem d_K_overwrite_82 : decode prog_2_method_8_code 82 = .ok (.getfield 33, 3) := by decide +kernel
theorem d_K_overwrite_85 : decode prog_2_method_8_code 85 = .ok (.aload_n 0, 1) := by decide +kernel
theorem d_K_overwrite_86 : decode prog_2_method_8_code 86 = .ok (.getfield 36, 3) := by decide +kernel
theorem d_K_overwrite_89 : decode prog_2_method_8_code 89 = .ok (.iload_n 1, 1) := by decide +kernel
theorem d_K_overwrite_90 : decode prog_2_method_8_code 90 = .ok (.iastore, 1) := by decide +kernel
theorem d_K_overwrite_91 : decode prog_2_method_8_code 91 = .ok (.aload_n 0, 1) := by decide +kernel
theorem d_K_overwrite_92 : decode prog_2_method_8_code 92 = .ok (.dup, 1) := by decide +kernel
theorem d_K_overwrite_93 : decode prog_2_method_8_code 93 = .ok (.getfield 36, 3) := by decide +kernel
theorem d_K_overwrite_96 : decode prog_2_method_8_code 96 = .ok (.iconst 1, 1) := by decide +kernel
theorem d_K_overwrite_97 : decode prog_2_method_8_code 97 = .ok (.iadd, 1) := by decide +kernel
theorem d_K_overwrite_98 : decode prog_2_method_8_code 98 = .ok (.putfield 36, 3) := by decide +kernel
theorem d_K_overwrite_101 : decode prog_2_method_8_code 101 = .ok (.aload_n 0, 1) := by decide +kernel
theorem d_K_overwrite_102 : decode prog_2_method_8_code 102 = .ok (.getfield 36, 3) := by decide +kernel
theorem d_K_overwrite_105 : decode prog_2_method_8_code 105 = .ok (.ireturn, 1) := by decide +kernel
theorem d_C_patternByte_0 : decode prog_1_method_33_code 0 = .ok (.iload_n 0, 1) := by decide +kernel
theorem d_C_patternByte_1 : decode prog_1_method_33_code 1 = .ok (.sipush 256, 3) := by decide +kernel
theorem d_C_patternByte_4 : decode prog_1_method_33_code 4 = .ok (.if_icmp .ne 14, 3) := by decide +kernel
theorem d_C_patternByte_7 : decode prog_1_method_33_code 7 = .ok (.bipush 7, 2) := by decide +kernel
theorem d_C_patternByte_9 : decode prog_1_method_33_code 9 = .ok (.iload_n 1, 1) := by decide +kernel
theorem d_C_patternByte_10 : decode prog_1_method_33_code 10 = .ok (.imul, 1) := by decide +kernel
theorem d_C_patternByte_11 : decode prog_1_method_33_code 11 = .ok (.iconst 3, 1) := by decide +kernel
theorem d_C_patternByte_12 : decode prog_1_method_33_code 12 = .ok (.iadd, 1) := by decide +kernel
theorem d_C_patternByte_13 : decode prog_1_method_33_code 13 = .ok (.sipush 255, 3) := by decide +kernel
theorem d_C_patternByte_16 : decode prog_1_method_33_code 16 = .ok (.iand, 1) := by decide +kernel
theorem d_C_patternByte_17 : decode prog_1_method_33_code 17 = .ok (.ireturn, 1) := by decide +kernel
theorem d_C_patternByte_18 : decode prog_1_method_33_code 18 = .ok (.iload_n 0, 1) := by decide +kernel
theorem d_C_patternByte_19 : decode prog_1_method_33_code 19 = .ok (.sipush 257, 3) := by decide +kernel
theorem d_C_patternByte_22 : decode prog_1_method_33_code 22 = .ok (.if_icmp .ne 9, 3) := by decide +kernel
theorem d_C_patternByte_25 : decode prog_1_method_33_code 25 = .ok (.iload_n 2, 1) := by decide +kernel
theorem d_C_patternByte_26 : decode prog_1_method_33_code 26 = .ok (.sipush 255, 3) := by decide +kernel
theorem d_C_patternByte_29 : decode prog_1_method_33_code 29 = .ok (.ixor, 1) := by decide +kernel
theorem d_C_patternByte_30 : decode prog_1_method_33_code 30 = .ok (.ireturn, 1) := by decide +kernel
theorem d_C_patternByte_31 : decode prog_1_method_33_code 31 = .ok (.iload_n 0, 1) := by decide +kernel
theorem d_C_patternByte_32 : decode prog_1_method_33_code 32 = .ok (.ireturn, 1) := by decide +kernel
theorem d_C_byteAt_0 : decode prog_1_method_9_code 0 = .ok (.aload_n 0, 1) := by decide +kernel
theorem d_C_byteAt_1 : decode prog_1_method_9_code 1 = .ok (.iload_n 1, 1) := by decide +kernel
theorem d_C_byteAt_2 : decode prog_1_method_9_code 2 = .ok (.invokevirtual 56, 3) := by decide +kernel
theorem d_C_byteAt_5 : decode prog_1_method_9_code 5 = .ok (.astore_n 3, 1) := by decide +kernel
theorem d_C_byteAt_6 : decode prog_1_method_9_code 6 = .ok (.aload_n 3, 1) := by decide +kernel
theorem d_C_byteAt_7 : decode prog_1_method_9_code 7 = .ok (.ifnull 18, 3) := by decide +kernel
theorem d_C_byteAt_10 : decode prog_1_method_9_code 10 = .ok (.aload_n 3, 1) := by decide +kernel
theorem d_C_byteAt_11 : decode prog_1_method_9_code 11 = .ok (.invokevirtual 81, 3) := by decide +kernel
theorem d_C_byteAt_14 : decode prog_1_method_9_code 14 = .ok (.ifCond .ne 11, 3) := by decide +kernel
theorem d_C_byteAt_17 : decode prog_1_method_9_code 17 = .ok (.aload_n 3, 1) := by decide +kernel
theorem d_C_byteAt_18 : decode prog_1_method_9_code 18 = .ok (.iload_n 2, 1) := by decide +kernel
theorem d_C_byteAt_19 : decode prog_1_method_9_code 19 = .ok (.invokevirtual 94, 3) := by decide +kernel
theorem d_C_byteAt_22 : decode prog_1_method_9_code 22 = .ok (.ifCond .ne 5, 3) := by decide +kernel
theorem d_C_byteAt_25 : decode prog_1_method_9_code 25 = .ok (.iconst (-1), 1) := by decide +kernel
theorem d_C_byteAt_26 : decode prog_1_method_9_code 26 = .ok (.ireturn, 1) := by decide +kernel
theorem d_C_byteAt_27 : decode prog_1_method_9_code 27 = .ok (.aload_n 3, 1) := by decide +kernel
theorem d_C_byteAt_28 : decode prog_1_method_9_code 28 = .ok (.getfield 97, 3) := by decide +kernel
theorem d_C_byteAt_31 : decode prog_1_method_9_code 31 = .ok (.iload_n 2, 1) := by decide +kernel
theorem d_C_byteAt_32 : decode prog_1_method_9_code 32 = .ok (.iaload, 1) := by decide +kernel
theorem d_C_byteAt_33 : decode prog_1_method_9_code 33 = .ok (.ireturn, 1) := by decide +kernel
theorem d_C_read_0 : decode prog_1_method_10_code 0 = .ok (.aload_n 0, 1) := by decide +kernel
theorem d_C_read_1 : decode prog_1_method_10_code 1 = .ok (.iload_n 1, 1) := by decide +kernel
theorem d_C_read_2 : decode prog_1_method_10_code 2 = .ok (.invokevirtual 56, 3) := by decide +kernel
theorem d_C_read_5 : decode prog_1_method_10_code 5 = .ok (.astore 4, 2) := by decide +kernel
theorem d_C_read_7 : decode prog_1_method_10_code 7 = .ok (.aload 4, 2) := by decide +kernel
theorem d_C_read_9 : decode prog_1_method_10_code 9 = .ok (.ifnull 14, 3) := by decide +kernel
theorem d_C_read_12 : decode prog_1_method_10_code 12 = .ok (.iload_n 3, 1) := by decide +kernel
theorem d_C_read_13 : decode prog_1_method_10_code 13 = .ok (.iconst 0, 1) := by decide +kernel
theorem d_C_read_14 : decode prog_1_method_10_code 14 = .ok (.sipush 255, 3) := by decide +kernel
theorem d_C_read_17 : decode prog_1_method_10_code 17 = .ok (.invokestatic 42, 3) := by decide +kernel
theorem d_C_read_20 : decode prog_1_method_10_code 20 = .ok (.ifCond .ne 5, 3) := by decide +kernel
theorem d_C_read_23 : decode prog_1_method_10_code 23 = .ok (.iconst (-1), 1) := by decide +kernel
theorem d_C_read_24 : decode prog_1_method_10_code 24 = .ok (.ireturn, 1) := by decide +kernel
theorem d_C_read_25 : decode prog_1_method_10_code 25 = .ok (.aload 4, 2) := by decide +kernel
theorem d_C_read_27 : decode prog_1_method_10_code 27 = .ok (.iload_n 2, 1) := by decide +kernel
theorem d_C_read_28 : decode prog_1_method_10_code 28 = .ok (.iload_n 3, 1) := by decide +kernel
theorem d_C_read_29 : decode prog_1_method_10_code 29 = .ok (.invokevirtual 100, 3) := by decide +kernel
theorem d_C_read_32 : decode prog_1_method_10_code 32 = .ok (.ireturn, 1) := by decide +kernel
theorem d_K_takeReading_0 : decode prog_2_method_9_code 0 = .ok (.aload_n 0, 1) := by decide +kernel
theorem d_K_takeReading_1 : decode prog_2_method_9_code 1 = .ok (.getfield 45, 3) := by decide +kernel
theorem d_K_takeReading_4 : decode prog_2_method_9_code 4 = .ok (.iconst 2, 1) := by decide +kernel
theorem d_K_takeReading_5 : decode prog_2_method_9_code 5 = .ok (.if_icmp .ne 27, 3) := by decide +kernel
theorem d_K_takeReading_8 : decode prog_2_method_9_code 8 = .ok (.aload_n 0, 1) := by decide +kernel
theorem d_K_takeReading_9 : decode prog_2_method_9_code 9 = .ok (.getfield 36, 3) := by decide +kernel
theorem d_K_takeReading_12 : decode prog_2_method_9_code 12 = .ok (.ifCond .eq 20, 3) := by decide +kernel
theorem d_K_takeReading_15 : decode prog_2_method_9_code 15 = .ok (.aload_n 0, 1) := by decide +kernel
theorem d_K_takeReading_16 : decode prog_2_method_9_code 16 = .ok (.iload_n 1, 1) := by decide +kernel
theorem d_K_takeReading_17 : decode prog_2_method_9_code 17 = .ok (.invokevirtual 51, 3) := by decide +kernel
theorem d_K_takeReading_20 : decode prog_2_method_9_code 20 = .ok (.ifCond .eq 12, 3) := by decide +kernel
theorem d_K_takeReading_23 : decode prog_2_method_9_code 23 = .ok (.aload_n 0, 1) := by decide +kernel
theorem d_K_takeReading_24 : decode prog_2_method_9_code 24 = .ok (.getfield 30, 3) := by decide +kernel
theorem d_K_takeReading_27 : decode prog_2_method_9_code 27 = .ok (.iload_n 1, 1) := by decide +kernel
theorem d_K_takeReading_28 : decode prog_2_method_9_code 28 = .ok (.baload, 1) := by decide +kernel
theorem d_K_takeReading_29 : decode prog_2_method_9_code 29 = .ok (.ifCond .eq 5, 3) := by decide +kernel
theorem d_K_takeReading_32 : decode prog_2_method_9_code 32 = .ok (.iconst (-1), 1) := by decide +kernel
theorem d_K_takeReading_33 : decode prog_2_method_9_code 33 = .ok (.ireturn, 1) := by decide +kernel
theorem d_K_takeReading_34 : decode prog_2_method_9_code 34 = .ok (.aload_n 0, 1) := by decide +kernel
theorem d_K_takeReading_35 : decode prog_2_method_9_code 35 = .ok (.getfield 30, 3) := by decide +kernel
theorem d_K_takeReading_38 : decode prog_2_method_9_code 38 = .ok (.iload_n 1, 1) := by decide +kernel
theorem d_K_takeReading_39 : decode prog_2_method_9_code 39 = .ok (.iconst 1, 1) := by decide +kernel
theorem d_K_takeReading_40 : decode prog_2_method_9_code 40 = .ok (.bastore, 1) := by decide +kernel
theorem d_K_takeReading_41 : decode prog_2_method_9_code 41 = .ok (.aload_n 0, 1) := by decide +kernel
theorem d_K_takeReading_42 : decode prog_2_method_9_code 42 = .ok (.dup, 1) := by decide +kernel
theorem d_K_takeReading_43 : decode prog_2_method_9_code 43 = .ok (.getfield 39, 3) := by decide +kernel
theorem d_K_takeReading_46 : decode prog_2_method_9_code 46 = .ok (.iconst 1, 1) := by decide +kernel
theorem d_K_takeReading_47 : decode prog_2_method_9_code 47 = .ok (.iadd, 1) := by decide +kernel
theorem d_K_takeReading_48 : decode prog_2_method_9_code 48 = .ok (.putfield 39, 3) := by decide +kernel
theorem d_K_takeReading_51 : decode prog_2_method_9_code 51 = .ok (.iload_n 2, 1) := by decide +kernel
theorem d_K_takeReading_52 : decode prog_2_method_9_code 52 = .ok (.aload_n 0, 1) := by decide +kernel
theorem d_K_takeReading_53 : decode prog_2_method_9_code 53 = .ok (.getfield 23, 3) := by decide +kernel
theorem d_K_takeReading_56 : decode prog_2_method_9_code 56 = .ok (.iload_n 1, 1) := by decide +kernel
theorem d_K_takeReading_57 : decode prog_2_method_9_code 57 = .ok (.iaload, 1) := by decide +kernel
theorem d_K_takeReading_58 : decode prog_2_method_9_code 58 = .ok (.if_icmp .ne 7, 3) := by decide +kernel
theorem d_K_takeReading_61 : decode prog_2_method_9_code 61 = .ok (.iconst 1, 1) := by decide +kernel
theorem d_K_takeReading_62 : decode prog_2_method_9_code 62 = .ok (.goto 4, 3) := by decide +kernel
theorem d_K_takeReading_65 : decode prog_2_method_9_code 65 = .ok (.iconst 0, 1) := by decide +kernel
theorem d_K_takeReading_66 : decode prog_2_method_9_code 66 = .ok (.istore_n 3, 1) := by decide +kernel
theorem d_K_takeReading_67 : decode prog_2_method_9_code 67 = .ok (.iload_n 3, 1) := by decide +kernel
theorem d_K_takeReading_68 : decode prog_2_method_9_code 68 = .ok (.ifCond .ne 13, 3) := by decide +kernel
theorem d_K_takeReading_71 : decode prog_2_method_9_code 71 = .ok (.aload_n 0, 1) := by decide +kernel
theorem d_K_takeReading_72 : decode prog_2_method_9_code 72 = .ok (.dup, 1) := by decide +kernel
theorem d_K_takeReading_73 : decode prog_2_method_9_code 73 = .ok (.getfield 42, 3) := by decide +kernel
theorem d_K_takeReading_76 : decode prog_2_method_9_code 76 = .ok (.iconst 1, 1) := by decide +kernel
theorem d_K_takeReading_77 : decode prog_2_method_9_code 77 = .ok (.iadd, 1) := by decide +kernel
theorem d_K_takeReading_78 : decode prog_2_method_9_code 78 = .ok (.putfield 42, 3) := by decide +kernel
theorem d_K_takeReading_81 : decode prog_2_method_9_code 81 = .ok (.aload_n 0, 1) := by decide +kernel
theorem d_K_takeReading_82 : decode prog_2_method_9_code 82 = .ok (.getfield 39, 3) := by decide +kernel
theorem d_K_takeReading_85 : decode prog_2_method_9_code 85 = .ok (.aload_n 0, 1) := by decide +kernel
theorem d_K_takeReading_86 : decode prog_2_method_9_code 86 = .ok (.getfield 19, 3) := by decide +kernel
theorem d_K_takeReading_89 : decode prog_2_method_9_code 89 = .ok (.arraylength, 1) := by decide +kernel
theorem d_K_takeReading_90 : decode prog_2_method_9_code 90 = .ok (.if_icmp .ne 15, 3) := by decide +kernel
theorem d_K_takeReading_93 : decode prog_2_method_9_code 93 = .ok (.aload_n 0, 1) := by decide +kernel
theorem d_K_takeReading_94 : decode prog_2_method_9_code 94 = .ok (.getfield 42, 3) := by decide +kernel
theorem d_K_takeReading_97 : decode prog_2_method_9_code 97 = .ok (.ifCond .ne 8, 3) := by decide +kernel
theorem d_K_takeReading_100 : decode prog_2_method_9_code 100 = .ok (.aload_n 0, 1) := by decide +kernel
theorem d_K_takeReading_101 : decode prog_2_method_9_code 101 = .ok (.iconst 3, 1) := by decide +kernel
theorem d_K_takeReading_102 : decode prog_2_method_9_code 102 = .ok (.putfield 45, 3) := by decide +kernel
theorem d_K_takeReading_105 : decode prog_2_method_9_code 105 = .ok (.iload_n 3, 1) := by decide +kernel
theorem d_K_takeReading_106 : decode prog_2_method_9_code 106 = .ok (.ifCond .eq 7, 3) := by decide +kernel
theorem d_K_takeReading_109 : decode prog_2_method_9_code 109 = .ok (.iconst 1, 1) := by decide +kernel
theorem d_K_takeReading_110 : decode prog_2_method_9_code 110 = .ok (.goto 4, 3) := by decide +kernel
theorem d_K_takeReading_113 : decode prog_2_method_9_code 113 = .ok (.iconst 0, 1) := by decide +kernel
theorem d_K_takeReading_114 : decode prog_2_method_9_code 114 = .ok (.ireturn, 1) := by decide +kernel
theorem d_C_unlike_0 : decode prog_1_method_11_code 0 = .ok (.aload_n 0, 1) := by decide +kernel
theorem d_C_unlike_1 : decode prog_1_method_11_code 1 = .ok (.iload_n 1, 1) := by decide +kernel
theorem d_C_unlike_2 : decode prog_1_method_11_code 2 = .ok (.invokevirtual 56, 3) := by decide +kernel
theorem d_C_unlike_5 : decode prog_1_method_11_code 5 = .ok (.astore_n 2, 1) := by decide +kernel
theorem d_C_unlike_6 : decode prog_1_method_11_code 6 = .ok (.aload_n 2, 1) := by decide +kernel
theorem d_C_unlike_7 : decode prog_1_method_11_code 7 = .ok (.ifnonnull 7, 3) := by decide +kernel
theorem d_C_unlike_10 : decode prog_1_method_11_code 10 = .ok (.iconst (-1), 1) := by decide +kernel
theorem d_C_unlike_11 : decode prog_1_method_11_code 11 = .ok (.goto 7, 3) := by decide +kernel
theorem d_C_unlike_14 : decode prog_1_method_11_code 14 = .ok (.aload_n 2, 1) := by decide +kernel
theorem d_C_unlike_15 : decode prog_1_method_11_code 15 = .ok (.getfield 104, 3) := by decide +kernel
theorem d_C_unlike_18 : decode prog_1_method_11_code 18 = .ok (.ireturn, 1) := by decide +kernel
theorem d_C_odds_0 : decode prog_1_method_12_code 0 = .ok (.iload_n 1, 1) := by decide +kernel
theorem d_C_odds_1 : decode prog_1_method_12_code 1 = .ok (.iconst 1, 1) := by decide +kernel
theorem d_C_odds_2 : decode prog_1_method_12_code 2 = .ok (.bipush 40, 2) := by decide +kernel
theorem d_C_odds_4 : decode prog_1_method_12_code 4 = .ok (.invokestatic 42, 3) := by decide +kernel
theorem d_C_odds_7 : decode prog_1_method_12_code 7 = .ok (.ifCond .eq 13, 3) := by decide +kernel
theorem d_C_odds_10 : decode prog_1_method_12_code 10 = .ok (.iload 4, 2) := by decide +kernel
theorem d_C_odds_12 : decode prog_1_method_12_code 12 = .ok (.iconst 0, 1) := by decide +kernel
theorem d_C_odds_13 : decode prog_1_method_12_code 13 = .ok (.iconst 1, 1) := by decide +kernel
theorem d_C_odds_14 : decode prog_1_method_12_code 14 = .ok (.invokestatic 42, 3) := by decide +kernel
theorem d_C_odds_17 : decode prog_1_method_12_code 17 = .ok (.ifCond .ne 7, 3) := by decide +kernel
theorem d_C_odds_20 : decode prog_1_method_12_code 20 = .ok (.ldc2_w 107, 3) := by decide +kernel
theorem d_C_odds_23 : decode prog_1_method_12_code 23 = .ok (.lreturn, 1) := by decide +kernel
theorem d_C_odds_24 : decode prog_1_method_12_code 24 = .ok (.iload_n 2, 1) := by decide +kernel
theorem d_C_odds_25 : decode prog_1_method_12_code 25 = .ok (.iconst 0, 1) := by decide +kernel
theorem d_C_odds_26 : decode prog_1_method_12_code 26 = .ok (.iload_n 1, 1) := by decide +kernel
theorem d_C_odds_27 : decode prog_1_method_12_code 27 = .ok (.invokestatic 42, 3) := by decide +kernel
theorem d_C_odds_30 : decode prog_1_method_12_code 30 = .ok (.ifCond .eq 12, 3) := by decide +kernel
theorem d_C_odds_33 : decode prog_1_method_12_code 33 = .ok (.iload_n 3, 1) := by decide +kernel
theorem d_C_odds_34 : decode prog_1_method_12_code 34 = .ok (.iconst 0, 1) := by decide +kernel
theorem d_C_odds_35 : decode prog_1_method_12_code 35 = .ok (.iload_n 1, 1) := by decide +kernel
theorem d_C_odds_36 : decode prog_1_method_12_code 36 = .ok (.invokestatic 42, 3) := by decide +kernel
theorem d_C_odds_39 : decode prog_1_method_12_code 39 = .ok (.ifCond .ne 7, 3) := by decide +kernel
theorem d_C_odds_42 : decode prog_1_method_12_code 42 = .ok (.ldc2_w 107, 3) := by decide +kernel
theorem d_C_odds_45 : decode prog_1_method_12_code 45 = .ok (.lreturn, 1) := by decide +kernel
theorem d_C_odds_46 : decode prog_1_method_12_code 46 = .ok (.iload_n 1, 1) := by decide +kernel
theorem d_C_odds_47 : decode prog_1_method_12_code 47 = .ok (.iload_n 3, 1) := by decide +kernel
theorem d_C_odds_48 : decode prog_1_method_12_code 48 = .ok (.isub, 1) := by decide +kernel
theorem d_C_odds_49 : decode prog_1_method_12_code 49 = .ok (.iload_n 2, 1) := by decide +kernel
theorem d_C_odds_50 : decode prog_1_method_12_code 50 = .ok (.invokestatic 109, 3) := by decide +kernel
theorem d_C_odds_53 : decode prog_1_method_12_code 53 = .ok (.lstore 5, 2) := by decide +kernel
theorem d_C_odds_55 : decode prog_1_method_12_code 55 = .ok (.iload_n 1, 1) := by decide +kernel
theorem d_C_odds_56 : decode prog_1_method_12_code 56 = .ok (.iload_n 2, 1) := by decide +kernel
theorem d_C_odds_57 : decode prog_1_method_12_code 57 = .ok (.invokestatic 109, 3) := by decide +kernel
theorem d_C_odds_60 : decode prog_1_method_12_code 60 = .ok (.lstore 7, 2) := by decide +kernel
theorem d_C_odds_62 : decode prog_1_method_12_code 62 = .ok (.lload 5, 2) := by decide +kernel
theorem d_C_odds_64 : decode prog_1_method_12_code 64 = .ok (.lload 7, 2) := by decide +kernel
theorem d_C_odds_66 : decode prog_1_method_12_code 66 = .ok (.invokestatic 113, 3) := by decide +kernel
theorem d_C_odds_69 : decode prog_1_method_12_code 69 = .ok (.lstore 9, 2) := by decide +kernel
theorem d_C_odds_71 : decode prog_1_method_12_code 71 = .ok (.iload 4, 2) := by decide +kernel
theorem d_C_odds_73 : decode prog_1_method_12_code 73 = .ok (.ifCond .ne 8, 3) := by decide +kernel
theorem d_C_odds_76 : decode prog_1_method_12_code 76 = .ok (.lload 5, 2) := by decide +kernel
theorem d_C_odds_78 : decode prog_1_method_12_code 78 = .ok (.goto 5, 3) := by decide +kernel
theorem d_C_odds_81 : decode prog_1_method_12_code 81 = .ok (.lload 7, 2) := by decide +kernel
theorem d_C_odds_83 : decode prog_1_method_12_code 83 = .ok (.lload 9, 2) := by decide +kernel
theorem d_C_odds_85 : decode prog_1_method_12_code 85 = .ok (.ldiv, 1) := by decide +kernel
theorem d_C_odds_86 : decode prog_1_method_12_code 86 = .ok (.lreturn, 1) := by decide +kernel
theorem d_C_waysToChoose_0 : decode prog_1_method_34_code 0 = .ok (.lconst 1, 1) := by decide +kernel
theorem d_C_waysToChoose_1 : decode prog_1_method_34_code 1 = .ok (.lstore_n 2, 1) := by decide +kernel
theorem d_C_waysToChoose_2 : decode prog_1_method_34_code 2 = .ok (.iconst 0, 1) := by decide +kernel
theorem d_C_waysToChoose_3 : decode prog_1_method_34_code 3 = .ok (.istore 4, 2) := by decide +kernel
theorem d_C_waysToChoose_5 : decode prog_1_method_34_code 5 = .ok (.iload 4, 2) := by decide +kernel
theorem d_C_waysToChoose_7 : decode prog_1_method_34_code 7 = .ok (.iload_n 1, 1) := by decide +kernel
theorem d_C_waysToChoose_8 : decode prog_1_method_34_code 8 = .ok (.if_icmp .ge 23, 3) := by decide +kernel
theorem d_C_waysToChoose_11 : decode prog_1_method_34_code 11 = .ok (.lload_n 2, 1) := by decide +kernel
theorem d_C_waysToChoose_12 : decode prog_1_method_34_code 12 = .ok (.iload_n 0, 1) := by decide +kernel
theorem d_C_waysToChoose_13 : decode prog_1_method_34_code 13 = .ok (.iload 4, 2) := by decide +kernel
theorem d_C_waysToChoose_15 : decode prog_1_method_34_code 15 = .ok (.isub, 1) := by decide +kernel
theorem d_C_waysToChoose_16 : decode prog_1_method_34_code 16 = .ok (.i2l, 1) := by decide +kernel
theorem d_C_waysToChoose_17 : decode prog_1_method_34_code 17 = .ok (.lmul, 1) := by decide +kernel
theorem d_C_waysToChoose_18 : decode prog_1_method_34_code 18 = .ok (.iload 4, 2) := by decide +kernel
theorem d_C_waysToChoose_20 : decode prog_1_method_34_code 20 = .ok (.iconst 1, 1) := by decide +kernel
theorem d_C_waysToChoose_21 : decode prog_1_method_34_code 21 = .ok (.iadd, 1) := by decide +kernel
theorem d_C_waysToChoose_22 : decode prog_1_method_34_code 22 = .ok (.i2l, 1) := by decide +kernel
theorem d_C_waysToChoose_23 : decode prog_1_method_34_code 23 = .ok (.ldiv, 1) := by decide +kernel
theorem d_C_waysToChoose_24 : decode prog_1_method_34_code 24 = .ok (.lstore_n 2, 1) := by decide +kernel
theorem d_C_waysToChoose_25 : decode prog_1_method_34_code 25 = .ok (.iinc 4 1, 3) := by decide +kernel
theorem d_C_waysToChoose_28 : decode prog_1_method_34_code 28 = .ok (.goto (-23), 3) := by decide +kernel
theorem d_C_waysToChoose_31 : decode prog_1_method_34_code 31 = .ok (.lload_n 2, 1) := by decide +kernel
theorem d_C_waysToChoose_32 : decode prog_1_method_34_code 32 = .ok (.lreturn, 1) := by decide +kernel
theorem d_C_commonDivisor_0 : decode prog_1_method_35_code 0 = .ok (.lload_n 0, 1) := by decide +kernel
theorem d_C_commonDivisor_1 : decode prog_1_method_35_code 1 = .ok (.lstore 4, 2) := by decide +kernel
theorem d_C_commonDivisor_3 : decode prog_1_method_35_code 3 = .ok (.lload_n 2, 1) := by decide +kernel
theorem d_C_commonDivisor_4 : decode prog_1_method_35_code 4 = .ok (.lstore 6, 2) := by decide +kernel
theorem d_C_commonDivisor_6 : decode prog_1_method_35_code 6 = .ok (.iconst 0, 1) := by decide +kernel
theorem d_C_commonDivisor_7 : decode prog_1_method_35_code 7 = .ok (.istore 8, 2) := by decide +kernel
theorem d_C_commonDivisor_9 : decode prog_1_method_35_code 9 = .ok (.iload 8, 2) := by decide +kernel
theorem d_C_commonDivisor_11 : decode prog_1_method_35_code 11 = .ok (.bipush 100, 2) := by decide +kernel
theorem d_C_commonDivisor_13 : decode prog_1_method_35_code 13 = .ok (.if_icmp .ge 31, 3) := by decide +kernel
theorem d_C_commonDivisor_16 : decode prog_1_method_35_code 16 = .ok (.lload 6, 2) := by decide +kernel
theorem d_C_commonDivisor_18 : decode prog_1_method_35_code 18 = .ok (.lconst 0, 1) := by decide +kernel
theorem d_C_commonDivisor_19 : decode prog_1_method_35_code 19 = .ok (.lcmp, 1) := by decide +kernel
theorem d_C_commonDivisor_20 : decode prog_1_method_35_code 20 = .ok (.ifCond .eq 24, 3) := by decide +kernel
theorem d_C_commonDivisor_23 : decode prog_1_method_35_code 23 = .ok (.lload 4, 2) := by decide +kernel
theorem d_C_commonDivisor_25 : decode prog_1_method_35_code 25 = .ok (.lload 6, 2) := by decide +kernel
theorem d_C_commonDivisor_27 : decode prog_1_method_35_code 27 = .ok (.lrem, 1) := by decide +kernel
theorem d_C_commonDivisor_28 : decode prog_1_method_35_code 28 = .ok (.lstore 9, 2) := by decide +kernel
theorem d_C_commonDivisor_30 : decode prog_1_method_35_code 30 = .ok (.lload 6, 2) := by decide +kernel
theorem d_C_commonDivisor_32 : decode prog_1_method_35_code 32 = .ok (.lstore 4, 2) := by decide +kernel
theorem d_C_commonDivisor_34 : decode prog_1_method_35_code 34 = .ok (.lload 9, 2) := by decide +kernel
theorem d_C_commonDivisor_36 : decode prog_1_method_35_code 36 = .ok (.lstore 6, 2) := by decide +kernel
theorem d_C_commonDivisor_38 : decode prog_1_method_35_code 38 = .ok (.iinc 8 1, 3) := by decide +kernel
theorem d_C_commonDivisor_41 : decode prog_1_method_35_code 41 = .ok (.goto (-32), 3) := by decide +kernel
theorem d_C_commonDivisor_44 : decode prog_1_method_35_code 44 = .ok (.lload 4, 2) := by decide +kernel
theorem d_C_commonDivisor_46 : decode prog_1_method_35_code 46 = .ok (.lconst 1, 1) := by decide +kernel
theorem d_C_commonDivisor_47 : decode prog_1_method_35_code 47 = .ok (.invokestatic 150, 3) := by decide +kernel
theorem d_C_commonDivisor_50 : decode prog_1_method_35_code 50 = .ok (.lreturn, 1) := by decide +kernel
theorem d_A_maxL_0 : decode prog_7_method_66_code 0 = .ok (.lload_n 0, 1) := by decide +kernel
theorem d_A_maxL_1 : decode prog_7_method_66_code 1 = .ok (.lload_n 2, 1) := by decide +kernel
theorem d_A_maxL_2 : decode prog_7_method_66_code 2 = .ok (.lcmp, 1) := by decide +kernel
theorem d_A_maxL_3 : decode prog_7_method_66_code 3 = .ok (.ifCond .lt 7, 3) := by decide +kernel
theorem d_A_maxL_6 : decode prog_7_method_66_code 6 = .ok (.lload_n 0, 1) := by decide +kernel
theorem d_A_maxL_7 : decode prog_7_method_66_code 7 = .ok (.goto 4, 3) := by decide +kernel
theorem d_A_maxL_10 : decode prog_7_method_66_code 10 = .ok (.lload_n 2, 1) := by decide +kernel
theorem d_A_maxL_11 : decode prog_7_method_66_code 11 = .ok (.lreturn, 1) := by decide +kernel
theorem d_C_shred_0 : decode prog_1_method_13_code 0 = .ok (.aload_n 0, 1) := by decide +kernel
theorem d_C_shred_1 : decode prog_1_method_13_code 1 = .ok (.iload_n 1, 1) := by decide +kernel
theorem d_C_shred_2 : decode prog_1_method_13_code 2 = .ok (.invokevirtual 56, 3) := by decide +kernel
theorem d_C_shred_5 : decode prog_1_method_13_code 5 = .ok (.astore_n 3, 1) := by decide +kernel
theorem d_C_shred_6 : decode prog_1_method_13_code 6 = .ok (.aload_n 3, 1) := by decide +kernel
theorem d_C_shred_7 : decode prog_1_method_13_code 7 = .ok (.ifnull 13, 3) := by decide +kernel
theorem d_C_shred_10 : decode prog_1_method_13_code 10 = .ok (.iload_n 2, 1) := by decide +kernel
theorem d_C_shred_11 : decode prog_1_method_13_code 11 = .ok (.iconst 1, 1) := by decide +kernel
theorem d_C_shred_12 : decode prog_1_method_13_code 12 = .ok (.bipush 100, 2) := by decide +kernel
theorem d_C_shred_14 : decode prog_1_method_13_code 14 = .ok (.invokestatic 42, 3) := by decide +kernel
theorem d_C_shred_17 : decode prog_1_method_13_code 17 = .ok (.ifCond .ne 5, 3) := by decide +kernel
theorem d_C_shred_20 : decode prog_1_method_13_code 20 = .ok (.iconst 0, 1) := by decide +kernel
theorem d_C_shred_21 : decode prog_1_method_13_code 21 = .ok (.ireturn, 1) := by decide +kernel
theorem d_C_shred_22 : decode prog_1_method_13_code 22 = .ok (.aload_n 3, 1) := by decide +kernel
theorem d_C_shred_23 : decode prog_1_method_13_code 23 = .ok (.getfield 60, 3) := by decide +kernel
theorem d_C_shred_26 : decode prog_1_method_13_code 26 = .ok (.iconst 3, 1) := by decide +kernel
theorem d_C_shred_27 : decode prog_1_method_13_code 27 = .ok (.if_icmp .eq 13, 3) := by decide +kernel
theorem d_C_shred_30 : decode prog_1_method_13_code 30 = .ok (.aload_n 3, 1) := by decide +kernel
theorem d_C_shred_31 : decode prog_1_method_13_code 31 = .ok (.getfield 60, 3) := by decide +kernel
theorem d_C_shred_34 : decode prog_1_method_13_code 34 = .ok (.iconst 4, 1) := by decide +kernel
theorem d_C_shred_35 : decode prog_1_method_13_code 35 = .ok (.if_icmp .eq 5, 3) := by decide +kernel
theorem d_C_shred_38 : decode prog_1_method_13_code 38 = .ok (.iconst 0, 1) := by decide +kernel
theorem d_C_shred_39 : decode prog_1_method_13_code 39 = .ok (.ireturn, 1) := by decide +kernel
theorem d_C_shred_40 : decode prog_1_method_13_code 40 = .ok (.iload_n 2, 1) := by decide +kernel
theorem d_C_shred_41 : decode prog_1_method_13_code 41 = .ok (.iconst 2, 1) := by decide +kernel
theorem d_C_shred_42 : decode prog_1_method_13_code 42 = .ok (.bipush 6, 2) := by decide +kernel
theorem d_C_shred_44 : decode prog_1_method_13_code 44 = .ok (.aload_n 3, 1) := by decide +kernel
theorem d_C_shred_45 : decode prog_1_method_13_code 45 = .ok (.getfield 117, 3) := by decide +kernel
theorem d_C_shred_48 : decode prog_1_method_13_code 48 = .ok (.imul, 1) := by decide +kernel
theorem d_C_shred_49 : decode prog_1_method_13_code 49 = .ok (.iadd, 1) := by decide +kernel
theorem d_C_shred_50 : decode prog_1_method_13_code 50 = .ok (.if_icmp .le 5, 3) := by decide +kernel
theorem d_C_shred_53 : decode prog_1_method_13_code 53 = .ok (.iconst 0, 1) := by decide +kernel
theorem d_C_shred_54 : decode prog_1_method_13_code 54 = .ok (.ireturn, 1) := by decide +kernel
theorem d_C_shred_55 : decode prog_1_method_13_code 55 = .ok (.aload_n 3, 1) := by decide +kernel
theorem d_C_shred_56 : decode prog_1_method_13_code 56 = .ok (.iconst 5, 1) := by decide +kernel
theorem d_C_shred_57 : decode prog_1_method_13_code 57 = .ok (.putfield 60, 3) := by decide +kernel
theorem d_C_shred_60 : decode prog_1_method_13_code 60 = .ok (.iconst 1, 1) := by decide +kernel
theorem d_C_shred_61 : decode prog_1_method_13_code 61 = .ok (.ireturn, 1) := by decide +kernel
theorem d_C_paper_0 : decode prog_1_method_14_code 0 = .ok (.aload_n 0, 1) := by decide +kernel
theorem d_C_paper_1 : decode prog_1_method_14_code 1 = .ok (.iload_n 1, 1) := by decide +kernel
theorem d_C_paper_2 : decode prog_1_method_14_code 2 = .ok (.invokevirtual 56, 3) := by decide +kernel
theorem d_C_paper_5 : decode prog_1_method_14_code 5 = .ok (.astore 4, 2) := by decide +kernel
theorem d_C_paper_7 : decode prog_1_method_14_code 7 = .ok (.aload 4, 2) := by decide +kernel
theorem d_C_paper_9 : decode prog_1_method_14_code 9 = .ok (.ifnull 22, 3) := by decide +kernel
theorem d_C_paper_12 : decode prog_1_method_14_code 12 = .ok (.iload_n 2, 1) := by decide +kernel
theorem d_C_paper_13 : decode prog_1_method_14_code 13 = .ok (.invokestatic 63, 3) := by decide +kernel
theorem d_C_paper_16 : decode prog_1_method_14_code 16 = .ok (.ifCond .eq 15, 3) := by decide +kernel
theorem d_C_paper_19 : decode prog_1_method_14_code 19 = .ok (.iload_n 3, 1) := by decide +kernel
theorem d_C_paper_20 : decode prog_1_method_14_code 20 = .ok (.invokestatic 63, 3) := by decide +kernel
theorem d_C_paper_23 : decode prog_1_method_14_code 23 = .ok (.ifCond .eq 8, 3) := by decide +kernel
theorem d_C_paper_26 : decode prog_1_method_14_code 26 = .ok (.iload_n 2, 1) := by decide +kernel
theorem d_C_paper_27 : decode prog_1_method_14_code 27 = .ok (.iload_n 3, 1) := by decide +kernel
theorem d_C_paper_28 : decode prog_1_method_14_code 28 = .ok (.if_icmp .ne 5, 3) := by decide +kernel
theorem d_C_paper_31 : decode prog_1_method_14_code 31 = .ok (.iconst (-1), 1) := by decide +kernel
theorem d_C_paper_32 : decode prog_1_method_14_code 32 = .ok (.ireturn, 1) := by decide +kernel
theorem d_C_paper_33 : decode prog_1_method_14_code 33 = .ok (.aload 4, 2) := by decide +kernel
theorem d_C_paper_35 : decode prog_1_method_14_code 35 = .ok (.getfield 60, 3) := by decide +kernel
theorem d_C_paper_38 : decode prog_1_method_14_code 38 = .ok (.iconst 3, 1) := by decide +kernel
theorem d_C_paper_39 : decode prog_1_method_14_code 39 = .ok (.if_icmp .eq 14, 3) := by decide +kernel
theorem d_C_paper_42 : decode prog_1_method_14_code 42 = .ok (.aload 4, 2) := by decide +kernel
theorem d_C_paper_44 : decode prog_1_method_14_code 44 = .ok (.getfield 60, 3) := by decide +kernel
theorem d_C_paper_47 : decode prog_1_method_14_code 47 = .ok (.iconst 5, 1) := by decide +kernel
theorem d_C_paper_48 : decode prog_1_method_14_code 48 = .ok (.if_icmp .eq 5, 3) := by decide +kernel
theorem d_C_paper_51 : decode prog_1_method_14_code 51 = .ok (.iconst (-1), 1) := by decide +kernel
theorem d_C_paper_52 : decode prog_1_method_14_code 52 = .ok (.ireturn, 1) := by decide +kernel
theorem d_C_paper_53 : decode prog_1_method_14_code 53 = .ok (.aload_n 0, 1) := by decide +kernel
theorem d_C_paper_54 : decode prog_1_method_14_code 54 = .ok (.getfield 25, 3) := by decide +kernel
theorem d_C_paper_57 : decode prog_1_method_14_code 57 = .ok (.aload_n 0, 1) := by decide +kernel
theorem d_C_paper_58 : decode prog_1_method_14_code 58 = .ok (.getfield 21, 3) := by decide +kernel
theorem d_C_paper_61 : decode prog_1_method_14_code 61 = .ok (.arraylength, 1) := by decide +kernel
theorem d_C_paper_62 : decode prog_1_method_14_code 62 = .ok (.if_icmp .lt 5, 3) := by decide +kernel
theorem d_C_paper_65 : decode prog_1_method_14_code 65 = .ok (.iconst (-1), 1) := by decide +kernel
theorem d_C_paper_66 : decode prog_1_method_14_code 66 = .ok (.ireturn, 1) := by decide +kernel
theorem d_C_paper_67 : decode prog_1_method_14_code 67 = .ok (.aload_n 0, 1) := by decide +kernel
theorem d_C_paper_68 : decode prog_1_method_14_code 68 = .ok (.getfield 21, 3) := by decide +kernel
theorem d_C_paper_71 : decode prog_1_method_14_code 71 = .ok (.aload_n 0, 1) := by decide +kernel
theorem d_C_paper_72 : decode prog_1_method_14_code 72 = .ok (.getfield 25, 3) := by decide +kernel
theorem d_C_paper_75 : decode prog_1_method_14_code 75 = .ok (.new 19, 3) := by decide +kernel
theorem d_C_paper_78 : decode prog_1_method_14_code 78 = .ok (.dup, 1) := by decide +kernel
theorem d_C_paper_79 : decode prog_1_method_14_code 79 = .ok (.iload_n 1, 1) := by decide +kernel
theorem d_C_paper_80 : decode prog_1_method_14_code 80 = .ok (.aload 4, 2) := by decide +kernel
theorem d_C_paper_82 : decode prog_1_method_14_code 82 = .ok (.iload_n 2, 1) := by decide +kernel
theorem d_C_paper_83 : decode prog_1_method_14_code 83 = .ok (.iload_n 3, 1) := by decide +kernel
theorem d_C_paper_84 : decode prog_1_method_14_code 84 = .ok (.invokespecial 120, 3) := by decide +kernel
theorem d_C_paper_87 : decode prog_1_method_14_code 87 = .ok (.aastore, 1) := by decide +kernel
theorem d_C_paper_88 : decode prog_1_method_14_code 88 = .ok (.aload_n 0, 1) := by decide +kernel
theorem d_C_paper_89 : decode prog_1_method_14_code 89 = .ok (.dup, 1) := by decide +kernel
theorem d_C_paper_90 : decode prog_1_method_14_code 90 = .ok (.getfield 25, 3) := by decide +kernel
theorem d_C_paper_93 : decode prog_1_method_14_code 93 = .ok (.iconst 1, 1) := by decide +kernel
theorem d_C_paper_94 : decode prog_1_method_14_code 94 = .ok (.iadd, 1) := by decide +kernel
theorem d_C_paper_95 : decode prog_1_method_14_code 95 = .ok (.putfield 25, 3) := by decide +kernel
theorem d_C_paper_98 : decode prog_1_method_14_code 98 = .ok (.aload_n 0, 1) := by decide +kernel
theorem d_C_paper_99 : decode prog_1_method_14_code 99 = .ok (.getfield 25, 3) := by decide +kernel
theorem d_C_paper_102 : decode prog_1_method_14_code 102 = .ok (.iconst 1, 1) := by decide +kernel
theorem d_C_paper_103 : decode prog_1_method_14_code 103 = .ok (.isub, 1) := by decide +kernel
theorem d_C_paper_104 : decode prog_1_method_14_code 104 = .ok (.ireturn, 1) := by decide +kernel
theorem d_P_init_0 : decode prog_3_method_1_code 0 = .ok (.aload_n 0, 1) := by decide +kernel
theorem d_P_init_1 : decode prog_3_method_1_code 1 = .ok (.invokespecial 3, 3) := by decide +kernel
theorem d_P_init_4 : decode prog_3_method_1_code 4 = .ok (.iconst 0, 1) := by decide +kernel
theorem d_P_init_5 : decode prog_3_method_1_code 5 = .ok (.aload_n 2, 1) := by decide +kernel
theorem d_P_init_6 : decode prog_3_method_1_code 6 = .ok (.getfield 9, 3) := by decide +kernel
theorem d_P_init_9 : decode prog_3_method_1_code 9 = .ok (.aload_n 2, 1) := by decide +kernel
theorem d_P_init_10 : decode prog_3_method_1_code 10 = .ok (.getfield 15, 3) := by decide +kernel
theorem d_P_init_13 : decode prog_3_method_1_code 13 = .ok (.arraylength, 1) := by decide +kernel
theorem d_P_init_14 : decode prog_3_method_1_code 14 = .ok (.invokestatic 19, 3) := by decide +kernel
theorem d_P_init_17 : decode prog_3_method_1_code 17 = .ok (.invokestatic 25, 3) := by decide +kernel
theorem d_P_init_20 : decode prog_3_method_1_code 20 = .ok (.istore 5, 2) := by decide +kernel
theorem d_P_init_22 : decode prog_3_method_1_code 22 = .ok (.aload_n 0, 1) := by decide +kernel
theorem d_P_init_23 : decode prog_3_method_1_code 23 = .ok (.bipush 6, 2) := by decide +kernel
theorem d_P_init_25 : decode prog_3_method_1_code 25 = .ok (.iload 5, 2) := by decide +kernel
theorem d_P_init_27 : decode prog_3_method_1_code 27 = .ok (.iadd, 1) := by decide +kernel
theorem d_P_init_28 : decode prog_3_method_1_code 28 = .ok (.newarray .int, 2) := by decide +kernel
theorem d_P_init_30 : decode prog_3_method_1_code 30 = .ok (.putfield 28, 3) := by decide +kernel
theorem d_P_init_33 : decode prog_3_method_1_code 33 = .ok (.aload_n 0, 1) := by decide +kernel
theorem d_P_init_34 : decode prog_3_method_1_code 34 = .ok (.getfield 28, 3) := by decide +kernel
theorem d_P_init_37 : decode prog_3_method_1_code 37 = .ok (.iconst 0, 1) := by decide +kernel
theorem d_P_init_38 : decode prog_3_method_1_code 38 = .ok (.iload_n 1, 1) := by decide +kernel
theorem d_P_init_39 : decode prog_3_method_1_code 39 = .ok (.iastore, 1) := by decide +kernel
theorem d_P_init_40 : decode prog_3_method_1_code 40 = .ok (.aload_n 0, 1) := by decide +kernel
theorem d_P_init_41 : decode prog_3_method_1_code 41 = .ok (.getfield 28, 3) := by decide +kernel
theorem d_P_init_44 : decode prog_3_method_1_code 44 = .ok (.iconst 1, 1) := by decide +kernel
theorem d_P_init_45 : decode prog_3_method_1_code 45 = .ok (.aload_n 2, 1) := by decide +kernel
theorem d_P_init_46 : decode prog_3_method_1_code 46 = .ok (.getfield 33, 3) := by decide +kernel
theorem d_P_init_49 : decode prog_3_method_1_code 49 = .ok (.iastore, 1) := by decide +kernel
theorem d_P_init_50 : decode prog_3_method_1_code 50 = .ok (.aload_n 0, 1) := by decide +kernel
theorem d_P_init_51 : decode prog_3_method_1_code 51 = .ok (.getfield 28, 3) := by decide +kernel
theorem d_P_init_54 : decode prog_3_method_1_code 54 = .ok (.iconst 2, 1) := by decide +kernel
theorem d_P_init_55 : decode prog_3_method_1_code 55 = .ok (.iload_n 3, 1) := by decide +kernel
theorem d_P_init_56 : decode prog_3_method_1_code 56 = .ok (.iastore, 1) := by decide +kernel
theorem d_P_init_57 : decode prog_3_method_1_code 57 = .ok (.aload_n 0, 1) := by decide +kernel
theorem d_P_init_58 : decode prog_3_method_1_code 58 = .ok (.getfield 28, 3) := by decide +kernel
theorem d_P_init_61 : decode prog_3_method_1_code 61 = .ok (.iconst 3, 1) := by decide +kernel
theorem d_P_init_62 : decode prog_3_method_1_code 62 = .ok (.iload 4, 2) := by decide +kernel
theorem d_P_init_64 : decode prog_3_method_1_code 64 = .ok (.iastore, 1) := by decide +kernel
theorem d_P_init_65 : decode prog_3_method_1_code 65 = .ok (.aload_n 0, 1) := by decide +kernel
theorem d_P_init_66 : decode prog_3_method_1_code 66 = .ok (.getfield 28, 3) := by decide +kernel
theorem d_P_init_69 : decode prog_3_method_1_code 69 = .ok (.iconst 4, 1) := by decide +kernel
theorem d_P_init_70 : decode prog_3_method_1_code 70 = .ok (.aload_n 2, 1) := by decide +kernel
theorem d_P_init_71 : decode prog_3_method_1_code 71 = .ok (.getfield 36, 3) := by decide +kernel
theorem d_P_init_74 : decode prog_3_method_1_code 74 = .ok (.iastore, 1) := by decide +kernel
theorem d_P_init_75 : decode prog_3_method_1_code 75 = .ok (.aload_n 0, 1) := by decide +kernel
theorem d_P_init_76 : decode prog_3_method_1_code 76 = .ok (.getfield 28, 3) := by decide +kernel
theorem d_P_init_79 : decode prog_3_method_1_code 79 = .ok (.iconst 5, 1) := by decide +kernel
theorem d_P_init_80 : decode prog_3_method_1_code 80 = .ok (.iload 5, 2) := by decide +kernel
theorem d_P_init_82 : decode prog_3_method_1_code 82 = .ok (.iastore, 1) := by decide +kernel
theorem d_P_init_83 : decode prog_3_method_1_code 83 = .ok (.iconst 0, 1) := by decide +kernel
theorem d_P_init_84 : decode prog_3_method_1_code 84 = .ok (.istore 6, 2) := by decide +kernel
theorem d_P_init_86 : decode prog_3_method_1_code 86 = .ok (.iload 6, 2) := by decide +kernel
theorem d_P_init_88 : decode prog_3_method_1_code 88 = .ok (.iload 5, 2) := by decide +kernel
theorem d_P_init_90 : decode prog_3_method_1_code 90 = .ok (.if_icmp .ge 26, 3) := by decide +kernel
theorem d_P_init_93 : decode prog_3_method_1_code 93 = .ok (.aload_n 0, 1) := by decide +kernel
theorem d_P_init_94 : decode prog_3_method_1_code 94 = .ok (.getfield 28, 3) := by decide +kernel
theorem d_P_init_97 : decode prog_3_method_1_code 97 = .ok (.bipush 6, 2) := by decide +kernel
theorem d_P_init_99 : decode prog_3_method_1_code 99 = .ok (.iload 6, 2) := by decide +kernel
theorem d_P_init_101 : decode prog_3_method_1_code 101 = .ok (.iadd, 1) := by decide +kernel
theorem d_P_init_102 : decode prog_3_method_1_code 102 = .ok (.aload_n 2, 1) := by decide +kernel
theorem d_P_init_103 : decode prog_3_method_1_code 103 = .ok (.getfield 15, 3) := by decide +kernel
theorem d_P_init_106 : decode prog_3_method_1_code 106 = .ok (.iload 6, 2) := by decide +kernel
theorem d_P_init_108 : decode prog_3_method_1_code 108 = .ok (.iaload, 1) := by decide +kernel
theorem d_P_init_109 : decode prog_3_method_1_code 109 = .ok (.iastore, 1) := by decide +kernel
theorem d_P_init_110 : decode prog_3_method_1_code 110 = .ok (.iinc 6 1, 3) := by decide +kernel
theorem d_P_init_113 : decode prog_3_method_1_code 113 = .ok (.goto (-27), 3) := by decide +kernel
theorem d_P_init_116 : decode prog_3_method_1_code 116 = .ok (.return_, 1) := by decide +kernel
theorem d_A_minI_0 : decode prog_7_method_69_code 0 = .ok (.iload_n 0, 1) := by decide +kernel
theorem d_A_minI_1 : decode prog_7_method_69_code 1 = .ok (.iload_n 1, 1) := by decide +kernel
theorem d_A_minI_2 : decode prog_7_method_69_code 2 = .ok (.if_icmp .gt 7, 3) := by decide +kernel
theorem d_A_minI_5 : decode prog_7_method_69_code 5 = .ok (.iload_n 0, 1) := by decide +kernel
theorem d_A_minI_6 : decode prog_7_method_69_code 6 = .ok (.goto 4, 3) := by decide +kernel
theorem d_A_minI_9 : decode prog_7_method_69_code 9 = .ok (.iload_n 1, 1) := by decide +kernel
theorem d_A_minI_10 : decode prog_7_method_69_code 10 = .ok (.ireturn, 1) := by decide +kernel
theorem d_A_maxI_0 : decode prog_7_method_65_code 0 = .ok (.iload_n 0, 1) := by decide +kernel
theorem d_A_maxI_1 : decode prog_7_method_65_code 1 = .ok (.iload_n 1, 1) := by decide +kernel
theorem d_A_maxI_2 : decode prog_7_method_65_code 2 = .ok (.if_icmp .lt 7, 3) := by decide +kernel
theorem d_A_maxI_5 : decode prog_7_method_65_code 5 = .ok (.iload_n 0, 1) := by decide +kernel
theorem d_A_maxI_6 : decode prog_7_method_65_code 6 = .ok (.goto 4, 3) := by decide +kernel
theorem d_A_maxI_9 : decode prog_7_method_65_code 9 = .ok (.iload_n 1, 1) := by decide +kernel
theorem d_A_maxI_10 : decode prog_7_method_65_code 10 = .ok (.ireturn, 1) := by decide +kernel
theorem d_C_at_0 : decode prog_1_method_15_code 0 = .ok (.aload_n 0, 1) := by decide +kernel
theorem d_C_at_1 : decode prog_1_method_15_code 1 = .ok (.iload_n 1, 1) := by decide +kernel
theorem d_C_at_2 : decode prog_1_method_15_code 2 = .ok (.invokevirtual 123, 3) := by decide +kernel
theorem d_C_at_5 : decode prog_1_method_15_code 5 = .ok (.astore_n 3, 1) := by decide +kernel
theorem d_C_at_6 : decode prog_1_method_15_code 6 = .ok (.aload_n 3, 1) := by decide +kernel
theorem d_C_at_7 : decode prog_1_method_15_code 7 = .ok (.ifnull 16, 3) := by decide +kernel
theorem d_C_at_10 : decode prog_1_method_15_code 10 = .ok (.iload_n 2, 1) := by decide +kernel
theorem d_C_at_11 : decode prog_1_method_15_code 11 = .ok (.ifCond .lt 12, 3) := by decide +kernel
theorem d_C_at_14 : decode prog_1_method_15_code 14 = .ok (.iload_n 2, 1) := by decide +kernel
theorem d_C_at_15 : decode prog_1_method_15_code 15 = .ok (.aload_n 3, 1) := by decide +kernel
theorem d_C_at_16 : decode prog_1_method_15_code 16 = .ok (.getfield 127, 3) := by decide +kernel
theorem d_C_at_19 : decode prog_1_method_15_code 19 = .ok (.arraylength, 1) := by decide +kernel
theorem d_C_at_20 : decode prog_1_method_15_code 20 = .ok (.if_icmp .lt 5, 3) := by decide +kernel
theorem d_C_at_23 : decode prog_1_method_15_code 23 = .ok (.iconst (-1), 1) := by decide +kernel
theorem d_C_at_24 : decode prog_1_method_15_code 24 = .ok (.ireturn, 1) := by decide +kernel
theorem d_C_at_25 : decode prog_1_method_15_code 25 = .ok (.aload_n 3, 1) := by decide +kernel
theorem d_C_at_26 : decode prog_1_method_15_code 26 = .ok (.getfield 127, 3) := by decide +kernel
theorem d_C_at_29 : decode prog_1_method_15_code 29 = .ok (.iload_n 2, 1) := by decide +kernel
theorem d_C_at_30 : decode prog_1_method_15_code 30 = .ok (.iaload, 1) := by decide +kernel
theorem d_C_at_31 : decode prog_1_method_15_code 31 = .ok (.ireturn, 1) := by decide +kernel
theorem d_C_findPaper_0 : decode prog_1_method_25_code 0 = .ok (.iload_n 1, 1) := by decide +kernel
theorem d_C_findPaper_1 : decode prog_1_method_25_code 1 = .ok (.ifCond .lt 20, 3) := by decide +kernel
theorem d_C_findPaper_4 : decode prog_1_method_25_code 4 = .ok (.iload_n 1, 1) := by decide +kernel
theorem d_C_findPaper_5 : decode prog_1_method_25_code 5 = .ok (.aload_n 0, 1) := by decide +kernel
theorem d_C_findPaper_6 : decode prog_1_method_25_code 6 = .ok (.getfield 25, 3) := by decide +kernel
theorem d_C_findPaper_9 : decode prog_1_method_25_code 9 = .ok (.if_icmp .ge 12, 3) := by decide +kernel
theorem d_C_findPaper_12 : decode prog_1_method_25_code 12 = .ok (.iload_n 1, 1) := by decide +kernel
theorem d_C_findPaper_13 : decode prog_1_method_25_code 13 = .ok (.aload_n 0, 1) := by decide +kernel
theorem d_C_findPaper_14 : decode prog_1_method_25_code 14 = .ok (.getfield 21, 3) := by decide +kernel
theorem d_C_findPaper_17 : decode prog_1_method_25_code 17 = .ok (.arraylength, 1) := by decide +kernel
theorem d_C_findPaper_18 : decode prog_1_method_25_code 18 = .ok (.if_icmp .lt 5, 3) := by decide +kernel
theorem d_C_findPaper_21 : decode prog_1_method_25_code 21 = .ok (.aconst_null, 1) := by decide +kernel
theorem d_C_findPaper_22 : decode prog_1_method_25_code 22 = .ok (.areturn, 1) := by decide +kernel
theorem d_C_findPaper_23 : decode prog_1_method_25_code 23 = .ok (.aload_n 0, 1) := by decide +kernel
theorem d_C_findPaper_24 : decode prog_1_method_25_code 24 = .ok (.getfield 21, 3) := by decide +kernel
theorem d_C_findPaper_27 : decode prog_1_method_25_code 27 = .ok (.iload_n 1, 1) := by decide +kernel
theorem d_C_findPaper_28 : decode prog_1_method_25_code 28 = .ok (.aaload, 1) := by decide +kernel
theorem d_C_findPaper_29 : decode prog_1_method_25_code 29 = .ok (.areturn, 1) := by decide +kernel
theorem d_C_mark_0 : decode prog_1_method_16_code 0 = .ok (.aload_n 0, 1) := by decide +kernel
theorem d_C_mark_1 : decode prog_1_method_16_code 1 = .ok (.iload_n 1, 1) := by decide +kernel
theorem d_C_mark_2 : decode prog_1_method_16_code 2 = .ok (.invokevirtual 123, 3) := by decide +kernel
theorem d_C_mark_5 : decode prog_1_method_16_code 5 = .ok (.astore 5, 2) := by decide +kernel
theorem d_C_mark_7 : decode prog_1_method_16_code 7 = .ok (.aload 5, 2) := by decide +kernel
theorem d_C_mark_9 : decode prog_1_method_16_code 9 = .ok (.ifnull 14, 3) := by decide +kernel
theorem d_C_mark_12 : decode prog_1_method_16_code 12 = .ok (.iload 4, 2) := by decide +kernel
theorem d_C_mark_14 : decode prog_1_method_16_code 14 = .ok (.iconst 0, 1) := by decide +kernel
theorem d_C_mark_15 : decode prog_1_method_16_code 15 = .ok (.bipush 7, 2) := by decide +kernel
theorem d_C_mark_17 : decode prog_1_method_16_code 17 = .ok (.invokestatic 42, 3) := by decide +kernel
theorem d_C_mark_20 : decode prog_1_method_16_code 20 = .ok (.ifCond .ne 5, 3) := by decide +kernel
theorem d_C_mark_23 : decode prog_1_method_16_code 23 = .ok (.iconst (-1), 1) := by decide +kernel
theorem d_C_mark_24 : decode prog_1_method_16_code 24 = .ok (.ireturn, 1) := by decide +kernel
theorem d_C_mark_25 : decode prog_1_method_16_code 25 = .ok (.bipush 8, 2) := by decide +kernel
theorem d_C_mark_27 : decode prog_1_method_16_code 27 = .ok (.bipush 7, 2) := by decide +kernel
theorem d_C_mark_29 : decode prog_1_method_16_code 29 = .ok (.iload 4, 2) := by decide +kernel
theorem d_C_mark_31 : decode prog_1_method_16_code 31 = .ok (.isub, 1) := by decide +kernel
theorem d_C_mark_32 : decode prog_1_method_16_code 32 = .ok (.imul, 1) := by decide +kernel
theorem d_C_mark_33 : decode prog_1_method_16_code 33 = .ok (.istore 6, 2) := by decide +kernel
theorem d_C_mark_35 : decode prog_1_method_16_code 35 = .ok (.aload 5, 2) := by decide +kernel
theorem d_C_mark_37 : decode prog_1_method_16_code 37 = .ok (.lload_n 2, 1) := by decide +kernel
theorem d_C_mark_38 : decode prog_1_method_16_code 38 = .ok (.invokevirtual 130, 3) := by decide +kernel
theorem d_C_mark_41 : decode prog_1_method_16_code 41 = .ok (.iload 6, 2) := by decide +kernel
theorem d_C_mark_43 : decode prog_1_method_16_code 43 = .ok (.lushr, 1) := by decide +kernel
theorem d_C_mark_44 : decode prog_1_method_16_code 44 = .ok (.ldc2_w 134, 3) := by decide +kernel
theorem d_C_mark_47 : decode prog_1_method_16_code 47 = .ok (.land, 1) := by decide +kernel
theorem d_C_mark_48 : decode prog_1_method_16_code 48 = .ok (.l2i, 1) := by decide +kernel
theorem d_C_mark_49 : decode prog_1_method_16_code 49 = .ok (.ireturn, 1) := by decide +kernel
theorem d_P_markBy_0 : decode prog_3_method_2_code 0 = .ok (.lload_n 1, 1) := by decide +kernel
theorem d_P_markBy_1 : decode prog_3_method_2_code 1 = .ok (.lstore_n 3, 1) := by decide +kernel
theorem d_P_markBy_2 : decode prog_3_method_2_code 2 = .ok (.iconst 0, 1) := by decide +kernel
theorem d_P_markBy_3 : decode prog_3_method_2_code 3 = .ok (.istore 5, 2) := by decide +kernel
theorem d_P_markBy_5 : decode prog_3_method_2_code 5 = .ok (.iload 5, 2) := by decide +kernel
theorem d_P_markBy_7 : decode prog_3_method_2_code 7 = .ok (.aload_n 0, 1) := by decide +kernel
theorem d_P_markBy_8 : decode prog_3_method_2_code 8 = .ok (.getfield 28, 3) := by decide +kernel
theorem d_P_markBy_11 : decode prog_3_method_2_code 11 = .ok (.arraylength, 1) := by decide +kernel
theorem d_P_markBy_12 : decode prog_3_method_2_code 12 = .ok (.if_icmp .ge 33, 3) := by decide +kernel
theorem d_P_markBy_15 : decode prog_3_method_2_code 15 = .ok (.lload_n 3, 1) := by decide +kernel
theorem d_P_markBy_16 : decode prog_3_method_2_code 16 = .ok (.aload_n 0, 1) := by decide +kernel
theorem d_P_markBy_17 : decode prog_3_method_2_code 17 = .ok (.getfield 28, 3) := by decide +kernel
theorem d_P_markBy_20 : decode prog_3_method_2_code 20 = .ok (.iload 5, 2) := by decide +kernel
theorem d_P_markBy_22 : decode prog_3_method_2_code 22 = .ok (.iaload, 1) := by decide +kernel
theorem d_P_markBy_23 : decode prog_3_method_2_code 23 = .ok (.i2l, 1) := by decide +kernel
theorem d_P_markBy_24 : decode prog_3_method_2_code 24 = .ok (.ladd, 1) := by decide +kernel
theorem d_P_markBy_25 : decode prog_3_method_2_code 25 = .ok (.lconst 1, 1) := by decide +kernel
theorem d_P_markBy_26 : decode prog_3_method_2_code 26 = .ok (.ladd, 1) := by decide +kernel
theorem d_P_markBy_27 : decode prog_3_method_2_code 27 = .ok (.ldc2_w 39, 3) := by decide +kernel
theorem d_P_markBy_30 : decode prog_3_method_2_code 30 = .ok (.lmul, 1) := by decide +kernel
theorem d_P_markBy_31 : decode prog_3_method_2_code 31 = .ok (.lstore_n 3, 1) := by decide +kernel
theorem d_P_markBy_32 : decode prog_3_method_2_code 32 = .ok (.lload_n 3, 1) := by decide +kernel
theorem d_P_markBy_33 : decode prog_3_method_2_code 33 = .ok (.lload_n 3, 1) := by decide +kernel
theorem d_P_markBy_34 : decode prog_3_method_2_code 34 = .ok (.bipush 32, 2) := by decide +kernel
theorem d_P_markBy_36 : decode prog_3_method_2_code 36 = .ok (.lushr, 1) := by decide +kernel
theorem d_P_markBy_37 : decode prog_3_method_2_code 37 = .ok (.lxor, 1) := by decide +kernel
theorem d_P_markBy_38 : decode prog_3_method_2_code 38 = .ok (.lstore_n 3, 1) := by decide +kernel
theorem d_P_markBy_39 : decode prog_3_method_2_code 39 = .ok (.iinc 5 1, 3) := by decide +kernel
theorem d_P_markBy_42 : decode prog_3_method_2_code 42 = .ok (.goto (-37), 3) := by decide +kernel
theorem d_P_markBy_45 : decode prog_3_method_2_code 45 = .ok (.lload_n 3, 1) := by decide +kernel
theorem d_P_markBy_46 : decode prog_3_method_2_code 46 = .ok (.lreturn, 1) := by decide +kernel
theorem d_C_check_0 : decode prog_1_method_17_code 0 = .ok (.aload_n 0, 1) := by decide +kernel
theorem d_C_check_1 : decode prog_1_method_17_code 1 = .ok (.iload_n 1, 1) := by decide +kernel
theorem d_C_check_2 : decode prog_1_method_17_code 2 = .ok (.invokevirtual 123, 3) := by decide +kernel
theorem d_C_check_5 : decode prog_1_method_17_code 5 = .ok (.astore 6, 2) := by decide +kernel
theorem d_C_check_7 : decode prog_1_method_17_code 7 = .ok (.aload 6, 2) := by decide +kernel
theorem d_C_check_9 : decode prog_1_method_17_code 9 = .ok (.ifnull 19, 3) := by decide +kernel
theorem d_C_check_12 : decode prog_1_method_17_code 12 = .ok (.aload 6, 2) := by decide +kernel
theorem d_C_check_14 : decode prog_1_method_17_code 14 = .ok (.lload_n 2, 1) := by decide +kernel
theorem d_C_check_15 : decode prog_1_method_17_code 15 = .ok (.invokevirtual 130, 3) := by decide +kernel
theorem d_C_check_18 : decode prog_1_method_17_code 18 = .ok (.lload 4, 2) := by decide +kernel
theorem d_C_check_20 : decode prog_1_method_17_code 20 = .ok (.lcmp, 1) := by decide +kernel
theorem d_C_check_21 : decode prog_1_method_17_code 21 = .ok (.ifCond .ne 7, 3) := by decide +kernel
theorem d_C_check_24 : decode prog_1_method_17_code 24 = .ok (.iconst 1, 1) := by decide +kernel
theorem d_C_check_25 : decode prog_1_method_17_code 25 = .ok (.goto 4, 3) := by decide +kernel
theorem d_C_check_28 : decode prog_1_method_17_code 28 = .ok (.iconst 0, 1) := by decide +kernel
theorem d_C_check_29 : decode prog_1_method_17_code 29 = .ok (.ireturn, 1) := by decide +kernel
theorem d_C_listed_0 : decode prog_1_method_18_code 0 = .ok (.lload_n 1, 1) := by decide +kernel
theorem d_C_listed_1 : decode prog_1_method_18_code 1 = .ok (.invokestatic 46, 3) := by decide +kernel
theorem d_C_listed_4 : decode prog_1_method_18_code 4 = .ok (.ifCond .eq 23, 3) := by decide +kernel
theorem d_C_listed_7 : decode prog_1_method_18_code 7 = .ok (.aload_n 0, 1) := by decide +kernel
theorem d_C_listed_8 : decode prog_1_method_18_code 8 = .ok (.lload_n 1, 1) := by decide +kernel
theorem d_C_listed_9 : decode prog_1_method_18_code 9 = .ok (.invokevirtual 136, 3) := by decide +kernel
theorem d_C_listed_12 : decode prog_1_method_18_code 12 = .ok (.ifCond .ne 15, 3) := by decide +kernel
theorem d_C_listed_15 : decode prog_1_method_18_code 15 = .ok (.aload_n 0, 1) := by decide +kernel
theorem d_C_listed_16 : decode prog_1_method_18_code 16 = .ok (.getfield 32, 3) := by decide +kernel
theorem d_C_listed_19 : decode prog_1_method_18_code 19 = .ok (.aload_n 0, 1) := by decide +kernel
theorem d_C_listed_20 : decode prog_1_method_18_code 20 = .ok (.getfield 28, 3) := by decide +kernel
theorem d_C_listed_23 : decode prog_1_method_18_code 23 = .ok (.arraylength, 1) := by decide +kernel
theorem d_C_listed_24 : decode prog_1_method_18_code 24 = .ok (.if_icmp .lt 5, 3) := by decide +kernel
theorem d_C_listed_27 : decode prog_1_method_18_code 27 = .ok (.iconst (-1), 1) := by decide +kernel
theorem d_C_listed_28 : decode prog_1_method_18_code 28 = .ok (.ireturn, 1) := by decide +kernel
theorem d_C_listed_29 : decode prog_1_method_18_code 29 = .ok (.aload_n 0, 1) := by decide +kernel
theorem d_C_listed_30 : decode prog_1_method_18_code 30 = .ok (.getfield 28, 3) := by decide +kernel
theorem d_C_listed_33 : decode prog_1_method_18_code 33 = .ok (.aload_n 0, 1) := by decide +kernel
theorem d_C_listed_34 : decode prog_1_method_18_code 34 = .ok (.getfield 32, 3) := by decide +kernel
theorem d_C_listed_37 : decode prog_1_method_18_code 37 = .ok (.lload_n 1, 1) := by decide +kernel
theorem d_C_listed_38 : decode prog_1_method_18_code 38 = .ok (.lastore, 1) := by decide +kernel
theorem d_C_listed_39 : decode prog_1_method_18_code 39 = .ok (.aload_n 0, 1) := by decide +kernel
theorem d_C_listed_40 : decode prog_1_method_18_code 40 = .ok (.dup, 1) := by decide +kernel
theorem d_C_listed_41 : decode prog_1_method_18_code 41 = .ok (.getfield 32, 3) := by decide +kernel
theorem d_C_listed_44 : decode prog_1_method_18_code 44 = .ok (.iconst 1, 1) := by decide +kernel
theorem d_C_listed_45 : decode prog_1_method_18_code 45 = .ok (.iadd, 1) := by decide +kernel
theorem d_C_listed_46 : decode prog_1_method_18_code 46 = .ok (.putfield 32, 3) := by decide +kernel
theorem d_C_listed_49 : decode prog_1_method_18_code 49 = .ok (.aload_n 0, 1) := by decide +kernel
theorem d_C_listed_50 : decode prog_1_method_18_code 50 = .ok (.getfield 32, 3) := by decide +kernel
theorem d_C_listed_53 : decode prog_1_method_18_code 53 = .ok (.ireturn, 1) := by decide +kernel
theorem d_C_listHasSerial_0 : decode prog_1_method_27_code 0 = .ok (.iconst 0, 1) := by decide +kernel
theorem d_C_listHasSerial_1 : decode prog_1_method_27_code 1 = .ok (.istore_n 3, 1) := by decide +kernel
theorem d_C_listHasSerial_2 : decode prog_1_method_27_code 2 = .ok (.iload_n 3, 1) := by decide +kernel
theorem d_C_listHasSerial_3 : decode prog_1_method_27_code 3 = .ok (.aload_n 0, 1) := by decide +kernel
theorem d_C_listHasSerial_4 : decode prog_1_method_27_code 4 = .ok (.getfield 32, 3) := by decide +kernel
theorem d_C_listHasSerial_7 : decode prog_1_method_27_code 7 = .ok (.if_icmp .ge 31, 3) := by decide +kernel
theorem d_C_listHasSerial_10 : decode prog_1_method_27_code 10 = .ok (.iload_n 3, 1) := by decide +kernel
theorem d_C_listHasSerial_11 : decode prog_1_method_27_code 11 = .ok (.aload_n 0, 1) := by decide +kernel
theorem d_C_listHasSerial_12 : decode prog_1_method_27_code 12 = .ok (.getfield 28, 3) := by decide +kernel
theorem d_C_listHasSerial_15 : decode prog_1_method_27_code 15 = .ok (.arraylength, 1) := by decide +kernel
theorem d_C_listHasSerial_16 : decode prog_1_method_27_code 16 = .ok (.if_icmp .ge 22, 3) := by decide +kernel
theorem d_C_listHasSerial_19 : decode prog_1_method_27_code 19 = .ok (.aload_n 0, 1) := by decide +kernel
theorem d_C_listHasSerial_20 : decode prog_1_method_27_code 20 = .ok (.getfield 28, 3) := by decide +kernel
theorem d_C_listHasSerial_23 : decode prog_1_method_27_code 23 = .ok (.iload_n 3, 1) := by decide +kernel
theorem d_C_listHasSerial_24 : decode prog_1_method_27_code 24 = .ok (.laload, 1) := by decide +kernel
theorem d_C_listHasSerial_25 : decode prog_1_method_27_code 25 = .ok (.lload_n 1, 1) := by decide +kernel
theorem d_C_listHasSerial_26 : decode prog_1_method_27_code 26 = .ok (.lcmp, 1) := by decide +kernel
theorem d_C_listHasSerial_27 : decode prog_1_method_27_code 27 = .ok (.ifCond .ne 5, 3) := by decide +kernel
theorem d_C_listHasSerial_30 : decode prog_1_method_27_code 30 = .ok (.iconst 1, 1) := by decide +kernel
theorem d_C_listHasSerial_31 : decode prog_1_method_27_code 31 = .ok (.ireturn, 1) := by decide +kernel
theorem d_C_listHasSerial_32 : decode prog_1_method_27_code 32 = .ok (.iinc 3 1, 3) := by decide +kernel
theorem d_C_listHasSerial_35 : decode prog_1_method_27_code 35 = .ok (.goto (-33), 3) := by decide +kernel
theorem d_C_listHasSerial_38 : decode prog_1_method_27_code 38 = .ok (.iconst 0, 1) := by decide +kernel
theorem d_C_listHasSerial_39 : decode prog_1_method_27_code 39 = .ok (.ireturn, 1) := by decide +kernel
theorem d_C_missing_0 : decode prog_1_method_19_code 0 = .ok (.iconst 0, 1) := by decide +kernel
theorem d_C_missing_1 : decode prog_1_method_19_code 1 = .ok (.istore_n 2, 1) := by decide +kernel
theorem d_C_missing_2 : decode prog_1_method_19_code 2 = .ok (.iconst 0, 1) := by decide +kernel
theorem d_C_missing_3 : decode prog_1_method_19_code 3 = .ok (.istore_n 3, 1) := by decide +kernel
theorem d_C_missing_4 : decode prog_1_method_19_code 4 = .ok (.iload_n 3, 1) := by decide +kernel
theorem d_C_missing_5 : decode prog_1_method_19_code 5 = .ok (.aload_n 0, 1) := by decide +kernel
theorem d_C_missing_6 : decode prog_1_method_19_code 6 = .ok (.getfield 32, 3) := by decide +kernel
theorem d_C_missing_9 : decode prog_1_method_19_code 9 = .ok (.if_icmp .ge 41, 3) := by decide +kernel
theorem d_C_missing_12 : decode prog_1_method_19_code 12 = .ok (.iload_n 3, 1) := by decide +kernel
theorem d_C_missing_13 : decode prog_1_method_19_code 13 = .ok (.aload_n 0, 1) := by decide +kernel
theorem d_C_missing_14 : decode prog_1_method_19_code 14 = .ok (.getfield 28, 3) := by decide +kernel
theorem d_C_missing_17 : decode prog_1_method_19_code 17 = .ok (.arraylength, 1) := by decide +kernel
theorem d_C_missing_18 : decode prog_1_method_19_code 18 = .ok (.if_icmp .ge 32, 3) := by decide +kernel
theorem d_C_missing_21 : decode prog_1_method_19_code 21 = .ok (.aload_n 0, 1) := by decide +kernel
theorem d_C_missing_22 : decode prog_1_method_19_code 22 = .ok (.aload_n 0, 1) := by decide +kernel
theorem d_C_missing_23 : decode prog_1_method_19_code 23 = .ok (.getfield 28, 3) := by decide +kernel
theorem d_C_missing_26 : decode prog_1_method_19_code 26 = .ok (.iload_n 3, 1) := by decide +kernel
theorem d_C_missing_27 : decode prog_1_method_19_code 27 = .ok (.laload, 1) := by decide +kernel
theorem d_C_missing_28 : decode prog_1_method_19_code 28 = .ok (.invokevirtual 50, 3) := by decide +kernel
theorem d_C_missing_31 : decode prog_1_method_19_code 31 = .ok (.ifCond .ne 13, 3) := by decide +kernel
theorem d_C_missing_34 : decode prog_1_method_19_code 34 = .ok (.iload_n 2, 1) := by decide +kernel
theorem d_C_missing_35 : decode prog_1_method_19_code 35 = .ok (.iload_n 1, 1) := by decide +kernel
theorem d_C_missing_36 : decode prog_1_method_19_code 36 = .ok (.if_icmp .ne 5, 3) := by decide +kernel
theorem d_C_missing_39 : decode prog_1_method_19_code 39 = .ok (.iload_n 3, 1) := by decide +kernel
theorem d_C_missing_40 : decode prog_1_method_19_code 40 = .ok (.ireturn, 1) := by decide +kernel
theorem d_C_missing_41 : decode prog_1_method_19_code 41 = .ok (.iinc 2 1, 3) := by decide +kernel
theorem d_C_missing_44 : decode prog_1_method_19_code 44 = .ok (.iinc 3 1, 3) := by decide +kernel
theorem d_C_missing_47 : decode prog_1_method_19_code 47 = .ok (.goto (-43), 3) := by decide +kernel
theorem d_C_missing_50 : decode prog_1_method_19_code 50 = .ok (.iconst (-1), 1) := by decide +kernel
theorem d_C_missing_51 : decode prog_1_method_19_code 51 = .ok (.ireturn, 1) := by decide +kernel
theorem d_C_extra_0 : decode prog_1_method_20_code 0 = .ok (.iconst 0, 1) := by decide +kernel
theorem d_C_extra_1 : decode prog_1_method_20_code 1 = .ok (.istore_n 2, 1) := by decide +kernel
theorem d_C_extra_2 : decode prog_1_method_20_code 2 = .ok (.iconst 0, 1) := by decide +kernel
theorem d_C_extra_3 : decode prog_1_method_20_code 3 = .ok (.istore_n 3, 1) := by decide +kernel
theorem d_C_extra_4 : decode prog_1_method_20_code 4 = .ok (.iload_n 3, 1) := by decide +kernel
theorem d_C_extra_5 : decode prog_1_method_20_code 5 = .ok (.aload_n 0, 1) := by decide +kernel
theorem d_C_extra_6 : decode prog_1_method_20_code 6 = .ok (.getfield 15, 3) := by decide +kernel
theorem d_C_extra_9 : decode prog_1_method_20_code 9 = .ok (.if_icmp .ge 43, 3) := by decide +kernel
theorem d_C_extra_12 : decode prog_1_method_20_code 12 = .ok (.aload_n 0, 1) := by decide +kernel
theorem d_C_extra_13 : decode prog_1_method_20_code 13 = .ok (.iload_n 3, 1) := by decide +kernel
theorem d_C_extra_14 : decode prog_1_method_20_code 14 = .ok (.invokevirtual 56, 3) := by decide +kernel
theorem d_C_extra_17 : decode prog_1_method_20_code 17 = .ok (.astore 4, 2) := by decide +kernel
theorem d_C_extra_19 : decode prog_1_method_20_code 19 = .ok (.aload 4, 2) := by decide +kernel
theorem d_C_extra_21 : decode prog_1_method_20_code 21 = .ok (.ifnull 25, 3) := by decide +kernel
theorem d_C_extra_24 : decode prog_1_method_20_code 24 = .ok (.aload_n 0, 1) := by decide +kernel
theorem d_C_extra_25 : decode prog_1_method_20_code 25 = .ok (.aload 4, 2) := by decide +kernel
theorem d_C_extra_27 : decode prog_1_method_20_code 27 = .ok (.getfield 139, 3) := by decide +kernel
theorem d_C_extra_30 : decode prog_1_method_20_code 30 = .ok (.invokevirtual 136, 3) := by decide +kernel
theorem d_C_extra_33 : decode prog_1_method_20_code 33 = .ok (.ifCond .ne 13, 3) := by decide +kernel
theorem d_C_extra_36 : decode prog_1_method_20_code 36 = .ok (.iload_n 2, 1) := by decide +kernel
theorem d_C_extra_37 : decode prog_1_method_20_code 37 = .ok (.iload_n 1, 1) := by decide +kernel
theorem d_C_extra_38 : decode prog_1_method_20_code 38 = .ok (.if_icmp .ne 5, 3) := by decide +kernel
theorem d_C_extra_41 : decode prog_1_method_20_code 41 = .ok (.iload_n 3, 1) := by decide +kernel
theorem d_C_extra_42 : decode prog_1_method_20_code 42 = .ok (.ireturn, 1) := by decide +kernel
theorem d_C_extra_43 : decode prog_1_method_20_code 43 = .ok (.iinc 2 1, 3) := by decide +kernel
theorem d_C_extra_46 : decode prog_1_method_20_code 46 = .ok (.iinc 3 1, 3) := by decide +kernel
theorem d_C_extra_49 : decode prog_1_method_20_code 49 = .ok (.goto (-45), 3) := by decide +kernel
theorem d_C_extra_52 : decode prog_1_method_20_code 52 = .ok (.iconst (-1), 1) := by decide +kernel
theorem d_C_extra_53 : decode prog_1_method_20_code 53 = .ok (.ireturn, 1) := by decide +kernel
theorem d_C_lost_0 : decode prog_1_method_21_code 0 = .ok (.aload_n 0, 1) := by decide +kernel
theorem d_C_lost_1 : decode prog_1_method_21_code 1 = .ok (.iload_n 1, 1) := by decide +kernel
theorem d_C_lost_2 : decode prog_1_method_21_code 2 = .ok (.invokevirtual 56, 3) := by decide +kernel
theorem d_C_lost_5 : decode prog_1_method_21_code 5 = .ok (.astore_n 2, 1) := by decide +kernel
theorem d_C_lost_6 : decode prog_1_method_21_code 6 = .ok (.aload_n 2, 1) := by decide +kernel
theorem d_C_lost_7 : decode prog_1_method_21_code 7 = .ok (.ifnull 22, 3) := by decide +kernel
theorem d_C_lost_10 : decode prog_1_method_21_code 10 = .ok (.aload_n 2, 1) := by decide +kernel
theorem d_C_lost_11 : decode prog_1_method_21_code 11 = .ok (.invokevirtual 81, 3) := by decide +kernel
theorem d_C_lost_14 : decode prog_1_method_21_code 14 = .ok (.ifCond .ne 15, 3) := by decide +kernel
theorem d_C_lost_17 : decode prog_1_method_21_code 17 = .ok (.aload_n 0, 1) := by decide +kernel
theorem d_C_lost_18 : decode prog_1_method_21_code 18 = .ok (.getfield 39, 3) := by decide +kernel
theorem d_C_lost_21 : decode prog_1_method_21_code 21 = .ok (.aload_n 0, 1) := by decide +kernel
theorem d_C_lost_22 : decode prog_1_method_21_code 22 = .ok (.getfield 35, 3) := by decide +kernel
theorem d_C_lost_25 : decode prog_1_method_21_code 25 = .ok (.arraylength, 1) := by decide +kernel
theorem d_C_lost_26 : decode prog_1_method_21_code 26 = .ok (.if_icmp .lt 5, 3) := by decide +kernel
theorem d_C_lost_29 : decode prog_1_method_21_code 29 = .ok (.iconst (-1), 1) := by decide +kernel
theorem d_C_lost_30 : decode prog_1_method_21_code 30 = .ok (.ireturn, 1) := by decide +kernel
theorem d_C_lost_31 : decode prog_1_method_21_code 31 = .ok (.aload_n 2, 1) := by decide +kernel
theorem d_C_lost_32 : decode prog_1_method_21_code 32 = .ok (.bipush 6, 2) := by decide +kernel
theorem d_C_lost_34 : decode prog_1_method_21_code 34 = .ok (.putfield 60, 3) := by decide +kernel
theorem d_C_lost_37 : decode prog_1_method_21_code 37 = .ok (.aload_n 0, 1) := by decide +kernel
theorem d_C_lost_38 : decode prog_1_method_21_code 38 = .ok (.getfield 35, 3) := by decide +kernel
theorem d_C_lost_41 : decode prog_1_method_21_code 41 = .ok (.aload_n 0, 1) := by decide +kernel
theorem d_C_lost_42 : decode prog_1_method_21_code 42 = .ok (.getfield 39, 3) := by decide +kernel
theorem d_C_lost_45 : decode prog_1_method_21_code 45 = .ok (.iload_n 1, 1) := by decide +kernel
theorem d_C_lost_46 : decode prog_1_method_21_code 46 = .ok (.iastore, 1) := by decide +kernel
theorem d_C_lost_47 : decode prog_1_method_21_code 47 = .ok (.aload_n 0, 1) := by decide +kernel
theorem d_C_lost_48 : decode prog_1_method_21_code 48 = .ok (.dup, 1) := by decide +kernel
theorem d_C_lost_49 : decode prog_1_method_21_code 49 = .ok (.getfield 39, 3) := by decide +kernel
theorem d_C_lost_52 : decode prog_1_method_21_code 52 = .ok (.iconst 1, 1) := by decide +kernel
theorem d_C_lost_53 : decode prog_1_method_21_code 53 = .ok (.iadd, 1) := by decide +kernel
theorem d_C_lost_54 : decode prog_1_method_21_code 54 = .ok (.putfield 39, 3) := by decide +kernel
theorem d_C_lost_57 : decode prog_1_method_21_code 57 = .ok (.aload_n 0, 1) := by decide +kernel
theorem d_C_lost_58 : decode prog_1_method_21_code 58 = .ok (.getfield 39, 3) := by decide +kernel
theorem d_C_lost_61 : decode prog_1_method_21_code 61 = .ok (.ireturn, 1) := by decide +kernel
theorem d_C_told_0 : decode prog_1_method_22_code 0 = .ok (.iload_n 1, 1) := by decide +kernel
theorem d_C_told_1 : decode prog_1_method_22_code 1 = .ok (.ifCond .lt 20, 3) := by decide +kernel
theorem d_C_told_4 : decode prog_1_method_22_code 4 = .ok (.iload_n 1, 1) := by decide +kernel
theorem d_C_told_5 : decode prog_1_method_22_code 5 = .ok (.aload_n 0, 1) := by decide +kernel
theorem d_C_told_6 : decode prog_1_method_22_code 6 = .ok (.getfield 39, 3) := by decide +kernel
theorem d_C_told_9 : decode prog_1_method_22_code 9 = .ok (.if_icmp .ge 12, 3) := by decide +kernel
theorem d_C_told_12 : decode prog_1_method_22_code 12 = .ok (.iload_n 1, 1) := by decide +kernel
theorem d_C_told_13 : decode prog_1_method_22_code 13 = .ok (.aload_n 0, 1) := by decide +kernel
theorem d_C_told_14 : decode prog_1_method_22_code 14 = .ok (.getfield 35, 3) := by decide +kernel
theorem d_C_told_17 : decode prog_1_method_22_code 17 = .ok (.arraylength, 1) := by decide +kernel
theorem d_C_told_18 : decode prog_1_method_22_code 18 = .ok (.if_icmp .lt 5, 3) := by decide +kernel
theorem d_C_told_21 : decode prog_1_method_22_code 21 = .ok (.iconst (-1), 1) := by decide +kernel
theorem d_C_told_22 : decode prog_1_method_22_code 22 = .ok (.ireturn, 1) := by decide +kernel
theorem d_C_told_23 : decode prog_1_method_22_code 23 = .ok (.aload_n 0, 1) := by decide +kernel
theorem d_C_told_24 : decode prog_1_method_22_code 24 = .ok (.getfield 35, 3) := by decide +kernel
theorem d_C_told_27 : decode prog_1_method_22_code 27 = .ok (.iload_n 1, 1) := by decide +kernel
theorem d_C_told_28 : decode prog_1_method_22_code 28 = .ok (.iaload, 1) := by decide +kernel
theorem d_C_told_29 : decode prog_1_method_22_code 29 = .ok (.ireturn, 1) := by decide +kernel
theorem d_C_states_0 : decode prog_1_method_23_code 0 = .ok (.iconst 0, 1) := by decide +kernel
theorem d_C_states_1 : decode prog_1_method_23_code 1 = .ok (.istore_n 1, 1) := by decide +kernel
theorem d_C_states_2 : decode prog_1_method_23_code 2 = .ok (.iconst 0, 1) := by decide +kernel
theorem d_C_states_3 : decode prog_1_method_23_code 3 = .ok (.istore_n 2, 1) := by decide +kernel
theorem d_C_states_4 : decode prog_1_method_23_code 4 = .ok (.iload_n 2, 1) := by decide +kernel
theorem d_C_states_5 : decode prog_1_method_23_code 5 = .ok (.aload_n 0, 1) := by decide +kernel
theorem d_C_states_6 : decode prog_1_method_23_code 6 = .ok (.getfield 15, 3) := by decide +kernel
theorem d_C_states_9 : decode prog_1_method_23_code 9 = .ok (.if_icmp .ge 28, 3) := by decide +kernel
theorem d_C_states_12 : decode prog_1_method_23_code 12 = .ok (.aload_n 0, 1) := by decide +kernel
theorem d_C_states_13 : decode prog_1_method_23_code 13 = .ok (.iload_n 2, 1) := by decide +kernel
theorem d_C_states_14 : decode prog_1_method_23_code 14 = .ok (.invokevirtual 56, 3) := by decide +kernel
theorem d_C_states_17 : decode prog_1_method_23_code 17 = .ok (.astore_n 3, 1) := by decide +kernel
theorem d_C_states_18 : decode prog_1_method_23_code 18 = .ok (.aload_n 3, 1) := by decide +kernel
theorem d_C_states_19 : decode prog_1_method_23_code 19 = .ok (.ifnull 12, 3) := by decide +kernel
theorem d_C_states_22 : decode prog_1_method_23_code 22 = .ok (.iload_n 1, 1) := by decide +kernel
theorem d_C_states_23 : decode prog_1_method_23_code 23 = .ok (.iconst 1, 1) := by decide +kernel
theorem d_C_states_24 : decode prog_1_method_23_code 24 = .ok (.aload_n 3, 1) := by decide +kernel
theorem d_C_states_25 : decode prog_1_method_23_code 25 = .ok (.getfield 60, 3) := by decide +kernel
theorem d_C_states_28 : decode prog_1_method_23_code 28 = .ok (.ishl, 1) := by decide +kernel
theorem d_C_states_29 : decode prog_1_method_23_code 29 = .ok (.ior, 1) := by decide +kernel
theorem d_C_states_30 : decode prog_1_method_23_code 30 = .ok (.istore_n 1, 1) := by decide +kernel
theorem d_C_states_31 : decode prog_1_method_23_code 31 = .ok (.iinc 2 1, 3) := by decide +kernel
theorem d_C_states_34 : decode prog_1_method_23_code 34 = .ok (.goto (-30), 3) := by decide +kernel
theorem d_C_states_37 : decode prog_1_method_23_code 37 = .ok (.iload_n 1, 1) := by decide +kernel
theorem d_C_states_38 : decode prog_1_method_23_code 38 = .ok (.invokestatic 143, 3) := by decide +kernel
theorem d_C_states_41 : decode prog_1_method_23_code 41 = .ok (.ireturn, 1) := by decide +kernel
theorem d_I_bitCount_0 : decode prog_6_method_49_code 0 = .ok (.iload_n 0, 1) := by decide +kernel
theorem d_I_bitCount_1 : decode prog_6_method_49_code 1 = .ok (.iload_n 0, 1) := by decide +kernel
theorem d_I_bitCount_2 : decode prog_6_method_49_code 2 = .ok (.iconst 1, 1) := by decide +kernel
theorem d_I_bitCount_3 : decode prog_6_method_49_code 3 = .ok (.iushr, 1) := by decide +kernel
theorem d_I_bitCount_4 : decode prog_6_method_49_code 4 = .ok (.ldc_w 265, 3) := by decide +kernel
theorem d_I_bitCount_7 : decode prog_6_method_49_code 7 = .ok (.iand, 1) := by decide +kernel
theorem d_I_bitCount_8 : decode prog_6_method_49_code 8 = .ok (.isub, 1) := by decide +kernel
theorem d_I_bitCount_9 : decode prog_6_method_49_code 9 = .ok (.istore_n 0, 1) := by decide +kernel
theorem d_I_bitCount_10 : decode prog_6_method_49_code 10 = .ok (.iload_n 0, 1) := by decide +kernel
theorem d_I_bitCount_11 : decode prog_6_method_49_code 11 = .ok (.ldc_w 266, 3) := by decide +kernel
theorem d_I_bitCount_14 : decode prog_6_method_49_code 14 = .ok (.iand, 1) := by decide +kernel
theorem d_I_bitCount_15 : decode prog_6_method_49_code 15 = .ok (.iload_n 0, 1) := by decide +kernel
theorem d_I_bitCount_16 : decode prog_6_method_49_code 16 = .ok (.iconst 2, 1) := by decide +kernel
theorem d_I_bitCount_17 : decode prog_6_method_49_code 17 = .ok (.iushr, 1) := by decide +kernel
theorem d_I_bitCount_18 : decode prog_6_method_49_code 18 = .ok (.ldc_w 266, 3) := by decide +kernel
theorem d_I_bitCount_21 : decode prog_6_method_49_code 21 = .ok (.iand, 1) := by decide +kernel
theorem d_I_bitCount_22 : decode prog_6_method_49_code 22 = .ok (.iadd, 1) := by decide +kernel
theorem d_I_bitCount_23 : decode prog_6_method_49_code 23 = .ok (.istore_n 0, 1) := by decide +kernel
theorem d_I_bitCount_24 : decode prog_6_method_49_code 24 = .ok (.iload_n 0, 1) := by decide +kernel
theorem d_I_bitCount_25 : decode prog_6_method_49_code 25 = .ok (.iload_n 0, 1) := by decide +kernel
theorem d_I_bitCount_26 : decode prog_6_method_49_code 26 = .ok (.iconst 4, 1) := by decide +kernel
theorem d_I_bitCount_27 : decode prog_6_method_49_code 27 = .ok (.iushr, 1) := by decide +kernel
theorem d_I_bitCount_28 : decode prog_6_method_49_code 28 = .ok (.iadd, 1) := by decide +kernel
theorem d_I_bitCount_29 : decode prog_6_method_49_code 29 = .ok (.ldc_w 267, 3) := by decide +kernel
theorem d_I_bitCount_32 : decode prog_6_method_49_code 32 = .ok (.iand, 1) := by decide +kernel
theorem d_I_bitCount_33 : decode prog_6_method_49_code 33 = .ok (.istore_n 0, 1) := by decide +kernel
theorem d_I_bitCount_34 : decode prog_6_method_49_code 34 = .ok (.iload_n 0, 1) := by decide +kernel
theorem d_I_bitCount_35 : decode prog_6_method_49_code 35 = .ok (.iload_n 0, 1) := by decide +kernel
theorem d_I_bitCount_36 : decode prog_6_method_49_code 36 = .ok (.bipush 8, 2) := by decide +kernel
theorem d_I_bitCount_38 : decode prog_6_method_49_code 38 = .ok (.iushr, 1) := by decide +kernel
theorem d_I_bitCount_39 : decode prog_6_method_49_code 39 = .ok (.iadd, 1) := by decide +kernel
theorem d_I_bitCount_40 : decode prog_6_method_49_code 40 = .ok (.istore_n 0, 1) := by decide +kernel
theorem d_I_bitCount_41 : decode prog_6_method_49_code 41 = .ok (.iload_n 0, 1) := by decide +kernel
theorem d_I_bitCount_42 : decode prog_6_method_49_code 42 = .ok (.iload_n 0, 1) := by decide +kernel
theorem d_I_bitCount_43 : decode prog_6_method_49_code 43 = .ok (.bipush 16, 2) := by decide +kernel
theorem d_I_bitCount_45 : decode prog_6_method_49_code 45 = .ok (.iushr, 1) := by decide +kernel
theorem d_I_bitCount_46 : decode prog_6_method_49_code 46 = .ok (.iadd, 1) := by decide +kernel
theorem d_I_bitCount_47 : decode prog_6_method_49_code 47 = .ok (.istore_n 0, 1) := by decide +kernel
theorem d_I_bitCount_48 : decode prog_6_method_49_code 48 = .ok (.iload_n 0, 1) := by decide +kernel
theorem d_I_bitCount_49 : decode prog_6_method_49_code 49 = .ok (.bipush 63, 2) := by decide +kernel
theorem d_I_bitCount_51 : decode prog_6_method_49_code 51 = .ok (.iand, 1) := by decide +kernel
theorem d_I_bitCount_52 : decode prog_6_method_49_code 52 = .ok (.ireturn, 1) := by decide +kernel
theorem d_R_init_0 : decode prog_5_method_1_code 0 = .ok (.aload_n 0, 1) := by decide +kernel
theorem d_R_init_1 : decode prog_5_method_1_code 1 = .ok (.invokespecial 1, 3) := by decide +kernel
theorem d_R_init_4 : decode prog_5_method_1_code 4 = .ok (.aload_n 0, 1) := by decide +kernel
theorem d_R_init_5 : decode prog_5_method_1_code 5 = .ok (.bipush 10, 2) := by decide +kernel
theorem d_R_init_7 : decode prog_5_method_1_code 7 = .ok (.newarray .int, 2) := by decide +kernel
theorem d_R_init_9 : decode prog_5_method_1_code 9 = .ok (.putfield 7, 3) := by decide +kernel
theorem d_R_init_12 : decode prog_5_method_1_code 12 = .ok (.aload_n 0, 1) := by decide +kernel
theorem d_R_init_13 : decode prog_5_method_1_code 13 = .ok (.bipush 10, 2) := by decide +kernel
theorem d_R_init_15 : decode prog_5_method_1_code 15 = .ok (.newarray .long, 2) := by decide +kernel
theorem d_R_init_17 : decode prog_5_method_1_code 17 = .ok (.putfield 13, 3) := by decide +kernel
theorem d_R_init_20 : decode prog_5_method_1_code 20 = .ok (.aload_n 0, 1) := by decide +kernel
theorem d_R_init_21 : decode prog_5_method_1_code 21 = .ok (.bipush 10, 2) := by decide +kernel
theorem d_R_init_23 : decode prog_5_method_1_code 23 = .ok (.newarray .int, 2) := by decide +kernel
theorem d_R_init_25 : decode prog_5_method_1_code 25 = .ok (.putfield 17, 3) := by decide +kernel
theorem d_R_init_28 : decode prog_5_method_1_code 28 = .ok (.aload_n 0, 1) := by decide +kernel
theorem d_R_init_29 : decode prog_5_method_1_code 29 = .ok (.bipush 10, 2) := by decide +kernel
theorem d_R_init_31 : decode prog_5_method_1_code 31 = .ok (.newarray .int, 2) := by decide +kernel
theorem d_R_init_33 : decode prog_5_method_1_code 33 = .ok (.putfield 20, 3) := by decide +kernel
theorem d_R_init_36 : decode prog_5_method_1_code 36 = .ok (.aload_n 0, 1) := by decide +kernel
theorem d_R_init_37 : decode prog_5_method_1_code 37 = .ok (.bipush 10, 2) := by decide +kernel
theorem d_R_init_39 : decode prog_5_method_1_code 39 = .ok (.newarray .int, 2) := by decide +kernel
theorem d_R_init_41 : decode prog_5_method_1_code 41 = .ok (.putfield 23, 3) := by decide +kernel
theorem d_R_init_44 : decode prog_5_method_1_code 44 = .ok (.aload_n 0, 1) := by decide +kernel
theorem d_R_init_45 : decode prog_5_method_1_code 45 = .ok (.sipush 640, 3) := by decide +kernel
theorem d_R_init_48 : decode prog_5_method_1_code 48 = .ok (.newarray .int, 2) := by decide +kernel
theorem d_R_init_50 : decode prog_5_method_1_code 50 = .ok (.putfield 26, 3) := by decide +kernel
theorem d_R_init_53 : decode prog_5_method_1_code 53 = .ok (.aload_n 0, 1) := by decide +kernel
theorem d_R_init_54 : decode prog_5_method_1_code 54 = .ok (.sipush 640, 3) := by decide +kernel
theorem d_R_init_57 : decode prog_5_method_1_code 57 = .ok (.newarray .int, 2) := by decide +kernel
theorem d_R_init_59 : decode prog_5_method_1_code 59 = .ok (.putfield 29, 3) := by decide +kernel
theorem d_R_init_62 : decode prog_5_method_1_code 62 = .ok (.aload_n 0, 1) := by decide +kernel
theorem d_R_init_63 : decode prog_5_method_1_code 63 = .ok (.sipush 640, 3) := by decide +kernel
theorem d_R_init_66 : decode prog_5_method_1_code 66 = .ok (.newarray .boolean, 2) := by decide +kernel
theorem d_R_init_68 : decode prog_5_method_1_code 68 = .ok (.putfield 32, 3) := by decide +kernel
theorem d_R_init_71 : decode prog_5_method_1_code 71 = .ok (.aload_n 0, 1) := by decide +kernel
theorem d_R_init_72 : decode prog_5_method_1_code 72 = .ok (.sipush 640, 3) := by decide +kernel
theorem d_R_init_75 : decode prog_5_method_1_code 75 = .ok (.newarray .boolean, 2) := by decide +kernel
theorem d_R_init_77 : decode prog_5_method_1_code 77 = .ok (.putfield 36, 3) := by decide +kernel
theorem d_R_init_80 : decode prog_5_method_1_code 80 = .ok (.aload_n 0, 1) := by decide +kernel
theorem d_R_init_81 : decode prog_5_method_1_code 81 = .ok (.bipush 10, 2) := by decide +kernel
theorem d_R_init_83 : decode prog_5_method_1_code 83 = .ok (.newarray .int, 2) := by decide +kernel
theorem d_R_init_85 : decode prog_5_method_1_code 85 = .ok (.putfield 39, 3) := by decide +kernel
theorem d_R_init_88 : decode prog_5_method_1_code 88 = .ok (.aload_n 0, 1) := by decide +kernel
theorem d_R_init_89 : decode prog_5_method_1_code 89 = .ok (.bipush 10, 2) := by decide +kernel
theorem d_R_init_91 : decode prog_5_method_1_code 91 = .ok (.newarray .int, 2) := by decide +kernel
theorem d_R_init_93 : decode prog_5_method_1_code 93 = .ok (.putfield 42, 3) := by decide +kernel
theorem d_R_init_96 : decode prog_5_method_1_code 96 = .ok (.aload_n 0, 1) := by decide +kernel
theorem d_R_init_97 : decode prog_5_method_1_code 97 = .ok (.bipush 60, 2) := by decide +kernel
theorem d_R_init_99 : decode prog_5_method_1_code 99 = .ok (.newarray .int, 2) := by decide +kernel
theorem d_R_init_101 : decode prog_5_method_1_code 101 = .ok (.putfield 45, 3) := by decide +kernel
theorem d_R_init_104 : decode prog_5_method_1_code 104 = .ok (.aload_n 0, 1) := by decide +kernel
theorem d_R_init_105 : decode prog_5_method_1_code 105 = .ok (.sipush 240, 3) := by decide +kernel
theorem d_R_init_108 : decode prog_5_method_1_code 108 = .ok (.newarray .int, 2) := by decide +kernel
theorem d_R_init_110 : decode prog_5_method_1_code 110 = .ok (.putfield 48, 3) := by decide +kernel
theorem d_R_init_113 : decode prog_5_method_1_code 113 = .ok (.aload_n 0, 1) := by decide +kernel
theorem d_R_init_114 : decode prog_5_method_1_code 114 = .ok (.bipush 20, 2) := by decide +kernel
theorem d_R_init_116 : decode prog_5_method_1_code 116 = .ok (.newarray .int, 2) := by decide +kernel
theorem d_R_init_118 : decode prog_5_method_1_code 118 = .ok (.putfield 51, 3) := by decide +kernel
theorem d_R_init_121 : decode prog_5_method_1_code 121 = .ok (.aload_n 0, 1) := by decide +kernel
theorem d_R_init_122 : decode prog_5_method_1_code 122 = .ok (.bipush 20, 2) := by decide +kernel
theorem d_R_init_124 : decode prog_5_method_1_code 124 = .ok (.newarray .long, 2) := by decide +kernel
theorem d_R_init_126 : decode prog_5_method_1_code 126 = .ok (.putfield 54, 3) := by decide +kernel
theorem d_R_init_129 : decode prog_5_method_1_code 129 = .ok (.aload_n 0, 1) := by decide +kernel
theorem d_R_init_130 : decode prog_5_method_1_code 130 = .ok (.bipush 10, 2) := by decide +kernel
theorem d_R_init_132 : decode prog_5_method_1_code 132 = .ok (.newarray .int, 2) := by decide +kernel
theorem d_R_init_134 : decode prog_5_method_1_code 134 = .ok (.putfield 57, 3) := by decide +kernel
theorem d_R_init_137 : decode prog_5_method_1_code 137 = .ok (.return_, 1) := by decide +kernel
theorem d_R_carrier_0 : decode prog_5_method_8_code 0 = .ok (.aload_n 0, 1) := by decide +kernel
theorem d_R_carrier_1 : decode prog_5_method_8_code 1 = .ok (.getfield 60, 3) := by decide +kernel
theorem d_R_carrier_4 : decode prog_5_method_8_code 4 = .ok (.bipush 10, 2) := by decide +kernel
theorem d_R_carrier_6 : decode prog_5_method_8_code 6 = .ok (.if_icmp .eq 47, 3) := by decide +kernel
theorem d_R_carrier_9 : decode prog_5_method_8_code 9 = .ok (.iload_n 1, 1) := by decide +kernel
theorem d_R_carrier_10 : decode prog_5_method_8_code 10 = .ok (.i2l, 1) := by decide +kernel
theorem d_R_carrier_11 : decode prog_5_method_8_code 11 = .ok (.lconst 0, 1) := by decide +kernel
theorem d_R_carrier_12 : decode prog_5_method_8_code 12 = .ok (.ldc2_w 68, 3) := by decide +kernel
theorem d_R_carrier_15 : decode prog_5_method_8_code 15 = .ok (.invokestatic 70, 3) := by decide +kernel
theorem d_R_carrier_18 : decode prog_5_method_8_code 18 = .ok (.ifCond .eq 35, 3) := by decide +kernel
theorem d_R_carrier_21 : decode prog_5_method_8_code 21 = .ok (.lload_n 2, 1) := by decide +kernel
theorem d_R_carrier_22 : decode prog_5_method_8_code 22 = .ok (.lconst 0, 1) := by decide +kernel
theorem d_R_carrier_23 : decode prog_5_method_8_code 23 = .ok (.ldc2_w 74, 3) := by decide +kernel
theorem d_R_carrier_26 : decode prog_5_method_8_code 26 = .ok (.invokestatic 70, 3) := by decide +kernel
theorem d_R_carrier_29 : decode prog_5_method_8_code 29 = .ok (.ifCond .eq 24, 3) := by decide +kernel
theorem d_R_carrier_32 : decode prog_5_method_8_code 32 = .ok (.iload 4, 2) := by decide +kernel
theorem d_R_carrier_34 : decode prog_5_method_8_code 34 = .ok (.i2l, 1) := by decide +kernel
theorem d_R_carrier_35 : decode prog_5_method_8_code 35 = .ok (.lconst 1, 1) := by decide +kernel
theorem d_R_carrier_36 : decode prog_5_method_8_code 36 = .ok (.ldc2_w 76, 3) := by decide +kernel
theorem d_R_carrier_39 : decode prog_5_method_8_code 39 = .ok (.invokestatic 70, 3) := by decide +kernel
theorem d_R_carrier_42 : decode prog_5_method_8_code 42 = .ok (.ifCond .eq 11, 3) := by decide +kernel
theorem d_R_carrier_45 : decode prog_5_method_8_code 45 = .ok (.aload_n 0, 1) := by decide +kernel
theorem d_R_carrier_46 : decode prog_5_method_8_code 46 = .ok (.lload_n 2, 1) := by decide +kernel
theorem d_R_carrier_47 : decode prog_5_method_8_code 47 = .ok (.invokevirtual 78, 3) := by decide +kernel
theorem d_R_carrier_50 : decode prog_5_method_8_code 50 = .ok (.ifCond .eq 5, 3) := by decide +kernel
theorem d_R_carrier_53 : decode prog_5_method_8_code 53 = .ok (.iconst (-1), 1) := by decide +kernel
theorem d_R_carrier_54 : decode prog_5_method_8_code 54 = .ok (.ireturn, 1) := by decide +kernel
theorem d_R_carrier_55 : decode prog_5_method_8_code 55 = .ok (.aload_n 0, 1) := by decide +kernel
theorem d_R_carrier_56 : decode prog_5_method_8_code 56 = .ok (.getfield 7, 3) := by decide +kernel
theorem d_R_carrier_59 : decode prog_5_method_8_code 59 = .ok (.aload_n 0, 1) := by decide +kernel
theorem d_R_carrier_60 : decode prog_5_method_8_code 60 = .ok (.getfield 60, 3) := by decide +kernel
theorem d_R_carrier_63 : decode prog_5_method_8_code 63 = .ok (.iload_n 1, 1) := by decide +kernel
theorem d_R_carrier_64 : decode prog_5_method_8_code 64 = .ok (.iastore, 1) := by decide +kernel
theorem d_R_carrier_65 : decode prog_5_method_8_code 65 = .ok (.aload_n 0, 1) := by decide +kernel
theorem d_R_carrier_66 : decode prog_5_method_8_code 66 = .ok (.getfield 13, 3) := by decide +kernel
theorem d_R_carrier_69 : decode prog_5_method_8_code 69 = .ok (.aload_n 0, 1) := by decide +kernel
theorem d_R_carrier_70 : decode prog_5_method_8_code 70 = .ok (.getfield 60, 3) := by decide +kernel
theorem d_R_carrier_73 : decode prog_5_method_8_code 73 = .ok (.lload_n 2, 1) := by decide +kernel
theorem d_R_carrier_74 : decode prog_5_method_8_code 74 = .ok (.lastore, 1) := by decide +kernel
theorem d_R_carrier_75 : decode prog_5_method_8_code 75 = .ok (.aload_n 0, 1) := by decide +kernel
theorem d_R_carrier_76 : decode prog_5_method_8_code 76 = .ok (.getfield 17, 3) := by decide +kernel
theorem d_R_carrier_79 : decode prog_5_method_8_code 79 = .ok (.aload_n 0, 1) := by decide +kernel
theorem d_R_carrier_80 : decode prog_5_method_8_code 80 = .ok (.getfield 60, 3) := by decide +kernel
theorem d_R_carrier_83 : decode prog_5_method_8_code 83 = .ok (.iload 4, 2) := by decide +kernel
theorem d_R_carrier_85 : decode prog_5_method_8_code 85 = .ok (.iastore, 1) := by decide +kernel
theorem d_R_carrier_86 : decode prog_5_method_8_code 86 = .ok (.aload_n 0, 1) := by decide +kernel
theorem d_R_carrier_87 : decode prog_5_method_8_code 87 = .ok (.getfield 23, 3) := by decide +kernel
theorem d_R_carrier_90 : decode prog_5_method_8_code 90 = .ok (.aload_n 0, 1) := by decide +kernel
theorem d_R_carrier_91 : decode prog_5_method_8_code 91 = .ok (.getfield 60, 3) := by decide +kernel
theorem d_R_carrier_94 : decode prog_5_method_8_code 94 = .ok (.iconst (-1), 1) := by decide +kernel
theorem d_R_carrier_95 : decode prog_5_method_8_code 95 = .ok (.iastore, 1) := by decide +kernel
theorem d_R_carrier_96 : decode prog_5_method_8_code 96 = .ok (.aload_n 0, 1) := by decide +kernel
theorem d_R_carrier_97 : decode prog_5_method_8_code 97 = .ok (.dup, 1) := by decide +kernel
theorem d_R_carrier_98 : decode prog_5_method_8_code 98 = .ok (.getfield 60, 3) := by decide +kernel
theorem d_R_carrier_101 : decode prog_5_method_8_code 101 = .ok (.iconst 1, 1) := by decide +kernel
theorem d_R_carrier_102 : decode prog_5_method_8_code 102 = .ok (.iadd, 1) := by decide +kernel
theorem d_R_carrier_103 : decode prog_5_method_8_code 103 = .ok (.putfield 60, 3) := by decide +kernel
theorem d_R_carrier_106 : decode prog_5_method_8_code 106 = .ok (.aload_n 0, 1) := by decide +kernel
theorem d_R_carrier_107 : decode prog_5_method_8_code 107 = .ok (.getfield 60, 3) := by decide +kernel
theorem d_R_carrier_110 : decode prog_5_method_8_code 110 = .ok (.iconst 1, 1) := by decide +kernel
theorem d_R_carrier_111 : decode prog_5_method_8_code 111 = .ok (.isub, 1) := by decide +kernel
theorem d_R_carrier_112 : decode prog_5_method_8_code 112 = .ok (.ireturn, 1) := by decide +kernel
theorem d_R_isIn_0 : decode prog_5_method_3_code 0 = .ok (.lload_n 0, 1) := by decide +kernel
theorem d_R_isIn_1 : decode prog_5_method_3_code 1 = .ok (.lload_n 2, 1) := by decide +kernel
theorem d_R_isIn_2 : decode prog_5_method_3_code 2 = .ok (.lcmp, 1) := by decide +kernel
theorem d_R_isIn_3 : decode prog_5_method_3_code 3 = .ok (.ifCond .lt 14, 3) := by decide +kernel
theorem d_R_isIn_6 : decode prog_5_method_3_code 6 = .ok (.lload_n 0, 1) := by decide +kernel
theorem d_R_isIn_7 : decode prog_5_method_3_code 7 = .ok (.lload 4, 2) := by decide +kernel
theorem d_R_isIn_9 : decode prog_5_method_3_code 9 = .ok (.lcmp, 1) := by decide +kernel
theorem d_R_isIn_10 : decode prog_5_method_3_code 10 = .ok (.ifCond .gt 7, 3) := by decide +kernel
theorem d_R_isIn_13 : decode prog_5_method_3_code 13 = .ok (.iconst 1, 1) := by decide +kernel
theorem d_R_isIn_14 : decode prog_5_method_3_code 14 = .ok (.goto 4, 3) := by decide +kernel
theorem d_R_isIn_17 : decode prog_5_method_3_code 17 = .ok (.iconst 0, 1) := by decide +kernel
theorem d_R_isIn_18 : decode prog_5_method_3_code 18 = .ok (.ireturn, 1) := by decide +kernel
theorem d_R_hasSerial_0 : decode prog_5_method_7_code 0 = .ok (.iconst 0, 1) := by decide +kernel
theorem d_R_hasSerial_1 : decode prog_5_method_7_code 1 = .ok (.istore_n 3, 1) := by decide +kernel
theorem d_R_hasSerial_2 : decode prog_5_method_7_code 2 = .ok (.iconst 0, 1) := by decide +kernel
theorem d_R_hasSerial_3 : decode prog_5_method_7_code 3 = .ok (.istore 4, 2) := by decide +kernel
theorem d_R_hasSerial_5 : decode prog_5_method_7_code 5 = .ok (.iload 4, 2) := by decide +kernel
theorem d_R_hasSerial_7 : decode prog_5_method_7_code 7 = .ok (.aload_n 0, 1) := by decide +kernel
theorem d_R_hasSerial_8 : decode prog_5_method_7_code 8 = .ok (.getfield 60, 3) := by decide +kernel
theorem d_R_hasSerial_11 : decode prog_5_method_7_code 11 = .ok (.if_icmp .ge 31, 3) := by decide +kernel
theorem d_R_hasSerial_14 : decode prog_5_method_7_code 14 = .ok (.iload_n 3, 1) := by decide +kernel
theorem d_R_hasSerial_15 : decode prog_5_method_7_code 15 = .ok (.ifCond .ne 15, 3) := by decide +kernel
theorem d_R_hasSerial_18 : decode prog_5_method_7_code 18 = .ok (.aload_n 0, 1) := by decide +kernel
theorem d_R_hasSerial_19 : decode prog_5_method_7_code 19 = .ok (.getfield 13, 3) := by decide +kernel
theorem d_R_hasSerial_22 : decode prog_5_method_7_code 22 = .ok (.iload 4, 2) := by decide +kernel
theorem d_R_hasSerial_24 : decode prog_5_method_7_code 24 = .ok (.laload, 1) := by decide +kernel
theorem d_R_hasSerial_25 : decode prog_5_method_7_code 25 = .ok (.lload_n 1, 1) := by decide +kernel
theorem d_R_hasSerial_26 : decode prog_5_method_7_code 26 = .ok (.lcmp, 1) := by decide +kernel
theorem d_R_hasSerial_27 : decode prog_5_method_7_code 27 = .ok (.ifCond .ne 7, 3) := by decide +kernel
theorem d_R_hasSerial_30 : decode prog_5_method_7_code 30 = .ok (.iconst 1, 1) := by decide +kernel
theorem d_R_hasSerial_31 : decode prog_5_method_7_code 31 = .ok (.goto 4, 3) := by decide +kernel
theorem d_R_hasSerial_34 : decode prog_5_method_7_code 34 = .ok (.iconst 0, 1) := by decide +kernel
theorem d_R_hasSerial_35 : decode prog_5_method_7_code 35 = .ok (.istore_n 3, 1) := by decide +kernel
theorem d_R_hasSerial_36 : decode prog_5_method_7_code 36 = .ok (.iinc 4 1, 3) := by decide +kernel
theorem d_R_hasSerial_39 : decode prog_5_method_7_code 39 = .ok (.goto (-34), 3) := by decide +kernel
theorem d_R_hasSerial_42 : decode prog_5_method_7_code 42 = .ok (.iload_n 3, 1) := by decide +kernel
theorem d_R_hasSerial_43 : decode prog_5_method_7_code 43 = .ok (.ireturn, 1) := by decide +kernel
theorem d_R_state_0 : decode prog_5_method_9_code 0 = .ok (.aload_n 0, 1) := by decide +kernel
theorem d_R_state_1 : decode prog_5_method_9_code 1 = .ok (.iload_n 1, 1) := by decide +kernel
theorem d_R_state_2 : decode prog_5_method_9_code 2 = .ok (.invokevirtual 64, 3) := by decide +kernel
theorem d_R_state_5 : decode prog_5_method_9_code 5 = .ok (.ifCond .eq 12, 3) := by decide +kernel
theorem d_R_state_8 : decode prog_5_method_9_code 8 = .ok (.aload_n 0, 1) := by decide +kernel
theorem d_R_state_9 : decode prog_5_method_9_code 9 = .ok (.getfield 20, 3) := by decide +kernel
theorem d_R_state_12 : decode prog_5_method_9_code 12 = .ok (.iload_n 1, 1) := by decide +kernel
theorem d_R_state_13 : decode prog_5_method_9_code 13 = .ok (.iaload, 1) := by decide +kernel
theorem d_R_state_14 : decode prog_5_method_9_code 14 = .ok (.goto 4, 3) := by decide +kernel
theorem d_R_state_17 : decode prog_5_method_9_code 17 = .ok (.iconst (-1), 1) := by decide +kernel
theorem d_R_state_18 : decode prog_5_method_9_code 18 = .ok (.ireturn, 1) := by decide +kernel
theorem d_R_isCarrier_0 : decode prog_5_method_4_code 0 = .ok (.iload_n 1, 1) := by decide +kernel
theorem d_R_isCarrier_1 : decode prog_5_method_4_code 1 = .ok (.ifCond .lt 15, 3) := by decide +kernel
theorem d_R_isCarrier_4 : decode prog_5_method_4_code 4 = .ok (.iload_n 1, 1) := by decide +kernel
theorem d_R_isCarrier_5 : decode prog_5_method_4_code 5 = .ok (.aload_n 0, 1) := by decide +kernel
theorem d_R_isCarrier_6 : decode prog_5_method_4_code 6 = .ok (.getfield 60, 3) := by decide +kernel
theorem d_R_isCarrier_9 : decode prog_5_method_4_code 9 = .ok (.if_icmp .ge 7, 3) := by decide +kernel
theorem d_R_isCarrier_12 : decode prog_5_method_4_code 12 = .ok (.iconst 1, 1) := by decide +kernel
theorem d_R_isCarrier_13 : decode prog_5_method_4_code 13 = .ok (.goto 4, 3) := by decide +kernel
theorem d_R_isCarrier_16 : decode prog_5_method_4_code 16 = .ok (.iconst 0, 1) := by decide +kernel
theorem d_R_isCarrier_17 : decode prog_5_method_4_code 17 = .ok (.ireturn, 1) := by decide +kernel
theorem d_R_event_0 : decode prog_5_method_11_code 0 = .ok (.aload_n 0, 1) := by decide +kernel
theorem d_R_event_1 : decode prog_5_method_11_code 1 = .ok (.iload_n 1, 1) := by decide +kernel
theorem d_R_event_2 : decode prog_5_method_11_code 2 = .ok (.invokevirtual 64, 3) := by decide +kernel
theorem d_R_event_5 : decode prog_5_method_11_code 5 = .ok (.ifCond .eq 28, 3) := by decide +kernel
theorem d_R_event_8 : decode prog_5_method_11_code 8 = .ok (.iload_n 3, 1) := by decide +kernel
theorem d_R_event_9 : decode prog_5_method_11_code 9 = .ok (.i2l, 1) := by decide +kernel
theorem d_R_event_10 : decode prog_5_method_11_code 10 = .ok (.lconst 0, 1) := by decide +kernel
theorem d_R_event_11 : decode prog_5_method_11_code 11 = .ok (.ldc2_w 82, 3) := by decide +kernel
theorem d_R_event_14 : decode prog_5_method_11_code 14 = .ok (.invokestatic 70, 3) := by decide +kernel
theorem d_R_event_17 : decode prog_5_method_11_code 17 = .ok (.ifCond .eq 16, 3) := by decide +kernel
theorem d_R_event_20 : decode prog_5_method_11_code 20 = .ok (.iload_n 2, 1) := by decide +kernel
theorem d_R_event_21 : decode prog_5_method_11_code 21 = .ok (.aload_n 0, 1) := by decide +kernel
theorem d_R_event_22 : decode prog_5_method_11_code 22 = .ok (.getfield 20, 3) := by decide +kernel
theorem d_R_event_25 : decode prog_5_method_11_code 25 = .ok (.iload_n 1, 1) := by decide +kernel
theorem d_R_event_26 : decode prog_5_method_11_code 26 = .ok (.iaload, 1) := by decide +kernel
theorem d_R_event_27 : decode prog_5_method_11_code 27 = .ok (.invokestatic 84, 3) := by decide +kernel
theorem d_R_event_30 : decode prog_5_method_11_code 30 = .ok (.ifCond .ge 5, 3) := by decide +kernel
theorem d_R_event_33 : decode prog_5_method_11_code 33 = .ok (.iconst 0, 1) := by decide +kernel
theorem d_R_event_34 : decode prog_5_method_11_code 34 = .ok (.ireturn, 1) := by decide +kernel
theorem d_R_event_35 : decode prog_5_method_11_code 35 = .ok (.aload_n 0, 1) := by decide +kernel
theorem d_R_event_36 : decode prog_5_method_11_code 36 = .ok (.getfield 20, 3) := by decide +kernel
theorem d_R_event_39 : decode prog_5_method_11_code 39 = .ok (.iload_n 1, 1) := by decide +kernel
theorem d_R_event_40 : decode prog_5_method_11_code 40 = .ok (.iload_n 2, 1) := by decide +kernel
theorem d_R_event_41 : decode prog_5_method_11_code 41 = .ok (.aload_n 0, 1) := by decide +kernel
theorem d_R_event_42 : decode prog_5_method_11_code 42 = .ok (.getfield 20, 3) := by decide +kernel
theorem d_R_event_45 : decode prog_5_method_11_code 45 = .ok (.iload_n 1, 1) := by decide +kernel
theorem d_R_event_46 : decode prog_5_method_11_code 46 = .ok (.iaload, 1) := by decide +kernel
theorem d_R_event_47 : decode prog_5_method_11_code 47 = .ok (.invokestatic 84, 3) := by decide +kernel
theorem d_R_event_50 : decode prog_5_method_11_code 50 = .ok (.iastore, 1) := by decide +kernel
theorem d_R_event_51 : decode prog_5_method_11_code 51 = .ok (.aload_n 0, 1) := by decide +kernel
theorem d_R_event_52 : decode prog_5_method_11_code 52 = .ok (.getfield 23, 3) := by decide +kernel
theorem d_R_event_55 : decode prog_5_method_11_code 55 = .ok (.iload_n 1, 1) := by decide +kernel
theorem d_R_event_56 : decode prog_5_method_11_code 56 = .ok (.iload_n 3, 1) := by decide +kernel
theorem d_R_event_57 : decode prog_5_method_11_code 57 = .ok (.iastore, 1) := by decide +kernel
theorem d_R_event_58 : decode prog_5_method_11_code 58 = .ok (.iload_n 2, 1) := by decide +kernel
theorem d_R_event_59 : decode prog_5_method_11_code 59 = .ok (.iconst 3, 1) := by decide +kernel
theorem d_R_event_60 : decode prog_5_method_11_code 60 = .ok (.if_icmp .ne 15, 3) := by decide +kernel
theorem d_R_event_63 : decode prog_5_method_11_code 63 = .ok (.aload_n 0, 1) := by decide +kernel
theorem d_R_event_64 : decode prog_5_method_11_code 64 = .ok (.getfield 42, 3) := by decide +kernel
theorem d_R_event_67 : decode prog_5_method_11_code 67 = .ok (.iload_n 1, 1) := by decide +kernel
theorem d_R_event_68 : decode prog_5_method_11_code 68 = .ok (.iconst 0, 1) := by decide +kernel
theorem d_R_event_69 : decode prog_5_method_11_code 69 = .ok (.iastore, 1) := by decide +kernel
theorem d_R_event_70 : decode prog_5_method_11_code 70 = .ok (.aload_n 0, 1) := by decide +kernel
theorem d_R_event_71 : decode prog_5_method_11_code 71 = .ok (.iload_n 1, 1) := by decide +kernel
theorem d_R_event_72 : decode prog_5_method_11_code 72 = .ok (.invokevirtual 88, 3) := by decide +kernel
theorem d_R_event_75 : decode prog_5_method_11_code 75 = .ok (.iconst 1, 1) := by decide +kernel
theorem d_R_event_76 : decode prog_5_method_11_code 76 = .ok (.ireturn, 1) := by decide +kernel
theorem d_R_leads_0 : decode prog_5_method_10_code 0 = .ok (.iload_n 0, 1) := by decide +kernel
theorem d_R_leads_1 : decode prog_5_method_10_code 1 = .ok (.tableswitch 89 0 4 #[35, 45, 56, 67, 78], 35) := by decide +kernel
theorem d_R_leads_36 : decode prog_5_method_10_code 36 = .ok (.iload_n 1, 1) := by decide +kernel
theorem d_R_leads_37 : decode prog_5_method_10_code 37 = .ok (.ifCond .ne 7, 3) := by decide +kernel
theorem d_R_leads_40 : decode prog_5_method_10_code 40 = .ok (.iconst 1, 1) := by decide +kernel
theorem d_R_leads_41 : decode prog_5_method_10_code 41 = .ok (.goto 4, 3) := by decide +kernel
theorem d_R_leads_44 : decode prog_5_method_10_code 44 = .ok (.iconst (-1), 1) := by decide +kernel
theorem d_R_leads_45 : decode prog_5_method_10_code 45 = .ok (.ireturn, 1) := by decide +kernel
theorem d_R_leads_46 : decode prog_5_method_10_code 46 = .ok (.iload_n 1, 1) := by decide +kernel
theorem d_R_leads_47 : decode prog_5_method_10_code 47 = .ok (.iconst 1, 1) := by decide +kernel
theorem d_R_leads_48 : decode prog_5_method_10_code 48 = .ok (.if_icmp .ne 7, 3) := by decide +kernel
theorem d_R_leads_51 : decode prog_5_method_10_code 51 = .ok (.iconst 0, 1) := by decide +kernel
theorem d_R_leads_52 : decode prog_5_method_10_code 52 = .ok (.goto 4, 3) := by decide +kernel
theorem d_R_leads_55 : decode prog_5_method_10_code 55 = .ok (.iconst (-1), 1) := by decide +kernel
theorem d_R_leads_56 : decode prog_5_method_10_code 56 = .ok (.ireturn, 1) := by decide +kernel
theorem d_R_leads_57 : decode prog_5_method_10_code 57 = .ok (.iload_n 1, 1) := by decide +kernel
theorem d_R_leads_58 : decode prog_5_method_10_code 58 = .ok (.iconst 3, 1) := by decide +kernel
theorem d_R_leads_59 : decode prog_5_method_10_code 59 = .ok (.if_icmp .gt 7, 3) := by decide +kernel
theorem d_R_leads_62 : decode prog_5_method_10_code 62 = .ok (.iconst 4, 1) := by decide +kernel
theorem d_R_leads_63 : decode prog_5_method_10_code 63 = .ok (.goto 4, 3) := by decide +kernel
theorem d_R_leads_66 : decode prog_5_method_10_code 66 = .ok (.iconst (-1), 1) := by decide +kernel
theorem d_R_leads_67 : decode prog_5_method_10_code 67 = .ok (.ireturn, 1) := by decide +kernel
theorem d_R_leads_68 : decode prog_5_method_10_code 68 = .ok (.iload_n 1, 1) := by decide +kernel
theorem d_R_leads_69 : decode prog_5_method_10_code 69 = .ok (.iconst 1, 1) := by decide +kernel
theorem d_R_leads_70 : decode prog_5_method_10_code 70 = .ok (.if_icmp .ne 7, 3) := by decide +kernel
theorem d_R_leads_73 : decode prog_5_method_10_code 73 = .ok (.iconst 2, 1) := by decide +kernel
theorem d_R_leads_74 : decode prog_5_method_10_code 74 = .ok (.goto 4, 3) := by decide +kernel
theorem d_R_leads_77 : decode prog_5_method_10_code 77 = .ok (.iconst (-1), 1) := by decide +kernel
theorem d_R_leads_78 : decode prog_5_method_10_code 78 = .ok (.ireturn, 1) := by decide +kernel
theorem d_R_leads_79 : decode prog_5_method_10_code 79 = .ok (.iload_n 1, 1) := by decide +kernel
theorem d_R_leads_80 : decode prog_5_method_10_code 80 = .ok (.iconst 3, 1) := by decide +kernel
theorem d_R_leads_81 : decode prog_5_method_10_code 81 = .ok (.if_icmp .ne 7, 3) := by decide +kernel
theorem d_R_leads_84 : decode prog_5_method_10_code 84 = .ok (.iconst 1, 1) := by decide +kernel
theorem d_R_leads_85 : decode prog_5_method_10_code 85 = .ok (.goto 4, 3) := by decide +kernel
theorem d_R_leads_88 : decode prog_5_method_10_code 88 = .ok (.iconst (-1), 1) := by decide +kernel
theorem d_R_leads_89 : decode prog_5_method_10_code 89 = .ok (.ireturn, 1) := by decide +kernel
theorem d_R_leads_90 : decode prog_5_method_10_code 90 = .ok (.iconst (-1), 1) := by decide +kernel
theorem d_R_leads_91 : decode prog_5_method_10_code 91 = .ok (.ireturn, 1) := by decide +kernel
theorem d_R_forget_0 : decode prog_5_method_15_code 0 = .ok (.aload_n 0, 1) := by decide +kernel
theorem d_R_forget_1 : decode prog_5_method_15_code 1 = .ok (.getfield 39, 3) := by decide +kernel
theorem d_R_forget_4 : decode prog_5_method_15_code 4 = .ok (.iload_n 1, 1) := by decide +kernel
theorem d_R_forget_5 : decode prog_5_method_15_code 5 = .ok (.iconst 0, 1) := by decide +kernel
theorem d_R_forget_6 : decode prog_5_method_15_code 6 = .ok (.iastore, 1) := by decide +kernel
theorem d_R_forget_7 : decode prog_5_method_15_code 7 = .ok (.iconst 0, 1) := by decide +kernel
theorem d_R_forget_8 : decode prog_5_method_15_code 8 = .ok (.istore_n 2, 1) := by decide +kernel
theorem d_R_forget_9 : decode prog_5_method_15_code 9 = .ok (.iload_n 2, 1) := by decide +kernel
theorem d_R_forget_10 : decode prog_5_method_15_code 10 = .ok (.bipush 64, 2) := by decide +kernel
theorem d_R_forget_12 : decode prog_5_method_15_code 12 = .ok (.if_icmp .ge 21, 3) := by decide +kernel
theorem d_R_forget_15 : decode prog_5_method_15_code 15 = .ok (.aload_n 0, 1) := by decide +kernel
theorem d_R_forget_16 : decode prog_5_method_15_code 16 = .ok (.getfield 36, 3) := by decide +kernel
theorem d_R_forget_19 : decode prog_5_method_15_code 19 = .ok (.bipush 64, 2) := by decide +kernel
theorem d_R_forget_21 : decode prog_5_method_15_code 21 = .ok (.iload_n 1, 1) := by decide +kernel
theorem d_R_forget_22 : decode prog_5_method_15_code 22 = .ok (.imul, 1) := by decide +kernel
theorem d_R_forget_23 : decode prog_5_method_15_code 23 = .ok (.iload_n 2, 1) := by decide +kernel
theorem d_R_forget_24 : decode prog_5_method_15_code 24 = .ok (.iadd, 1) := by decide +kernel
theorem d_R_forget_25 : decode prog_5_method_15_code 25 = .ok (.iconst 0, 1) := by decide +kernel
theorem d_R_forget_26 : decode prog_5_method_15_code 26 = .ok (.bastore, 1) := by decide +kernel
theorem d_R_forget_27 : decode prog_5_method_15_code 27 = .ok (.iinc 2 1, 3) := by decide +kernel
theorem d_R_forget_30 : decode prog_5_method_15_code 30 = .ok (.goto (-21), 3) := by decide +kernel
theorem d_R_forget_33 : decode prog_5_method_15_code 33 = .ok (.return_, 1) := by decide +kernel
theorem d_R_last_0 : decode prog_5_method_12_code 0 = .ok (.aload_n 0, 1) := by decide +kernel
theorem d_R_last_1 : decode prog_5_method_12_code 1 = .ok (.iload_n 1, 1) := by decide +kernel
theorem d_R_last_2 : decode prog_5_method_12_code 2 = .ok (.invokevirtual 64, 3) := by decide +kernel
theorem d_R_last_5 : decode prog_5_method_12_code 5 = .ok (.ifCond .eq 12, 3) := by decide +kernel
theorem d_R_last_8 : decode prog_5_method_12_code 8 = .ok (.aload_n 0, 1) := by decide +kernel
theorem d_R_last_9 : decode prog_5_method_12_code 9 = .ok (.getfield 23, 3) := by decide +kernel
theorem d_R_last_12 : decode prog_5_method_12_code 12 = .ok (.iload_n 1, 1) := by decide +kernel
theorem d_R_last_13 : decode prog_5_method_12_code 13 = .ok (.iaload, 1) := by decide +kernel
theorem d_R_last_14 : decode prog_5_method_12_code 14 = .ok (.goto 4, 3) := by decide +kernel
theorem d_R_last_17 : decode prog_5_method_12_code 17 = .ok (.iconst (-1), 1) := by decide +kernel
theorem d_R_last_18 : decode prog_5_method_12_code 18 = .ok (.ireturn, 1) := by decide +kernel
theorem d_R_fail_0 : decode prog_5_method_13_code 0 = .ok (.aload_n 0, 1) := by decide +kernel
theorem d_R_fail_1 : decode prog_5_method_13_code 1 = .ok (.iload_n 1, 1) := by decide +kernel
theorem d_R_fail_2 : decode prog_5_method_13_code 2 = .ok (.iload_n 2, 1) := by decide +kernel
theorem d_R_fail_3 : decode prog_5_method_13_code 3 = .ok (.invokevirtual 92, 3) := by decide +kernel
theorem d_R_fail_6 : decode prog_5_method_13_code 6 = .ok (.ifCond .eq 25, 3) := by decide +kernel
theorem d_R_fail_9 : decode prog_5_method_13_code 9 = .ok (.aload_n 0, 1) := by decide +kernel
theorem d_R_fail_10 : decode prog_5_method_13_code 10 = .ok (.getfield 32, 3) := by decide +kernel
theorem d_R_fail_13 : decode prog_5_method_13_code 13 = .ok (.bipush 64, 2) := by decide +kernel
theorem d_R_fail_15 : decode prog_5_method_13_code 15 = .ok (.iload_n 1, 1) := by decide +kernel
theorem d_R_fail_16 : decode prog_5_method_13_code 16 = .ok (.imul, 1) := by decide +kernel
theorem d_R_fail_17 : decode prog_5_method_13_code 17 = .ok (.iload_n 2, 1) := by decide +kernel
theorem d_R_fail_18 : decode prog_5_method_13_code 18 = .ok (.iadd, 1) := by decide +kernel
theorem d_R_fail_19 : decode prog_5_method_13_code 19 = .ok (.baload, 1) := by decide +kernel
theorem d_R_fail_20 : decode prog_5_method_13_code 20 = .ok (.ifCond .ne 11, 3) := by decide +kernel
theorem d_R_fail_23 : decode prog_5_method_13_code 23 = .ok (.aload_n 0, 1) := by decide +kernel
theorem d_R_fail_24 : decode prog_5_method_13_code 24 = .ok (.iload_n 1, 1) := by decide +kernel
theorem d_R_fail_25 : decode prog_5_method_13_code 25 = .ok (.invokevirtual 96, 3) := by decide +kernel
theorem d_R_fail_28 : decode prog_5_method_13_code 28 = .ok (.ifCond .eq 5, 3) := by decide +kernel
theorem d_R_fail_31 : decode prog_5_method_13_code 31 = .ok (.iconst 0, 1) := by decide +kernel
theorem d_R_fail_32 : decode prog_5_method_13_code 32 = .ok (.ireturn, 1) := by decide +kernel
theorem d_R_fail_33 : decode prog_5_method_13_code 33 = .ok (.aload_n 0, 1) := by decide +kernel
theorem d_R_fail_34 : decode prog_5_method_13_code 34 = .ok (.getfield 32, 3) := by decide +kernel
theorem d_R_fail_37 : decode prog_5_method_13_code 37 = .ok (.bipush 64, 2) := by decide +kernel
theorem d_R_fail_39 : decode prog_5_method_13_code 39 = .ok (.iload_n 1, 1) := by decide +kernel
theorem d_R_fail_40 : decode prog_5_method_13_code 40 = .ok (.imul, 1) := by decide +kernel
theorem d_R_fail_41 : decode prog_5_method_13_code 41 = .ok (.iload_n 2, 1) := by decide +kernel
theorem d_R_fail_42 : decode prog_5_method_13_code 42 = .ok (.iadd, 1) := by decide +kernel
theorem d_R_fail_43 : decode prog_5_method_13_code 43 = .ok (.iconst 1, 1) := by decide +kernel
theorem d_R_fail_44 : decode prog_5_method_13_code 44 = .ok (.bastore, 1) := by decide +kernel
theorem d_R_fail_45 : decode prog_5_method_13_code 45 = .ok (.iconst 1, 1) := by decide +kernel
theorem d_R_fail_46 : decode prog_5_method_13_code 46 = .ok (.ireturn, 1) := by decide +kernel
theorem d_R_isPlace_0 : decode prog_5_method_5_code 0 = .ok (.aload_n 0, 1) := by decide +kernel
theorem d_R_isPlace_1 : decode prog_5_method_5_code 1 = .ok (.iload_n 1, 1) := by decide +kernel
theorem d_R_isPlace_2 : decode prog_5_method_5_code 2 = .ok (.invokevirtual 64, 3) := by decide +kernel
theorem d_R_isPlace_5 : decode prog_5_method_5_code 5 = .ok (.ifCond .eq 21, 3) := by decide +kernel
theorem d_R_isPlace_8 : decode prog_5_method_5_code 8 = .ok (.iload_n 2, 1) := by decide +kernel
theorem d_R_isPlace_9 : decode prog_5_method_5_code 9 = .ok (.ifCond .lt 17, 3) := by decide +kernel
theorem d_R_isPlace_12 : decode prog_5_method_5_code 12 = .ok (.iload_n 2, 1) := by decide +kernel
theorem d_R_isPlace_13 : decode prog_5_method_5_code 13 = .ok (.aload_n 0, 1) := by decide +kernel
theorem d_R_isPlace_14 : decode prog_5_method_5_code 14 = .ok (.getfield 17, 3) := by decide +kernel
theorem d_R_isPlace_17 : decode prog_5_method_5_code 17 = .ok (.iload_n 1, 1) := by decide +kernel
theorem d_R_isPlace_18 : decode prog_5_method_5_code 18 = .ok (.iaload, 1) := by decide +kernel
theorem d_R_isPlace_19 : decode prog_5_method_5_code 19 = .ok (.if_icmp .ge 7, 3) := by decide +kernel
theorem d_R_isPlace_22 : decode prog_5_method_5_code 22 = .ok (.iconst 1, 1) := by decide +kernel
theorem d_R_isPlace_23 : decode prog_5_method_5_code 23 = .ok (.goto 4, 3) := by decide +kernel
theorem d_R_isPlace_26 : decode prog_5_method_5_code 26 = .ok (.iconst 0, 1) := by decide +kernel
theorem d_R_isPlace_27 : decode prog_5_method_5_code 27 = .ok (.ireturn, 1) := by decide +kernel
theorem d_R_isGone_0 : decode prog_5_method_6_code 0 = .ok (.aload_n 0, 1) := by decide +kernel
theorem d_R_isGone_1 : decode prog_5_method_6_code 1 = .ok (.getfield 20, 3) := by decide +kernel
theorem d_R_isGone_4 : decode prog_5_method_6_code 4 = .ok (.iload_n 1, 1) := by decide +kernel
theorem d_R_isGone_5 : decode prog_5_method_6_code 5 = .ok (.iaload, 1) := by decide +kernel
theorem d_R_isGone_6 : decode prog_5_method_6_code 6 = .ok (.iconst 5, 1) := by decide +kernel
theorem d_R_isGone_7 : decode prog_5_method_6_code 7 = .ok (.if_icmp .eq 14, 3) := by decide +kernel
theorem d_R_isGone_10 : decode prog_5_method_6_code 10 = .ok (.aload_n 0, 1) := by decide +kernel
theorem d_R_isGone_11 : decode prog_5_method_6_code 11 = .ok (.getfield 20, 3) := by decide +kernel
theorem d_R_isGone_14 : decode prog_5_method_6_code 14 = .ok (.iload_n 1, 1) := by decide +kernel
theorem d_R_isGone_15 : decode prog_5_method_6_code 15 = .ok (.iaload, 1) := by decide +kernel
theorem d_R_isGone_16 : decode prog_5_method_6_code 16 = .ok (.bipush 6, 2) := by decide +kernel
theorem d_R_isGone_18 : decode prog_5_method_6_code 18 = .ok (.if_icmp .ne 7, 3) := by decide +kernel
theorem d_R_isGone_21 : decode prog_5_method_6_code 21 = .ok (.iconst 1, 1) := by decide +kernel
theorem d_R_isGone_22 : decode prog_5_method_6_code 22 = .ok (.goto 4, 3) := by decide +kernel
theorem d_R_isGone_25 : decode prog_5_method_6_code 25 = .ok (.iconst 0, 1) := by decide +kernel
theorem d_R_isGone_26 : decode prog_5_method_6_code 26 = .ok (.ireturn, 1) := by decide +kernel
theorem d_R_failed_0 : decode prog_5_method_14_code 0 = .ok (.iconst 0, 1) := by decide +kernel
theorem d_R_failed_1 : decode prog_5_method_14_code 1 = .ok (.istore_n 3, 1) := by decide +kernel
theorem d_R_failed_2 : decode prog_5_method_14_code 2 = .ok (.iconst 0, 1) := by decide +kernel
theorem d_R_failed_3 : decode prog_5_method_14_code 3 = .ok (.istore 4, 2) := by decide +kernel
theorem d_R_failed_5 : decode prog_5_method_14_code 5 = .ok (.aload_n 0, 1) := by decide +kernel
theorem d_R_failed_6 : decode prog_5_method_14_code 6 = .ok (.iload_n 1, 1) := by decide +kernel
theorem d_R_failed_7 : decode prog_5_method_14_code 7 = .ok (.iload 4, 2) := by decide +kernel
theorem d_R_failed_9 : decode prog_5_method_14_code 9 = .ok (.invokevirtual 92, 3) := by decide +kernel
theorem d_R_failed_12 : decode prog_5_method_14_code 12 = .ok (.ifCond .eq 35, 3) := by decide +kernel
theorem d_R_failed_15 : decode prog_5_method_14_code 15 = .ok (.aload_n 0, 1) := by decide +kernel
theorem d_R_failed_16 : decode prog_5_method_14_code 16 = .ok (.getfield 32, 3) := by decide +kernel
theorem d_R_failed_19 : decode prog_5_method_14_code 19 = .ok (.bipush 64, 2) := by decide +kernel
theorem d_R_failed_21 : decode prog_5_method_14_code 21 = .ok (.iload_n 1, 1) := by decide +kernel
theorem d_R_failed_22 : decode prog_5_method_14_code 22 = .ok (.imul, 1) := by decide +kernel
theorem d_R_failed_23 : decode prog_5_method_14_code 23 = .ok (.iload 4, 2) := by decide +kernel
theorem d_R_failed_25 : decode prog_5_method_14_code 25 = .ok (.iadd, 1) := by decide +kernel
theorem d_R_failed_26 : decode prog_5_method_14_code 26 = .ok (.baload, 1) := by decide +kernel
theorem d_R_failed_27 : decode prog_5_method_14_code 27 = .ok (.ifCond .eq 14, 3) := by decide +kernel
theorem d_R_failed_30 : decode prog_5_method_14_code 30 = .ok (.iload_n 3, 1) := by decide +kernel
theorem d_R_failed_31 : decode prog_5_method_14_code 31 = .ok (.iload_n 2, 1) := by decide +kernel
theorem d_R_failed_32 : decode prog_5_method_14_code 32 = .ok (.if_icmp .ne 6, 3) := by decide +kernel
theorem d_R_failed_35 : decode prog_5_method_14_code 35 = .ok (.iload 4, 2) := by decide +kernel
theorem d_R_failed_37 : decode prog_5_method_14_code 37 = .ok (.ireturn, 1) := by decide +kernel
theorem d_R_failed_38 : decode prog_5_method_14_code 38 = .ok (.iinc 3 1, 3) := by decide +kernel
theorem d_R_failed_41 : decode prog_5_method_14_code 41 = .ok (.iinc 4 1, 3) := by decide +kernel
theorem d_R_failed_44 : decode prog_5_method_14_code 44 = .ok (.goto (-39), 3) := by decide +kernel
theorem d_R_failed_47 : decode prog_5_method_14_code 47 = .ok (.iconst (-1), 1) := by decide +kernel
theorem d_R_failed_48 : decode prog_5_method_14_code 48 = .ok (.ireturn, 1) := by decide +kernel
theorem d_R_pass_0 : decode prog_5_method_16_code 0 = .ok (.aload_n 0, 1) := by decide +kernel
theorem d_R_pass_1 : decode prog_5_method_16_code 1 = .ok (.iload_n 1, 1) := by decide +kernel
theorem d_R_pass_2 : decode prog_5_method_16_code 2 = .ok (.invokevirtual 64, 3) := by decide +kernel
theorem d_R_pass_5 : decode prog_5_method_16_code 5 = .ok (.ifCond .eq 36, 3) := by decide +kernel
theorem d_R_pass_8 : decode prog_5_method_16_code 8 = .ok (.iload_n 2, 1) := by decide +kernel
theorem d_R_pass_9 : decode prog_5_method_16_code 9 = .ok (.i2l, 1) := by decide +kernel
theorem d_R_pass_10 : decode prog_5_method_16_code 10 = .ok (.lconst 0, 1) := by decide +kernel
theorem d_R_pass_11 : decode prog_5_method_16_code 11 = .ok (.ldc2_w 99, 3) := by decide +kernel
theorem d_R_pass_14 : decode prog_5_method_16_code 14 = .ok (.invokestatic 70, 3) := by decide +kernel
theorem d_R_pass_17 : decode prog_5_method_16_code 17 = .ok (.ifCond .eq 24, 3) := by decide +kernel
theorem d_R_pass_20 : decode prog_5_method_16_code 20 = .ok (.aload_n 0, 1) := by decide +kernel
theorem d_R_pass_21 : decode prog_5_method_16_code 21 = .ok (.getfield 20, 3) := by decide +kernel
theorem d_R_pass_24 : decode prog_5_method_16_code 24 = .ok (.iload_n 1, 1) := by decide +kernel
theorem d_R_pass_25 : decode prog_5_method_16_code 25 = .ok (.iaload, 1) := by decide +kernel
theorem d_R_pass_26 : decode prog_5_method_16_code 26 = .ok (.iconst 2, 1) := by decide +kernel
theorem d_R_pass_27 : decode prog_5_method_16_code 27 = .ok (.if_icmp .ne 14, 3) := by decide +kernel
theorem d_R_pass_30 : decode prog_5_method_16_code 30 = .ok (.aload_n 0, 1) := by decide +kernel
theorem d_R_pass_31 : decode prog_5_method_16_code 31 = .ok (.getfield 42, 3) := by decide +kernel
theorem d_R_pass_34 : decode prog_5_method_16_code 34 = .ok (.iload_n 1, 1) := by decide +kernel
theorem d_R_pass_35 : decode prog_5_method_16_code 35 = .ok (.iaload, 1) := by decide +kernel
theorem d_R_pass_36 : decode prog_5_method_16_code 36 = .ok (.bipush 6, 2) := by decide +kernel
theorem d_R_pass_38 : decode prog_5_method_16_code 38 = .ok (.if_icmp .ne 5, 3) := by decide +kernel
theorem d_R_pass_41 : decode prog_5_method_16_code 41 = .ok (.iconst (-1), 1) := by decide +kernel
theorem d_R_pass_42 : decode prog_5_method_16_code 42 = .ok (.ireturn, 1) := by decide +kernel
theorem d_R_pass_43 : decode prog_5_method_16_code 43 = .ok (.aload_n 0, 1) := by decide +kernel
theorem d_R_pass_44 : decode prog_5_method_16_code 44 = .ok (.getfield 45, 3) := by decide +kernel
theorem d_R_pass_47 : decode prog_5_method_16_code 47 = .ok (.bipush 6, 2) := by decide +kernel
theorem d_R_pass_49 : decode prog_5_method_16_code 49 = .ok (.iload_n 1, 1) := by decide +kernel
theorem d_R_pass_50 : decode prog_5_method_16_code 50 = .ok (.imul, 1) := by decide +kernel
theorem d_R_pass_51 : decode prog_5_method_16_code 51 = .ok (.aload_n 0, 1) := by decide +kernel
theorem d_R_pass_52 : decode prog_5_method_16_code 52 = .ok (.getfield 42, 3) := by decide +kernel
theorem d_R_pass_55 : decode prog_5_method_16_code 55 = .ok (.iload_n 1, 1) := by decide +kernel
theorem d_R_pass_56 : decode prog_5_method_16_code 56 = .ok (.iaload, 1) := by decide +kernel
theorem d_R_pass_57 : decode prog_5_method_16_code 57 = .ok (.iadd, 1) := by decide +kernel
theorem d_R_pass_58 : decode prog_5_method_16_code 58 = .ok (.iload_n 2, 1) := by decide +kernel
theorem d_R_pass_59 : decode prog_5_method_16_code 59 = .ok (.iastore, 1) := by decide +kernel
theorem d_R_pass_60 : decode prog_5_method_16_code 60 = .ok (.aload_n 0, 1) := by decide +kernel
theorem d_R_pass_61 : decode prog_5_method_16_code 61 = .ok (.getfield 42, 3) := by decide +kernel
theorem d_R_pass_64 : decode prog_5_method_16_code 64 = .ok (.iload_n 1, 1) := by decide +kernel
theorem d_R_pass_65 : decode prog_5_method_16_code 65 = .ok (.dup2, 1) := by decide +kernel
theorem d_R_pass_66 : decode prog_5_method_16_code 66 = .ok (.iaload, 1) := by decide +kernel
theorem d_R_pass_67 : decode prog_5_method_16_code 67 = .ok (.iconst 1, 1) := by decide +kernel
theorem d_R_pass_68 : decode prog_5_method_16_code 68 = .ok (.iadd, 1) := by decide +kernel
theorem d_R_pass_69 : decode prog_5_method_16_code 69 = .ok (.iastore, 1) := by decide +kernel
theorem d_R_pass_70 : decode prog_5_method_16_code 70 = .ok (.aload_n 0, 1) := by decide +kernel
theorem d_R_pass_71 : decode prog_5_method_16_code 71 = .ok (.iload_n 1, 1) := by decide +kernel
theorem d_R_pass_72 : decode prog_5_method_16_code 72 = .ok (.invokevirtual 88, 3) := by decide +kernel
theorem d_R_pass_75 : decode prog_5_method_16_code 75 = .ok (.iconst 0, 1) := by decide +kernel
theorem d_R_pass_76 : decode prog_5_method_16_code 76 = .ok (.istore_n 3, 1) := by decide +kernel
theorem d_R_pass_77 : decode prog_5_method_16_code 77 = .ok (.iload_n 3, 1) := by decide +kernel
theorem d_R_pass_78 : decode prog_5_method_16_code 78 = .ok (.aload_n 0, 1) := by decide +kernel
theorem d_R_pass_79 : decode prog_5_method_16_code 79 = .ok (.getfield 17, 3) := by decide +kernel
theorem d_R_pass_82 : decode prog_5_method_16_code 82 = .ok (.iload_n 1, 1) := by decide +kernel
theorem d_R_pass_83 : decode prog_5_method_16_code 83 = .ok (.iaload, 1) := by decide +kernel
theorem d_R_pass_84 : decode prog_5_method_16_code 84 = .ok (.if_icmp .ge 100, 3) := by decide +kernel
theorem d_R_pass_87 : decode prog_5_method_16_code 87 = .ok (.bipush 64, 2) := by decide +kernel
theorem d_R_pass_89 : decode prog_5_method_16_code 89 = .ok (.iload_n 1, 1) := by decide +kernel
theorem d_R_pass_90 : decode prog_5_method_16_code 90 = .ok (.imul, 1) := by decide +kernel
theorem d_R_pass_91 : decode prog_5_method_16_code 91 = .ok (.iload_n 3, 1) := by decide +kernel
theorem d_R_pass_92 : decode prog_5_method_16_code 92 = .ok (.iadd, 1) := by decide +kernel
theorem d_R_pass_93 : decode prog_5_method_16_code 93 = .ok (.istore 4, 2) := by decide +kernel
theorem d_R_pass_95 : decode prog_5_method_16_code 95 = .ok (.aload_n 0, 1) := by decide +kernel
theorem d_R_pass_96 : decode prog_5_method_16_code 96 = .ok (.getfield 29, 3) := by decide +kernel
theorem d_R_pass_99 : decode prog_5_method_16_code 99 = .ok (.iload 4, 2) := by decide +kernel
theorem d_R_pass_101 : decode prog_5_method_16_code 101 = .ok (.iload_n 2, 1) := by decide +kernel
theorem d_R_pass_102 : decode prog_5_method_16_code 102 = .ok (.sipush 256, 3) := by decide +kernel
theorem d_R_pass_105 : decode prog_5_method_16_code 105 = .ok (.if_icmp .ge 7, 3) := by decide +kernel
theorem d_R_pass_108 : decode prog_5_method_16_code 108 = .ok (.iload_n 2, 1) := by decide +kernel
theorem d_R_pass_109 : decode prog_5_method_16_code 109 = .ok (.goto 34, 3) := by decide +kernel
theorem d_R_pass_112 : decode prog_5_method_16_code 112 = .ok (.iload_n 2, 1) := by decide +kernel
theorem d_R_pass_113 : decode prog_5_method_16_code 113 = .ok (.sipush 256, 3) := by decide +kernel
theorem d_R_pass_116 : decode prog_5_method_16_code 116 = .ok (.if_icmp .ne 16, 3) := by decide +kernel
theorem d_R_pass_119 : decode prog_5_method_16_code 119 = .ok (.bipush 7, 2) := by decide +kernel
theorem d_R_pass_121 : decode prog_5_method_16_code 121 = .ok (.iload_n 3, 1) := by decide +kernel
theorem d_R_pass_122 : decode prog_5_method_16_code 122 = .ok (.imul, 1) := by decide +kernel
theorem d_R_pass_123 : decode prog_5_method_16_code 123 = .ok (.iconst 3, 1) := by decide +kernel
theorem d_R_pass_124 : decode prog_5_method_16_code 124 = .ok (.iadd, 1) := by decide +kernel
theorem d_R_pass_125 : decode prog_5_method_16_code 125 = .ok (.sipush 256, 3) := by decide +kernel
theorem d_R_pass_128 : decode prog_5_method_16_code 128 = .ok (.irem, 1) := by decide +kernel
theorem d_R_pass_129 : decode prog_5_method_16_code 129 = .ok (.goto 14, 3) := by decide +kernel
theorem d_R_pass_132 : decode prog_5_method_16_code 132 = .ok (.sipush 255, 3) := by decide +kernel
theorem d_R_pass_135 : decode prog_5_method_16_code 135 = .ok (.aload_n 0, 1) := by decide +kernel
theorem d_R_pass_136 : decode prog_5_method_16_code 136 = .ok (.getfield 26, 3) := by decide +kernel
theorem d_R_pass_139 : decode prog_5_method_16_code 139 = .ok (.iload 4, 2) := by decide +kernel
theorem d_R_pass_141 : decode prog_5_method_16_code 141 = .ok (.iaload, 1) := by decide +kernel
theorem d_R_pass_142 : decode prog_5_method_16_code 142 = .ok (.isub, 1) := by decide +kernel
theorem d_R_pass_143 : decode prog_5_method_16_code 143 = .ok (.iastore, 1) := by decide +kernel
theorem d_R_pass_144 : decode prog_5_method_16_code 144 = .ok (.aload_n 0, 1) := by decide +kernel
theorem d_R_pass_145 : decode prog_5_method_16_code 145 = .ok (.getfield 26, 3) := by decide +kernel
theorem d_R_pass_148 : decode prog_5_method_16_code 148 = .ok (.iload 4, 2) := by decide +kernel
theorem d_R_pass_150 : decode prog_5_method_16_code 150 = .ok (.aload_n 0, 1) := by decide +kernel
theorem d_R_pass_151 : decode prog_5_method_16_code 151 = .ok (.getfield 32, 3) := by decide +kernel
theorem d_R_pass_154 : decode prog_5_method_16_code 154 = .ok (.iload 4, 2) := by decide +kernel
theorem d_R_pass_156 : decode prog_5_method_16_code 156 = .ok (.baload, 1) := by decide +kernel
theorem d_R_pass_157 : decode prog_5_method_16_code 157 = .ok (.ifCond .eq 13, 3) := by decide +kernel
theorem d_R_pass_160 : decode prog_5_method_16_code 160 = .ok (.aload_n 0, 1) := by decide +kernel
theorem d_R_pass_161 : decode prog_5_method_16_code 161 = .ok (.getfield 26, 3) := by decide +kernel
theorem d_R_pass_164 : decode prog_5_method_16_code 164 = .ok (.iload 4, 2) := by decide +kernel
theorem d_R_pass_166 : decode prog_5_method_16_code 166 = .ok (.iaload, 1) := by decide +kernel
theorem d_R_pass_167 : decode prog_5_method_16_code 167 = .ok (.goto 10, 3) := by decide +kernel
theorem d_R_pass_170 : decode prog_5_method_16_code 170 = .ok (.aload_n 0, 1) := by decide +kernel
theorem d_R_pass_171 : decode prog_5_method_16_code 171 = .ok (.getfield 29, 3) := by decide +kernel
theorem d_R_pass_174 : decode prog_5_method_16_code 174 = .ok (.iload 4, 2) := by decide +kernel
theorem d_R_pass_176 : decode prog_5_method_16_code 176 = .ok (.iaload, 1) := by decide +kernel
theorem d_R_pass_177 : decode prog_5_method_16_code 177 = .ok (.iastore, 1) := by decide +kernel
theorem d_R_pass_178 : decode prog_5_method_16_code 178 = .ok (.iinc 3 1, 3) := by decide +kernel
theorem d_R_pass_181 : decode prog_5_method_16_code 181 = .ok (.goto (-104), 3) := by decide +kernel
theorem d_R_pass_184 : decode prog_5_method_16_code 184 = .ok (.aload_n 0, 1) := by decide +kernel
theorem d_R_pass_185 : decode prog_5_method_16_code 185 = .ok (.getfield 42, 3) := by decide +kernel
theorem d_R_pass_188 : decode prog_5_method_16_code 188 = .ok (.iload_n 1, 1) := by decide +kernel
theorem d_R_pass_189 : decode prog_5_method_16_code 189 = .ok (.iaload, 1) := by decide +kernel
theorem d_R_pass_190 : decode prog_5_method_16_code 190 = .ok (.ireturn, 1) := by decide +kernel
theorem d_R_byteAt_0 : decode prog_5_method_17_code 0 = .ok (.aload_n 0, 1) := by decide +kernel
theorem d_R_byteAt_1 : decode prog_5_method_17_code 1 = .ok (.iload_n 1, 1) := by decide +kernel
theorem d_R_byteAt_2 : decode prog_5_method_17_code 2 = .ok (.iload_n 2, 1) := by decide +kernel
theorem d_R_byteAt_3 : decode prog_5_method_17_code 3 = .ok (.invokevirtual 92, 3) := by decide +kernel
theorem d_R_byteAt_6 : decode prog_5_method_17_code 6 = .ok (.ifCond .eq 25, 3) := by decide +kernel
theorem d_R_byteAt_9 : decode prog_5_method_17_code 9 = .ok (.aload_n 0, 1) := by decide +kernel
theorem d_R_byteAt_10 : decode prog_5_method_17_code 10 = .ok (.iload_n 1, 1) := by decide +kernel
theorem d_R_byteAt_11 : decode prog_5_method_17_code 11 = .ok (.invokevirtual 96, 3) := by decide +kernel
theorem d_R_byteAt_14 : decode prog_5_method_17_code 14 = .ok (.ifCond .ne 17, 3) := by decide +kernel
theorem d_R_byteAt_17 : decode prog_5_method_17_code 17 = .ok (.aload_n 0, 1) := by decide +kernel
theorem d_R_byteAt_18 : decode prog_5_method_17_code 18 = .ok (.getfield 26, 3) := by decide +kernel
theorem d_R_byteAt_21 : decode prog_5_method_17_code 21 = .ok (.bipush 64, 2) := by decide +kernel
theorem d_R_byteAt_23 : decode prog_5_method_17_code 23 = .ok (.iload_n 1, 1) := by decide +kernel
theorem d_R_byteAt_24 : decode prog_5_method_17_code 24 = .ok (.imul, 1) := by decide +kernel
theorem d_R_byteAt_25 : decode prog_5_method_17_code 25 = .ok (.iload_n 2, 1) := by decide +kernel
theorem d_R_byteAt_26 : decode prog_5_method_17_code 26 = .ok (.iadd, 1) := by decide +kernel
theorem d_R_byteAt_27 : decode prog_5_method_17_code 27 = .ok (.iaload, 1) := by decide +kernel
theorem d_R_byteAt_28 : decode prog_5_method_17_code 28 = .ok (.goto 4, 3) := by decide +kernel
theorem d_R_byteAt_31 : decode prog_5_method_17_code 31 = .ok (.iconst (-1), 1) := by decide +kernel
theorem d_R_byteAt_32 : decode prog_5_method_17_code 32 = .ok (.ireturn, 1) := by decide +kernel
theorem d_R_read_0 : decode prog_5_method_18_code 0 = .ok (.aload_n 0, 1) := by decide +kernel
theorem d_R_read_1 : decode prog_5_method_18_code 1 = .ok (.iload_n 1, 1) := by decide +kernel
theorem d_R_read_2 : decode prog_5_method_18_code 2 = .ok (.iload_n 2, 1) := by decide +kernel
theorem d_R_read_3 : decode prog_5_method_18_code 3 = .ok (.invokevirtual 92, 3) := by decide +kernel
theorem d_R_read_6 : decode prog_5_method_18_code 6 = .ok (.ifCond .eq 48, 3) := by decide +kernel
theorem d_R_read_9 : decode prog_5_method_18_code 9 = .ok (.iload_n 3, 1) := by decide +kernel
theorem d_R_read_10 : decode prog_5_method_18_code 10 = .ok (.i2l, 1) := by decide +kernel
theorem d_R_read_11 : decode prog_5_method_18_code 11 = .ok (.lconst 0, 1) := by decide +kernel
theorem d_R_read_12 : decode prog_5_method_18_code 12 = .ok (.ldc2_w 101, 3) := by decide +kernel
theorem d_R_read_15 : decode prog_5_method_18_code 15 = .ok (.invokestatic 70, 3) := by decide +kernel
theorem d_R_read_18 : decode prog_5_method_18_code 18 = .ok (.ifCond .eq 36, 3) := by decide +kernel
theorem d_R_read_21 : decode prog_5_method_18_code 21 = .ok (.aload_n 0, 1) := by decide +kernel
theorem d_R_read_22 : decode prog_5_method_18_code 22 = .ok (.getfield 20, 3) := by decide +kernel
theorem d_R_read_25 : decode prog_5_method_18_code 25 = .ok (.iload_n 1, 1) := by decide +kernel
theorem d_R_read_26 : decode prog_5_method_18_code 26 = .ok (.iaload, 1) := by decide +kernel
theorem d_R_read_27 : decode prog_5_method_18_code 27 = .ok (.iconst 2, 1) := by decide +kernel
theorem d_R_read_28 : decode prog_5_method_18_code 28 = .ok (.if_icmp .ne 26, 3) := by decide +kernel
theorem d_R_read_31 : decode prog_5_method_18_code 31 = .ok (.aload_n 0, 1) := by decide +kernel
theorem d_R_read_32 : decode prog_5_method_18_code 32 = .ok (.getfield 42, 3) := by decide +kernel
theorem d_R_read_35 : decode prog_5_method_18_code 35 = .ok (.iload_n 1, 1) := by decide +kernel
theorem d_R_read_36 : decode prog_5_method_18_code 36 = .ok (.iaload, 1) := by decide +kernel
theorem d_R_read_37 : decode prog_5_method_18_code 37 = .ok (.ifCond .eq 17, 3) := by decide +kernel
theorem d_R_read_40 : decode prog_5_method_18_code 40 = .ok (.aload_n 0, 1) := by decide +kernel
theorem d_R_read_41 : decode prog_5_method_18_code 41 = .ok (.getfield 36, 3) := by decide +kernel
theorem d_R_read_44 : decode prog_5_method_18_code 44 = .ok (.bipush 64, 2) := by decide +kernel
theorem d_R_read_46 : decode prog_5_method_18_code 46 = .ok (.iload_n 1, 1) := by decide +kernel
theorem d_R_read_47 : decode prog_5_method_18_code 47 = .ok (.imul, 1) := by decide +kernel
theorem d_R_read_48 : decode prog_5_method_18_code 48 = .ok (.iload_n 2, 1) := by decide +kernel
theorem d_R_read_49 : decode prog_5_method_18_code 49 = .ok (.iadd, 1) := by decide +kernel
theorem d_R_read_50 : decode prog_5_method_18_code 50 = .ok (.baload, 1) := by decide +kernel
theorem d_R_read_51 : decode prog_5_method_18_code 51 = .ok (.ifCond .eq 5, 3) := by decide +kernel
theorem d_R_read_54 : decode prog_5_method_18_code 54 = .ok (.iconst (-1), 1) := by decide +kernel
theorem d_R_read_55 : decode prog_5_method_18_code 55 = .ok (.ireturn, 1) := by decide +kernel
theorem d_R_read_56 : decode prog_5_method_18_code 56 = .ok (.aload_n 0, 1) := by decide +kernel
theorem d_R_read_57 : decode prog_5_method_18_code 57 = .ok (.getfield 36, 3) := by decide +kernel
theorem d_R_read_60 : decode prog_5_method_18_code 60 = .ok (.bipush 64, 2) := by decide +kernel
theorem d_R_read_62 : decode prog_5_method_18_code 62 = .ok (.iload_n 1, 1) := by decide +kernel
theorem d_R_read_63 : decode prog_5_method_18_code 63 = .ok (.imul, 1) := by decide +kernel
theorem d_R_read_64 : decode prog_5_method_18_code 64 = .ok (.iload_n 2, 1) := by decide +kernel
theorem d_R_read_65 : decode prog_5_method_18_code 65 = .ok (.iadd, 1) := by decide +kernel
theorem d_R_read_66 : decode prog_5_method_18_code 66 = .ok (.iconst 1, 1) := by decide +kernel
theorem d_R_read_67 : decode prog_5_method_18_code 67 = .ok (.bastore, 1) := by decide +kernel
theorem d_R_read_68 : decode prog_5_method_18_code 68 = .ok (.iload_n 3, 1) := by decide +kernel
theorem d_R_read_69 : decode prog_5_method_18_code 69 = .ok (.aload_n 0, 1) := by decide +kernel
theorem d_R_read_70 : decode prog_5_method_18_code 70 = .ok (.getfield 29, 3) := by decide +kernel
theorem d_R_read_73 : decode prog_5_method_18_code 73 = .ok (.bipush 64, 2) := by decide +kernel
theorem d_R_read_75 : decode prog_5_method_18_code 75 = .ok (.iload_n 1, 1) := by decide +kernel
theorem d_R_read_76 : decode prog_5_method_18_code 76 = .ok (.imul, 1) := by decide +kernel
theorem d_R_read_77 : decode prog_5_method_18_code 77 = .ok (.iload_n 2, 1) := by decide +kernel
theorem d_R_read_78 : decode prog_5_method_18_code 78 = .ok (.iadd, 1) := by decide +kernel
theorem d_R_read_79 : decode prog_5_method_18_code 79 = .ok (.iaload, 1) := by decide +kernel
theorem d_R_read_80 : decode prog_5_method_18_code 80 = .ok (.if_icmp .ne 7, 3) := by decide +kernel
theorem d_R_read_83 : decode prog_5_method_18_code 83 = .ok (.iconst 1, 1) := by decide +kernel
theorem d_R_read_84 : decode prog_5_method_18_code 84 = .ok (.goto 4, 3) := by decide +kernel
theorem d_R_read_87 : decode prog_5_method_18_code 87 = .ok (.iconst 0, 1) := by decide +kernel
theorem d_R_read_88 : decode prog_5_method_18_code 88 = .ok (.istore 4, 2) := by decide +kernel
theorem d_R_read_90 : decode prog_5_method_18_code 90 = .ok (.aload_n 0, 1) := by decide +kernel
theorem d_R_read_91 : decode prog_5_method_18_code 91 = .ok (.getfield 39, 3) := by decide +kernel
theorem d_R_read_94 : decode prog_5_method_18_code 94 = .ok (.iload_n 1, 1) := by decide +kernel
theorem d_R_read_95 : decode prog_5_method_18_code 95 = .ok (.dup2, 1) := by decide +kernel
theorem d_R_read_96 : decode prog_5_method_18_code 96 = .ok (.iaload, 1) := by decide +kernel
theorem d_R_read_97 : decode prog_5_method_18_code 97 = .ok (.iload 4, 2) := by decide +kernel
theorem d_R_read_99 : decode prog_5_method_18_code 99 = .ok (.ifCond .eq 7, 3) := by decide +kernel
theorem d_R_read_102 : decode prog_5_method_18_code 102 = .ok (.iconst 0, 1) := by decide +kernel
theorem d_R_read_103 : decode prog_5_method_18_code 103 = .ok (.goto 4, 3) := by decide +kernel
theorem d_R_read_106 : decode prog_5_method_18_code 106 = .ok (.iconst 1, 1) := by decide +kernel
theorem d_R_read_107 : decode prog_5_method_18_code 107 = .ok (.iadd, 1) := by decide +kernel
theorem d_R_read_108 : decode prog_5_method_18_code 108 = .ok (.iastore, 1) := by decide +kernel
theorem d_R_read_109 : decode prog_5_method_18_code 109 = .ok (.aload_n 0, 1) := by decide +kernel
theorem d_R_read_110 : decode prog_5_method_18_code 110 = .ok (.getfield 39, 3) := by decide +kernel
theorem d_R_read_113 : decode prog_5_method_18_code 113 = .ok (.iload_n 1, 1) := by decide +kernel
theorem d_R_read_114 : decode prog_5_method_18_code 114 = .ok (.iaload, 1) := by decide +kernel
theorem d_R_read_115 : decode prog_5_method_18_code 115 = .ok (.ifCond .ne 7, 3) := by decide +kernel
theorem d_R_read_118 : decode prog_5_method_18_code 118 = .ok (.iconst 1, 1) := by decide +kernel
theorem d_R_read_119 : decode prog_5_method_18_code 119 = .ok (.goto 4, 3) := by decide +kernel
theorem d_R_read_122 : decode prog_5_method_18_code 122 = .ok (.iconst 0, 1) := by decide +kernel
theorem d_R_read_123 : decode prog_5_method_18_code 123 = .ok (.istore 5, 2) := by decide +kernel
theorem d_R_read_125 : decode prog_5_method_18_code 125 = .ok (.iconst 0, 1) := by decide +kernel
theorem d_R_read_126 : decode prog_5_method_18_code 126 = .ok (.istore 6, 2) := by decide +kernel
theorem d_R_read_128 : decode prog_5_method_18_code 128 = .ok (.iload 6, 2) := by decide +kernel
theorem d_R_read_130 : decode prog_5_method_18_code 130 = .ok (.aload_n 0, 1) := by decide +kernel
theorem d_R_read_131 : decode prog_5_method_18_code 131 = .ok (.getfield 17, 3) := by decide +kernel
theorem d_R_read_134 : decode prog_5_method_18_code 134 = .ok (.iload_n 1, 1) := by decide +kernel
theorem d_R_read_135 : decode prog_5_method_18_code 135 = .ok (.iaload, 1) := by decide +kernel
theorem d_R_read_136 : decode prog_5_method_18_code 136 = .ok (.if_icmp .ge 36, 3) := by decide +kernel
theorem d_R_read_139 : decode prog_5_method_18_code 139 = .ok (.iload 5, 2) := by decide +kernel
theorem d_R_read_141 : decode prog_5_method_18_code 141 = .ok (.ifCond .eq 22, 3) := by decide +kernel
theorem d_R_read_144 : decode prog_5_method_18_code 144 = .ok (.aload_n 0, 1) := by decide +kernel
theorem d_R_read_145 : decode prog_5_method_18_code 145 = .ok (.getfield 36, 3) := by decide +kernel
theorem d_R_read_148 : decode prog_5_method_18_code 148 = .ok (.bipush 64, 2) := by decide +kernel
theorem d_R_read_150 : decode prog_5_method_18_code 150 = .ok (.iload_n 1, 1) := by decide +kernel
theorem d_R_read_151 : decode prog_5_method_18_code 151 = .ok (.imul, 1) := by decide +kernel
theorem d_R_read_152 : decode prog_5_method_18_code 152 = .ok (.iload 6, 2) := by decide +kernel
theorem d_R_read_154 : decode prog_5_method_18_code 154 = .ok (.iadd, 1) := by decide +kernel
theorem d_R_read_155 : decode prog_5_method_18_code 155 = .ok (.baload, 1) := by decide +kernel
theorem d_R_read_156 : decode prog_5_method_18_code 156 = .ok (.ifCond .eq 7, 3) := by decide +kernel
theorem d_R_read_159 : decode prog_5_method_18_code 159 = .ok (.iconst 1, 1) := by decide +kernel
theorem d_R_read_160 : decode prog_5_method_18_code 160 = .ok (.goto 4, 3) := by decide +kernel
theorem d_R_read_163 : decode prog_5_method_18_code 163 = .ok (.iconst 0, 1) := by decide +kernel
theorem d_R_read_164 : decode prog_5_method_18_code 164 = .ok (.istore 5, 2) := by decide +kernel
theorem d_R_read_166 : decode prog_5_method_18_code 166 = .ok (.iinc 6 1, 3) := by decide +kernel
theorem d_R_read_169 : decode prog_5_method_18_code 169 = .ok (.goto (-41), 3) := by decide +kernel
theorem d_R_read_172 : decode prog_5_method_18_code 172 = .ok (.aload_n 0, 1) := by decide +kernel
theorem d_R_read_173 : decode prog_5_method_18_code 173 = .ok (.getfield 20, 3) := by decide +kernel
theorem d_R_read_176 : decode prog_5_method_18_code 176 = .ok (.iload_n 1, 1) := by decide +kernel
theorem d_R_read_177 : decode prog_5_method_18_code 177 = .ok (.iload 5, 2) := by decide +kernel
theorem d_R_read_179 : decode prog_5_method_18_code 179 = .ok (.ifCond .eq 7, 3) := by decide +kernel
theorem d_R_read_182 : decode prog_5_method_18_code 182 = .ok (.iconst 3, 1) := by decide +kernel
theorem d_R_read_183 : decode prog_5_method_18_code 183 = .ok (.goto 4, 3) := by decide +kernel
theorem d_R_read_186 : decode prog_5_method_18_code 186 = .ok (.iconst 2, 1) := by decide +kernel
theorem d_R_read_187 : decode prog_5_method_18_code 187 = .ok (.iastore, 1) := by decide +kernel
theorem d_R_read_188 : decode prog_5_method_18_code 188 = .ok (.iload 4, 2) := by decide +kernel
theorem d_R_read_190 : decode prog_5_method_18_code 190 = .ok (.ifCond .eq 7, 3) := by decide +kernel
theorem d_R_read_193 : decode prog_5_method_18_code 193 = .ok (.iconst 1, 1) := by decide +kernel
theorem d_R_read_194 : decode prog_5_method_18_code 194 = .ok (.goto 4, 3) := by decide +kernel
theorem d_R_read_197 : decode prog_5_method_18_code 197 = .ok (.iconst 0, 1) := by decide +kernel
theorem d_R_read_198 : decode prog_5_method_18_code 198 = .ok (.ireturn, 1) := by decide +kernel
theorem d_R_unlike_0 : decode prog_5_method_19_code 0 = .ok (.aload_n 0, 1) := by decide +kernel
theorem d_R_unlike_1 : decode prog_5_method_19_code 1 = .ok (.iload_n 1, 1) := by decide +kernel
theorem d_R_unlike_2 : decode prog_5_method_19_code 2 = .ok (.invokevirtual 64, 3) := by decide +kernel
theorem d_R_unlike_5 : decode prog_5_method_19_code 5 = .ok (.ifCond .eq 12, 3) := by decide +kernel
theorem d_R_unlike_8 : decode prog_5_method_19_code 8 = .ok (.aload_n 0, 1) := by decide +kernel
theorem d_R_unlike_9 : decode prog_5_method_19_code 9 = .ok (.getfield 39, 3) := by decide +kernel
theorem d_R_unlike_12 : decode prog_5_method_19_code 12 = .ok (.iload_n 1, 1) := by decide +kernel
theorem d_R_unlike_13 : decode prog_5_method_19_code 13 = .ok (.iaload, 1) := by decide +kernel
theorem d_R_unlike_14 : decode prog_5_method_19_code 14 = .ok (.goto 4, 3) := by decide +kernel
theorem d_R_unlike_17 : decode prog_5_method_19_code 17 = .ok (.iconst (-1), 1) := by decide +kernel
theorem d_R_unlike_18 : decode prog_5_method_19_code 18 = .ok (.ireturn, 1) := by decide +kernel
theorem d_R_odds_0 : decode prog_5_method_21_code 0 = .ok (.iload_n 1, 1) := by decide +kernel
theorem d_R_odds_1 : decode prog_5_method_21_code 1 = .ok (.i2l, 1) := by decide +kernel
theorem d_R_odds_2 : decode prog_5_method_21_code 2 = .ok (.lconst 1, 1) := by decide +kernel
theorem d_R_odds_3 : decode prog_5_method_21_code 3 = .ok (.ldc2_w 103, 3) := by decide +kernel
theorem d_R_odds_6 : decode prog_5_method_21_code 6 = .ok (.invokestatic 70, 3) := by decide +kernel
theorem d_R_odds_9 : decode prog_5_method_21_code 9 = .ok (.ifCond .eq 36, 3) := by decide +kernel
theorem d_R_odds_12 : decode prog_5_method_21_code 12 = .ok (.iload_n 2, 1) := by decide +kernel
theorem d_R_odds_13 : decode prog_5_method_21_code 13 = .ok (.i2l, 1) := by decide +kernel
theorem d_R_odds_14 : decode prog_5_method_21_code 14 = .ok (.lconst 0, 1) := by decide +kernel
theorem d_R_odds_15 : decode prog_5_method_21_code 15 = .ok (.iload_n 1, 1) := by decide +kernel
theorem d_R_odds_16 : decode prog_5_method_21_code 16 = .ok (.i2l, 1) := by decide +kernel
theorem d_R_odds_17 : decode prog_5_method_21_code 17 = .ok (.invokestatic 70, 3) := by decide +kernel
theorem d_R_odds_20 : decode prog_5_method_21_code 20 = .ok (.ifCond .eq 25, 3) := by decide +kernel
theorem d_R_odds_23 : decode prog_5_method_21_code 23 = .ok (.iload_n 3, 1) := by decide +kernel
theorem d_R_odds_24 : decode prog_5_method_21_code 24 = .ok (.i2l, 1) := by decide +kernel
theorem d_R_odds_25 : decode prog_5_method_21_code 25 = .ok (.lconst 0, 1) := by decide +kernel
theorem d_R_odds_26 : decode prog_5_method_21_code 26 = .ok (.iload_n 1, 1) := by decide +kernel
theorem d_R_odds_27 : decode prog_5_method_21_code 27 = .ok (.i2l, 1) := by decide +kernel
theorem d_R_odds_28 : decode prog_5_method_21_code 28 = .ok (.invokestatic 70, 3) := by decide +kernel
theorem d_R_odds_31 : decode prog_5_method_21_code 31 = .ok (.ifCond .eq 14, 3) := by decide +kernel
theorem d_R_odds_34 : decode prog_5_method_21_code 34 = .ok (.iload 4, 2) := by decide +kernel
theorem d_R_odds_36 : decode prog_5_method_21_code 36 = .ok (.i2l, 1) := by decide +kernel
theorem d_R_odds_37 : decode prog_5_method_21_code 37 = .ok (.lconst 0, 1) := by decide +kernel
theorem d_R_odds_38 : decode prog_5_method_21_code 38 = .ok (.lconst 1, 1) := by decide +kernel
theorem d_R_odds_39 : decode prog_5_method_21_code 39 = .ok (.invokestatic 70, 3) := by decide +kernel
theorem d_R_odds_42 : decode prog_5_method_21_code 42 = .ok (.ifCond .ne 7, 3) := by decide +kernel
theorem d_R_odds_45 : decode prog_5_method_21_code 45 = .ok (.ldc2_w 105, 3) := by decide +kernel
theorem d_R_odds_48 : decode prog_5_method_21_code 48 = .ok (.lreturn, 1) := by decide +kernel
theorem d_R_odds_49 : decode prog_5_method_21_code 49 = .ok (.lconst 1, 1) := by decide +kernel
theorem d_R_odds_50 : decode prog_5_method_21_code 50 = .ok (.lstore 5, 2) := by decide +kernel
theorem d_R_odds_52 : decode prog_5_method_21_code 52 = .ok (.lconst 1, 1) := by decide +kernel
theorem d_R_odds_53 : decode prog_5_method_21_code 53 = .ok (.lstore 7, 2) := by decide +kernel
theorem d_R_odds_55 : decode prog_5_method_21_code 55 = .ok (.iconst 0, 1) := by decide +kernel
theorem d_R_odds_56 : decode prog_5_method_21_code 56 = .ok (.istore 9, 2) := by decide +kernel
theorem d_R_odds_58 : decode prog_5_method_21_code 58 = .ok (.iload 9, 2) := by decide +kernel
theorem d_R_odds_60 : decode prog_5_method_21_code 60 = .ok (.iload_n 2, 1) := by decide +kernel
theorem d_R_odds_61 : decode prog_5_method_21_code 61 = .ok (.if_icmp .ge 69, 3) := by decide +kernel
theorem d_R_odds_64 : decode prog_5_method_21_code 64 = .ok (.iload_n 1, 1) := by decide +kernel
theorem d_R_odds_65 : decode prog_5_method_21_code 65 = .ok (.iload_n 3, 1) := by decide +kernel
theorem d_R_odds_66 : decode prog_5_method_21_code 66 = .ok (.isub, 1) := by decide +kernel
theorem d_R_odds_67 : decode prog_5_method_21_code 67 = .ok (.iload 9, 2) := by decide +kernel
theorem d_R_odds_69 : decode prog_5_method_21_code 69 = .ok (.isub, 1) := by decide +kernel
theorem d_R_odds_70 : decode prog_5_method_21_code 70 = .ok (.i2l, 1) := by decide +kernel
theorem d_R_odds_71 : decode prog_5_method_21_code 71 = .ok (.lstore 10, 2) := by decide +kernel
theorem d_R_odds_73 : decode prog_5_method_21_code 73 = .ok (.lload 5, 2) := by decide +kernel
theorem d_R_odds_75 : decode prog_5_method_21_code 75 = .ok (.lload 10, 2) := by decide +kernel
theorem d_R_odds_77 : decode prog_5_method_21_code 77 = .ok (.lconst 0, 1) := by decide +kernel
theorem d_R_odds_78 : decode prog_5_method_21_code 78 = .ok (.lcmp, 1) := by decide +kernel
theorem d_R_odds_79 : decode prog_5_method_21_code 79 = .ok (.ifCond .ge 7, 3) := by decide +kernel
theorem d_R_odds_82 : decode prog_5_method_21_code 82 = .ok (.lconst 0, 1) := by decide +kernel
theorem d_R_odds_83 : decode prog_5_method_21_code 83 = .ok (.goto 5, 3) := by decide +kernel
theorem d_R_odds_86 : decode prog_5_method_21_code 86 = .ok (.lload 10, 2) := by decide +kernel
theorem d_R_odds_88 : decode prog_5_method_21_code 88 = .ok (.lmul, 1) := by decide +kernel
theorem d_R_odds_89 : decode prog_5_method_21_code 89 = .ok (.lstore 5, 2) := by decide +kernel
theorem d_R_odds_91 : decode prog_5_method_21_code 91 = .ok (.lload 7, 2) := by decide +kernel
theorem d_R_odds_93 : decode prog_5_method_21_code 93 = .ok (.iload_n 1, 1) := by decide +kernel
theorem d_R_odds_94 : decode prog_5_method_21_code 94 = .ok (.iload 9, 2) := by decide +kernel
theorem d_R_odds_96 : decode prog_5_method_21_code 96 = .ok (.isub, 1) := by decide +kernel
theorem d_R_odds_97 : decode prog_5_method_21_code 97 = .ok (.i2l, 1) := by decide +kernel
theorem d_R_odds_98 : decode prog_5_method_21_code 98 = .ok (.lmul, 1) := by decide +kernel
theorem d_R_odds_99 : decode prog_5_method_21_code 99 = .ok (.lstore 7, 2) := by decide +kernel
theorem d_R_odds_101 : decode prog_5_method_21_code 101 = .ok (.lload 5, 2) := by decide +kernel
theorem d_R_odds_103 : decode prog_5_method_21_code 103 = .ok (.lload 7, 2) := by decide +kernel
theorem d_R_odds_105 : decode prog_5_method_21_code 105 = .ok (.invokestatic 107, 3) := by decide +kernel
theorem d_R_odds_108 : decode prog_5_method_21_code 108 = .ok (.lstore 12, 2) := by decide +kernel
theorem d_R_odds_110 : decode prog_5_method_21_code 110 = .ok (.lload 5, 2) := by decide +kernel
theorem d_R_odds_112 : decode prog_5_method_21_code 112 = .ok (.lload 12, 2) := by decide +kernel
theorem d_R_odds_114 : decode prog_5_method_21_code 114 = .ok (.ldiv, 1) := by decide +kernel
theorem d_R_odds_115 : decode prog_5_method_21_code 115 = .ok (.lstore 5, 2) := by decide +kernel
theorem d_R_odds_117 : decode prog_5_method_21_code 117 = .ok (.lload 7, 2) := by decide +kernel
theorem d_R_odds_119 : decode prog_5_method_21_code 119 = .ok (.lload 12, 2) := by decide +kernel
theorem d_R_odds_121 : decode prog_5_method_21_code 121 = .ok (.ldiv, 1) := by decide +kernel
theorem d_R_odds_122 : decode prog_5_method_21_code 122 = .ok (.lstore 7, 2) := by decide +kernel
theorem d_R_odds_124 : decode prog_5_method_21_code 124 = .ok (.iinc 9 1, 3) := by decide +kernel
theorem d_R_odds_127 : decode prog_5_method_21_code 127 = .ok (.goto (-69), 3) := by decide +kernel
theorem d_R_odds_130 : decode prog_5_method_21_code 130 = .ok (.iload 4, 2) := by decide +kernel
theorem d_R_odds_132 : decode prog_5_method_21_code 132 = .ok (.ifCond .ne 8, 3) := by decide +kernel
theorem d_R_odds_135 : decode prog_5_method_21_code 135 = .ok (.lload 5, 2) := by decide +kernel
theorem d_R_odds_137 : decode prog_5_method_21_code 137 = .ok (.goto 5, 3) := by decide +kernel
theorem d_R_odds_140 : decode prog_5_method_21_code 140 = .ok (.lload 7, 2) := by decide +kernel
theorem d_R_odds_142 : decode prog_5_method_21_code 142 = .ok (.lreturn, 1) := by decide +kernel
theorem d_R_common_0 : decode prog_5_method_20_code 0 = .ok (.lload_n 0, 1) := by decide +kernel
theorem d_R_common_1 : decode prog_5_method_20_code 1 = .ok (.lstore 4, 2) := by decide +kernel
theorem d_R_common_3 : decode prog_5_method_20_code 3 = .ok (.lload_n 2, 1) := by decide +kernel
theorem d_R_common_4 : decode prog_5_method_20_code 4 = .ok (.lstore 6, 2) := by decide +kernel
theorem d_R_common_6 : decode prog_5_method_20_code 6 = .ok (.lload 6, 2) := by decide +kernel
theorem d_R_common_8 : decode prog_5_method_20_code 8 = .ok (.lconst 0, 1) := by decide +kernel
theorem d_R_common_9 : decode prog_5_method_20_code 9 = .ok (.lcmp, 1) := by decide +kernel
theorem d_R_common_10 : decode prog_5_method_20_code 10 = .ok (.ifCond .eq 21, 3) := by decide +kernel
theorem d_R_common_13 : decode prog_5_method_20_code 13 = .ok (.lload 4, 2) := by decide +kernel
theorem d_R_common_15 : decode prog_5_method_20_code 15 = .ok (.lload 6, 2) := by decide +kernel
theorem d_R_common_17 : decode prog_5_method_20_code 17 = .ok (.lrem, 1) := by decide +kernel
theorem d_R_common_18 : decode prog_5_method_20_code 18 = .ok (.lstore 8, 2) := by decide +kernel
theorem d_R_common_20 : decode prog_5_method_20_code 20 = .ok (.lload 6, 2) := by decide +kernel
theorem d_R_common_22 : decode prog_5_method_20_code 22 = .ok (.lstore 4, 2) := by decide +kernel
theorem d_R_common_24 : decode prog_5_method_20_code 24 = .ok (.lload 8, 2) := by decide +kernel
theorem d_R_common_26 : decode prog_5_method_20_code 26 = .ok (.lstore 6, 2) := by decide +kernel
theorem d_R_common_28 : decode prog_5_method_20_code 28 = .ok (.goto (-22), 3) := by decide +kernel
theorem d_R_common_31 : decode prog_5_method_20_code 31 = .ok (.lload 4, 2) := by decide +kernel
theorem d_R_common_33 : decode prog_5_method_20_code 33 = .ok (.lreturn, 1) := by decide +kernel
theorem d_R_shred_0 : decode prog_5_method_22_code 0 = .ok (.aload_n 0, 1) := by decide +kernel
theorem d_R_shred_1 : decode prog_5_method_22_code 1 = .ok (.iload_n 1, 1) := by decide +kernel
theorem d_R_shred_2 : decode prog_5_method_22_code 2 = .ok (.invokevirtual 64, 3) := by decide +kernel
theorem d_R_shred_5 : decode prog_5_method_22_code 5 = .ok (.ifCond .eq 50, 3) := by decide +kernel
theorem d_R_shred_8 : decode prog_5_method_22_code 8 = .ok (.iload_n 2, 1) := by decide +kernel
theorem d_R_shred_9 : decode prog_5_method_22_code 9 = .ok (.i2l, 1) := by decide +kernel
theorem d_R_shred_10 : decode prog_5_method_22_code 10 = .ok (.lconst 1, 1) := by decide +kernel
theorem d_R_shred_11 : decode prog_5_method_22_code 11 = .ok (.ldc2_w 111, 3) := by decide +kernel
theorem d_R_shred_14 : decode prog_5_method_22_code 14 = .ok (.invokestatic 70, 3) := by decide +kernel
theorem d_R_shred_17 : decode prog_5_method_22_code 17 = .ok (.ifCond .eq 38, 3) := by decide +kernel
theorem d_R_shred_20 : decode prog_5_method_22_code 20 = .ok (.aload_n 0, 1) := by decide +kernel
theorem d_R_shred_21 : decode prog_5_method_22_code 21 = .ok (.getfield 20, 3) := by decide +kernel
theorem d_R_shred_24 : decode prog_5_method_22_code 24 = .ok (.iload_n 1, 1) := by decide +kernel
theorem d_R_shred_25 : decode prog_5_method_22_code 25 = .ok (.iaload, 1) := by decide +kernel
theorem d_R_shred_26 : decode prog_5_method_22_code 26 = .ok (.iconst 3, 1) := by decide +kernel
theorem d_R_shred_27 : decode prog_5_method_22_code 27 = .ok (.if_icmp .eq 13, 3) := by decide +kernel
theorem d_R_shred_30 : decode prog_5_method_22_code 30 = .ok (.aload_n 0, 1) := by decide +kernel
theorem d_R_shred_31 : decode prog_5_method_22_code 31 = .ok (.getfield 20, 3) := by decide +kernel
theorem d_R_shred_34 : decode prog_5_method_22_code 34 = .ok (.iload_n 1, 1) := by decide +kernel
theorem d_R_shred_35 : decode prog_5_method_22_code 35 = .ok (.iaload, 1) := by decide +kernel
theorem d_R_shred_36 : decode prog_5_method_22_code 36 = .ok (.iconst 4, 1) := by decide +kernel
theorem d_R_shred_37 : decode prog_5_method_22_code 37 = .ok (.if_icmp .ne 18, 3) := by decide +kernel
theorem d_R_shred_40 : decode prog_5_method_22_code 40 = .ok (.iload_n 2, 1) := by decide +kernel
theorem d_R_shred_41 : decode prog_5_method_22_code 41 = .ok (.iconst 2, 1) := by decide +kernel
theorem d_R_shred_42 : decode prog_5_method_22_code 42 = .ok (.bipush 6, 2) := by decide +kernel
theorem d_R_shred_44 : decode prog_5_method_22_code 44 = .ok (.aload_n 0, 1) := by decide +kernel
theorem d_R_shred_45 : decode prog_5_method_22_code 45 = .ok (.getfield 7, 3) := by decide +kernel
theorem d_R_shred_48 : decode prog_5_method_22_code 48 = .ok (.iload_n 1, 1) := by decide +kernel
theorem d_R_shred_49 : decode prog_5_method_22_code 49 = .ok (.iaload, 1) := by decide +kernel
theorem d_R_shred_50 : decode prog_5_method_22_code 50 = .ok (.imul, 1) := by decide +kernel
theorem d_R_shred_51 : decode prog_5_method_22_code 51 = .ok (.iadd, 1) := by decide +kernel
theorem d_R_shred_52 : decode prog_5_method_22_code 52 = .ok (.if_icmp .le 5, 3) := by decide +kernel
theorem d_R_shred_55 : decode prog_5_method_22_code 55 = .ok (.iconst 0, 1) := by decide +kernel
theorem d_R_shred_56 : decode prog_5_method_22_code 56 = .ok (.ireturn, 1) := by decide +kernel
theorem d_R_shred_57 : decode prog_5_method_22_code 57 = .ok (.aload_n 0, 1) := by decide +kernel
theorem d_R_shred_58 : decode prog_5_method_22_code 58 = .ok (.getfield 20, 3) := by decide +kernel
theorem d_R_shred_61 : decode prog_5_method_22_code 61 = .ok (.iload_n 1, 1) := by decide +kernel
theorem d_R_shred_62 : decode prog_5_method_22_code 62 = .ok (.iconst 5, 1) := by decide +kernel
theorem d_R_shred_63 : decode prog_5_method_22_code 63 = .ok (.iastore, 1) := by decide +kernel
theorem d_R_shred_64 : decode prog_5_method_22_code 64 = .ok (.iconst 1, 1) := by decide +kernel
theorem d_R_shred_65 : decode prog_5_method_22_code 65 = .ok (.ireturn, 1) := by decide +kernel
theorem d_R_paper_0 : decode prog_5_method_23_code 0 = .ok (.aload_n 0, 1) := by decide +kernel
theorem d_R_paper_1 : decode prog_5_method_23_code 1 = .ok (.getfield 113, 3) := by decide +kernel
theorem d_R_paper_4 : decode prog_5_method_23_code 4 = .ok (.bipush 20, 2) := by decide +kernel
theorem d_R_paper_6 : decode prog_5_method_23_code 6 = .ok (.if_icmp .eq 60, 3) := by decide +kernel
theorem d_R_paper_9 : decode prog_5_method_23_code 9 = .ok (.aload_n 0, 1) := by decide +kernel
theorem d_R_paper_10 : decode prog_5_method_23_code 10 = .ok (.iload_n 1, 1) := by decide +kernel
theorem d_R_paper_11 : decode prog_5_method_23_code 11 = .ok (.invokevirtual 64, 3) := by decide +kernel
theorem d_R_paper_14 : decode prog_5_method_23_code 14 = .ok (.ifCond .eq 52, 3) := by decide +kernel
theorem d_R_paper_17 : decode prog_5_method_23_code 17 = .ok (.iload_n 2, 1) := by decide +kernel
theorem d_R_paper_18 : decode prog_5_method_23_code 18 = .ok (.i2l, 1) := by decide +kernel
theorem d_R_paper_19 : decode prog_5_method_23_code 19 = .ok (.lconst 0, 1) := by decide +kernel
theorem d_R_paper_20 : decode prog_5_method_23_code 20 = .ok (.ldc2_w 82, 3) := by decide +kernel
theorem d_R_paper_23 : decode prog_5_method_23_code 23 = .ok (.invokestatic 70, 3) := by decide +kernel
theorem d_R_paper_26 : decode prog_5_method_23_code 26 = .ok (.ifCond .eq 40, 3) := by decide +kernel
theorem d_R_paper_29 : decode prog_5_method_23_code 29 = .ok (.iload_n 3, 1) := by decide +kernel
theorem d_R_paper_30 : decode prog_5_method_23_code 30 = .ok (.i2l, 1) := by decide +kernel
theorem d_R_paper_31 : decode prog_5_method_23_code 31 = .ok (.lconst 0, 1) := by decide +kernel
theorem d_R_paper_32 : decode prog_5_method_23_code 32 = .ok (.ldc2_w 82, 3) := by decide +kernel
theorem d_R_paper_35 : decode prog_5_method_23_code 35 = .ok (.invokestatic 70, 3) := by decide +kernel
theorem d_R_paper_38 : decode prog_5_method_23_code 38 = .ok (.ifCond .eq 28, 3) := by decide +kernel
theorem d_R_paper_41 : decode prog_5_method_23_code 41 = .ok (.iload_n 2, 1) := by decide +kernel
theorem d_R_paper_42 : decode prog_5_method_23_code 42 = .ok (.iload_n 3, 1) := by decide +kernel
theorem d_R_paper_43 : decode prog_5_method_23_code 43 = .ok (.if_icmp .eq 23, 3) := by decide +kernel
theorem d_R_paper_46 : decode prog_5_method_23_code 46 = .ok (.aload_n 0, 1) := by decide +kernel
theorem d_R_paper_47 : decode prog_5_method_23_code 47 = .ok (.getfield 20, 3) := by decide +kernel
theorem d_R_paper_50 : decode prog_5_method_23_code 50 = .ok (.iload_n 1, 1) := by decide +kernel
theorem d_R_paper_51 : decode prog_5_method_23_code 51 = .ok (.iaload, 1) := by decide +kernel
theorem d_R_paper_52 : decode prog_5_method_23_code 52 = .ok (.iconst 3, 1) := by decide +kernel
theorem d_R_paper_53 : decode prog_5_method_23_code 53 = .ok (.if_icmp .eq 15, 3) := by decide +kernel
theorem d_R_paper_56 : decode prog_5_method_23_code 56 = .ok (.aload_n 0, 1) := by decide +kernel
theorem d_R_paper_57 : decode prog_5_method_23_code 57 = .ok (.getfield 20, 3) := by decide +kernel
theorem d_R_paper_60 : decode prog_5_method_23_code 60 = .ok (.iload_n 1, 1) := by decide +kernel
theorem d_R_paper_61 : decode prog_5_method_23_code 61 = .ok (.iaload, 1) := by decide +kernel
theorem d_R_paper_62 : decode prog_5_method_23_code 62 = .ok (.iconst 5, 1) := by decide +kernel
theorem d_R_paper_63 : decode prog_5_method_23_code 63 = .ok (.if_icmp .eq 5, 3) := by decide +kernel
theorem d_R_paper_66 : decode prog_5_method_23_code 66 = .ok (.iconst (-1), 1) := by decide +kernel
theorem d_R_paper_67 : decode prog_5_method_23_code 67 = .ok (.ireturn, 1) := by decide +kernel
theorem d_R_paper_68 : decode prog_5_method_23_code 68 = .ok (.bipush 12, 2) := by decide +kernel
theorem d_R_paper_70 : decode prog_5_method_23_code 70 = .ok (.aload_n 0, 1) := by decide +kernel
theorem d_R_paper_71 : decode prog_5_method_23_code 71 = .ok (.getfield 113, 3) := by decide +kernel
theorem d_R_paper_74 : decode prog_5_method_23_code 74 = .ok (.imul, 1) := by decide +kernel
theorem d_R_paper_75 : decode prog_5_method_23_code 75 = .ok (.istore 4, 2) := by decide +kernel
theorem d_R_paper_77 : decode prog_5_method_23_code 77 = .ok (.aload_n 0, 1) := by decide +kernel
theorem d_R_paper_78 : decode prog_5_method_23_code 78 = .ok (.getfield 48, 3) := by decide +kernel
theorem d_R_paper_81 : decode prog_5_method_23_code 81 = .ok (.iload 4, 2) := by decide +kernel
theorem d_R_paper_83 : decode prog_5_method_23_code 83 = .ok (.iload_n 1, 1) := by decide +kernel
theorem d_R_paper_84 : decode prog_5_method_23_code 84 = .ok (.iastore, 1) := by decide +kernel
theorem d_R_paper_85 : decode prog_5_method_23_code 85 = .ok (.aload_n 0, 1) := by decide +kernel
theorem d_R_paper_86 : decode prog_5_method_23_code 86 = .ok (.getfield 48, 3) := by decide +kernel
theorem d_R_paper_89 : decode prog_5_method_23_code 89 = .ok (.iload 4, 2) := by decide +kernel
theorem d_R_paper_91 : decode prog_5_method_23_code 91 = .ok (.iconst 1, 1) := by decide +kernel
theorem d_R_paper_92 : decode prog_5_method_23_code 92 = .ok (.iadd, 1) := by decide +kernel
theorem d_R_paper_93 : decode prog_5_method_23_code 93 = .ok (.aload_n 0, 1) := by decide +kernel
theorem d_R_paper_94 : decode prog_5_method_23_code 94 = .ok (.getfield 7, 3) := by decide +kernel
theorem d_R_paper_97 : decode prog_5_method_23_code 97 = .ok (.iload_n 1, 1) := by decide +kernel
theorem d_R_paper_98 : decode prog_5_method_23_code 98 = .ok (.iaload, 1) := by decide +kernel
theorem d_R_paper_99 : decode prog_5_method_23_code 99 = .ok (.iastore, 1) := by decide +kernel
theorem d_R_paper_100 : decode prog_5_method_23_code 100 = .ok (.aload_n 0, 1) := by decide +kernel
theorem d_R_paper_101 : decode prog_5_method_23_code 101 = .ok (.getfield 48, 3) := by decide +kernel
theorem d_R_paper_104 : decode prog_5_method_23_code 104 = .ok (.iload 4, 2) := by decide +kernel
theorem d_R_paper_106 : decode prog_5_method_23_code 106 = .ok (.iconst 2, 1) := by decide +kernel
theorem d_R_paper_107 : decode prog_5_method_23_code 107 = .ok (.iadd, 1) := by decide +kernel
theorem d_R_paper_108 : decode prog_5_method_23_code 108 = .ok (.iload_n 2, 1) := by decide +kernel
theorem d_R_paper_109 : decode prog_5_method_23_code 109 = .ok (.iastore, 1) := by decide +kernel
theorem d_R_paper_110 : decode prog_5_method_23_code 110 = .ok (.aload_n 0, 1) := by decide +kernel
theorem d_R_paper_111 : decode prog_5_method_23_code 111 = .ok (.getfield 48, 3) := by decide +kernel
theorem d_R_paper_114 : decode prog_5_method_23_code 114 = .ok (.iload 4, 2) := by decide +kernel
theorem d_R_paper_116 : decode prog_5_method_23_code 116 = .ok (.iconst 3, 1) := by decide +kernel
theorem d_R_paper_117 : decode prog_5_method_23_code 117 = .ok (.iadd, 1) := by decide +kernel
theorem d_R_paper_118 : decode prog_5_method_23_code 118 = .ok (.iload_n 3, 1) := by decide +kernel
theorem d_R_paper_119 : decode prog_5_method_23_code 119 = .ok (.iastore, 1) := by decide +kernel
theorem d_R_paper_120 : decode prog_5_method_23_code 120 = .ok (.aload_n 0, 1) := by decide +kernel
theorem d_R_paper_121 : decode prog_5_method_23_code 121 = .ok (.getfield 48, 3) := by decide +kernel
theorem d_R_paper_124 : decode prog_5_method_23_code 124 = .ok (.iload 4, 2) := by decide +kernel
theorem d_R_paper_126 : decode prog_5_method_23_code 126 = .ok (.iconst 4, 1) := by decide +kernel
theorem d_R_paper_127 : decode prog_5_method_23_code 127 = .ok (.iadd, 1) := by decide +kernel
theorem d_R_paper_128 : decode prog_5_method_23_code 128 = .ok (.aload_n 0, 1) := by decide +kernel
theorem d_R_paper_129 : decode prog_5_method_23_code 129 = .ok (.getfield 20, 3) := by decide +kernel
theorem d_R_paper_132 : decode prog_5_method_23_code 132 = .ok (.iload_n 1, 1) := by decide +kernel
theorem d_R_paper_133 : decode prog_5_method_23_code 133 = .ok (.iaload, 1) := by decide +kernel
theorem d_R_paper_134 : decode prog_5_method_23_code 134 = .ok (.iastore, 1) := by decide +kernel
theorem d_R_paper_135 : decode prog_5_method_23_code 135 = .ok (.aload_n 0, 1) := by decide +kernel
theorem d_R_paper_136 : decode prog_5_method_23_code 136 = .ok (.getfield 48, 3) := by decide +kernel
theorem d_R_paper_139 : decode prog_5_method_23_code 139 = .ok (.iload 4, 2) := by decide +kernel
theorem d_R_paper_141 : decode prog_5_method_23_code 141 = .ok (.iconst 5, 1) := by decide +kernel
theorem d_R_paper_142 : decode prog_5_method_23_code 142 = .ok (.iadd, 1) := by decide +kernel
theorem d_R_paper_143 : decode prog_5_method_23_code 143 = .ok (.aload_n 0, 1) := by decide +kernel
theorem d_R_paper_144 : decode prog_5_method_23_code 144 = .ok (.getfield 42, 3) := by decide +kernel
theorem d_R_paper_147 : decode prog_5_method_23_code 147 = .ok (.iload_n 1, 1) := by decide +kernel
theorem d_R_paper_148 : decode prog_5_method_23_code 148 = .ok (.iaload, 1) := by decide +kernel
theorem d_R_paper_149 : decode prog_5_method_23_code 149 = .ok (.iastore, 1) := by decide +kernel
theorem d_R_paper_150 : decode prog_5_method_23_code 150 = .ok (.iconst 0, 1) := by decide +kernel
theorem d_R_paper_151 : decode prog_5_method_23_code 151 = .ok (.istore 5, 2) := by decide +kernel
theorem d_R_paper_153 : decode prog_5_method_23_code 153 = .ok (.iload 5, 2) := by decide +kernel
theorem d_R_paper_155 : decode prog_5_method_23_code 155 = .ok (.aload_n 0, 1) := by decide +kernel
theorem d_R_paper_156 : decode prog_5_method_23_code 156 = .ok (.getfield 42, 3) := by decide +kernel
theorem d_R_paper_159 : decode prog_5_method_23_code 159 = .ok (.iload_n 1, 1) := by decide +kernel
theorem d_R_paper_160 : decode prog_5_method_23_code 160 = .ok (.iaload, 1) := by decide +kernel
theorem d_R_paper_161 : decode prog_5_method_23_code 161 = .ok (.if_icmp .ge 34, 3) := by decide +kernel
theorem d_R_paper_164 : decode prog_5_method_23_code 164 = .ok (.aload_n 0, 1) := by decide +kernel
theorem d_R_paper_165 : decode prog_5_method_23_code 165 = .ok (.getfield 48, 3) := by decide +kernel
theorem d_R_paper_168 : decode prog_5_method_23_code 168 = .ok (.iload 4, 2) := by decide +kernel
theorem d_R_paper_170 : decode prog_5_method_23_code 170 = .ok (.bipush 6, 2) := by decide +kernel
theorem d_R_paper_172 : decode prog_5_method_23_code 172 = .ok (.iadd, 1) := by decide +kernel
theorem d_R_paper_173 : decode prog_5_method_23_code 173 = .ok (.iload 5, 2) := by decide +kernel
theorem d_R_paper_175 : decode prog_5_method_23_code 175 = .ok (.iadd, 1) := by decide +kernel
theorem d_R_paper_176 : decode prog_5_method_23_code 176 = .ok (.aload_n 0, 1) := by decide +kernel
theorem d_R_paper_177 : decode prog_5_method_23_code 177 = .ok (.getfield 45, 3) := by decide +kernel
theorem d_R_paper_180 : decode prog_5_method_23_code 180 = .ok (.bipush 6, 2) := by decide +kernel
theorem d_R_paper_182 : decode prog_5_method_23_code 182 = .ok (.iload_n 1, 1) := by decide +kernel
theorem d_R_paper_183 : decode prog_5_method_23_code 183 = .ok (.imul, 1) := by decide +kernel
theorem d_R_paper_184 : decode prog_5_method_23_code 184 = .ok (.iload 5, 2) := by decide +kernel
theorem d_R_paper_186 : decode prog_5_method_23_code 186 = .ok (.iadd, 1) := by decide +kernel
theorem d_R_paper_187 : decode prog_5_method_23_code 187 = .ok (.iaload, 1) := by decide +kernel
theorem d_R_paper_188 : decode prog_5_method_23_code 188 = .ok (.iastore, 1) := by decide +kernel
theorem d_R_paper_189 : decode prog_5_method_23_code 189 = .ok (.iinc 5 1, 3) := by decide +kernel
theorem d_R_paper_192 : decode prog_5_method_23_code 192 = .ok (.goto (-39), 3) := by decide +kernel
theorem d_R_paper_195 : decode prog_5_method_23_code 195 = .ok (.aload_n 0, 1) := by decide +kernel
theorem d_R_paper_196 : decode prog_5_method_23_code 196 = .ok (.getfield 51, 3) := by decide +kernel
theorem d_R_paper_199 : decode prog_5_method_23_code 199 = .ok (.aload_n 0, 1) := by decide +kernel
theorem d_R_paper_200 : decode prog_5_method_23_code 200 = .ok (.getfield 113, 3) := by decide +kernel
theorem d_R_paper_203 : decode prog_5_method_23_code 203 = .ok (.bipush 6, 2) := by decide +kernel
theorem d_R_paper_205 : decode prog_5_method_23_code 205 = .ok (.aload_n 0, 1) := by decide +kernel
theorem d_R_paper_206 : decode prog_5_method_23_code 206 = .ok (.getfield 42, 3) := by decide +kernel
theorem d_R_paper_209 : decode prog_5_method_23_code 209 = .ok (.iload_n 1, 1) := by decide +kernel
theorem d_R_paper_210 : decode prog_5_method_23_code 210 = .ok (.iaload, 1) := by decide +kernel
theorem d_R_paper_211 : decode prog_5_method_23_code 211 = .ok (.iadd, 1) := by decide +kernel
theorem d_R_paper_212 : decode prog_5_method_23_code 212 = .ok (.iastore, 1) := by decide +kernel
theorem d_R_paper_213 : decode prog_5_method_23_code 213 = .ok (.aload_n 0, 1) := by decide +kernel
theorem d_R_paper_214 : decode prog_5_method_23_code 214 = .ok (.dup, 1) := by decide +kernel
theorem d_R_paper_215 : decode prog_5_method_23_code 215 = .ok (.getfield 113, 3) := by decide +kernel
theorem d_R_paper_218 : decode prog_5_method_23_code 218 = .ok (.iconst 1, 1) := by decide +kernel
theorem d_R_paper_219 : decode prog_5_method_23_code 219 = .ok (.iadd, 1) := by decide +kernel
theorem d_R_paper_220 : decode prog_5_method_23_code 220 = .ok (.putfield 113, 3) := by decide +kernel
theorem d_R_paper_223 : decode prog_5_method_23_code 223 = .ok (.aload_n 0, 1) := by decide +kernel
theorem d_R_paper_224 : decode prog_5_method_23_code 224 = .ok (.getfield 113, 3) := by decide +kernel
theorem d_R_paper_227 : decode prog_5_method_23_code 227 = .ok (.iconst 1, 1) := by decide +kernel
theorem d_R_paper_228 : decode prog_5_method_23_code 228 = .ok (.isub, 1) := by decide +kernel
theorem d_R_paper_229 : decode prog_5_method_23_code 229 = .ok (.ireturn, 1) := by decide +kernel
theorem d_R_at_0 : decode prog_5_method_25_code 0 = .ok (.aload_n 0, 1) := by decide +kernel
theorem d_R_at_1 : decode prog_5_method_25_code 1 = .ok (.iload_n 1, 1) := by decide +kernel
theorem d_R_at_2 : decode prog_5_method_25_code 2 = .ok (.invokevirtual 116, 3) := by decide +kernel
theorem d_R_at_5 : decode prog_5_method_25_code 5 = .ok (.ifCond .eq 31, 3) := by decide +kernel
theorem d_R_at_8 : decode prog_5_method_25_code 8 = .ok (.iload_n 2, 1) := by decide +kernel
theorem d_R_at_9 : decode prog_5_method_25_code 9 = .ok (.ifCond .lt 27, 3) := by decide +kernel
theorem d_R_at_12 : decode prog_5_method_25_code 12 = .ok (.iload_n 2, 1) := by decide +kernel
theorem d_R_at_13 : decode prog_5_method_25_code 13 = .ok (.aload_n 0, 1) := by decide +kernel
theorem d_R_at_14 : decode prog_5_method_25_code 14 = .ok (.getfield 51, 3) := by decide +kernel
theorem d_R_at_17 : decode prog_5_method_25_code 17 = .ok (.iload_n 1, 1) := by decide +kernel
theorem d_R_at_18 : decode prog_5_method_25_code 18 = .ok (.iaload, 1) := by decide +kernel
theorem d_R_at_19 : decode prog_5_method_25_code 19 = .ok (.if_icmp .ge 17, 3) := by decide +kernel
theorem d_R_at_22 : decode prog_5_method_25_code 22 = .ok (.aload_n 0, 1) := by decide +kernel
theorem d_R_at_23 : decode prog_5_method_25_code 23 = .ok (.getfield 48, 3) := by decide +kernel
theorem d_R_at_26 : decode prog_5_method_25_code 26 = .ok (.bipush 12, 2) := by decide +kernel
theorem d_R_at_28 : decode prog_5_method_25_code 28 = .ok (.iload_n 1, 1) := by decide +kernel
theorem d_R_at_29 : decode prog_5_method_25_code 29 = .ok (.imul, 1) := by decide +kernel
theorem d_R_at_30 : decode prog_5_method_25_code 30 = .ok (.iload_n 2, 1) := by decide +kernel
theorem d_R_at_31 : decode prog_5_method_25_code 31 = .ok (.iadd, 1) := by decide +kernel
theorem d_R_at_32 : decode prog_5_method_25_code 32 = .ok (.iaload, 1) := by decide +kernel
theorem d_R_at_33 : decode prog_5_method_25_code 33 = .ok (.goto 4, 3) := by decide +kernel
theorem d_R_at_36 : decode prog_5_method_25_code 36 = .ok (.iconst (-1), 1) := by decide +kernel
theorem d_R_at_37 : decode prog_5_method_25_code 37 = .ok (.ireturn, 1) := by decide +kernel
theorem d_R_isPaper_0 : decode prog_5_method_24_code 0 = .ok (.iload_n 1, 1) := by decide +kernel
theorem d_R_isPaper_1 : decode prog_5_method_24_code 1 = .ok (.ifCond .lt 15, 3) := by decide +kernel
theorem d_R_isPaper_4 : decode prog_5_method_24_code 4 = .ok (.iload_n 1, 1) := by decide +kernel
theorem d_R_isPaper_5 : decode prog_5_method_24_code 5 = .ok (.aload_n 0, 1) := by decide +kernel
theorem d_R_isPaper_6 : decode prog_5_method_24_code 6 = .ok (.getfield 113, 3) := by decide +kernel
theorem d_R_isPaper_9 : decode prog_5_method_24_code 9 = .ok (.if_icmp .ge 7, 3) := by decide +kernel
theorem d_R_isPaper_12 : decode prog_5_method_24_code 12 = .ok (.iconst 1, 1) := by decide +kernel
theorem d_R_isPaper_13 : decode prog_5_method_24_code 13 = .ok (.goto 4, 3) := by decide +kernel
theorem d_R_isPaper_16 : decode prog_5_method_24_code 16 = .ok (.iconst 0, 1) := by decide +kernel
theorem d_R_isPaper_17 : decode prog_5_method_24_code 17 = .ok (.ireturn, 1) := by decide +kernel
theorem d_R_mark_0 : decode prog_5_method_27_code 0 = .ok (.aload_n 0, 1) := by decide +kernel
theorem d_R_mark_1 : decode prog_5_method_27_code 1 = .ok (.iload_n 1, 1) := by decide +kernel
theorem d_R_mark_2 : decode prog_5_method_27_code 2 = .ok (.invokevirtual 116, 3) := by decide +kernel
theorem d_R_mark_5 : decode prog_5_method_27_code 5 = .ok (.ifCond .eq 39, 3) := by decide +kernel
theorem d_R_mark_8 : decode prog_5_method_27_code 8 = .ok (.iload 4, 2) := by decide +kernel
theorem d_R_mark_10 : decode prog_5_method_27_code 10 = .ok (.i2l, 1) := by decide +kernel
theorem d_R_mark_11 : decode prog_5_method_27_code 11 = .ok (.lconst 0, 1) := by decide +kernel
theorem d_R_mark_12 : decode prog_5_method_27_code 12 = .ok (.ldc2_w 121, 3) := by decide +kernel
theorem d_R_mark_15 : decode prog_5_method_27_code 15 = .ok (.invokestatic 70, 3) := by decide +kernel
theorem d_R_mark_18 : decode prog_5_method_27_code 18 = .ok (.ifCond .eq 26, 3) := by decide +kernel
theorem d_R_mark_21 : decode prog_5_method_27_code 21 = .ok (.aload_n 0, 1) := by decide +kernel
theorem d_R_mark_22 : decode prog_5_method_27_code 22 = .ok (.iload_n 1, 1) := by decide +kernel
theorem d_R_mark_23 : decode prog_5_method_27_code 23 = .ok (.lload_n 2, 1) := by decide +kernel
theorem d_R_mark_24 : decode prog_5_method_27_code 24 = .ok (.invokevirtual 123, 3) := by decide +kernel
theorem d_R_mark_27 : decode prog_5_method_27_code 27 = .ok (.bipush 56, 2) := by decide +kernel
theorem d_R_mark_29 : decode prog_5_method_27_code 29 = .ok (.bipush 8, 2) := by decide +kernel
theorem d_R_mark_31 : decode prog_5_method_27_code 31 = .ok (.iload 4, 2) := by decide +kernel
theorem d_R_mark_33 : decode prog_5_method_27_code 33 = .ok (.imul, 1) := by decide +kernel
theorem d_R_mark_34 : decode prog_5_method_27_code 34 = .ok (.isub, 1) := by decide +kernel
theorem d_R_mark_35 : decode prog_5_method_27_code 35 = .ok (.lushr, 1) := by decide +kernel
theorem d_R_mark_36 : decode prog_5_method_27_code 36 = .ok (.ldc2_w 101, 3) := by decide +kernel
theorem d_R_mark_39 : decode prog_5_method_27_code 39 = .ok (.land, 1) := by decide +kernel
theorem d_R_mark_40 : decode prog_5_method_27_code 40 = .ok (.l2i, 1) := by decide +kernel
theorem d_R_mark_41 : decode prog_5_method_27_code 41 = .ok (.goto 4, 3) := by decide +kernel
theorem d_R_mark_44 : decode prog_5_method_27_code 44 = .ok (.iconst (-1), 1) := by decide +kernel
theorem d_R_mark_45 : decode prog_5_method_27_code 45 = .ok (.ireturn, 1) := by decide +kernel
theorem d_R_markOf_0 : decode prog_5_method_26_code 0 = .ok (.lload_n 2, 1) := by decide +kernel
theorem d_R_markOf_1 : decode prog_5_method_26_code 1 = .ok (.lstore 4, 2) := by decide +kernel
theorem d_R_markOf_3 : decode prog_5_method_26_code 3 = .ok (.iconst 0, 1) := by decide +kernel
theorem d_R_markOf_4 : decode prog_5_method_26_code 4 = .ok (.istore 6, 2) := by decide +kernel
theorem d_R_markOf_6 : decode prog_5_method_26_code 6 = .ok (.iload 6, 2) := by decide +kernel
theorem d_R_markOf_8 : decode prog_5_method_26_code 8 = .ok (.aload_n 0, 1) := by decide +kernel
theorem d_R_markOf_9 : decode prog_5_method_26_code 9 = .ok (.getfield 51, 3) := by decide +kernel
theorem d_R_markOf_12 : decode prog_5_method_26_code 12 = .ok (.iload_n 1, 1) := by decide +kernel
theorem d_R_markOf_13 : decode prog_5_method_26_code 13 = .ok (.iaload, 1) := by decide +kernel
theorem d_R_markOf_14 : decode prog_5_method_26_code 14 = .ok (.if_icmp .ge 43, 3) := by decide +kernel
theorem d_R_markOf_17 : decode prog_5_method_26_code 17 = .ok (.lload 4, 2) := by decide +kernel
theorem d_R_markOf_19 : decode prog_5_method_26_code 19 = .ok (.aload_n 0, 1) := by decide +kernel
theorem d_R_markOf_20 : decode prog_5_method_26_code 20 = .ok (.getfield 48, 3) := by decide +kernel
theorem d_R_markOf_23 : decode prog_5_method_26_code 23 = .ok (.bipush 12, 2) := by decide +kernel
theorem d_R_markOf_25 : decode prog_5_method_26_code 25 = .ok (.iload_n 1, 1) := by decide +kernel
theorem d_R_markOf_26 : decode prog_5_method_26_code 26 = .ok (.imul, 1) := by decide +kernel
theorem d_R_markOf_27 : decode prog_5_method_26_code 27 = .ok (.iload 6, 2) := by decide +kernel
theorem d_R_markOf_29 : decode prog_5_method_26_code 29 = .ok (.iadd, 1) := by decide +kernel
theorem d_R_markOf_30 : decode prog_5_method_26_code 30 = .ok (.iaload, 1) := by decide +kernel
theorem d_R_markOf_31 : decode prog_5_method_26_code 31 = .ok (.i2l, 1) := by decide +kernel
theorem d_R_markOf_32 : decode prog_5_method_26_code 32 = .ok (.ladd, 1) := by decide +kernel
theorem d_R_markOf_33 : decode prog_5_method_26_code 33 = .ok (.lconst 1, 1) := by decide +kernel
theorem d_R_markOf_34 : decode prog_5_method_26_code 34 = .ok (.ladd, 1) := by decide +kernel
theorem d_R_markOf_35 : decode prog_5_method_26_code 35 = .ok (.ldc2_w 119, 3) := by decide +kernel
theorem d_R_markOf_38 : decode prog_5_method_26_code 38 = .ok (.lmul, 1) := by decide +kernel
theorem d_R_markOf_39 : decode prog_5_method_26_code 39 = .ok (.lstore 4, 2) := by decide +kernel
theorem d_R_markOf_41 : decode prog_5_method_26_code 41 = .ok (.lload 4, 2) := by decide +kernel
theorem d_R_markOf_43 : decode prog_5_method_26_code 43 = .ok (.lload 4, 2) := by decide +kernel
theorem d_R_markOf_45 : decode prog_5_method_26_code 45 = .ok (.bipush 32, 2) := by decide +kernel
theorem d_R_markOf_47 : decode prog_5_method_26_code 47 = .ok (.lushr, 1) := by decide +kernel
theorem d_R_markOf_48 : decode prog_5_method_26_code 48 = .ok (.lxor, 1) := by decide +kernel
theorem d_R_markOf_49 : decode prog_5_method_26_code 49 = .ok (.lstore 4, 2) := by decide +kernel
theorem d_R_markOf_51 : decode prog_5_method_26_code 51 = .ok (.iinc 6 1, 3) := by decide +kernel
theorem d_R_markOf_54 : decode prog_5_method_26_code 54 = .ok (.goto (-48), 3) := by decide +kernel
theorem d_R_markOf_57 : decode prog_5_method_26_code 57 = .ok (.lload 4, 2) := by decide +kernel
theorem d_R_markOf_59 : decode prog_5_method_26_code 59 = .ok (.lreturn, 1) := by decide +kernel
theorem d_R_check_0 : decode prog_5_method_28_code 0 = .ok (.aload_n 0, 1) := by decide +kernel
theorem d_R_check_1 : decode prog_5_method_28_code 1 = .ok (.iload_n 1, 1) := by decide +kernel
theorem d_R_check_2 : decode prog_5_method_28_code 2 = .ok (.invokevirtual 116, 3) := by decide +kernel
theorem d_R_check_5 : decode prog_5_method_28_code 5 = .ok (.istore 6, 2) := by decide +kernel
theorem d_R_check_7 : decode prog_5_method_28_code 7 = .ok (.iconst 0, 1) := by decide +kernel
theorem d_R_check_8 : decode prog_5_method_28_code 8 = .ok (.istore 7, 2) := by decide +kernel
theorem d_R_check_10 : decode prog_5_method_28_code 10 = .ok (.iload 7, 2) := by decide +kernel
theorem d_R_check_12 : decode prog_5_method_28_code 12 = .ok (.bipush 8, 2) := by decide +kernel
theorem d_R_check_14 : decode prog_5_method_28_code 14 = .ok (.if_icmp .ge 48, 3) := by decide +kernel
theorem d_R_check_17 : decode prog_5_method_28_code 17 = .ok (.iload 6, 2) := by decide +kernel
theorem d_R_check_19 : decode prog_5_method_28_code 19 = .ok (.ifCond .eq 43, 3) := by decide +kernel
theorem d_R_check_22 : decode prog_5_method_28_code 22 = .ok (.aload_n 0, 1) := by decide +kernel
theorem d_R_check_23 : decode prog_5_method_28_code 23 = .ok (.iload_n 1, 1) := by decide +kernel
theorem d_R_check_24 : decode prog_5_method_28_code 24 = .ok (.lload_n 2, 1) := by decide +kernel
theorem d_R_check_25 : decode prog_5_method_28_code 25 = .ok (.iload 7, 2) := by decide +kernel
theorem d_R_check_27 : decode prog_5_method_28_code 27 = .ok (.invokevirtual 127, 3) := by decide +kernel
theorem d_R_check_30 : decode prog_5_method_28_code 30 = .ok (.lload 4, 2) := by decide +kernel
theorem d_R_check_32 : decode prog_5_method_28_code 32 = .ok (.bipush 56, 2) := by decide +kernel
theorem d_R_check_34 : decode prog_5_method_28_code 34 = .ok (.bipush 8, 2) := by decide +kernel
theorem d_R_check_36 : decode prog_5_method_28_code 36 = .ok (.iload 7, 2) := by decide +kernel
theorem d_R_check_38 : decode prog_5_method_28_code 38 = .ok (.imul, 1) := by decide +kernel
theorem d_R_check_39 : decode prog_5_method_28_code 39 = .ok (.isub, 1) := by decide +kernel
theorem d_R_check_40 : decode prog_5_method_28_code 40 = .ok (.lushr, 1) := by decide +kernel
theorem d_R_check_41 : decode prog_5_method_28_code 41 = .ok (.ldc2_w 101, 3) := by decide +kernel
theorem d_R_check_44 : decode prog_5_method_28_code 44 = .ok (.land, 1) := by decide +kernel
theorem d_R_check_45 : decode prog_5_method_28_code 45 = .ok (.l2i, 1) := by decide +kernel
theorem d_R_check_46 : decode prog_5_method_28_code 46 = .ok (.if_icmp .ne 7, 3) := by decide +kernel
theorem d_R_check_49 : decode prog_5_method_28_code 49 = .ok (.iconst 1, 1) := by decide +kernel
theorem d_R_check_50 : decode prog_5_method_28_code 50 = .ok (.goto 4, 3) := by decide +kernel
theorem d_R_check_53 : decode prog_5_method_28_code 53 = .ok (.iconst 0, 1) := by decide +kernel
theorem d_R_check_54 : decode prog_5_method_28_code 54 = .ok (.istore 6, 2) := by decide +kernel
theorem d_R_check_56 : decode prog_5_method_28_code 56 = .ok (.iinc 7 1, 3) := by decide +kernel
theorem d_R_check_59 : decode prog_5_method_28_code 59 = .ok (.goto (-49), 3) := by decide +kernel
theorem d_R_check_62 : decode prog_5_method_28_code 62 = .ok (.iload 6, 2) := by decide +kernel
theorem d_R_check_64 : decode prog_5_method_28_code 64 = .ok (.ireturn, 1) := by decide +kernel
theorem d_R_listed_0 : decode prog_5_method_30_code 0 = .ok (.aload_n 0, 1) := by decide +kernel
theorem d_R_listed_1 : decode prog_5_method_30_code 1 = .ok (.getfield 131, 3) := by decide +kernel
theorem d_R_listed_4 : decode prog_5_method_30_code 4 = .ok (.bipush 20, 2) := by decide +kernel
theorem d_R_listed_6 : decode prog_5_method_30_code 6 = .ok (.if_icmp .eq 22, 3) := by decide +kernel
theorem d_R_listed_9 : decode prog_5_method_30_code 9 = .ok (.lload_n 1, 1) := by decide +kernel
theorem d_R_listed_10 : decode prog_5_method_30_code 10 = .ok (.lconst 0, 1) := by decide +kernel
theorem d_R_listed_11 : decode prog_5_method_30_code 11 = .ok (.ldc2_w 74, 3) := by decide +kernel
theorem d_R_listed_14 : decode prog_5_method_30_code 14 = .ok (.invokestatic 70, 3) := by decide +kernel
theorem d_R_listed_17 : decode prog_5_method_30_code 17 = .ok (.ifCond .eq 11, 3) := by decide +kernel
theorem d_R_listed_20 : decode prog_5_method_30_code 20 = .ok (.aload_n 0, 1) := by decide +kernel
theorem d_R_listed_21 : decode prog_5_method_30_code 21 = .ok (.lload_n 1, 1) := by decide +kernel
theorem d_R_listed_22 : decode prog_5_method_30_code 22 = .ok (.invokevirtual 134, 3) := by decide +kernel
theorem d_R_listed_25 : decode prog_5_method_30_code 25 = .ok (.ifCond .eq 5, 3) := by decide +kernel
theorem d_R_listed_28 : decode prog_5_method_30_code 28 = .ok (.iconst (-1), 1) := by decide +kernel
theorem d_R_listed_29 : decode prog_5_method_30_code 29 = .ok (.ireturn, 1) := by decide +kernel
theorem d_R_listed_30 : decode prog_5_method_30_code 30 = .ok (.aload_n 0, 1) := by decide +kernel
theorem d_R_listed_31 : decode prog_5_method_30_code 31 = .ok (.getfield 54, 3) := by decide +kernel
theorem d_R_listed_34 : decode prog_5_method_30_code 34 = .ok (.aload_n 0, 1) := by decide +kernel
theorem d_R_listed_35 : decode prog_5_method_30_code 35 = .ok (.getfield 131, 3) := by decide +kernel
theorem d_R_listed_38 : decode prog_5_method_30_code 38 = .ok (.lload_n 1, 1) := by decide +kernel
theorem d_R_listed_39 : decode prog_5_method_30_code 39 = .ok (.lastore, 1) := by decide +kernel
theorem d_R_listed_40 : decode prog_5_method_30_code 40 = .ok (.aload_n 0, 1) := by decide +kernel
theorem d_R_listed_41 : decode prog_5_method_30_code 41 = .ok (.dup, 1) := by decide +kernel
theorem d_R_listed_42 : decode prog_5_method_30_code 42 = .ok (.getfield 131, 3) := by decide +kernel
theorem d_R_listed_45 : decode prog_5_method_30_code 45 = .ok (.iconst 1, 1) := by decide +kernel
theorem d_R_listed_46 : decode prog_5_method_30_code 46 = .ok (.iadd, 1) := by decide +kernel
theorem d_R_listed_47 : decode prog_5_method_30_code 47 = .ok (.putfield 131, 3) := by decide +kernel
theorem d_R_listed_50 : decode prog_5_method_30_code 50 = .ok (.aload_n 0, 1) := by decide +kernel
theorem d_R_listed_51 : decode prog_5_method_30_code 51 = .ok (.getfield 131, 3) := by decide +kernel
theorem d_R_listed_54 : decode prog_5_method_30_code 54 = .ok (.ireturn, 1) := by decide +kernel
theorem d_R_isListed_0 : decode prog_5_method_29_code 0 = .ok (.iconst 0, 1) := by decide +kernel
theorem d_R_isListed_1 : decode prog_5_method_29_code 1 = .ok (.istore_n 3, 1) := by decide +kernel
theorem d_R_isListed_2 : decode prog_5_method_29_code 2 = .ok (.iconst 0, 1) := by decide +kernel
theorem d_R_isListed_3 : decode prog_5_method_29_code 3 = .ok (.istore 4, 2) := by decide +kernel
theorem d_R_isListed_5 : decode prog_5_method_29_code 5 = .ok (.iload 4, 2) := by decide +kernel
theorem d_R_isListed_7 : decode prog_5_method_29_code 7 = .ok (.aload_n 0, 1) := by decide +kernel
theorem d_R_isListed_8 : decode prog_5_method_29_code 8 = .ok (.getfield 131, 3) := by decide +kernel
theorem d_R_isListed_11 : decode prog_5_method_29_code 11 = .ok (.if_icmp .ge 31, 3) := by decide +kernel
theorem d_R_isListed_14 : decode prog_5_method_29_code 14 = .ok (.iload_n 3, 1) := by decide +kernel
theorem d_R_isListed_15 : decode prog_5_method_29_code 15 = .ok (.ifCond .ne 15, 3) := by decide +kernel
theorem d_R_isListed_18 : decode prog_5_method_29_code 18 = .ok (.aload_n 0, 1) := by decide +kernel
theorem d_R_isListed_19 : decode prog_5_method_29_code 19 = .ok (.getfield 54, 3) := by decide +kernel
theorem d_R_isListed_22 : decode prog_5_method_29_code 22 = .ok (.iload 4, 2) := by decide +kernel
theorem d_R_isListed_24 : decode prog_5_method_29_code 24 = .ok (.laload, 1) := by decide +kernel
theorem d_R_isListed_25 : decode prog_5_method_29_code 25 = .ok (.lload_n 1, 1) := by decide +kernel
theorem d_R_isListed_26 : decode prog_5_method_29_code 26 = .ok (.lcmp, 1) := by decide +kernel
theorem d_R_isListed_27 : decode prog_5_method_29_code 27 = .ok (.ifCond .ne 7, 3) := by decide +kernel
theorem d_R_isListed_30 : decode prog_5_method_29_code 30 = .ok (.iconst 1, 1) := by decide +kernel
theorem d_R_isListed_31 : decode prog_5_method_29_code 31 = .ok (.goto 4, 3) := by decide +kernel
theorem d_R_isListed_34 : decode prog_5_method_29_code 34 = .ok (.iconst 0, 1) := by decide +kernel
theorem d_R_isListed_35 : decode prog_5_method_29_code 35 = .ok (.istore_n 3, 1) := by decide +kernel
theorem d_R_isListed_36 : decode prog_5_method_29_code 36 = .ok (.iinc 4 1, 3) := by decide +kernel
theorem d_R_isListed_39 : decode prog_5_method_29_code 39 = .ok (.goto (-34), 3) := by decide +kernel
theorem d_R_isListed_42 : decode prog_5_method_29_code 42 = .ok (.iload_n 3, 1) := by decide +kernel
theorem d_R_isListed_43 : decode prog_5_method_29_code 43 = .ok (.ireturn, 1) := by decide +kernel
theorem d_R_missing_0 : decode prog_5_method_31_code 0 = .ok (.iconst 0, 1) := by decide +kernel
theorem d_R_missing_1 : decode prog_5_method_31_code 1 = .ok (.istore_n 2, 1) := by decide +kernel
theorem d_R_missing_2 : decode prog_5_method_31_code 2 = .ok (.iconst 0, 1) := by decide +kernel
theorem d_R_missing_3 : decode prog_5_method_31_code 3 = .ok (.istore_n 3, 1) := by decide +kernel
theorem d_R_missing_4 : decode prog_5_method_31_code 4 = .ok (.iload_n 3, 1) := by decide +kernel
theorem d_R_missing_5 : decode prog_5_method_31_code 5 = .ok (.aload_n 0, 1) := by decide +kernel
theorem d_R_missing_6 : decode prog_5_method_31_code 6 = .ok (.getfield 131, 3) := by decide +kernel
theorem d_R_missing_9 : decode prog_5_method_31_code 9 = .ok (.if_icmp .ge 32, 3) := by decide +kernel
theorem d_R_missing_12 : decode prog_5_method_31_code 12 = .ok (.aload_n 0, 1) := by decide +kernel
theorem d_R_missing_13 : decode prog_5_method_31_code 13 = .ok (.aload_n 0, 1) := by decide +kernel
theorem d_R_missing_14 : decode prog_5_method_31_code 14 = .ok (.getfield 54, 3) := by decide +kernel
theorem d_R_missing_17 : decode prog_5_method_31_code 17 = .ok (.iload_n 3, 1) := by decide +kernel
theorem d_R_missing_18 : decode prog_5_method_31_code 18 = .ok (.laload, 1) := by decide +kernel
theorem d_R_missing_19 : decode prog_5_method_31_code 19 = .ok (.invokevirtual 78, 3) := by decide +kernel
theorem d_R_missing_22 : decode prog_5_method_31_code 22 = .ok (.ifCond .ne 13, 3) := by decide +kernel
theorem d_R_missing_25 : decode prog_5_method_31_code 25 = .ok (.iload_n 2, 1) := by decide +kernel
theorem d_R_missing_26 : decode prog_5_method_31_code 26 = .ok (.iload_n 1, 1) := by decide +kernel
theorem d_R_missing_27 : decode prog_5_method_31_code 27 = .ok (.if_icmp .ne 5, 3) := by decide +kernel
theorem d_R_missing_30 : decode prog_5_method_31_code 30 = .ok (.iload_n 3, 1) := by decide +kernel
theorem d_R_missing_31 : decode prog_5_method_31_code 31 = .ok (.ireturn, 1) := by decide +kernel
theorem d_R_missing_32 : decode prog_5_method_31_code 32 = .ok (.iinc 2 1, 3) := by decide +kernel
theorem d_R_missing_35 : decode prog_5_method_31_code 35 = .ok (.iinc 3 1, 3) := by decide +kernel
theorem d_R_missing_38 : decode prog_5_method_31_code 38 = .ok (.goto (-34), 3) := by decide +kernel
theorem d_R_missing_41 : decode prog_5_method_31_code 41 = .ok (.iconst (-1), 1) := by decide +kernel
theorem d_R_missing_42 : decode prog_5_method_31_code 42 = .ok (.ireturn, 1) := by decide +kernel
theorem d_R_extra_0 : decode prog_5_method_32_code 0 = .ok (.iconst 0, 1) := by decide +kernel
theorem d_R_extra_1 : decode prog_5_method_32_code 1 = .ok (.istore_n 2, 1) := by decide +kernel
theorem d_R_extra_2 : decode prog_5_method_32_code 2 = .ok (.iconst 0, 1) := by decide +kernel
theorem d_R_extra_3 : decode prog_5_method_32_code 3 = .ok (.istore_n 3, 1) := by decide +kernel
theorem d_R_extra_4 : decode prog_5_method_32_code 4 = .ok (.iload_n 3, 1) := by decide +kernel
theorem d_R_extra_5 : decode prog_5_method_32_code 5 = .ok (.aload_n 0, 1) := by decide +kernel
theorem d_R_extra_6 : decode prog_5_method_32_code 6 = .ok (.getfield 60, 3) := by decide +kernel
theorem d_R_extra_9 : decode prog_5_method_32_code 9 = .ok (.if_icmp .ge 32, 3) := by decide +kernel
theorem d_R_extra_12 : decode prog_5_method_32_code 12 = .ok (.aload_n 0, 1) := by decide +kernel
theorem d_R_extra_13 : decode prog_5_method_32_code 13 = .ok (.aload_n 0, 1) := by decide +kernel
theorem d_R_extra_14 : decode prog_5_method_32_code 14 = .ok (.getfield 13, 3) := by decide +kernel
theorem d_R_extra_17 : decode prog_5_method_32_code 17 = .ok (.iload_n 3, 1) := by decide +kernel
theorem d_R_extra_18 : decode prog_5_method_32_code 18 = .ok (.laload, 1) := by decide +kernel
theorem d_R_extra_19 : decode prog_5_method_32_code 19 = .ok (.invokevirtual 134, 3) := by decide +kernel
theorem d_R_extra_22 : decode prog_5_method_32_code 22 = .ok (.ifCond .ne 13, 3) := by decide +kernel
theorem d_R_extra_25 : decode prog_5_method_32_code 25 = .ok (.iload_n 2, 1) := by decide +kernel
theorem d_R_extra_26 : decode prog_5_method_32_code 26 = .ok (.iload_n 1, 1) := by decide +kernel
theorem d_R_extra_27 : decode prog_5_method_32_code 27 = .ok (.if_icmp .ne 5, 3) := by decide +kernel
theorem d_R_extra_30 : decode prog_5_method_32_code 30 = .ok (.iload_n 3, 1) := by decide +kernel
theorem d_R_extra_31 : decode prog_5_method_32_code 31 = .ok (.ireturn, 1) := by decide +kernel
theorem d_R_extra_32 : decode prog_5_method_32_code 32 = .ok (.iinc 2 1, 3) := by decide +kernel
theorem d_R_extra_35 : decode prog_5_method_32_code 35 = .ok (.iinc 3 1, 3) := by decide +kernel
theorem d_R_extra_38 : decode prog_5_method_32_code 38 = .ok (.goto (-34), 3) := by decide +kernel
theorem d_R_extra_41 : decode prog_5_method_32_code 41 = .ok (.iconst (-1), 1) := by decide +kernel
theorem d_R_extra_42 : decode prog_5_method_32_code 42 = .ok (.ireturn, 1) := by decide +kernel
theorem d_R_lost_0 : decode prog_5_method_33_code 0 = .ok (.aload_n 0, 1) := by decide +kernel
theorem d_R_lost_1 : decode prog_5_method_33_code 1 = .ok (.iload_n 1, 1) := by decide +kernel
theorem d_R_lost_2 : decode prog_5_method_33_code 2 = .ok (.invokevirtual 64, 3) := by decide +kernel
theorem d_R_lost_5 : decode prog_5_method_33_code 5 = .ok (.ifCond .eq 11, 3) := by decide +kernel
theorem d_R_lost_8 : decode prog_5_method_33_code 8 = .ok (.aload_n 0, 1) := by decide +kernel
theorem d_R_lost_9 : decode prog_5_method_33_code 9 = .ok (.iload_n 1, 1) := by decide +kernel
theorem d_R_lost_10 : decode prog_5_method_33_code 10 = .ok (.invokevirtual 96, 3) := by decide +kernel
theorem d_R_lost_13 : decode prog_5_method_33_code 13 = .ok (.ifCond .eq 5, 3) := by decide +kernel
theorem d_R_lost_16 : decode prog_5_method_33_code 16 = .ok (.iconst (-1), 1) := by decide +kernel
theorem d_R_lost_17 : decode prog_5_method_33_code 17 = .ok (.ireturn, 1) := by decide +kernel
theorem d_R_lost_18 : decode prog_5_method_33_code 18 = .ok (.aload_n 0, 1) := by decide +kernel
theorem d_R_lost_19 : decode prog_5_method_33_code 19 = .ok (.getfield 20, 3) := by decide +kernel
theorem d_R_lost_22 : decode prog_5_method_33_code 22 = .ok (.iload_n 1, 1) := by decide +kernel
theorem d_R_lost_23 : decode prog_5_method_33_code 23 = .ok (.bipush 6, 2) := by decide +kernel
theorem d_R_lost_25 : decode prog_5_method_33_code 25 = .ok (.iastore, 1) := by decide +kernel
theorem d_R_lost_26 : decode prog_5_method_33_code 26 = .ok (.aload_n 0, 1) := by decide +kernel
theorem d_R_lost_27 : decode prog_5_method_33_code 27 = .ok (.getfield 57, 3) := by decide +kernel
theorem d_R_lost_30 : decode prog_5_method_33_code 30 = .ok (.aload_n 0, 1) := by decide +kernel
theorem d_R_lost_31 : decode prog_5_method_33_code 31 = .ok (.getfield 137, 3) := by decide +kernel
theorem d_R_lost_34 : decode prog_5_method_33_code 34 = .ok (.iload_n 1, 1) := by decide +kernel
theorem d_R_lost_35 : decode prog_5_method_33_code 35 = .ok (.iastore, 1) := by decide +kernel
theorem d_R_lost_36 : decode prog_5_method_33_code 36 = .ok (.aload_n 0, 1) := by decide +kernel
theorem d_R_lost_37 : decode prog_5_method_33_code 37 = .ok (.dup, 1) := by decide +kernel
theorem d_R_lost_38 : decode prog_5_method_33_code 38 = .ok (.getfield 137, 3) := by decide +kernel
theorem d_R_lost_41 : decode prog_5_method_33_code 41 = .ok (.iconst 1, 1) := by decide +kernel
theorem d_R_lost_42 : decode prog_5_method_33_code 42 = .ok (.iadd, 1) := by decide +kernel
theorem d_R_lost_43 : decode prog_5_method_33_code 43 = .ok (.putfield 137, 3) := by decide +kernel
theorem d_R_lost_46 : decode prog_5_method_33_code 46 = .ok (.aload_n 0, 1) := by decide +kernel
theorem d_R_lost_47 : decode prog_5_method_33_code 47 = .ok (.getfield 137, 3) := by decide +kernel
theorem d_R_lost_50 : decode prog_5_method_33_code 50 = .ok (.ireturn, 1) := by decide +kernel
theorem d_R_told_0 : decode prog_5_method_34_code 0 = .ok (.iload_n 1, 1) := by decide +kernel
theorem d_R_told_1 : decode prog_5_method_34_code 1 = .ok (.ifCond .lt 20, 3) := by decide +kernel
theorem d_R_told_4 : decode prog_5_method_34_code 4 = .ok (.iload_n 1, 1) := by decide +kernel
theorem d_R_told_5 : decode prog_5_method_34_code 5 = .ok (.aload_n 0, 1) := by decide +kernel
theorem d_R_told_6 : decode prog_5_method_34_code 6 = .ok (.getfield 137, 3) := by decide +kernel
theorem d_R_told_9 : decode prog_5_method_34_code 9 = .ok (.if_icmp .ge 12, 3) := by decide +kernel
theorem d_R_told_12 : decode prog_5_method_34_code 12 = .ok (.aload_n 0, 1) := by decide +kernel
theorem d_R_told_13 : decode prog_5_method_34_code 13 = .ok (.getfield 57, 3) := by decide +kernel
theorem d_R_told_16 : decode prog_5_method_34_code 16 = .ok (.iload_n 1, 1) := by decide +kernel
theorem d_R_told_17 : decode prog_5_method_34_code 17 = .ok (.iaload, 1) := by decide +kernel
theorem d_R_told_18 : decode prog_5_method_34_code 18 = .ok (.goto 4, 3) := by decide +kernel
theorem d_R_told_21 : decode prog_5_method_34_code 21 = .ok (.iconst (-1), 1) := by decide +kernel
theorem d_R_told_22 : decode prog_5_method_34_code 22 = .ok (.ireturn, 1) := by decide +kernel
theorem d_R_states_0 : decode prog_5_method_35_code 0 = .ok (.iconst 0, 1) := by decide +kernel
theorem d_R_states_1 : decode prog_5_method_35_code 1 = .ok (.istore_n 1, 1) := by decide +kernel
theorem d_R_states_2 : decode prog_5_method_35_code 2 = .ok (.iconst 0, 1) := by decide +kernel
theorem d_R_states_3 : decode prog_5_method_35_code 3 = .ok (.istore_n 2, 1) := by decide +kernel
theorem d_R_states_4 : decode prog_5_method_35_code 4 = .ok (.iload_n 2, 1) := by decide +kernel
theorem d_R_states_5 : decode prog_5_method_35_code 5 = .ok (.bipush 6, 2) := by decide +kernel
theorem d_R_states_7 : decode prog_5_method_35_code 7 = .ok (.if_icmp .gt 62, 3) := by decide +kernel
theorem d_R_states_10 : decode prog_5_method_35_code 10 = .ok (.iconst 0, 1) := by decide +kernel
theorem d_R_states_11 : decode prog_5_method_35_code 11 = .ok (.istore_n 3, 1) := by decide +kernel
theorem d_R_states_12 : decode prog_5_method_35_code 12 = .ok (.iconst 0, 1) := by decide +kernel
theorem d_R_states_13 : decode prog_5_method_35_code 13 = .ok (.istore 4, 2) := by decide +kernel
theorem d_R_states_15 : decode prog_5_method_35_code 15 = .ok (.iload 4, 2) := by decide +kernel
theorem d_R_states_17 : decode prog_5_method_35_code 17 = .ok (.aload_n 0, 1) := by decide +kernel
theorem d_R_states_18 : decode prog_5_method_35_code 18 = .ok (.getfield 60, 3) := by decide +kernel
theorem d_R_states_21 : decode prog_5_method_35_code 21 = .ok (.if_icmp .ge 30, 3) := by decide +kernel
theorem d_R_states_24 : decode prog_5_method_35_code 24 = .ok (.iload_n 3, 1) := by decide +kernel
theorem d_R_states_25 : decode prog_5_method_35_code 25 = .ok (.ifCond .ne 14, 3) := by decide +kernel
theorem d_R_states_28 : decode prog_5_method_35_code 28 = .ok (.aload_n 0, 1) := by decide +kernel
theorem d_R_states_29 : decode prog_5_method_35_code 29 = .ok (.getfield 20, 3) := by decide +kernel
theorem d_R_states_32 : decode prog_5_method_35_code 32 = .ok (.iload 4, 2) := by decide +kernel
theorem d_R_states_34 : decode prog_5_method_35_code 34 = .ok (.iaload, 1) := by decide +kernel
theorem d_R_states_35 : decode prog_5_method_35_code 35 = .ok (.iload_n 2, 1) := by decide +kernel
theorem d_R_states_36 : decode prog_5_method_35_code 36 = .ok (.if_icmp .ne 7, 3) := by decide +kernel
theorem d_R_states_39 : decode prog_5_method_35_code 39 = .ok (.iconst 1, 1) := by decide +kernel
theorem d_R_states_40 : decode prog_5_method_35_code 40 = .ok (.goto 4, 3) := by decide +kernel
theorem d_R_states_43 : decode prog_5_method_35_code 43 = .ok (.iconst 0, 1) := by decide +kernel
theorem d_R_states_44 : decode prog_5_method_35_code 44 = .ok (.istore_n 3, 1) := by decide +kernel
theorem d_R_states_45 : decode prog_5_method_35_code 45 = .ok (.iinc 4 1, 3) := by decide +kernel
theorem d_R_states_48 : decode prog_5_method_35_code 48 = .ok (.goto (-33), 3) := by decide +kernel
theorem d_R_states_51 : decode prog_5_method_35_code 51 = .ok (.iload_n 1, 1) := by decide +kernel
theorem d_R_states_52 : decode prog_5_method_35_code 52 = .ok (.iload_n 3, 1) := by decide +kernel
theorem d_R_states_53 : decode prog_5_method_35_code 53 = .ok (.ifCond .eq 7, 3) := by decide +kernel
theorem d_R_states_56 : decode prog_5_method_35_code 56 = .ok (.iconst 1, 1) := by decide +kernel
theorem d_R_states_57 : decode prog_5_method_35_code 57 = .ok (.goto 4, 3) := by decide +kernel
theorem d_R_states_60 : decode prog_5_method_35_code 60 = .ok (.iconst 0, 1) := by decide +kernel
theorem d_R_states_61 : decode prog_5_method_35_code 61 = .ok (.iadd, 1) := by decide +kernel
theorem d_R_states_62 : decode prog_5_method_35_code 62 = .ok (.istore_n 1, 1) := by decide +kernel
theorem d_R_states_63 : decode prog_5_method_35_code 63 = .ok (.iinc 2 1, 3) := by decide +kernel
theorem d_R_states_66 : decode prog_5_method_35_code 66 = .ok (.goto (-62), 3) := by decide +kernel
theorem d_R_states_69 : decode prog_5_method_35_code 69 = .ok (.iload_n 1, 1) := by decide +kernel
theorem d_R_states_70 : decode prog_5_method_35_code 70 = .ok (.ireturn, 1) := by decide +kernel
end
section
/-! arrays by their contents within their length; a store names a new heap that is the old one elsewhere -/
def arI (ce : aw_He) (k : aw_Lb) (t n : Nat) (g : Nat → Int32) : Prop := ∃ f, ce k = some (.inl (t, n, .inl f)) ∧ ∀ j, j < n → f j = g j
def arJ (ce : aw_He) (k : aw_Lb) (n : Nat) (g : Nat → Int64) : Prop := ∃ f, ce k = some (.inl (2, n, .inr (.inl f))) ∧ ∀ j, j < n → f j = g j
def arQ (ce : aw_He) (k : aw_Lb) (t n : Nat) (g : Nat → Option Nat) : Prop := ∃ f, ce k = some (.inl (t, n, .inr (.inr (.inr (.inr f))))) ∧ ∀ j, j < n → f j = g j
theorem arI.tr {ce ce' : aw_He} {k : aw_Lb} {t n : Nat} {g : Nat → Int32} (h : arI ce k t n g) (e : ce' k = ce k) : arI ce' k t n g := by
  obtain ⟨f, h1, h2⟩ := h; exact ⟨f, e.trans h1, h2⟩
theorem arJ.tr {ce ce' : aw_He} {k : aw_Lb} {n : Nat} {g : Nat → Int64} (h : arJ ce k n g) (e : ce' k = ce k) : arJ ce' k n g := by
  obtain ⟨f, h1, h2⟩ := h; exact ⟨f, e.trans h1, h2⟩
theorem arQ.tr {ce ce' : aw_He} {k : aw_Lb} {t n : Nat} {g : Nat → Option Nat} (h : arQ ce k t n g) (e : ce' k = ce k) : arQ ce' k t n g := by
  obtain ⟨f, h1, h2⟩ := h; exact ⟨f, e.trans h1, h2⟩
theorem arI.to {ce : aw_He} {k : aw_Lb} {t n : Nat} {g g' : Nat → Int32} (h : arI ce k t n g) (e : ∀ j, j < n → g j = g' j) : arI ce k t n g' := by
  obtain ⟨f, h1, h2⟩ := h; exact ⟨f, h1, fun j hj => (h2 j hj).trans (e j hj)⟩
theorem arJ.to {ce : aw_He} {k : aw_Lb} {n : Nat} {g g' : Nat → Int64} (h : arJ ce k n g) (e : ∀ j, j < n → g j = g' j) : arJ ce k n g' := by
  obtain ⟨f, h1, h2⟩ := h; exact ⟨f, h1, fun j hj => (h2 j hj).trans (e j hj)⟩
theorem arQ.to {ce : aw_He} {k : aw_Lb} {t n : Nat} {g g' : Nat → Option Nat} (h : arQ ce k t n g) (e : ∀ j, j < n → g j = g' j) : arQ ce k t n g' := by
  obtain ⟨f, h1, h2⟩ := h; exact ⟨f, h1, fun j hj => (h2 j hj).trans (e j hj)⟩
section AWar
variable {X : aw_X} {cc : ByteArray} {nL : Nat} {own : String} {cells slots : Nat} {ad : aw_Ad} {ce : aw_He} {pc : Nat} {lv : List (Nat × Value)} {st : List Value} {k : aw_Lb} {t n j : Nat} {i : Int32}
theorem ar_len (C : aw_ok X cc nL own) {g : Nat → Int32} (h : arI ce k t n g) {tt : FieldType} (ht : aw_ty[t]? = some tt) (hd : decode cc pc = .ok (.arraylength, 1)) (kk : AW X nL cells slots ad ce (pc + 1) lv (.int (nI n) :: st)) : AW X nL cells slots ad ce pc lv (.ref (ad k) :: st) := by
  obtain ⟨f, h1, -⟩ := h; exact aw_alen C h1 ht hd kk
theorem ar_lenJ (C : aw_ok X cc nL own) {g : Nat → Int64} (h : arJ ce k n g) (hd : decode cc pc = .ok (.arraylength, 1)) (kk : AW X nL cells slots ad ce (pc + 1) lv (.int (nI n) :: st)) : AW X nL cells slots ad ce pc lv (.ref (ad k) :: st) := by
  obtain ⟨f, h1, -⟩ := h; exact aw_alen C h1 (tt := .long) rfl hd kk
theorem ar_lenQ (C : aw_ok X cc nL own) {g : Nat → Option Nat} (h : arQ ce k t n g) {tt : FieldType} (ht : aw_ty[t]? = some tt) (hd : decode cc pc = .ok (.arraylength, 1)) (kk : AW X nL cells slots ad ce (pc + 1) lv (.int (nI n) :: st)) : AW X nL cells slots ad ce pc lv (.ref (ad k) :: st) := by
  obtain ⟨f, h1, -⟩ := h; exact aw_alen C h1 ht hd kk
theorem ar_iald (C : aw_ok X cc nL own) {g : Nat → Int32} (h : arI ce k 0 n g) (hi : i = nI j) (hj : j < n) (hn : n < 2 ^ 31) (hd : decode cc pc = .ok (.iaload, 1)) (kk : AW X nL cells slots ad ce (pc + 1) lv (.int (g j) :: st)) : AW X nL cells slots ad ce pc lv (.int i :: .ref (ad k) :: st) := by
  obtain ⟨f, h1, h2⟩ := h; exact aw_iald C h1 rfl hi hj hn hd (by rw [h2 j hj]; exact kk)
theorem ar_zald (C : aw_ok X cc nL own) {g : Nat → Int32} (h : arI ce k 1 n g) (hi : i = nI j) (hj : j < n) (hn : n < 2 ^ 31) (hd : decode cc pc = .ok (.baload, 1)) (kk : AW X nL cells slots ad ce (pc + 1) lv (.int (g j) :: st)) : AW X nL cells slots ad ce pc lv (.int i :: .ref (ad k) :: st) := by
  obtain ⟨f, h1, h2⟩ := h; exact aw_zald C h1 rfl hi hj hn hd (by rw [h2 j hj]; exact kk)
theorem ar_lald (C : aw_ok X cc nL own) {g : Nat → Int64} (h : arJ ce k n g) (hi : i = nI j) (hj : j < n) (hn : n < 2 ^ 31) (hd : decode cc pc = .ok (.laload, 1)) (kk : AW X nL cells slots ad ce (pc + 1) lv (.long (g j) :: st)) : AW X nL cells slots ad ce pc lv (.int i :: .ref (ad k) :: st) := by
  obtain ⟨f, h1, h2⟩ := h; exact aw_lald C h1 rfl hi hj hn hd (by rw [h2 j hj]; exact kk)
theorem ar_aald (C : aw_ok X cc nL own) {Cr : String} {g : Nat → Option Nat} (h : arQ ce k t n g) (ht : aw_ty[t]? = some (.object Cr)) (hi : i = nI j) (hj : j < n) (hn : n < 2 ^ 31) (hd : decode cc pc = .ok (.aaload, 1)) (kk : AW X nL cells slots ad ce (pc + 1) lv (va_rf (g j) :: st)) : AW X nL cells slots ad ce pc lv (.int i :: .ref (ad k) :: st) := by
  obtain ⟨f, h1, h2⟩ := h; exact aw_aald C h1 ht hi hj hn hd (by rw [h2 j hj]; exact kk)
theorem ar_upd {f g : Nat → Int32} {j : Nat} {x : Int32} (h : ∀ q, q < n → f q = g q) : ∀ q, q < n → upd f j x q = upd g j x q := by
  intro q hq; by_cases e : q = j
  · subst e; simp [upd]
  · simp [upd, e, h q hq]
theorem ar_iast (C : aw_ok X cc nL own) {g : Nat → Int32} {x : Int32} (h : arI ce k 0 n g) (hi : i = nI j) (hj : j < n) (hn : n < 2 ^ 31) (hd : decode cc pc = .ok (.iastore, 1)) (kk : ∀ ce', (∀ q, q ≠ k → ce' q = ce q) → arI ce' k 0 n (upd g j x) → AW X nL cells slots ad ce' (pc + 1) lv st) : AW X nL cells slots ad ce pc lv (.int x :: .int i :: .ref (ad k) :: st) := by
  obtain ⟨f, h1, h2⟩ := h
  exact aw_iast C h1 rfl hi hj hn hd (kk _ (fun q hq => aw_up_ne _ _ hq) ⟨_, aw_up_self _ _ _, ar_upd h2⟩)
theorem ar_zast (C : aw_ok X cc nL own) {g : Nat → Int32} {x v : Int32} (h : arI ce k 1 n g) (hi : i = nI j) (hj : j < n) (hn : n < 2 ^ 31) (hv : vp_nar .boolean x = v) (hd : decode cc pc = .ok (.bastore, 1)) (kk : ∀ ce', (∀ q, q ≠ k → ce' q = ce q) → arI ce' k 1 n (upd g j v) → AW X nL cells slots ad ce' (pc + 1) lv st) : AW X nL cells slots ad ce pc lv (.int x :: .int i :: .ref (ad k) :: st) := by
  obtain ⟨f, h1, h2⟩ := h
  exact aw_zast C h1 rfl hi hj hn hv hd (kk _ (fun q hq => aw_up_ne _ _ hq) ⟨_, aw_up_self _ _ _, ar_upd h2⟩)
theorem ar_last (C : aw_ok X cc nL own) {g : Nat → Int64} {x : Int64} (h : arJ ce k n g) (hi : i = nI j) (hj : j < n) (hn : n < 2 ^ 31) (hd : decode cc pc = .ok (.lastore, 1)) (kk : ∀ ce', (∀ q, q ≠ k → ce' q = ce q) → arJ ce' k n (vp_updL g j x) → AW X nL cells slots ad ce' (pc + 1) lv st) : AW X nL cells slots ad ce pc lv (.long x :: .int i :: .ref (ad k) :: st) := by
  obtain ⟨f, h1, h2⟩ := h
  refine aw_last C h1 rfl hi hj hn hd (kk _ (fun q hq => aw_up_ne _ _ hq) ⟨_, aw_up_self _ _ _, ?_⟩)
  intro q hq; by_cases e : q = j
  · subst e; simp [vp_updL]
  · simp [vp_updL, e, h2 q hq]
theorem ar_aast (C : aw_ok X cc nL own) {r : vw_C} {kv : aw_Lb} {cv : Nat} {vs : List Value} {g : Nat → Option Nat} (h : arQ ce k t n g) (ht : aw_ty[t]? = some (.object r.1)) (hkv : ce kv = some (.inr (cv, vs))) (hc : aw_cl[cv]? = some r) (hi : i = nI j) (hj : j < n) (hn : n < 2 ^ 31) (hd : decode cc pc = .ok (.aastore, 1)) (kk : ∀ ce', (∀ q, q ≠ k → ce' q = ce q) → arQ ce' k t n (va_up g j (some (ad kv))) → AW X nL cells slots ad ce' (pc + 1) lv st) : AW X nL cells slots ad ce pc lv (.ref (ad kv) :: .int i :: .ref (ad k) :: st) := by
  obtain ⟨f, h1, h2⟩ := h
  refine aw_aast C h1 ht hkv hc hi hj hn hd (kk _ (fun q hq => aw_up_ne _ _ hq) ⟨_, aw_up_self _ _ _, ?_⟩)
  intro q hq; by_cases e : q = j
  · subst e; simp [va_up]
  · simp [va_up, e, h2 q hq]
variable {idx ci N : Nat} {Cn : String} {T : u_T} {ty : Nat → FieldType} {fs : List Value}
theorem ob_put (C : aw_ok X cc nL own) (F : aw_cls ci Cn T N ty) (hk : ce k = some (.inr (ci, fs))) (i : Nat) (hi : i < N) (hlink : Cond.fieldLink own idx (T i).1 (T i).2.1 (T i).2.2.1 ∈ aw_tb) (hfin : (T i).2.2.2 = false) {v : Value} (hn : narrow (ty i) v = v) (hfit : fits (ty i) v = true) (hlt : i < fs.length) {fs' : List Value} (hfs : fs.set i v = fs') (hd : decode cc pc = .ok (.putfield idx, 3)) (kk : ∀ ce', (∀ q, q ≠ k → ce' q = ce q) → ce' k = some (.inr (ci, fs')) → AW X nL cells slots ad ce' (pc + 3) lv st) : AW X nL cells slots ad ce pc lv (v :: .ref (ad k) :: st) :=
  aw_put C F hk i hi hlink hfin hn hfit hlt hd (kk _ (fun q hq => aw_up_ne _ _ hq) (by rw [aw_up_self, hfs]))
theorem ob_putF (C : aw_ok X cc nL own) {nm : String} {ret : Option FieldType} {mc ms : Nat} {P : Option Value → aw_Ad → aw_He → Prop} (E : aw_me X nm ret mc ms P) (hnm : nm = "<init>") (F : aw_cls ci Cn T N ty) (hk : ce k = some (.inr (ci, fs))) (i : Nat) (hi : i < N) (hlink : Cond.fieldLink own idx (T i).1 (T i).2.1 (T i).2.2.1 ∈ aw_tb) (hfin : (T i).2.2.2 = true) (hdecl : (T i).1 = own) {v : Value} (hn : narrow (ty i) v = v) (hfit : fits (ty i) v = true) (hlt : i < fs.length) {fs' : List Value} (hfs : fs.set i v = fs') (hd : decode cc pc = .ok (.putfield idx, 3)) (kk : ∀ ce', (∀ q, q ≠ k → ce' q = ce q) → ce' k = some (.inr (ci, fs')) → AW X nL cells slots ad ce' (pc + 3) lv st) : AW X nL cells slots ad ce pc lv (v :: .ref (ad k) :: st) :=
  aw_putF C E hnm F hk i hi hlink hfin hdecl hn hfit hlt hd (kk _ (fun q hq => aw_up_ne _ _ hq) (by rw [aw_up_self, hfs]))
variable {l0 : Launch} {G0 : aw_G} {R0 : Room}
theorem ob_new (C : aw_ok X cc nL own) (I : aw_in X l0 G0 R0) (F : aw_cls ci Cn T N ty) (k : aw_Lb) (hk : ce k = none) (h1 : Cond.classLink own idx Cn ∈ aw_tb) (h2 : Cond.instantiable Cn N ∈ aw_tb) (h3 : Cond.initialized Cn ∈ aw_tb) (fs : List Value) (hfs : ∀ j, j < N → defaultValue (ty j) = vp_V fs j) (hf : cells + 1 ≤ R0.cells ∧ slots + N ≤ R0.slots) (hd : decode cc pc = .ok (.new idx, 3))
    (kk : ∀ (ad' : aw_Ad) (ce' : aw_He), (∀ j, j ≠ k → ad' j = ad j) → (∀ q, q ≠ k → ce' q = ce q) → ce' k = some (.inr (ci, fs)) → AW X nL (cells + 1) (slots + N) ad' ce' (pc + 3) lv (.ref (ad' k) :: st)) : AW X nL cells slots ad ce pc lv st :=
  aw_new C I F k hk h1 h2 h3 hfs hf hd (fun ad' ha => kk ad' _ ha (fun q hq => aw_up_ne _ _ hq) (aw_up_self _ _ _))
theorem ar_newI (C : aw_ok X cc nL own) (I : aw_in X l0 G0 R0) (k : aw_Lb) (hk : ce k = none) (h1 : Cond.arrayClass .int ∈ aw_tb) {x : Int32} {N' : Nat} (hn : x = nI N') (hN : N' ≤ 65536) (hf : cells + 1 ≤ R0.cells ∧ slots + N' ≤ R0.slots) (hd : decode cc pc = .ok (.newarray .int, 2))
    (kk : ∀ (ad' : aw_Ad) (ce' : aw_He), (∀ j, j ≠ k → ad' j = ad j) → (∀ q, q ≠ k → ce' q = ce q) → arI ce' k 0 N' (fun _ => 0) → AW X nL (cells + 1) (slots + N') ad' ce' (pc + 2) lv (.ref (ad' k) :: st)) : AW X nL cells slots ad ce pc lv (.int x :: st) :=
  aw_newa C I (atype := .int) 0 rfl k hk h1 (a0 := (N', .inl (fun _ => 0))) (fun _ => rfl) hn hN hf hd (fun ad' ha => kk ad' _ ha (fun q hq => aw_up_ne _ _ hq) ⟨_, aw_up_self _ _ _, fun _ _ => rfl⟩)
theorem ar_newZ (C : aw_ok X cc nL own) (I : aw_in X l0 G0 R0) (k : aw_Lb) (hk : ce k = none) (h1 : Cond.arrayClass .boolean ∈ aw_tb) {x : Int32} {N' : Nat} (hn : x = nI N') (hN : N' ≤ 65536) (hf : cells + 1 ≤ R0.cells ∧ slots + N' ≤ R0.slots) (hd : decode cc pc = .ok (.newarray .boolean, 2))
    (kk : ∀ (ad' : aw_Ad) (ce' : aw_He), (∀ j, j ≠ k → ad' j = ad j) → (∀ q, q ≠ k → ce' q = ce q) → arI ce' k 1 N' (fun _ => 0) → AW X nL (cells + 1) (slots + N') ad' ce' (pc + 2) lv (.ref (ad' k) :: st)) : AW X nL cells slots ad ce pc lv (.int x :: st) :=
  aw_newa C I (atype := .boolean) 1 rfl k hk h1 (a0 := (N', .inl (fun _ => 0))) (fun _ => rfl) hn hN hf hd (fun ad' ha => kk ad' _ ha (fun q hq => aw_up_ne _ _ hq) ⟨_, aw_up_self _ _ _, fun _ _ => rfl⟩)
theorem ar_newJ (C : aw_ok X cc nL own) (I : aw_in X l0 G0 R0) (k : aw_Lb) (hk : ce k = none) (h1 : Cond.arrayClass .long ∈ aw_tb) {x : Int32} {N' : Nat} (hn : x = nI N') (hN : N' ≤ 65536) (hf : cells + 1 ≤ R0.cells ∧ slots + N' ≤ R0.slots) (hd : decode cc pc = .ok (.newarray .long, 2))
    (kk : ∀ (ad' : aw_Ad) (ce' : aw_He), (∀ j, j ≠ k → ad' j = ad j) → (∀ q, q ≠ k → ce' q = ce q) → arJ ce' k N' (fun _ => 0) → AW X nL (cells + 1) (slots + N') ad' ce' (pc + 2) lv (.ref (ad' k) :: st)) : AW X nL cells slots ad ce pc lv (.int x :: st) :=
  aw_newa C I (atype := .long) 2 rfl k hk h1 (a0 := (N', .inr (.inl (fun _ => 0)))) (fun _ => rfl) hn hN hf hd (fun ad' ha => kk ad' _ ha (fun q hq => aw_up_ne _ _ hq) ⟨_, aw_up_self _ _ _, fun _ _ => rfl⟩)
theorem ar_newQ (C : aw_ok X cc nL own) (I : aw_in X l0 G0 R0) {Cr : String} (t : Nat) (ht : aw_ty[t]? = some (.object Cr)) (k : aw_Lb) (hk : ce k = none) (h1 : Cond.classLink own idx Cr ∈ aw_tb) (h2 : Cr ∈ aw_ao) {x : Int32} {N' : Nat} (hn : x = nI N') (hN : N' ≤ 65536) (hf : cells + 1 ≤ R0.cells ∧ slots + N' ≤ R0.slots) (hd : decode cc pc = .ok (.anewarray idx, 3))
    (kk : ∀ (ad' : aw_Ad) (ce' : aw_He), (∀ j, j ≠ k → ad' j = ad j) → (∀ q, q ≠ k → ce' q = ce q) → arQ ce' k t N' (fun _ => none) → AW X nL (cells + 1) (slots + N') ad' ce' (pc + 3) lv (.ref (ad' k) :: st)) : AW X nL cells slots ad ce pc lv (.int x :: st) :=
  aw_newq C I t ht k hk h1 h2 hn hN hf hd (fun ad' ha => kk ad' _ ha (fun q hq => aw_up_ne _ _ hq) ⟨_, aw_up_self _ _ _, fun _ _ => rfl⟩)
end AWar
theorem F_C : aw_cls 0 "WipePapers" T_C 8 t_C := ⟨rfl, lys_C, by decide +kernel, by decide +kernel⟩
theorem F_K : aw_cls 1 "WipePapers$Carrier" T_K 12 t_K := ⟨rfl, lys_K, by decide +kernel, by decide +kernel⟩
theorem F_P : aw_cls 2 "WipePapers$Paper" T_P 1 t_P := ⟨rfl, lys_P, by decide +kernel, by decide +kernel⟩
theorem F_R : aw_cls 3 "WipePapersModel" T_R 20 t_R := ⟨rfl, lys_R, by decide +kernel, by decide +kernel⟩
end
section
theorem g_L_9 : aw_gI "WipePapersLaw" 9 M_C_init 0 := ⟨⟨tw_9, tw_10, tw_1, rfl, rfl⟩, tw_11, ⟨by decide, by decide, by decide +kernel⟩⟩
theorem g_L_15 : aw_gV "WipePapersLaw" 15 M_C_carrier 3 := ⟨⟨tw_46, tw_47, tw_48, tw_1⟩, tw_49, ⟨by decide, by decide, by decide +kernel⟩⟩
theorem g_C_42 : aw_gS "WipePapers" 42 M_C_within 3 := ⟨⟨tw_50, tw_51, tw_1⟩, tw_52, ⟨by decide, by decide, by decide +kernel⟩⟩
theorem g_C_46 : aw_gS "WipePapers" 46 M_C_isSerial 1 := ⟨⟨tw_53, tw_54, tw_1⟩, tw_55, ⟨by decide, by decide, by decide +kernel⟩⟩
theorem g_C_50 : aw_gV "WipePapers" 50 M_C_carrierHasSerial 1 := ⟨⟨tw_57, tw_59, tb_sel 0 rfl, tw_1⟩, tw_60, ⟨by decide, by decide, by decide +kernel⟩⟩
theorem g_C_56 : aw_gV "WipePapers" 56 M_C_findCarrier 1 := ⟨⟨tw_61, tw_63, tb_sel 1 rfl, tw_1⟩, tw_64, ⟨by decide, by decide, by decide +kernel⟩⟩
theorem g_C_53 : aw_gI "WipePapers" 53 M_K_init 3 := ⟨⟨tw_66, tw_67, tw_3, rfl, rfl⟩, tw_68, ⟨by decide, by decide, by decide +kernel⟩⟩
theorem g_L_20 : aw_gV "WipePapersLaw" 20 M_C_state 1 := ⟨⟨tw_118, tw_119, tw_120, tw_1⟩, tw_121, ⟨by decide, by decide, by decide +kernel⟩⟩
theorem g_L_25 : aw_gV "WipePapersLaw" 25 M_C_event 3 := ⟨⟨tw_122, tw_123, tw_124, tw_1⟩, tw_125, ⟨by decide, by decide, by decide +kernel⟩⟩
theorem g_C_63 : aw_gS "WipePapers" 63 M_C_isPerson 1 := ⟨⟨tw_126, tw_127, tw_1⟩, tw_128, ⟨by decide, by decide, by decide +kernel⟩⟩
theorem g_C_67 : aw_gS "WipePapers" 67 M_C_leadsFrom 2 := ⟨⟨tw_129, tw_130, tw_1⟩, tw_131, ⟨by decide, by decide, by decide +kernel⟩⟩
theorem g_C_71 : aw_gV "WipePapers" 71 M_K_forgetPasses 0 := ⟨⟨tw_132, tw_133, tw_134, tw_3⟩, tw_135, ⟨by decide, by decide, by decide +kernel⟩⟩
theorem g_K_55 : aw_gV "WipePapers$Carrier" 55 M_K_forgetReads 0 := ⟨⟨tw_136, tw_137, tw_138, tw_3⟩, tw_139, ⟨by decide, by decide, by decide +kernel⟩⟩
theorem g_C_74 : aw_gS "WipePapers" 74 M_C_leadsTo 1 := ⟨⟨tw_140, tw_141, tw_1⟩, tw_142, ⟨by decide, by decide, by decide +kernel⟩⟩
theorem g_L_30 : aw_gV "WipePapersLaw" 30 M_C_last 1 := ⟨⟨tw_143, tw_144, tw_145, tw_1⟩, tw_146, ⟨by decide, by decide, by decide +kernel⟩⟩
theorem g_L_34 : aw_gV "WipePapersLaw" 34 M_C_fail 2 := ⟨⟨tw_147, tw_148, tw_149, tw_1⟩, tw_150, ⟨by decide, by decide, by decide +kernel⟩⟩
theorem g_C_81 : aw_gV "WipePapers" 81 M_K_isGone 0 := ⟨⟨tw_151, tw_152, tw_153, tw_3⟩, tw_154, ⟨by decide, by decide, by decide +kernel⟩⟩
theorem g_C_85 : aw_gV "WipePapers" 85 M_K_wearOut 1 := ⟨⟨tw_155, tw_156, tw_157, tw_3⟩, tw_158, ⟨by decide, by decide, by decide +kernel⟩⟩
theorem g_K_51 : aw_gV "WipePapers$Carrier" 51 M_K_hasPlace 1 := ⟨⟨tw_159, tw_160, tw_161, tw_3⟩, tw_162, ⟨by decide, by decide, by decide +kernel⟩⟩
theorem g_L_39 : aw_gV "WipePapersLaw" 39 M_C_failed 2 := ⟨⟨tw_163, tw_164, tw_165, tw_1⟩, tw_166, ⟨by decide, by decide, by decide +kernel⟩⟩
theorem g_C_88 : aw_gV "WipePapers" 88 M_K_wornPlace 1 := ⟨⟨tw_167, tw_168, tw_169, tw_3⟩, tw_170, ⟨by decide, by decide, by decide +kernel⟩⟩
theorem g_L_44 : aw_gV "WipePapersLaw" 44 M_C_pass 2 := ⟨⟨tw_171, tw_172, tw_173, tw_1⟩, tw_174, ⟨by decide, by decide, by decide +kernel⟩⟩
theorem g_C_91 : aw_gV "WipePapers" 91 M_K_overwrite 1 := ⟨⟨tw_175, tw_176, tw_177, tw_3⟩, tw_178, ⟨by decide, by decide, by decide +kernel⟩⟩
theorem g_K_58 : aw_gSN "WipePapers$Carrier" 58 "WipePapers" M_C_patternByte 3 := ⟨List.mem_of_getElem? (i := 0) rfl, tw_180, tw_1, tw_181, ⟨by decide, by decide, by decide +kernel⟩⟩
theorem g_L_48 : aw_gV "WipePapersLaw" 48 M_C_byteAt 2 := ⟨⟨tw_182, tw_183, tw_184, tw_1⟩, tw_185, ⟨by decide, by decide, by decide +kernel⟩⟩
theorem g_C_94 : aw_gV "WipePapers" 94 M_K_hasPlace 1 := ⟨⟨tw_186, tw_160, tw_161, tw_3⟩, tw_162, ⟨by decide, by decide, by decide +kernel⟩⟩
theorem g_L_52 : aw_gV "WipePapersLaw" 52 M_C_read 3 := ⟨⟨tw_187, tw_188, tw_189, tw_1⟩, tw_190, ⟨by decide, by decide, by decide +kernel⟩⟩
theorem g_C_100 : aw_gV "WipePapers" 100 M_K_takeReading 2 := ⟨⟨tw_191, tw_192, tw_193, tw_3⟩, tw_194, ⟨by decide, by decide, by decide +kernel⟩⟩
theorem g_L_57 : aw_gV "WipePapersLaw" 57 M_C_unlike 1 := ⟨⟨tw_195, tw_196, tw_197, tw_1⟩, tw_198, ⟨by decide, by decide, by decide +kernel⟩⟩
theorem g_L_61 : aw_gV "WipePapersLaw" 61 M_C_odds 4 := ⟨⟨tw_199, tw_200, tw_201, tw_1⟩, tw_202, ⟨by decide, by decide, by decide +kernel⟩⟩
theorem g_C_109 : aw_gS "WipePapers" 109 M_C_waysToChoose 2 := ⟨⟨tw_204, tw_205, tw_1⟩, tw_206, ⟨by decide, by decide, by decide +kernel⟩⟩
theorem g_C_113 : aw_gS "WipePapers" 113 M_C_commonDivisor 2 := ⟨⟨tw_207, tw_208, tw_1⟩, tw_209, ⟨by decide, by decide, by decide +kernel⟩⟩
theorem g_C_150 : aw_gS "WipePapers" 150 M_A_maxL 2 := ⟨⟨tw_210, tw_211, tw_4⟩, tw_212, ⟨by decide, by decide, by decide +kernel⟩⟩
theorem g_L_66 : aw_gV "WipePapersLaw" 66 M_C_shred 2 := ⟨⟨tw_213, tw_214, tw_215, tw_1⟩, tw_216, ⟨by decide, by decide, by decide +kernel⟩⟩
theorem g_L_70 : aw_gV "WipePapersLaw" 70 M_C_paper 3 := ⟨⟨tw_217, tw_218, tw_219, tw_1⟩, tw_220, ⟨by decide, by decide, by decide +kernel⟩⟩
theorem g_C_120 : aw_gI "WipePapers" 120 M_P_init 4 := ⟨⟨tw_222, tw_223, tw_5, rfl, rfl⟩, tw_224, ⟨by decide, by decide, by decide +kernel⟩⟩
theorem g_P_19 : aw_gS "WipePapers$Paper" 19 M_A_minI 2 := ⟨⟨tw_226, tw_227, tw_4⟩, tw_228, ⟨by decide, by decide, by decide +kernel⟩⟩
theorem g_P_25 : aw_gS "WipePapers$Paper" 25 M_A_maxI 2 := ⟨⟨tw_229, tw_230, tw_4⟩, tw_231, ⟨by decide, by decide, by decide +kernel⟩⟩
theorem g_L_74 : aw_gV "WipePapersLaw" 74 M_C_at 2 := ⟨⟨tw_237, tw_238, tw_239, tw_1⟩, tw_240, ⟨by decide, by decide, by decide +kernel⟩⟩
theorem g_C_123 : aw_gV "WipePapers" 123 M_C_findPaper 1 := ⟨⟨tw_241, tw_243, tb_sel 2 rfl, tw_1⟩, tw_244, ⟨by decide, by decide, by decide +kernel⟩⟩
theorem g_L_78 : aw_gV "WipePapersLaw" 78 M_C_mark 3 := ⟨⟨tw_245, tw_246, tw_247, tw_1⟩, tw_248, ⟨by decide, by decide, by decide +kernel⟩⟩
theorem g_C_130 : aw_gV "WipePapers" 130 M_P_markBy 1 := ⟨⟨tw_249, tw_250, tw_251, tw_5⟩, tw_252, ⟨by decide, by decide, by decide +kernel⟩⟩
theorem g_L_82 : aw_gV "WipePapersLaw" 82 M_C_check 3 := ⟨⟨tw_255, tw_256, tw_257, tw_1⟩, tw_258, ⟨by decide, by decide, by decide +kernel⟩⟩
theorem g_L_87 : aw_gV "WipePapersLaw" 87 M_C_listed 1 := ⟨⟨tw_259, tw_260, tw_261, tw_1⟩, tw_262, ⟨by decide, by decide, by decide +kernel⟩⟩
theorem g_C_136 : aw_gV "WipePapers" 136 M_C_listHasSerial 1 := ⟨⟨tw_263, tw_265, tb_sel 3 rfl, tw_1⟩, tw_266, ⟨by decide, by decide, by decide +kernel⟩⟩
theorem g_L_92 : aw_gV "WipePapersLaw" 92 M_C_missing 1 := ⟨⟨tw_267, tw_268, tw_269, tw_1⟩, tw_270, ⟨by decide, by decide, by decide +kernel⟩⟩
theorem g_L_96 : aw_gV "WipePapersLaw" 96 M_C_extra 1 := ⟨⟨tw_271, tw_272, tw_273, tw_1⟩, tw_274, ⟨by decide, by decide, by decide +kernel⟩⟩
theorem g_L_100 : aw_gV "WipePapersLaw" 100 M_C_lost 1 := ⟨⟨tw_275, tw_276, tw_277, tw_1⟩, tw_278, ⟨by decide, by decide, by decide +kernel⟩⟩
theorem g_L_104 : aw_gV "WipePapersLaw" 104 M_C_told 1 := ⟨⟨tw_279, tw_280, tw_281, tw_1⟩, tw_282, ⟨by decide, by decide, by decide +kernel⟩⟩
theorem g_L_108 : aw_gV "WipePapersLaw" 108 M_C_states 0 := ⟨⟨tw_283, tw_284, tw_285, tw_1⟩, tw_286, ⟨by decide, by decide, by decide +kernel⟩⟩
theorem g_C_143 : aw_gS "WipePapers" 143 M_I_bitCount 1 := ⟨⟨tw_287, tw_288, tw_6⟩, tw_289, ⟨by decide, by decide, by decide +kernel⟩⟩
theorem g_L_12 : aw_gI "WipePapersLaw" 12 M_R_init 0 := ⟨⟨tw_295, tw_296, tw_2, rfl, rfl⟩, tw_297, ⟨by decide, by decide, by decide +kernel⟩⟩
theorem g_L_19 : aw_gV "WipePapersLaw" 19 M_R_carrier 3 := ⟨⟨tw_360, tw_361, tw_362, tw_2⟩, tw_363, ⟨by decide, by decide, by decide +kernel⟩⟩
theorem g_R_70 : aw_gS "WipePapersModel" 70 M_R_isIn 3 := ⟨⟨tw_365, tw_366, tw_2⟩, tw_367, ⟨by decide, by decide, by decide +kernel⟩⟩
theorem g_R_78 : aw_gV "WipePapersModel" 78 M_R_hasSerial 1 := ⟨⟨tw_370, tw_372, tb_sel 4 rfl, tw_2⟩, tw_373, ⟨by decide, by decide, by decide +kernel⟩⟩
theorem g_L_24 : aw_gV "WipePapersLaw" 24 M_R_state 1 := ⟨⟨tw_374, tw_375, tw_376, tw_2⟩, tw_377, ⟨by decide, by decide, by decide +kernel⟩⟩
theorem g_R_64 : aw_gV "WipePapersModel" 64 M_R_isCarrier 1 := ⟨⟨tw_378, tw_380, tb_sel 5 rfl, tw_2⟩, tw_381, ⟨by decide, by decide, by decide +kernel⟩⟩
theorem g_L_29 : aw_gV "WipePapersLaw" 29 M_R_event 3 := ⟨⟨tw_382, tw_383, tw_384, tw_2⟩, tw_385, ⟨by decide, by decide, by decide +kernel⟩⟩
theorem g_R_84 : aw_gS "WipePapersModel" 84 M_R_leads 2 := ⟨⟨tw_387, tw_388, tw_2⟩, tw_389, ⟨by decide, by decide, by decide +kernel⟩⟩
theorem g_R_88 : aw_gV "WipePapersModel" 88 M_R_forget 1 := ⟨⟨tw_390, tw_392, tb_sel 6 rfl, tw_2⟩, tw_393, ⟨by decide, by decide, by decide +kernel⟩⟩
theorem g_L_33 : aw_gV "WipePapersLaw" 33 M_R_last 1 := ⟨⟨tw_394, tw_395, tw_396, tw_2⟩, tw_397, ⟨by decide, by decide, by decide +kernel⟩⟩
theorem g_L_38 : aw_gV "WipePapersLaw" 38 M_R_fail 2 := ⟨⟨tw_398, tw_399, tw_400, tw_2⟩, tw_401, ⟨by decide, by decide, by decide +kernel⟩⟩
theorem g_R_92 : aw_gV "WipePapersModel" 92 M_R_isPlace 2 := ⟨⟨tw_402, tw_404, tb_sel 7 rfl, tw_2⟩, tw_405, ⟨by decide, by decide, by decide +kernel⟩⟩
theorem g_R_96 : aw_gV "WipePapersModel" 96 M_R_isGone 1 := ⟨⟨tw_406, tw_408, tb_sel 8 rfl, tw_2⟩, tw_409, ⟨by decide, by decide, by decide +kernel⟩⟩
theorem g_L_43 : aw_gV "WipePapersLaw" 43 M_R_failed 2 := ⟨⟨tw_410, tw_411, tw_412, tw_2⟩, tw_413, ⟨by decide, by decide, by decide +kernel⟩⟩
theorem g_L_47 : aw_gV "WipePapersLaw" 47 M_R_pass 2 := ⟨⟨tw_414, tw_415, tw_416, tw_2⟩, tw_417, ⟨by decide, by decide, by decide +kernel⟩⟩
theorem g_L_51 : aw_gV "WipePapersLaw" 51 M_R_byteAt 2 := ⟨⟨tw_419, tw_420, tw_421, tw_2⟩, tw_422, ⟨by decide, by decide, by decide +kernel⟩⟩
theorem g_L_56 : aw_gV "WipePapersLaw" 56 M_R_read 3 := ⟨⟨tw_423, tw_424, tw_425, tw_2⟩, tw_426, ⟨by decide, by decide, by decide +kernel⟩⟩
theorem g_L_60 : aw_gV "WipePapersLaw" 60 M_R_unlike 1 := ⟨⟨tw_428, tw_429, tw_430, tw_2⟩, tw_431, ⟨by decide, by decide, by decide +kernel⟩⟩
theorem g_L_65 : aw_gV "WipePapersLaw" 65 M_R_odds 4 := ⟨⟨tw_432, tw_433, tw_434, tw_2⟩, tw_435, ⟨by decide, by decide, by decide +kernel⟩⟩
theorem g_R_107 : aw_gS "WipePapersModel" 107 M_R_common 2 := ⟨⟨tw_438, tw_439, tw_2⟩, tw_440, ⟨by decide, by decide, by decide +kernel⟩⟩
theorem g_L_69 : aw_gV "WipePapersLaw" 69 M_R_shred 2 := ⟨⟨tw_441, tw_442, tw_443, tw_2⟩, tw_444, ⟨by decide, by decide, by decide +kernel⟩⟩
theorem g_L_73 : aw_gV "WipePapersLaw" 73 M_R_paper 3 := ⟨⟨tw_446, tw_447, tw_448, tw_2⟩, tw_449, ⟨by decide, by decide, by decide +kernel⟩⟩
theorem g_L_77 : aw_gV "WipePapersLaw" 77 M_R_at 2 := ⟨⟨tw_450, tw_451, tw_452, tw_2⟩, tw_453, ⟨by decide, by decide, by decide +kernel⟩⟩
theorem g_R_116 : aw_gV "WipePapersModel" 116 M_R_isPaper 1 := ⟨⟨tw_454, tw_456, tb_sel 9 rfl, tw_2⟩, tw_457, ⟨by decide, by decide, by decide +kernel⟩⟩
theorem g_L_81 : aw_gV "WipePapersLaw" 81 M_R_mark 3 := ⟨⟨tw_458, tw_459, tw_460, tw_2⟩, tw_461, ⟨by decide, by decide, by decide +kernel⟩⟩
theorem g_R_123 : aw_gV "WipePapersModel" 123 M_R_markOf 2 := ⟨⟨tw_463, tw_465, tb_sel 10 rfl, tw_2⟩, tw_466, ⟨by decide, by decide, by decide +kernel⟩⟩
theorem g_L_86 : aw_gV "WipePapersLaw" 86 M_R_check 3 := ⟨⟨tw_468, tw_469, tw_470, tw_2⟩, tw_471, ⟨by decide, by decide, by decide +kernel⟩⟩
theorem g_R_127 : aw_gV "WipePapersModel" 127 M_R_mark 3 := ⟨⟨tw_472, tw_459, tw_460, tw_2⟩, tw_461, ⟨by decide, by decide, by decide +kernel⟩⟩
theorem g_L_91 : aw_gV "WipePapersLaw" 91 M_R_listed 1 := ⟨⟨tw_473, tw_474, tw_475, tw_2⟩, tw_476, ⟨by decide, by decide, by decide +kernel⟩⟩
theorem g_R_134 : aw_gV "WipePapersModel" 134 M_R_isListed 1 := ⟨⟨tw_477, tw_479, tb_sel 11 rfl, tw_2⟩, tw_480, ⟨by decide, by decide, by decide +kernel⟩⟩
theorem g_L_95 : aw_gV "WipePapersLaw" 95 M_R_missing 1 := ⟨⟨tw_481, tw_482, tw_483, tw_2⟩, tw_484, ⟨by decide, by decide, by decide +kernel⟩⟩
theorem g_L_99 : aw_gV "WipePapersLaw" 99 M_R_extra 1 := ⟨⟨tw_485, tw_486, tw_487, tw_2⟩, tw_488, ⟨by decide, by decide, by decide +kernel⟩⟩
theorem g_L_103 : aw_gV "WipePapersLaw" 103 M_R_lost 1 := ⟨⟨tw_489, tw_490, tw_491, tw_2⟩, tw_492, ⟨by decide, by decide, by decide +kernel⟩⟩
theorem g_L_107 : aw_gV "WipePapersLaw" 107 M_R_told 1 := ⟨⟨tw_493, tw_494, tw_495, tw_2⟩, tw_496, ⟨by decide, by decide, by decide +kernel⟩⟩
theorem g_L_112 : aw_gV "WipePapersLaw" 112 M_R_states 0 := ⟨⟨tw_497, tw_498, tw_499, tw_2⟩, tw_500, ⟨by decide, by decide, by decide +kernel⟩⟩
theorem aw_top {X : aw_X} {nL cells slots : Nat} {ad : aw_Ad} {ce : aw_He} {pc : Nat} {lv : List (Nat × Value)} {v v' : Value} {st : List Value} (e : v = v') (k : AW X nL cells slots ad ce pc lv (v' :: st)) : AW X nL cells slots ad ce pc lv (v :: st) := by subst e; exact k
theorem aw_topi {X : aw_X} {nL cells slots : Nat} {ad : aw_Ad} {ce : aw_He} {pc : Nat} {lv : List (Nat × Value)} {v v' : Int32} {st : List Value} (e : v = v') (k : AW X nL cells slots ad ce pc lv (.int v' :: st)) : AW X nL cells slots ad ce pc lv (.int v :: st) := by subst e; exact k
theorem aw_topl {X : aw_X} {nL cells slots : Nat} {ad : aw_Ad} {ce : aw_He} {pc : Nat} {lv : List (Nat × Value)} {v v' : Int64} {st : List Value} (e : v = v') (k : AW X nL cells slots ad ce pc lv (.long v' :: st)) : AW X nL cells slots ad ce pc lv (.long v :: st) := by subst e; exact k
theorem CT.to {l : Launch} {G : aw_G} {M : aw_M} {d lo mc ms : Nat} {as : List Value} {ad : aw_Ad} {ce : aw_He} {P P' : Option Value → aw_Ad → aw_He → Prop} (h : CT l G M d lo mc ms as ad ce P) (hP : ∀ r ad' ce', P r ad' ce' → P' r ad' ce') : CT l G M d lo mc ms as ad ce P' := by
  intro p e ha hc hk s m args below hf happ hpre hK
  obtain ⟨t, o, h1, h2, h3, ⟨⟨r, ad', ce', e1, e2, e3⟩, hF⟩, hL⟩ := h p e ha hc hk s m args below hf happ hpre hK
  exact ⟨t, o, h1, h2, h3, ⟨⟨r, ad', ce', e1, hP _ _ _ e2, e3⟩, hF⟩, hL⟩
end
section
/-! the state of the system as numbers. A carrier: kind, serial, places, bytes, dues, worn, read, patterns, passes, unlike, state, last -/
abbrev CarS : Type := Int32 × Int64 × Nat × (Nat → Int32) × (Nat → Int32) × (Nat → Int32) × (Nat → Int32) × (Nat → Int32) × Nat × Int32 × Int32 × Int32
def k_kd (c : CarS) : Int32 := c.1
def k_sr (c : CarS) : Int64 := c.2.1
def k_np (c : CarS) : Nat := c.2.2.1
def k_by (c : CarS) : Nat → Int32 := c.2.2.2.1
def k_du (c : CarS) : Nat → Int32 := c.2.2.2.2.1
def k_wo (c : CarS) : Nat → Int32 := c.2.2.2.2.2.1
def k_rd (c : CarS) : Nat → Int32 := c.2.2.2.2.2.2.1
def k_pt (c : CarS) : Nat → Int32 := c.2.2.2.2.2.2.2.1
def k_ps (c : CarS) : Nat := c.2.2.2.2.2.2.2.2.1
def k_un (c : CarS) : Int32 := c.2.2.2.2.2.2.2.2.2.1
def k_st (c : CarS) : Int32 := c.2.2.2.2.2.2.2.2.2.2.1
def k_la (c : CarS) : Int32 := c.2.2.2.2.2.2.2.2.2.2.2
/-- how many of the first n are not 0 -/
def cnt (f : Nat → Int32) : Nat → Nat
  | 0 => 0
  | n + 1 => cnt f n + (if f n = 0 then 0 else 1)
theorem cnt_le (f : Nat → Int32) (n : Nat) : cnt f n ≤ n := by
  induction n with
  | zero => exact Nat.le_refl 0
  | succ n ih => simp only [cnt]; split <;> omega
theorem cnt_congr {f g : Nat → Int32} {n : Nat} (h : ∀ j, j < n → f j = g j) : cnt f n = cnt g n := by
  induction n with
  | zero => rfl
  | succ n ih => simp only [cnt]; rw [ih (fun j hj => h j (by omega)), h n (by omega)]
theorem cnt_zero (n : Nat) : cnt (fun _ => 0) n = 0 := by
  induction n with
  | zero => rfl
  | succ n ih => simp only [cnt]; rw [ih]; rfl
theorem cnt_upd {f : Nat → Int32} {n j : Nat} (hj : j < n) (h0 : f j = 0) {x : Int32} (hx : ¬ x = 0) : cnt (upd f j x) n = cnt f n + 1 := by
  induction n with
  | zero => omega
  | succ n ih =>
    simp only [cnt]
    by_cases e : j = n
    · subst e
      rw [cnt_congr (f := upd f j x) (g := f) (fun q hq => by simp [upd, Nat.ne_of_lt hq])]
      simp [upd, hx, h0]
    · rw [ih (by omega)]
      have : upd f j x n = f n := by simp [upd, Ne.symm e]
      rw [this]
      omega
theorem cnt_full {f : Nat → Int32} {n : Nat} : cnt f n = n ↔ ∀ j, j < n → ¬ f j = 0 := by
  induction n with
  | zero => simp [cnt]
  | succ n ih =>
    have hl := cnt_le f n
    simp only [cnt]
    constructor
    · intro h j hj
      by_cases h0 : f n = 0
      · rw [if_pos h0] at h; omega
      · rw [if_neg h0] at h
        by_cases e : j = n
        · subst e; exact h0
        · exact ih.mp (by omega) j (by omega)
    · intro h
      rw [if_neg (h n (by omega)), ih.mpr (fun j hj => h j (by omega))]
/-- the cells of carrier i -/
def Car (ad : aw_Ad) (ce : aw_He) (i : Nat) (c : CarS) : Prop :=
  ce (1, i, 0) = some (.inr (1, [.int (k_kd c), .long (k_sr c), .ref (ad (1, i, 1)), .ref (ad (1, i, 2)), .ref (ad (1, i, 3)), .ref (ad (1, i, 4)), .ref (ad (1, i, 5)), .int (nI (k_ps c)), .int (nI (cnt (k_rd c) (k_np c))), .int (k_un c), .int (k_st c), .int (k_la c)])) ∧
  arI ce (1, i, 1) 0 (k_np c) (k_by c) ∧ arI ce (1, i, 2) 0 (k_np c) (k_du c) ∧ arI ce (1, i, 3) 1 (k_np c) (k_wo c) ∧ arI ce (1, i, 4) 1 (k_np c) (k_rd c) ∧ arI ce (1, i, 5) 0 6 (k_pt c) ∧ (1 ≤ k_np c ∧ k_np c ≤ 64) ∧ k_ps c ≤ 6
/-- nothing but carrier i has changed -/
def frK (i : Nat) (ce ce' : aw_He) : Prop := ∀ q : aw_Lb, (q.1 ≠ 1 ∨ q.2.1 ≠ i) → ce' q = ce q
def bI (b : Bool) : Int32 := if b then 1 else 0
/-- an answer alone -/
def rN (v : Option Value) (ad : aw_Ad) (ce : aw_He) : Option Value → aw_Ad → aw_He → Prop := fun r ad' ce' => r = v ∧ ad = ad' ∧ ce = ce'
theorem nar_bI (b : Bool) : narrow .boolean (.int (bI b)) = .int (bI b) := by cases b <;> rfl
theorem bI_t {p : Prop} [Decidable p] (h : p) : (1 : Int32) = bI (decide p) := by simp [bI, h]
theorem bI_f {p : Prop} [Decidable p] (h : ¬ p) : (0 : Int32) = bI (decide p) := by simp [bI, h]
theorem sI {x y : Int32} (h : x = y) : some (Value.int x) = some (Value.int y) := by rw [h]
theorem bI_ne {b : Bool} : ¬ bI b = 0 ↔ b = true := by cases b <;> decide
theorem bI_eq {b : Bool} : bI b = 0 ↔ b = false := by cases b <;> decide
theorem aw_lv {X : aw_X} {nL cells slots : Nat} {ad : aw_Ad} {ce : aw_He} {pc : Nat} {lv lv' : List (Nat × Value)} {st : List Value} (e : lv = lv') (k : AW X nL cells slots ad ce pc lv' st) : AW X nL cells slots ad ce pc lv st := by subst e; exact k
/-- the k-th place (by numbers) at which p holds, m places left, place i next, s seen -/
def kth (p : Nat → Int32) (k : Int32) : Nat → Nat → Int32 → Int32
  | 0, _, _ => -1
  | m + 1, i, s => if p i = 0 then kth p k m (i + 1) s else if s = k then nI i else kth p k m (i + 1) (s + 1)
/-- papers: how many fields, the fields -/
abbrev PapS : Type := Nat × (Nat → Int32)
/-- the system: carriers, papers, the list, the lost ones -/
abbrev SysS : Type := Nat × (Nat → CarS) × Nat × (Nat → PapS) × Nat × (Nat → Int64) × Nat × (Nat → Int32)
def s_cn (S : SysS) : Nat := S.1
def s_car (S : SysS) : Nat → CarS := S.2.1
def s_pn (S : SysS) : Nat := S.2.2.1
def s_pap (S : SysS) : Nat → PapS := S.2.2.2.1
def s_ln (S : SysS) : Nat := S.2.2.2.2.1
def s_li (S : SysS) : Nat → Int64 := S.2.2.2.2.2.1
def s_on (S : SysS) : Nat := S.2.2.2.2.2.2.1
def s_lo (S : SysS) : Nat → Int32 := S.2.2.2.2.2.2.2
def Pap (ad : aw_Ad) (ce : aw_He) (j : Nat) (p : PapS) : Prop := ce (2, j, 0) = some (.inr (2, [.ref (ad (2, j, 1))])) ∧ arI ce (2, j, 1) 0 p.1 p.2 ∧ 6 ≤ p.1 ∧ p.1 ≤ 12
/-- the class's cells -/
def LayC (S : SysS) (ad : aw_Ad) (ce : aw_He) : Prop :=
  ce (0, 0, 0) = some (.inr (0, [.ref (ad (0, 0, 1)), .int (nI (s_cn S)), .ref (ad (0, 0, 2)), .int (nI (s_pn S)), .ref (ad (0, 0, 3)), .int (nI (s_ln S)), .ref (ad (0, 0, 4)), .int (nI (s_on S))])) ∧
  arQ ce (0, 0, 1) 3 10 (fun j => if j < s_cn S then some (ad (1, j, 0)) else none) ∧ arQ ce (0, 0, 2) 4 20 (fun j => if j < s_pn S then some (ad (2, j, 0)) else none) ∧ arJ ce (0, 0, 3) 20 (s_li S) ∧ arI ce (0, 0, 4) 0 10 (s_lo S) ∧
  (∀ i, i < s_cn S → Car ad ce i (s_car S i)) ∧ (∀ j, j < s_pn S → Pap ad ce j (s_pap S j)) ∧ (∀ i p, s_cn S ≤ i → ce (1, i, p) = none) ∧ (∀ j p, s_pn S ≤ j → ce (2, j, p) = none) ∧ (s_cn S ≤ 10 ∧ s_pn S ≤ 20 ∧ s_ln S ≤ 20 ∧ s_on S ≤ 10)
end
section
set_option maxRecDepth 100000 in
set_option maxHeartbeats 4000000 in
theorem c_within (l : Launch) (G : aw_G) (ad : aw_Ad) (ce : aw_He) (x a b : Int32) : CT l G M_C_within 0 0 0 0 [.int x, .int a, .int b] ad ce (rN (some (.int (bI (decide (a ≤ x ∧ x ≤ b))))) ad ce) := by
  refine CT.of (by decide) (Nat.le_of_ble_eq_true rfl) ?_
  intro X C I E
  show AW X 3 0 0 ad ce 0 [(0, .int x), (1, .int a), (2, .int b)] []
  refine aw_iload_n C d_C_within_0 rfl (j := 0) rfl ?_
  refine aw_iload_n C d_C_within_1 rfl (j := 1) rfl ?_
  refine aw_icmp_lt C (tgt := 14) d_C_within_2 (by decide) (fun h2 => ?_) (fun h2 => ?_)
  · refine aw_iconst C (v := 0) d_C_within_14 (by decide) ?_
    refine aw_iret C E (rfl) (by decide) (by decide) d_C_within_15 ?_
    exact ⟨sI (bI_f (by (try simp only [Int32.le_iff_toInt_le, Int32.lt_iff_toInt_lt] at *); omega)), rfl, rfl⟩
  · refine aw_iload_n C d_C_within_5 rfl (j := 0) rfl ?_
    refine aw_iload_n C d_C_within_6 rfl (j := 2) rfl ?_
    refine aw_icmp_gt C (tgt := 14) d_C_within_7 (by decide) (fun h7 => ?_) (fun h7 => ?_)
    · refine aw_iconst C (v := 0) d_C_within_14 (by decide) ?_
      refine aw_iret C E (rfl) (by decide) (by decide) d_C_within_15 ?_
      exact ⟨sI (bI_f (by (try simp only [Int32.le_iff_toInt_le, Int32.lt_iff_toInt_lt] at *); omega)), rfl, rfl⟩
    · refine aw_iconst C (v := 1) d_C_within_10 (by decide) ?_
      refine aw_goto C (tgt := 15) d_C_within_11 (by decide) ?_
      refine aw_iret C E (rfl) (by decide) (by decide) d_C_within_15 ?_
      exact ⟨sI (bI_t (by (try simp only [Int32.le_iff_toInt_le, Int32.lt_iff_toInt_lt] at *); omega)), rfl, rfl⟩
set_option maxRecDepth 100000 in
set_option maxHeartbeats 4000000 in
theorem c_isPerson (l : Launch) (G : aw_G) (ad : aw_Ad) (ce : aw_He) (x : Int32) : CT l G M_C_isPerson 1 22 0 0 [.int x] ad ce (rN (some (.int (bI (decide (0 ≤ x ∧ x ≤ 9))))) ad ce) := by
  refine CT.of (by decide) (Nat.le_of_ble_eq_true rfl) ?_
  intro X C I E
  show AW X 1 0 0 ad ce 0 [(0, .int x)] []
  refine aw_iload_n C d_C_isPerson_0 rfl (j := 0) rfl ?_
  refine aw_iconst C (v := 0) d_C_isPerson_1 (by decide) ?_
  refine aw_bipush C (v := 9) d_C_isPerson_2 (by decide) ?_
  refine aw_callS C I (as := [.int x, .int 0, .int 9]) (rest := []) (c_within l G ad ce x 0 9) g_C_42 ⟨by decide, by decide⟩ ⟨by decide, by decide⟩ rfl (Nat.le_of_ble_eq_true rfl) d_C_isPerson_4 ?_
  rintro _ _ _ ⟨rfl, rfl, rfl⟩
  show AW X 1 0 0 ad ce 7 [(0, .int x)] [.int (bI (decide (0 ≤ x ∧ x ≤ 9)))]
  refine aw_iret C E (nar_bI _) (by decide) (by decide) d_C_isPerson_7 ?_
  exact ⟨rfl, rfl, rfl⟩
set_option maxRecDepth 100000 in
set_option maxHeartbeats 4000000 in
theorem c_isSerial (l : Launch) (G : aw_G) (ad : aw_Ad) (ce : aw_He) (x : Int64) : CT l G M_C_isSerial 0 0 0 0 [.long x] ad ce (rN (some (.int (bI (decide (0 ≤ x ∧ x ≤ 1000000000000))))) ad ce) := by
  refine CT.of (by decide) (Nat.le_of_ble_eq_true rfl) ?_
  intro X C I E
  show AW X 2 0 0 ad ce 0 [(0, .long x)] []
  refine aw_lload_n C d_C_isSerial_0 rfl (j := 0) rfl ?_
  refine aw_lconst C (v := 0) d_C_isSerial_1 (by decide) ?_
  refine aw_lcmp C d_C_isSerial_2 ?_
  refine aw_if_lt C (tgt := 18) d_C_isSerial_3 (by decide) (fun h3 => ?_) (fun h3 => ?_)
  · refine aw_iconst C (v := 0) d_C_isSerial_18 (by decide) ?_
    refine aw_iret C E (rfl) (by decide) (by decide) d_C_isSerial_19 ?_
    exact ⟨sI (bI_f (by (try simp only [lg_cmp_lt, lg_cmp_gt, lg_cmp_ge, lg_cmp_le, Int64.le_iff_toInt_le, Int64.lt_iff_toInt_lt] at *); omega)), rfl, rfl⟩
  · refine aw_lload_n C d_C_isSerial_6 rfl (j := 0) rfl ?_
    refine aw_ldc2 C tw_56 d_C_isSerial_7 ?_
    refine aw_lcmp C d_C_isSerial_10 ?_
    refine aw_if_gt C (tgt := 18) d_C_isSerial_11 (by decide) (fun h11 => ?_) (fun h11 => ?_)
    · refine aw_iconst C (v := 0) d_C_isSerial_18 (by decide) ?_
      refine aw_iret C E (rfl) (by decide) (by decide) d_C_isSerial_19 ?_
      exact ⟨sI (bI_f (by (try simp only [lg_cmp_lt, lg_cmp_gt, lg_cmp_ge, lg_cmp_le, Int64.le_iff_toInt_le, Int64.lt_iff_toInt_lt] at *); omega)), rfl, rfl⟩
    · refine aw_iconst C (v := 1) d_C_isSerial_14 (by decide) ?_
      refine aw_goto C (tgt := 19) d_C_isSerial_15 (by decide) ?_
      refine aw_iret C E (rfl) (by decide) (by decide) d_C_isSerial_19 ?_
      exact ⟨sI (bI_t (by (try simp only [lg_cmp_lt, lg_cmp_gt, lg_cmp_ge, lg_cmp_le, Int64.le_iff_toInt_le, Int64.lt_iff_toInt_lt] at *); omega)), rfl, rfl⟩
set_option maxRecDepth 100000 in
set_option maxHeartbeats 4000000 in
theorem c_isGone (l : Launch) (G : aw_G) (ad : aw_Ad) (ce : aw_He) (i : Nat) (c : CarS) (hK : Car ad ce i c) : CT l G M_K_isGone 0 0 0 0 [.ref (ad (1, i, 0))] ad ce (rN (some (.int (bI (decide (k_st c = 5 ∨ k_st c = 6))))) ad ce) := by
  refine CT.of (by decide) (Nat.le_of_ble_eq_true rfl) ?_
  intro X C I E
  obtain ⟨hk, hby, hdu, hwo, hrd, hpt, ⟨hn1, hn2⟩, hps⟩ := hK
  show AW X 1 0 0 ad ce 0 [(0, .ref (ad (1, i, 0)))] []
  refine aw_aload_n C d_K_isGone_0 rfl (j := 0) rfl ?_
  refine aw_get C F_K hk 10 (by decide) tw_87 rfl d_K_isGone_1 ?_
  refine aw_iconst C (v := 5) d_K_isGone_4 (by decide) ?_
  refine aw_icmp_eq C (tgt := 17) d_K_isGone_5 (by decide) (fun h5 => ?_) (fun h5 => ?_)
  · refine aw_iconst C (v := 1) d_K_isGone_17 (by decide) ?_
    refine aw_goto C (tgt := 22) d_K_isGone_18 (by decide) ?_
    refine aw_iret C E (rfl) (by decide) (by decide) d_K_isGone_22 ?_
    exact ⟨sI (bI_t (by simp [*])), rfl, rfl⟩
  · refine aw_aload_n C d_K_isGone_8 rfl (j := 0) rfl ?_
    refine aw_get C F_K hk 10 (by decide) tw_87 rfl d_K_isGone_9 ?_
    refine aw_bipush C (v := 6) d_K_isGone_12 (by decide) ?_
    refine aw_icmp_ne C (tgt := 21) d_K_isGone_14 (by decide) (fun h14 => ?_) (fun h14 => ?_)
    · refine aw_iconst C (v := 0) d_K_isGone_21 (by decide) ?_
      refine aw_iret C E (rfl) (by decide) (by decide) d_K_isGone_22 ?_
      exact ⟨sI (bI_f (by simp [*])), rfl, rfl⟩
    · refine aw_iconst C (v := 1) d_K_isGone_17 (by decide) ?_
      refine aw_goto C (tgt := 22) d_K_isGone_18 (by decide) ?_
      refine aw_iret C E (rfl) (by decide) (by decide) d_K_isGone_22 ?_
      exact ⟨sI (bI_t (by simp [*])), rfl, rfl⟩
set_option maxRecDepth 100000 in
set_option maxHeartbeats 4000000 in
theorem c_hasPlace (l : Launch) (G : aw_G) (ad : aw_Ad) (ce : aw_He) (i : Nat) (c : CarS) (hK : Car ad ce i c) (x : Int32) : CT l G M_K_hasPlace 0 0 0 0 [.ref (ad (1, i, 0)), .int x] ad ce (rN (some (.int (bI (decide (0 ≤ x ∧ x < nI (k_np c)))))) ad ce) := by
  refine CT.of (by decide) (Nat.le_of_ble_eq_true rfl) ?_
  intro X C I E
  obtain ⟨hk, hby, hdu, hwo, hrd, hpt, ⟨hn1, hn2⟩, hps⟩ := hK
  show AW X 2 0 0 ad ce 0 [(0, .ref (ad (1, i, 0))), (1, .int x)] []
  refine aw_iload_n C d_K_hasPlace_0 rfl (j := 1) rfl ?_
  refine aw_if_lt C (tgt := 17) d_K_hasPlace_1 (by decide) (fun h1 => ?_) (fun h1 => ?_)
  · refine aw_iconst C (v := 0) d_K_hasPlace_17 (by decide) ?_
    refine aw_iret C E (rfl) (by decide) (by decide) d_K_hasPlace_18 ?_
    exact ⟨sI (bI_f (by (try simp only [Int32.le_iff_toInt_le, Int32.lt_iff_toInt_lt] at *); omega)), rfl, rfl⟩
  · refine aw_iload_n C d_K_hasPlace_4 rfl (j := 1) rfl ?_
    refine aw_aload_n C d_K_hasPlace_5 rfl (j := 0) rfl ?_
    refine aw_get C F_K hk 2 (by decide) tw_75 rfl d_K_hasPlace_6 ?_
    refine ar_len C hby (tt := .int) rfl d_K_hasPlace_9 ?_
    refine aw_icmp_ge C (tgt := 17) d_K_hasPlace_10 (by decide) (fun h10 => ?_) (fun h10 => ?_)
    · refine aw_iconst C (v := 0) d_K_hasPlace_17 (by decide) ?_
      refine aw_iret C E (rfl) (by decide) (by decide) d_K_hasPlace_18 ?_
      exact ⟨sI (bI_f (by (try simp only [Int32.le_iff_toInt_le, Int32.lt_iff_toInt_lt] at *); omega)), rfl, rfl⟩
    · refine aw_iconst C (v := 1) d_K_hasPlace_13 (by decide) ?_
      refine aw_goto C (tgt := 18) d_K_hasPlace_14 (by decide) ?_
      refine aw_iret C E (rfl) (by decide) (by decide) d_K_hasPlace_18 ?_
      exact ⟨sI (bI_t (by (try simp only [Int32.le_iff_toInt_le, Int32.lt_iff_toInt_lt] at *); omega)), rfl, rfl⟩
set_option maxRecDepth 100000 in
set_option maxHeartbeats 4000000 in
theorem c_findC_in (l : Launch) (G : aw_G) (ad : aw_Ad) (ce : aw_He) (S : SysS) (hL : LayC S ad ce) (j : Nat) (hj : j < s_cn S) : CT l G M_C_findCarrier 0 0 0 0 [.ref (ad (0, 0, 0)), .int (nI j)] ad ce (rN (some (.ref (ad (1, j, 0)))) ad ce) := by
  refine CT.of (by decide) (Nat.le_of_ble_eq_true rfl) ?_
  intro X C I E
  obtain ⟨ho, hca, hpa, hli, hlo, hcars, hpaps, hnoc, hnop, hb1, hb2, hb3, hb4⟩ := hL
  show AW X 2 0 0 ad ce 0 [(0, .ref (ad (0, 0, 0))), (1, .int (nI j))] []
  refine aw_iload_n C d_C_findCarrier_0 rfl (j := 1) rfl ?_
  refine aw_if_lt C (tgt := 21) d_C_findCarrier_1 (by decide) (fun h1 => absurd h1 (nI_pos (by omega))) (fun h1 => ?_)
  refine aw_iload_n C d_C_findCarrier_4 rfl (j := 1) rfl ?_
  refine aw_aload_n C d_C_findCarrier_5 rfl (j := 0) rfl ?_
  refine aw_get C F_C ho 1 (by decide) tw_20 rfl d_C_findCarrier_6 ?_
  refine aw_icmp_ge C (tgt := 21) d_C_findCarrier_9 (by decide) (fun h9 => absurd h9 (nI_ge (by omega) (by omega))) (fun h9 => ?_)
  refine aw_iload_n C d_C_findCarrier_12 rfl (j := 1) rfl ?_
  refine aw_aload_n C d_C_findCarrier_13 rfl (j := 0) rfl ?_
  refine aw_get C F_C ho 0 (by decide) tw_19 rfl d_C_findCarrier_14 ?_
  refine ar_lenQ C hca rfl d_C_findCarrier_17 ?_
  refine aw_icmp_lt C (tgt := 23) d_C_findCarrier_18 (by decide) (fun h18 => ?_) (fun h18 => absurd (nI_lt (by omega) (by omega)) h18)
  refine aw_aload_n C d_C_findCarrier_23 rfl (j := 0) rfl ?_
  refine aw_get C F_C ho 0 (by decide) tw_19 rfl d_C_findCarrier_24 ?_
  refine aw_iload_n C d_C_findCarrier_27 rfl (j := 1) rfl ?_
  refine ar_aald C hca rfl (j := j) (rfl) (by omega) (by omega) d_C_findCarrier_28 ?_
  refine aw_top (v' := .ref (ad (1, j, 0))) (by simp [va_rf, hj]) ?_
  refine aw_aret C E (Or.inl ⟨_, rfl⟩) (Or.inr ⟨_, rfl⟩) (by decide) (by decide) d_C_findCarrier_29 ?_
  exact ⟨rfl, rfl, rfl⟩
set_option maxRecDepth 100000 in
set_option maxHeartbeats 4000000 in
theorem c_findC_out (l : Launch) (G : aw_G) (ad : aw_Ad) (ce : aw_He) (S : SysS) (hL : LayC S ad ce) (x : Int32) (hx : x < 0 ∨ nI (s_cn S) ≤ x) : CT l G M_C_findCarrier 0 0 0 0 [.ref (ad (0, 0, 0)), .int x] ad ce (rN (some .null) ad ce) := by
  refine CT.of (by decide) (Nat.le_of_ble_eq_true rfl) ?_
  intro X C I E
  obtain ⟨ho, hca, hpa, hli, hlo, hcars, hpaps, hnoc, hnop, hb1, hb2, hb3, hb4⟩ := hL
  show AW X 2 0 0 ad ce 0 [(0, .ref (ad (0, 0, 0))), (1, .int x)] []
  refine aw_iload_n C d_C_findCarrier_0 rfl (j := 1) rfl ?_
  refine aw_if_lt C (tgt := 21) d_C_findCarrier_1 (by decide) (fun h1 => ?_) (fun h1 => ?_)
  · refine aw_null C d_C_findCarrier_21 ?_
    refine aw_aret C E (Or.inl ⟨_, rfl⟩) (Or.inl rfl) (by decide) (by decide) d_C_findCarrier_22 ?_
    exact ⟨rfl, rfl, rfl⟩
  · refine aw_iload_n C d_C_findCarrier_4 rfl (j := 1) rfl ?_
    refine aw_aload_n C d_C_findCarrier_5 rfl (j := 0) rfl ?_
    refine aw_get C F_C ho 1 (by decide) tw_20 rfl d_C_findCarrier_6 ?_
    refine aw_icmp_ge C (tgt := 21) d_C_findCarrier_9 (by decide) (fun h9 => ?_) (fun h9 => ?_)
    · refine aw_null C d_C_findCarrier_21 ?_
      refine aw_aret C E (Or.inl ⟨_, rfl⟩) (Or.inl rfl) (by decide) (by decide) d_C_findCarrier_22 ?_
      exact ⟨rfl, rfl, rfl⟩
    · exact absurd hx (by simp [h1, h9])
set_option maxRecDepth 100000 in
set_option maxHeartbeats 4000000 in
theorem c_findP_in (l : Launch) (G : aw_G) (ad : aw_Ad) (ce : aw_He) (S : SysS) (hL : LayC S ad ce) (j : Nat) (hj : j < s_pn S) : CT l G M_C_findPaper 0 0 0 0 [.ref (ad (0, 0, 0)), .int (nI j)] ad ce (rN (some (.ref (ad (2, j, 0)))) ad ce) := by
  refine CT.of (by decide) (Nat.le_of_ble_eq_true rfl) ?_
  intro X C I E
  obtain ⟨ho, hca, hpa, hli, hlo, hcars, hpaps, hnoc, hnop, hb1, hb2, hb3, hb4⟩ := hL
  show AW X 2 0 0 ad ce 0 [(0, .ref (ad (0, 0, 0))), (1, .int (nI j))] []
  refine aw_iload_n C d_C_findPaper_0 rfl (j := 1) rfl ?_
  refine aw_if_lt C (tgt := 21) d_C_findPaper_1 (by decide) (fun h1 => absurd h1 (nI_pos (by omega))) (fun h1 => ?_)
  refine aw_iload_n C d_C_findPaper_4 rfl (j := 1) rfl ?_
  refine aw_aload_n C d_C_findPaper_5 rfl (j := 0) rfl ?_
  refine aw_get C F_C ho 3 (by decide) tw_22 rfl d_C_findPaper_6 ?_
  refine aw_icmp_ge C (tgt := 21) d_C_findPaper_9 (by decide) (fun h9 => absurd h9 (nI_ge (by omega) (by omega))) (fun h9 => ?_)
  refine aw_iload_n C d_C_findPaper_12 rfl (j := 1) rfl ?_
  refine aw_aload_n C d_C_findPaper_13 rfl (j := 0) rfl ?_
  refine aw_get C F_C ho 2 (by decide) tw_21 rfl d_C_findPaper_14 ?_
  refine ar_lenQ C hpa rfl d_C_findPaper_17 ?_
  refine aw_icmp_lt C (tgt := 23) d_C_findPaper_18 (by decide) (fun h18 => ?_) (fun h18 => absurd (nI_lt (by omega) (by omega)) h18)
  refine aw_aload_n C d_C_findPaper_23 rfl (j := 0) rfl ?_
  refine aw_get C F_C ho 2 (by decide) tw_21 rfl d_C_findPaper_24 ?_
  refine aw_iload_n C d_C_findPaper_27 rfl (j := 1) rfl ?_
  refine ar_aald C hpa rfl (j := j) (rfl) (by omega) (by omega) d_C_findPaper_28 ?_
  refine aw_top (v' := .ref (ad (2, j, 0))) (by simp [va_rf, hj]) ?_
  refine aw_aret C E (Or.inl ⟨_, rfl⟩) (Or.inr ⟨_, rfl⟩) (by decide) (by decide) d_C_findPaper_29 ?_
  exact ⟨rfl, rfl, rfl⟩
set_option maxRecDepth 100000 in
set_option maxHeartbeats 4000000 in
theorem c_findP_out (l : Launch) (G : aw_G) (ad : aw_Ad) (ce : aw_He) (S : SysS) (hL : LayC S ad ce) (x : Int32) (hx : x < 0 ∨ nI (s_pn S) ≤ x) : CT l G M_C_findPaper 0 0 0 0 [.ref (ad (0, 0, 0)), .int x] ad ce (rN (some .null) ad ce) := by
  refine CT.of (by decide) (Nat.le_of_ble_eq_true rfl) ?_
  intro X C I E
  obtain ⟨ho, hca, hpa, hli, hlo, hcars, hpaps, hnoc, hnop, hb1, hb2, hb3, hb4⟩ := hL
  show AW X 2 0 0 ad ce 0 [(0, .ref (ad (0, 0, 0))), (1, .int x)] []
  refine aw_iload_n C d_C_findPaper_0 rfl (j := 1) rfl ?_
  refine aw_if_lt C (tgt := 21) d_C_findPaper_1 (by decide) (fun h1 => ?_) (fun h1 => ?_)
  · refine aw_null C d_C_findPaper_21 ?_
    refine aw_aret C E (Or.inl ⟨_, rfl⟩) (Or.inl rfl) (by decide) (by decide) d_C_findPaper_22 ?_
    exact ⟨rfl, rfl, rfl⟩
  · refine aw_iload_n C d_C_findPaper_4 rfl (j := 1) rfl ?_
    refine aw_aload_n C d_C_findPaper_5 rfl (j := 0) rfl ?_
    refine aw_get C F_C ho 3 (by decide) tw_22 rfl d_C_findPaper_6 ?_
    refine aw_icmp_ge C (tgt := 21) d_C_findPaper_9 (by decide) (fun h9 => ?_) (fun h9 => ?_)
    · refine aw_null C d_C_findPaper_21 ?_
      refine aw_aret C E (Or.inl ⟨_, rfl⟩) (Or.inl rfl) (by decide) (by decide) d_C_findPaper_22 ?_
      exact ⟨rfl, rfl, rfl⟩
    · exact absurd hx (by simp [h1, h9])
set_option maxRecDepth 100000 in
set_option maxHeartbeats 4000000 in
theorem c_wornPlace (l : Launch) (G : aw_G) (ad : aw_Ad) (ce : aw_He) (i : Nat) (c : CarS) (hK : Car ad ce i c) (k : Int32) : CT l G M_K_wornPlace 0 0 0 0 [.ref (ad (1, i, 0)), .int k] ad ce (rN (some (.int (kth (k_wo c) k (k_np c) 0 0))) ad ce) := by
  refine CT.of (by decide) (Nat.le_of_ble_eq_true rfl) ?_
  intro X C I E
  obtain ⟨hk, hby, hdu, hwo, hrd, hpt, ⟨hn1, hn2⟩, hps⟩ := hK
  have loop : ∀ (m a : Nat) (s : Int32), a + m = k_np c → kth (k_wo c) k m a s = kth (k_wo c) k (k_np c) 0 0 → AW X 4 0 0 ad ce 4 [(3, .int (nI a)), (2, .int s), (0, .ref (ad (1, i, 0))), (1, .int k)] [] := by
    intro m
    induction m with
    | zero =>
      intro a s ha hr
      refine aw_iload_n C d_K_wornPlace_4 rfl (j := 0) rfl ?_
      refine aw_aload_n C d_K_wornPlace_5 rfl (j := 2) rfl ?_
      refine aw_get C F_K hk 4 (by decide) tw_78 rfl d_K_wornPlace_6 ?_
      refine ar_len C hwo (tt := .boolean) rfl d_K_wornPlace_9 ?_
      refine aw_icmp_ge C (tgt := 38) d_K_wornPlace_10 (by decide) (fun h10 => ?_) (fun h10 => absurd (nI_le (by omega) (by omega)) h10)
      refine aw_iconst C (v := (-1)) d_K_wornPlace_38 (by decide) ?_
      refine aw_iret C E (rfl) (by decide) (by decide) d_K_wornPlace_39 ?_
      exact ⟨sI hr, rfl, rfl⟩
    | succ m ih =>
      intro a s ha hr
      simp only [kth] at hr
      refine aw_iload_n C d_K_wornPlace_4 rfl (j := 0) rfl ?_
      refine aw_aload_n C d_K_wornPlace_5 rfl (j := 2) rfl ?_
      refine aw_get C F_K hk 4 (by decide) tw_78 rfl d_K_wornPlace_6 ?_
      refine ar_len C hwo (tt := .boolean) rfl d_K_wornPlace_9 ?_
      refine aw_icmp_ge C (tgt := 38) d_K_wornPlace_10 (by decide) (fun h10 => absurd h10 (nI_ge (by omega) (by omega))) (fun h10 => ?_)
      refine aw_aload_n C d_K_wornPlace_13 rfl (j := 2) rfl ?_
      refine aw_get C F_K hk 4 (by decide) tw_78 rfl d_K_wornPlace_14 ?_
      refine aw_iload_n C d_K_wornPlace_17 rfl (j := 0) rfl ?_
      refine ar_zald C hwo (j := a) (rfl) (by omega) (by omega) d_K_wornPlace_18 ?_
      refine aw_if_eq C (tgt := 32) d_K_wornPlace_19 (by decide) (fun h19 => ?_) (fun h19 => ?_)
      · refine aw_iinc C (v := nI (a + 1)) (lv' := [(3, .int (nI (a + 1))), (2, .int s), (0, .ref (ad (1, i, 0))), (1, .int k)]) d_K_wornPlace_32 (j := 0) rfl (nI_1 _) (by decide) rfl ?_
        refine aw_goto C (tgt := 4) d_K_wornPlace_35 (by decide) ?_
        rw [if_pos h19] at hr
        exact ih (a + 1) s (by omega) hr
      · refine aw_iload_n C d_K_wornPlace_22 rfl (j := 1) rfl ?_
        refine aw_iload_n C d_K_wornPlace_23 rfl (j := 3) rfl ?_
        refine aw_icmp_ne C (tgt := 29) d_K_wornPlace_24 (by decide) (fun h24 => ?_) (fun h24 => ?_)
        · refine aw_iinc C (v := s + 1) (lv' := [(2, .int (s + 1)), (3, .int (nI a)), (0, .ref (ad (1, i, 0))), (1, .int k)]) d_K_wornPlace_29 (j := 1) rfl (rfl) (by decide) rfl ?_
          refine aw_iinc C (v := nI (a + 1)) (lv' := [(3, .int (nI (a + 1))), (2, .int (s + 1)), (0, .ref (ad (1, i, 0))), (1, .int k)]) d_K_wornPlace_32 (j := 1) rfl (nI_1 _) (by decide) rfl ?_
          refine aw_goto C (tgt := 4) d_K_wornPlace_35 (by decide) ?_
          rw [if_neg h19, if_neg h24] at hr
          exact ih (a + 1) (s + 1) (by omega) hr
        · refine aw_iload_n C d_K_wornPlace_27 rfl (j := 0) rfl ?_
          refine aw_iret C E (rfl) (by decide) (by decide) d_K_wornPlace_28 ?_
          exact ⟨sI (by rw [← hr, if_neg h19, if_pos h24]), rfl, rfl⟩
  show AW X 4 0 0 ad ce 0 [(0, .ref (ad (1, i, 0))), (1, .int k)] []
  refine aw_iconst C (v := 0) d_K_wornPlace_0 (by decide) ?_
  refine aw_istore_n C (lv' := [(2, .int 0), (0, .ref (ad (1, i, 0))), (1, .int k)]) d_K_wornPlace_1 rfl (by decide) rfl ?_
  refine aw_iconst C (v := 0) d_K_wornPlace_2 (by decide) ?_
  refine aw_istore_n C (lv' := [(3, .int 0), (2, .int 0), (0, .ref (ad (1, i, 0))), (1, .int k)]) d_K_wornPlace_3 rfl (by decide) rfl ?_
  refine aw_lv (lv' := [(3, .int (nI 0)), (2, .int 0), (0, .ref (ad (1, i, 0))), (1, .int k)]) (by simp only [nI_0]) ?_
  exact loop (k_np c) 0 0 (by omega) rfl
end
section
def k_mk (kd : Int32) (sr : Int64) (np : Nat) (by' du wo rd pt : Nat → Int32) (ps : Nat) (un st la : Int32) : CarS := (kd, sr, np, by', du, wo, rd, pt, ps, un, st, la)
def k_sWo (c : CarS) (f : Nat → Int32) : CarS := k_mk (k_kd c) (k_sr c) (k_np c) (k_by c) (k_du c) f (k_rd c) (k_pt c) (k_ps c) (k_un c) (k_st c) (k_la c)
def k_sSt (c : CarS) (v : Int32) : CarS := k_mk (k_kd c) (k_sr c) (k_np c) (k_by c) (k_du c) (k_wo c) (k_rd c) (k_pt c) (k_ps c) (k_un c) v (k_la c)
def k_sLa (c : CarS) (v : Int32) : CarS := k_mk (k_kd c) (k_sr c) (k_np c) (k_by c) (k_du c) (k_wo c) (k_rd c) (k_pt c) (k_ps c) (k_un c) (k_st c) v
/-- no reads -/
def k_sFg (c : CarS) : CarS := k_mk (k_kd c) (k_sr c) (k_np c) (k_by c) (k_du c) (k_wo c) (fun _ => 0) (k_pt c) (k_ps c) 0 (k_st c) (k_la c)
/-- no passes and no reads -/
def k_sNp (c : CarS) : CarS := k_mk (k_kd c) (k_sr c) (k_np c) (k_by c) (k_du c) (k_wo c) (fun _ => 0) (k_pt c) 0 0 (k_st c) (k_la c)
/-- a pattern's byte -/
def pB (p : Int32) (j : Nat) (b : Int32) : Int32 := if p = 256 then (7 * nI j + 3) &&& 255 else if p = 257 then b ^^^ 255 else p
def k_pass (c : CarS) (p : Int32) : CarS := k_mk (k_kd c) (k_sr c) (k_np c) (fun j => if k_wo c j = 0 then pB p j (k_by c j) else k_by c j) (fun j => pB p j (k_by c j)) (k_wo c) (fun _ => 0) (upd (k_pt c) (k_ps c) p) (k_ps c + 1) 0 (k_st c) (k_la c)
def k_rdU (c : CarS) (j : Nat) (b : Int32) : Int32 := if b = k_du c j then k_un c else k_un c + 1
def k_read (c : CarS) (j : Nat) (b : Int32) : CarS := k_mk (k_kd c) (k_sr c) (k_np c) (k_by c) (k_du c) (k_wo c) (upd (k_rd c) j 1) (k_pt c) (k_ps c) (k_rdU c j b) (if cnt (upd (k_rd c) j 1) (k_np c) = k_np c ∧ k_rdU c j b = 0 then 3 else k_st c) (k_la c)
/-- an answer, and carrier i is c' now -/
def rK (v : Option Value) (i : Nat) (c' : CarS) (ad : aw_Ad) (ce : aw_He) : Option Value → aw_Ad → aw_He → Prop := fun r ad' ce' => r = v ∧ ad = ad' ∧ frK i ce ce' ∧ Car ad ce' i c'
theorem Car.of {ad : aw_Ad} {ce : aw_He} {i : Nat} {c : CarS} {kd ps rc un st la : Int32} {sr : Int64} (h : ce (1, i, 0) = some (.inr (1, [.int kd, .long sr, .ref (ad (1, i, 1)), .ref (ad (1, i, 2)), .ref (ad (1, i, 3)), .ref (ad (1, i, 4)), .ref (ad (1, i, 5)), .int ps, .int rc, .int un, .int st, .int la]))) (e1 : kd = k_kd c) (e2 : sr = k_sr c) (e3 : ps = nI (k_ps c)) (e4 : rc = nI (cnt (k_rd c) (k_np c))) (e5 : un = k_un c) (e6 : st = k_st c) (e7 : la = k_la c)
    (h1 : arI ce (1, i, 1) 0 (k_np c) (k_by c)) (h2 : arI ce (1, i, 2) 0 (k_np c) (k_du c)) (h3 : arI ce (1, i, 3) 1 (k_np c) (k_wo c)) (h4 : arI ce (1, i, 4) 1 (k_np c) (k_rd c)) (h5 : arI ce (1, i, 5) 0 6 (k_pt c)) (h6 : 1 ≤ k_np c ∧ k_np c ≤ 64) (h7 : k_ps c ≤ 6) : Car ad ce i c := by
  subst e1 e2 e3 e4 e5 e6 e7
  exact ⟨h, h1, h2, h3, h4, h5, h6, h7⟩
theorem fr1 {i p : Nat} {ce ce' : aw_He} (h : ∀ q, q ≠ (1, i, p) → ce' q = ce q) : frK i ce ce' := fun q hq => h q (fun e => by subst e; simp at hq)
theorem frK.trans {i : Nat} {a b c : aw_He} (h1 : frK i a b) (h2 : frK i b c) : frK i a c := fun q hq => (h2 q hq).trans (h1 q hq)
theorem frK.rf {i : Nat} {a : aw_He} : frK i a a := fun _ _ => rfl
theorem cnt0 (n : Nat) : (0 : Int32) = nI (cnt (fun _ => 0) n) := by rw [cnt_zero]; exact nI_0.symm
end
section
set_option maxRecDepth 100000 in
set_option maxHeartbeats 4000000 in
theorem c_wear_out (l : Launch) (G : aw_G) (ad : aw_Ad) (ce : aw_He) (i : Nat) (c : CarS) (hK : Car ad ce i c) (x : Int32) (hx : x < 0 ∨ nI (k_np c) ≤ x) : CT l G M_K_wearOut 1 21 0 0 [.ref (ad (1, i, 0)), .int x] ad ce (rN (some (.int 0)) ad ce) := by
  refine CT.of (by decide) (Nat.le_of_ble_eq_true rfl) ?_
  intro X C I E
  have hK0 := hK
  obtain ⟨hk, hby, hdu, hwo, hrd, hpt, ⟨hn1, hn2⟩, hps⟩ := hK0
  show AW X 2 0 0 ad ce 0 [(0, .ref (ad (1, i, 0))), (1, .int x)] []
  refine aw_aload_n C d_K_wearOut_0 rfl (j := 0) rfl ?_
  refine aw_iload_n C d_K_wearOut_1 rfl (j := 1) rfl ?_
  refine aw_callV C I (k := (1, i, 0)) (as := [.int x]) (rest := []) (c_hasPlace l G ad ce i c hK x) g_K_51 hk rfl rfl ⟨by decide, by decide⟩ ⟨by decide, by decide⟩ rfl (Nat.le_of_ble_eq_true rfl) d_K_wearOut_2 ?_
  rintro _ _ _ ⟨rfl, rfl, rfl⟩
  show AW X 2 0 0 ad ce 5 [(0, .ref (ad (1, i, 0))), (1, .int x)] [.int (bI (decide (0 ≤ x ∧ x < nI (k_np c))))]
  refine aw_topi (v' := 0) (by rw [← bI_f (by (try simp only [Int32.le_iff_toInt_le, Int32.lt_iff_toInt_lt] at *); omega)]) ?_
  show AW X 2 0 0 ad ce 5 [(0, .ref (ad (1, i, 0))), (1, .int x)] [.int 0]
  refine aw_if_eq C (tgt := 17) d_K_wearOut_5 (by decide) (fun h5 => ?_) (fun h5 => absurd (rfl) h5)
  refine aw_iconst C (v := 0) d_K_wearOut_17 (by decide) ?_
  refine aw_iret C E (rfl) (by decide) (by decide) d_K_wearOut_18 ?_
  exact ⟨rfl, rfl, rfl⟩
set_option maxRecDepth 100000 in
set_option maxHeartbeats 4000000 in
theorem c_wear_no (l : Launch) (G : aw_G) (ad : aw_Ad) (ce : aw_He) (i : Nat) (c : CarS) (hK : Car ad ce i c) (j : Nat) (hj : j < k_np c) (hw : ¬ k_wo c j = 0) : CT l G M_K_wearOut 1 21 0 0 [.ref (ad (1, i, 0)), .int (nI j)] ad ce (rN (some (.int 0)) ad ce) := by
  refine CT.of (by decide) (Nat.le_of_ble_eq_true rfl) ?_
  intro X C I E
  have hK0 := hK
  obtain ⟨hk, hby, hdu, hwo, hrd, hpt, ⟨hn1, hn2⟩, hps⟩ := hK0
  show AW X 2 0 0 ad ce 0 [(0, .ref (ad (1, i, 0))), (1, .int (nI j))] []
  refine aw_aload_n C d_K_wearOut_0 rfl (j := 0) rfl ?_
  refine aw_iload_n C d_K_wearOut_1 rfl (j := 1) rfl ?_
  refine aw_callV C I (k := (1, i, 0)) (as := [.int (nI j)]) (rest := []) (c_hasPlace l G ad ce i c hK (nI j)) g_K_51 hk rfl rfl ⟨by decide, by decide⟩ ⟨by decide, by decide⟩ rfl (Nat.le_of_ble_eq_true rfl) d_K_wearOut_2 ?_
  rintro _ _ _ ⟨rfl, rfl, rfl⟩
  show AW X 2 0 0 ad ce 5 [(0, .ref (ad (1, i, 0))), (1, .int (nI j))] [.int (bI (decide (0 ≤ (nI j) ∧ (nI j) < nI (k_np c))))]
  refine aw_topi (v' := 1) (by rw [← bI_t ⟨nI_pos' (by omega), nI_lt (by omega) (by omega)⟩]) ?_
  show AW X 2 0 0 ad ce 5 [(0, .ref (ad (1, i, 0))), (1, .int (nI j))] [.int 1]
  refine aw_if_eq C (tgt := 17) d_K_wearOut_5 (by decide) (fun h5 => absurd h5 (by decide)) (fun h5 => ?_)
  refine aw_aload_n C d_K_wearOut_8 rfl (j := 0) rfl ?_
  refine aw_get C F_K hk 4 (by decide) tw_78 rfl d_K_wearOut_9 ?_
  refine aw_iload_n C d_K_wearOut_12 rfl (j := 1) rfl ?_
  refine ar_zald C hwo (j := j) (rfl) (by omega) (by omega) d_K_wearOut_13 ?_
  refine aw_if_eq C (tgt := 19) d_K_wearOut_14 (by decide) (fun h14 => absurd h14 (hw)) (fun h14 => ?_)
  refine aw_iconst C (v := 0) d_K_wearOut_17 (by decide) ?_
  refine aw_iret C E (rfl) (by decide) (by decide) d_K_wearOut_18 ?_
  exact ⟨rfl, rfl, rfl⟩
set_option maxRecDepth 100000 in
set_option maxHeartbeats 4000000 in
theorem c_wear_ok (l : Launch) (G : aw_G) (ad : aw_Ad) (ce : aw_He) (i : Nat) (c : CarS) (hK : Car ad ce i c) (j : Nat) (hj : j < k_np c) (hw : k_wo c j = 0) : CT l G M_K_wearOut 1 21 0 0 [.ref (ad (1, i, 0)), .int (nI j)] ad ce (rK (some (.int 1)) i (k_sWo c (upd (k_wo c) j 1)) ad ce) := by
  refine CT.of (by decide) (Nat.le_of_ble_eq_true rfl) ?_
  intro X C I E
  have hK0 := hK
  obtain ⟨hk, hby, hdu, hwo, hrd, hpt, ⟨hn1, hn2⟩, hps⟩ := hK0
  show AW X 2 0 0 ad ce 0 [(0, .ref (ad (1, i, 0))), (1, .int (nI j))] []
  refine aw_aload_n C d_K_wearOut_0 rfl (j := 0) rfl ?_
  refine aw_iload_n C d_K_wearOut_1 rfl (j := 1) rfl ?_
  refine aw_callV C I (k := (1, i, 0)) (as := [.int (nI j)]) (rest := []) (c_hasPlace l G ad ce i c hK (nI j)) g_K_51 hk rfl rfl ⟨by decide, by decide⟩ ⟨by decide, by decide⟩ rfl (Nat.le_of_ble_eq_true rfl) d_K_wearOut_2 ?_
  rintro _ _ _ ⟨rfl, rfl, rfl⟩
  show AW X 2 0 0 ad ce 5 [(0, .ref (ad (1, i, 0))), (1, .int (nI j))] [.int (bI (decide (0 ≤ (nI j) ∧ (nI j) < nI (k_np c))))]
  refine aw_topi (v' := 1) (by rw [← bI_t ⟨nI_pos' (by omega), nI_lt (by omega) (by omega)⟩]) ?_
  show AW X 2 0 0 ad ce 5 [(0, .ref (ad (1, i, 0))), (1, .int (nI j))] [.int 1]
  refine aw_if_eq C (tgt := 17) d_K_wearOut_5 (by decide) (fun h5 => absurd h5 (by decide)) (fun h5 => ?_)
  refine aw_aload_n C d_K_wearOut_8 rfl (j := 0) rfl ?_
  refine aw_get C F_K hk 4 (by decide) tw_78 rfl d_K_wearOut_9 ?_
  refine aw_iload_n C d_K_wearOut_12 rfl (j := 1) rfl ?_
  refine ar_zald C hwo (j := j) (rfl) (by omega) (by omega) d_K_wearOut_13 ?_
  refine aw_if_eq C (tgt := 19) d_K_wearOut_14 (by decide) (fun h14 => ?_) (fun h14 => absurd (hw) h14)
  refine aw_aload_n C d_K_wearOut_19 rfl (j := 0) rfl ?_
  refine aw_get C F_K hk 4 (by decide) tw_78 rfl d_K_wearOut_20 ?_
  refine aw_iload_n C d_K_wearOut_23 rfl (j := 1) rfl ?_
  refine aw_iconst C (v := 1) d_K_wearOut_24 (by decide) ?_
  refine ar_zast C (v := 1) hwo (j := j) (rfl) (by omega) (by omega) rfl d_K_wearOut_25 ?_
  intro ce1 fw1 hwo
  have hk : ce1 (1, i, 0) = some (.inr (1, [.int (k_kd c), .long (k_sr c), .ref (ad (1, i, 1)), .ref (ad (1, i, 2)), .ref (ad (1, i, 3)), .ref (ad (1, i, 4)), .ref (ad (1, i, 5)), .int (nI (k_ps c)), .int (nI (cnt (k_rd c) (k_np c))), .int (k_un c), .int (k_st c), .int (k_la c)])) := (fw1 _ (by simp)).trans hk
  have hby := hby.tr (fw1 _ (by simp))
  have hdu := hdu.tr (fw1 _ (by simp))
  have hrd := hrd.tr (fw1 _ (by simp))
  have hpt := hpt.tr (fw1 _ (by simp))
  refine aw_iconst C (v := 1) d_K_wearOut_26 (by decide) ?_
  refine aw_iret C E (rfl) (by decide) (by decide) d_K_wearOut_27 ?_
  exact ⟨rfl, rfl, fr1 fw1, hk, hby, hdu, hwo, hrd, hpt, ⟨hn1, hn2⟩, hps⟩
set_option maxRecDepth 100000 in
set_option maxHeartbeats 4000000 in
theorem c_forgetReads (l : Launch) (G : aw_G) (ad : aw_Ad) (ce : aw_He) (i : Nat) (c : CarS) (hK : Car ad ce i c) : CT l G M_K_forgetReads 0 0 0 0 [.ref (ad (1, i, 0))] ad ce (rK none i (k_sFg c) ad ce) := by
  refine CT.of (by decide) (Nat.le_of_ble_eq_true rfl) ?_
  intro X C I E
  obtain ⟨hk, hby, hdu, hwo, hrd, hpt, ⟨hn1, hn2⟩, hps⟩ := hK
  have hby0 := hby
  have hdu0 := hdu
  have hwo0 := hwo
  have hpt0 := hpt
  have loop : ∀ (m a : Nat) (ce1 : aw_He) (g : Nat → Int32), a + m = k_np c → (∀ q, q ≠ (1, i, 4) → ce1 q = ce q) → arI ce1 (1, i, 4) 1 (k_np c) g → (∀ j, j < a → g j = 0) → AW X 2 0 0 ad ce1 2 [(1, .int (nI a)), (0, .ref (ad (1, i, 0)))] [] := by
    intro m
    induction m with
    | zero =>
      intro a ce1 g ha hf hrd hg
      have hk : ce1 (1, i, 0) = _ := (hf _ (by simp)).trans hk
      refine aw_iload_n C d_K_forgetReads_2 rfl (j := 0) rfl ?_
      refine aw_aload_n C d_K_forgetReads_3 rfl (j := 1) rfl ?_
      refine aw_get C F_K hk 5 (by decide) tw_79 rfl d_K_forgetReads_4 ?_
      refine ar_len C hrd (tt := .boolean) rfl d_K_forgetReads_7 ?_
      refine aw_icmp_ge C (tgt := 24) d_K_forgetReads_8 (by decide) (fun h8 => ?_) (fun h8 => absurd (nI_le (by omega) (by omega)) h8)
      refine aw_aload_n C d_K_forgetReads_24 rfl (j := 1) rfl ?_
      refine aw_iconst C (v := 0) d_K_forgetReads_25 (by decide) ?_
      refine aw_topi (v' := nI (cnt (fun _ => 0) (k_np c))) (cnt0 _) ?_
      refine ob_put C F_K hk 8 (by decide) tw_84 rfl rfl rfl (Nat.le_of_ble_eq_true rfl) (fs' := [.int (k_kd c), .long (k_sr c), .ref (ad (1, i, 1)), .ref (ad (1, i, 2)), .ref (ad (1, i, 3)), .ref (ad (1, i, 4)), .ref (ad (1, i, 5)), .int (nI (k_ps c)), .int (nI (cnt (fun _ => 0) (k_np c))), .int (k_un c), .int (k_st c), .int (k_la c)]) rfl d_K_forgetReads_26 ?_
      intro ce2 fw2 hk
      have hrd := hrd.tr (fw2 _ (by simp))
      refine aw_aload_n C d_K_forgetReads_29 rfl (j := 1) rfl ?_
      refine aw_iconst C (v := 0) d_K_forgetReads_30 (by decide) ?_
      refine ob_put C F_K hk 9 (by decide) tw_85 rfl rfl rfl (Nat.le_of_ble_eq_true rfl) (fs' := [.int (k_kd c), .long (k_sr c), .ref (ad (1, i, 1)), .ref (ad (1, i, 2)), .ref (ad (1, i, 3)), .ref (ad (1, i, 4)), .ref (ad (1, i, 5)), .int (nI (k_ps c)), .int (nI (cnt (fun _ => 0) (k_np c))), .int 0, .int (k_st c), .int (k_la c)]) rfl d_K_forgetReads_31 ?_
      intro ce3 fw3 hk
      have hrd := hrd.tr (fw3 _ (by simp))
      refine aw_vret C E (by decide) (by decide) d_K_forgetReads_34 ?_
      have hz := hrd.to (g' := fun _ => (0 : Int32)) (fun j hj => hg j (by omega))
      have fr := (fr1 hf).trans ((fr1 fw2).trans (fr1 fw3))
      exact ⟨rfl, rfl, fr, hk, hby0.tr (by rw [fw3 _ (by simp), fw2 _ (by simp), hf _ (by simp)]), hdu0.tr (by rw [fw3 _ (by simp), fw2 _ (by simp), hf _ (by simp)]), hwo0.tr (by rw [fw3 _ (by simp), fw2 _ (by simp), hf _ (by simp)]), hz, hpt0.tr (by rw [fw3 _ (by simp), fw2 _ (by simp), hf _ (by simp)]), ⟨hn1, hn2⟩, hps⟩
    | succ m ih =>
      intro a ce1 g ha hf hrd hg
      have hk : ce1 (1, i, 0) = _ := (hf _ (by simp)).trans hk
      refine aw_iload_n C d_K_forgetReads_2 rfl (j := 0) rfl ?_
      refine aw_aload_n C d_K_forgetReads_3 rfl (j := 1) rfl ?_
      refine aw_get C F_K hk 5 (by decide) tw_79 rfl d_K_forgetReads_4 ?_
      refine ar_len C hrd (tt := .boolean) rfl d_K_forgetReads_7 ?_
      refine aw_icmp_ge C (tgt := 24) d_K_forgetReads_8 (by decide) (fun h8 => absurd h8 (nI_ge (by omega) (by omega))) (fun h8 => ?_)
      refine aw_aload_n C d_K_forgetReads_11 rfl (j := 1) rfl ?_
      refine aw_get C F_K hk 5 (by decide) tw_79 rfl d_K_forgetReads_12 ?_
      refine aw_iload_n C d_K_forgetReads_15 rfl (j := 0) rfl ?_
      refine aw_iconst C (v := 0) d_K_forgetReads_16 (by decide) ?_
      refine ar_zast C (v := 0) hrd (j := a) (rfl) (by omega) (by omega) rfl d_K_forgetReads_17 ?_
      intro ce4 fw4 hrd
      have hk : ce4 (1, i, 0) = some (.inr (1, [.int (k_kd c), .long (k_sr c), .ref (ad (1, i, 1)), .ref (ad (1, i, 2)), .ref (ad (1, i, 3)), .ref (ad (1, i, 4)), .ref (ad (1, i, 5)), .int (nI (k_ps c)), .int (nI (cnt (k_rd c) (k_np c))), .int (k_un c), .int (k_st c), .int (k_la c)])) := (fw4 _ (by simp)).trans hk
      refine aw_iinc C (v := nI (a + 1)) (lv' := [(1, .int (nI (a + 1))), (0, .ref (ad (1, i, 0)))]) d_K_forgetReads_18 (j := 0) rfl (nI_1 _) (by decide) rfl ?_
      refine aw_goto C (tgt := 2) d_K_forgetReads_21 (by decide) ?_
      exact ih (a + 1) ce4 (upd g a 0) (by omega) (fun q hq => (fw4 q hq).trans (hf q hq)) hrd (fun j hj => by by_cases e : j = a <;> simp [upd, e]; exact hg j (by omega))
  show AW X 2 0 0 ad ce 0 [(0, .ref (ad (1, i, 0)))] []
  refine aw_iconst C (v := 0) d_K_forgetReads_0 (by decide) ?_
  refine aw_istore_n C (lv' := [(1, .int 0), (0, .ref (ad (1, i, 0)))]) d_K_forgetReads_1 rfl (by decide) rfl ?_
  refine aw_lv (lv' := [(1, .int (nI 0)), (0, .ref (ad (1, i, 0)))]) (by simp only [nI_0]) ?_
  exact loop (k_np c) 0 ce (k_rd c) (by omega) (fun _ _ => rfl) hrd (fun j hj => absurd hj (by omega))
end
section
def k_sPs (c : CarS) (n : Nat) : CarS := k_mk (k_kd c) (k_sr c) (k_np c) (k_by c) (k_du c) (k_wo c) (k_rd c) (k_pt c) n (k_un c) (k_st c) (k_la c)
set_option maxRecDepth 100000 in
set_option maxHeartbeats 4000000 in
theorem c_forgetPasses (l : Launch) (G : aw_G) (ad : aw_Ad) (ce : aw_He) (i : Nat) (c : CarS) (hK : Car ad ce i c) : CT l G M_K_forgetPasses 1 21 0 0 [.ref (ad (1, i, 0))] ad ce (rK none i (k_sNp c) ad ce) := by
  refine CT.of (by decide) (Nat.le_of_ble_eq_true rfl) ?_
  intro X C I E
  obtain ⟨hk, hby, hdu, hwo, hrd, hpt, ⟨hn1, hn2⟩, hps⟩ := hK
  show AW X 1 0 0 ad ce 0 [(0, .ref (ad (1, i, 0)))] []
  refine aw_aload_n C d_K_forgetPasses_0 rfl (j := 0) rfl ?_
  refine aw_iconst C (v := 0) d_K_forgetPasses_1 (by decide) ?_
  refine aw_topi (v' := nI 0) (nI_0.symm) ?_
  refine ob_put C F_K hk 7 (by decide) tw_83 rfl rfl rfl (Nat.le_of_ble_eq_true rfl) (fs' := [.int (k_kd c), .long (k_sr c), .ref (ad (1, i, 1)), .ref (ad (1, i, 2)), .ref (ad (1, i, 3)), .ref (ad (1, i, 4)), .ref (ad (1, i, 5)), .int (nI 0), .int (nI (cnt (k_rd c) (k_np c))), .int (k_un c), .int (k_st c), .int (k_la c)]) rfl d_K_forgetPasses_2 ?_
  intro ce1 fw1 hk
  have hby := hby.tr (fw1 _ (by simp))
  have hdu := hdu.tr (fw1 _ (by simp))
  have hwo := hwo.tr (fw1 _ (by simp))
  have hrd := hrd.tr (fw1 _ (by simp))
  have hpt := hpt.tr (fw1 _ (by simp))
  refine aw_aload_n C d_K_forgetPasses_5 rfl (j := 0) rfl ?_
  have hK1 : Car ad ce1 i (k_sPs c 0) := ⟨hk, hby, hdu, hwo, hrd, hpt, ⟨hn1, hn2⟩, Nat.zero_le _⟩
  refine aw_callV C I (k := (1, i, 0)) (as := []) (rest := []) (c_forgetReads l G ad ce1 i _ hK1) g_K_55 hk rfl rfl ⟨by decide, by decide⟩ ⟨by decide, by decide⟩ rfl (Nat.le_of_ble_eq_true rfl) d_K_forgetPasses_6 ?_
  rintro _ _ ce9 ⟨rfl, rfl, hf2, hK2⟩
  show AW X 1 0 0 ad ce9 9 [(0, .ref (ad (1, i, 0)))] []
  refine aw_vret C E (by decide) (by decide) d_K_forgetPasses_9 ?_
  exact ⟨rfl, rfl, (fr1 fw1).trans (hf2), hK2⟩
set_option maxRecDepth 100000 in
set_option maxHeartbeats 4000000 in
theorem c_patternByte (l : Launch) (G : aw_G) (ad : aw_Ad) (ce : aw_He) (p : Int32) (j : Nat) (b : Int32) : CT l G M_C_patternByte 0 0 0 0 [.int p, .int (nI j), .int b] ad ce (rN (some (.int (pB p j b))) ad ce) := by
  refine CT.of (by decide) (Nat.le_of_ble_eq_true rfl) ?_
  intro X C I E
  show AW X 3 0 0 ad ce 0 [(0, .int p), (1, .int (nI j)), (2, .int b)] []
  refine aw_iload_n C d_C_patternByte_0 rfl (j := 0) rfl ?_
  refine aw_sipush C (v := 256) d_C_patternByte_1 (by decide) ?_
  refine aw_icmp_ne C (tgt := 18) d_C_patternByte_4 (by decide) (fun h4 => ?_) (fun h4 => ?_)
  · refine aw_iload_n C d_C_patternByte_18 rfl (j := 0) rfl ?_
    refine aw_sipush C (v := 257) d_C_patternByte_19 (by decide) ?_
    refine aw_icmp_ne C (tgt := 31) d_C_patternByte_22 (by decide) (fun h22 => ?_) (fun h22 => ?_)
    · refine aw_iload_n C d_C_patternByte_31 rfl (j := 0) rfl ?_
      refine aw_iret C E (rfl) (by decide) (by decide) d_C_patternByte_32 ?_
      exact ⟨sI (by simp [pB, *]), rfl, rfl⟩
    · refine aw_iload_n C d_C_patternByte_25 rfl (j := 2) rfl ?_
      refine aw_sipush C (v := 255) d_C_patternByte_26 (by decide) ?_
      refine aw_ixor C d_C_patternByte_29 ?_
      refine aw_iret C E (rfl) (by decide) (by decide) d_C_patternByte_30 ?_
      exact ⟨sI (by simp [pB, *]), rfl, rfl⟩
  · refine aw_bipush C (v := 7) d_C_patternByte_7 (by decide) ?_
    refine aw_iload_n C d_C_patternByte_9 rfl (j := 1) rfl ?_
    refine aw_imul C d_C_patternByte_10 ?_
    refine aw_iconst C (v := 3) d_C_patternByte_11 (by decide) ?_
    refine aw_iadd C d_C_patternByte_12 ?_
    refine aw_sipush C (v := 255) d_C_patternByte_13 (by decide) ?_
    refine aw_iand C d_C_patternByte_16 ?_
    refine aw_iret C E (rfl) (by decide) (by decide) d_C_patternByte_17 ?_
    exact ⟨sI (by simp [pB, *]), rfl, rfl⟩
set_option maxRecDepth 100000 in
set_option maxHeartbeats 4000000 in
theorem c_over_no (l : Launch) (G : aw_G) (ad : aw_Ad) (ce : aw_He) (i : Nat) (c : CarS) (hK : Car ad ce i c) (p : Int32) (h : ¬ k_st c = 2 ∨ k_ps c = 6) : CT l G M_K_overwrite 1 22 0 0 [.ref (ad (1, i, 0)), .int p] ad ce (rN (some (.int (-1))) ad ce) := by
  refine CT.of (by decide) (Nat.le_of_ble_eq_true rfl) ?_
  intro X C I E
  obtain ⟨hk, hby, hdu, hwo, hrd, hpt, ⟨hn1, hn2⟩, hps⟩ := hK
  show AW X 3 0 0 ad ce 0 [(0, .ref (ad (1, i, 0))), (1, .int p)] []
  refine aw_aload_n C d_K_overwrite_0 rfl (j := 0) rfl ?_
  refine aw_get C F_K hk 10 (by decide) tw_87 rfl d_K_overwrite_1 ?_
  refine aw_iconst C (v := 2) d_K_overwrite_4 (by decide) ?_
  refine aw_icmp_ne C (tgt := 20) d_K_overwrite_5 (by decide) (fun h5 => ?_) (fun h5 => ?_)
  · refine aw_iconst C (v := (-1)) d_K_overwrite_20 (by decide) ?_
    refine aw_iret C E (rfl) (by decide) (by decide) d_K_overwrite_21 ?_
    exact ⟨rfl, rfl, rfl⟩
  · refine aw_aload_n C d_K_overwrite_8 rfl (j := 0) rfl ?_
    refine aw_get C F_K hk 7 (by decide) tw_83 rfl d_K_overwrite_9 ?_
    refine aw_aload_n C d_K_overwrite_12 rfl (j := 0) rfl ?_
    refine aw_get C F_K hk 6 (by decide) tw_81 rfl d_K_overwrite_13 ?_
    refine ar_len C hpt (tt := .int) rfl d_K_overwrite_16 ?_
    refine aw_icmp_lt C (tgt := 22) d_K_overwrite_17 (by decide) (fun h17 => ?_) (fun h17 => ?_)
    · exact absurd h17 (by
        rcases h with h | h
        · exact absurd h5 h
        · rw [h]; decide)
    · refine aw_iconst C (v := (-1)) d_K_overwrite_20 (by decide) ?_
      refine aw_iret C E (rfl) (by decide) (by decide) d_K_overwrite_21 ?_
      exact ⟨rfl, rfl, rfl⟩
set_option maxRecDepth 100000 in
set_option maxHeartbeats 4000000 in
theorem c_over_ok (l : Launch) (G : aw_G) (ad : aw_Ad) (ce : aw_He) (i : Nat) (c : CarS) (hK : Car ad ce i c) (p : Int32) (h2 : k_st c = 2) (hp : k_ps c < 6) : CT l G M_K_overwrite 1 22 0 0 [.ref (ad (1, i, 0)), .int p] ad ce (rK (some (.int (nI (k_ps c + 1)))) i (k_pass c p) ad ce) := by
  refine CT.of (by decide) (Nat.le_of_ble_eq_true rfl) ?_
  intro X C I E
  obtain ⟨hk, hby, hdu, hwo, hrd, hpt, ⟨hn1, hn2⟩, hps⟩ := hK
  have loop : ∀ (m a : Nat) (ce1 : aw_He) (gb gd : Nat → Int32), a + m = k_np c → (∀ q, q ≠ (1, i, 1) → q ≠ (1, i, 2) → ce1 q = ce q) → arI ce1 (1, i, 1) 0 (k_np c) gb → arI ce1 (1, i, 2) 0 (k_np c) gd → (∀ j, j < a → gd j = pB p j (k_by c j)) → (∀ j, gb j = if j < a then (if k_wo c j = 0 then pB p j (k_by c j) else k_by c j) else k_by c j) → AW X 3 0 0 ad ce1 24 [(2, .int (nI a)), (0, .ref (ad (1, i, 0))), (1, .int p)] [] := by
    intro m
    induction m with
    | zero =>
      intro a ce1 gb gd ha hf hby hdu hgd hgb
      have hf' : ∀ q : aw_Lb, q ≠ (1, i, 1) ∧ q ≠ (1, i, 2) → ce1 q = ce q := fun q hq => hf q hq.1 hq.2
      have hk : ce1 (1, i, 0) = some (.inr (1, [.int (k_kd c), .long (k_sr c), .ref (ad (1, i, 1)), .ref (ad (1, i, 2)), .ref (ad (1, i, 3)), .ref (ad (1, i, 4)), .ref (ad (1, i, 5)), .int (nI (k_ps c)), .int (nI (cnt (k_rd c) (k_np c))), .int (k_un c), .int (k_st c), .int (k_la c)])) := (hf' _ (by simp)).trans hk
      have hwo := hwo.tr (hf' _ (by simp))
      have hrd := hrd.tr (hf' _ (by simp))
      have hpt := hpt.tr (hf' _ (by simp))
      refine aw_iload_n C d_K_overwrite_24 rfl (j := 0) rfl ?_
      refine aw_aload_n C d_K_overwrite_25 rfl (j := 1) rfl ?_
      refine aw_get C F_K hk 2 (by decide) tw_75 rfl d_K_overwrite_26 ?_
      refine ar_len C hby (tt := .int) rfl d_K_overwrite_29 ?_
      refine aw_icmp_ge C (tgt := 77) d_K_overwrite_30 (by decide) (fun h30 => ?_) (fun h30 => absurd (nI_le (by omega) (by omega)) h30)
      refine aw_aload_n C d_K_overwrite_77 rfl (j := 1) rfl ?_
      have hK1 : Car ad ce1 i (k_mk (k_kd c) (k_sr c) (k_np c) gb gd (k_wo c) (k_rd c) (k_pt c) (k_ps c) (k_un c) (k_st c) (k_la c)) := ⟨hk, hby, hdu, hwo, hrd, hpt, ⟨hn1, hn2⟩, hps⟩
      refine aw_callV C I (k := (1, i, 0)) (as := []) (rest := []) (c_forgetReads l G ad ce1 i _ hK1) g_K_55 hk rfl rfl ⟨by decide, by decide⟩ ⟨by decide, by decide⟩ rfl (Nat.le_of_ble_eq_true rfl) d_K_overwrite_78 ?_
      rintro _ _ ce9 ⟨rfl, rfl, hf2, hk, hby, hdu, hwo, hrd, hpt, -, -⟩
      have hk : ce9 (1, i, 0) = some (.inr (1, [.int (k_kd c), .long (k_sr c), .ref (ad (1, i, 1)), .ref (ad (1, i, 2)), .ref (ad (1, i, 3)), .ref (ad (1, i, 4)), .ref (ad (1, i, 5)), .int (nI (k_ps c)), .int (nI (cnt (fun _ => 0) (k_np c))), .int 0, .int (k_st c), .int (k_la c)])) := hk
      have hby : arI ce9 (1, i, 1) 0 (k_np c) gb := hby
      have hdu : arI ce9 (1, i, 2) 0 (k_np c) gd := hdu
      have hwo : arI ce9 (1, i, 3) 1 (k_np c) (k_wo c) := hwo
      have hrd : arI ce9 (1, i, 4) 1 (k_np c) (fun _ => 0) := hrd
      have hpt : arI ce9 (1, i, 5) 0 6 (k_pt c) := hpt
      show AW X 3 0 0 ad ce9 81 [(2, .int (nI a)), (0, .ref (ad (1, i, 0))), (1, .int p)] []
      refine aw_aload_n C d_K_overwrite_81 rfl (j := 1) rfl ?_
      refine aw_get C F_K hk 6 (by decide) tw_81 rfl d_K_overwrite_82 ?_
      refine aw_aload_n C d_K_overwrite_85 rfl (j := 1) rfl ?_
      refine aw_get C F_K hk 7 (by decide) tw_83 rfl d_K_overwrite_86 ?_
      refine aw_iload_n C d_K_overwrite_89 rfl (j := 2) rfl ?_
      refine ar_iast C hpt (j := (k_ps c)) (rfl) (by omega) (by omega) d_K_overwrite_90 ?_
      intro ce2 fw2 hpt
      have hk : ce2 (1, i, 0) = some (.inr (1, [.int (k_kd c), .long (k_sr c), .ref (ad (1, i, 1)), .ref (ad (1, i, 2)), .ref (ad (1, i, 3)), .ref (ad (1, i, 4)), .ref (ad (1, i, 5)), .int (nI (k_ps c)), .int (nI (cnt (fun _ => 0) (k_np c))), .int 0, .int (k_st c), .int (k_la c)])) := (fw2 _ (by simp)).trans hk
      have hby := hby.tr (fw2 _ (by simp))
      have hdu := hdu.tr (fw2 _ (by simp))
      have hwo := hwo.tr (fw2 _ (by simp))
      have hrd := hrd.tr (fw2 _ (by simp))
      refine aw_aload_n C d_K_overwrite_91 rfl (j := 1) rfl ?_
      refine aw_dup C d_K_overwrite_92 rfl ?_
      refine aw_get C F_K hk 7 (by decide) tw_83 rfl d_K_overwrite_93 ?_
      refine aw_iconst C (v := 1) d_K_overwrite_96 (by decide) ?_
      refine aw_iadd C d_K_overwrite_97 ?_
      refine aw_topi (v' := nI (k_ps c + 1)) (nI_1 _) ?_
      refine ob_put C F_K hk 7 (by decide) tw_83 rfl rfl rfl (Nat.le_of_ble_eq_true rfl) (fs' := [.int (k_kd c), .long (k_sr c), .ref (ad (1, i, 1)), .ref (ad (1, i, 2)), .ref (ad (1, i, 3)), .ref (ad (1, i, 4)), .ref (ad (1, i, 5)), .int (nI (k_ps c + 1)), .int (nI (cnt (fun _ => 0) (k_np c))), .int 0, .int (k_st c), .int (k_la c)]) rfl d_K_overwrite_98 ?_
      intro ce3 fw3 hk
      have hby := hby.tr (fw3 _ (by simp))
      have hdu := hdu.tr (fw3 _ (by simp))
      have hwo := hwo.tr (fw3 _ (by simp))
      have hrd := hrd.tr (fw3 _ (by simp))
      have hpt := hpt.tr (fw3 _ (by simp))
      refine aw_aload_n C d_K_overwrite_101 rfl (j := 1) rfl ?_
      refine aw_get C F_K hk 7 (by decide) tw_83 rfl d_K_overwrite_102 ?_
      refine aw_iret C E (rfl) (by decide) (by decide) d_K_overwrite_105 ?_
      have fr : frK i ce ce3 := (frK.trans (b := ce1) (fun q hq => hf q (fun e => by subst e; simp at hq) (fun e => by subst e; simp at hq)) hf2).trans ((fr1 fw2).trans (fr1 fw3))
      exact ⟨rfl, rfl, fr, hk, hby.to (fun j hj => by rw [hgb j, if_pos (by omega)]; rfl), hdu.to (fun j hj => hgd j (by omega)), hwo, hrd, hpt, ⟨hn1, hn2⟩, by show k_ps c + 1 ≤ 6; omega⟩
    | succ m ih =>
      intro a ce1 gb gd ha hf hby hdu hgd hgb
      have hf' : ∀ q : aw_Lb, q ≠ (1, i, 1) ∧ q ≠ (1, i, 2) → ce1 q = ce q := fun q hq => hf q hq.1 hq.2
      have hk : ce1 (1, i, 0) = some (.inr (1, [.int (k_kd c), .long (k_sr c), .ref (ad (1, i, 1)), .ref (ad (1, i, 2)), .ref (ad (1, i, 3)), .ref (ad (1, i, 4)), .ref (ad (1, i, 5)), .int (nI (k_ps c)), .int (nI (cnt (k_rd c) (k_np c))), .int (k_un c), .int (k_st c), .int (k_la c)])) := (hf' _ (by simp)).trans hk
      have hwo := hwo.tr (hf' _ (by simp))
      have hrd := hrd.tr (hf' _ (by simp))
      have hpt := hpt.tr (hf' _ (by simp))
      refine aw_iload_n C d_K_overwrite_24 rfl (j := 0) rfl ?_
      refine aw_aload_n C d_K_overwrite_25 rfl (j := 1) rfl ?_
      refine aw_get C F_K hk 2 (by decide) tw_75 rfl d_K_overwrite_26 ?_
      refine ar_len C hby (tt := .int) rfl d_K_overwrite_29 ?_
      refine aw_icmp_ge C (tgt := 77) d_K_overwrite_30 (by decide) (fun h30 => absurd h30 (nI_ge (by omega) (by omega))) (fun h30 => ?_)
      refine aw_aload_n C d_K_overwrite_33 rfl (j := 1) rfl ?_
      refine aw_get C F_K hk 3 (by decide) tw_77 rfl d_K_overwrite_34 ?_
      refine aw_iload_n C d_K_overwrite_37 rfl (j := 0) rfl ?_
      refine aw_iload_n C d_K_overwrite_38 rfl (j := 2) rfl ?_
      refine aw_iload_n C d_K_overwrite_39 rfl (j := 0) rfl ?_
      refine aw_aload_n C d_K_overwrite_40 rfl (j := 1) rfl ?_
      refine aw_get C F_K hk 2 (by decide) tw_75 rfl d_K_overwrite_41 ?_
      refine aw_iload_n C d_K_overwrite_44 rfl (j := 0) rfl ?_
      refine ar_iald C hby (j := a) (rfl) (by omega) (by omega) d_K_overwrite_45 ?_
      refine aw_callSN C I (as := [.int p, .int (nI a), .int (gb a)]) (rest := [.int (nI a), .ref (ad (1, i, 2))]) (c_patternByte l G ad ce1 p a (gb a)) g_K_58 ⟨by decide, by decide⟩ ⟨by decide, by decide⟩ rfl (Nat.le_of_ble_eq_true rfl) d_K_overwrite_46 ?_
      rintro _ _ _ ⟨rfl, rfl, rfl⟩
      show AW X 3 0 0 ad ce1 49 [(2, .int (nI a)), (0, .ref (ad (1, i, 0))), (1, .int p)] [.int (pB p a (gb a)), .int (nI a), .ref (ad (1, i, 2))]
      refine ar_iast C hdu (j := a) (rfl) (by omega) (by omega) d_K_overwrite_49 ?_
      intro ce4 fw4 hdu
      have hk : ce4 (1, i, 0) = some (.inr (1, [.int (k_kd c), .long (k_sr c), .ref (ad (1, i, 1)), .ref (ad (1, i, 2)), .ref (ad (1, i, 3)), .ref (ad (1, i, 4)), .ref (ad (1, i, 5)), .int (nI (k_ps c)), .int (nI (cnt (k_rd c) (k_np c))), .int (k_un c), .int (k_st c), .int (k_la c)])) := (fw4 _ (by simp)).trans hk
      have hby := hby.tr (fw4 _ (by simp))
      have hwo := hwo.tr (fw4 _ (by simp))
      have hrd := hrd.tr (fw4 _ (by simp))
      have hpt := hpt.tr (fw4 _ (by simp))
      refine aw_aload_n C d_K_overwrite_50 rfl (j := 1) rfl ?_
      refine aw_get C F_K hk 4 (by decide) tw_78 rfl d_K_overwrite_51 ?_
      refine aw_iload_n C d_K_overwrite_54 rfl (j := 0) rfl ?_
      refine ar_zald C hwo (j := a) (rfl) (by omega) (by omega) d_K_overwrite_55 ?_
      refine aw_if_ne C (tgt := 71) d_K_overwrite_56 (by decide) (fun h56 => ?_) (fun h56 => ?_)
      · refine aw_iinc C (v := nI (a + 1)) (lv' := [(2, .int (nI (a + 1))), (0, .ref (ad (1, i, 0))), (1, .int p)]) d_K_overwrite_71 (j := 0) rfl (nI_1 _) (by decide) rfl ?_
        refine aw_goto C (tgt := 24) d_K_overwrite_74 (by decide) ?_
        refine ih (a + 1) ce4 gb (upd gd a (pB p a (gb a))) (by omega) (fun q h1 h2 => by rw [fw4 q h2]; exact hf q h1 h2) hby hdu ?_ ?_
        · intro j hj
          by_cases e : j = a
          · subst e; simp [upd, hgb j]
          · simp [upd, e]; exact hgd j (by omega)
        · intro j
          by_cases e : j = a
          · subst e; simp [upd, h56, hgb j]
          · have e2 : (j < a + 1) = (j < a) := by simp; omega
            simp [upd, e, hgb j, e2]
      · refine aw_aload_n C d_K_overwrite_59 rfl (j := 1) rfl ?_
        refine aw_get C F_K hk 2 (by decide) tw_75 rfl d_K_overwrite_60 ?_
        refine aw_iload_n C d_K_overwrite_63 rfl (j := 0) rfl ?_
        refine aw_aload_n C d_K_overwrite_64 rfl (j := 1) rfl ?_
        refine aw_get C F_K hk 3 (by decide) tw_77 rfl d_K_overwrite_65 ?_
        refine aw_iload_n C d_K_overwrite_68 rfl (j := 0) rfl ?_
        refine ar_iald C hdu (j := a) (rfl) (by omega) (by omega) d_K_overwrite_69 ?_
        refine ar_iast C hby (j := a) (rfl) (by omega) (by omega) d_K_overwrite_70 ?_
        intro ce5 fw5 hby
        have hk : ce5 (1, i, 0) = some (.inr (1, [.int (k_kd c), .long (k_sr c), .ref (ad (1, i, 1)), .ref (ad (1, i, 2)), .ref (ad (1, i, 3)), .ref (ad (1, i, 4)), .ref (ad (1, i, 5)), .int (nI (k_ps c)), .int (nI (cnt (k_rd c) (k_np c))), .int (k_un c), .int (k_st c), .int (k_la c)])) := (fw5 _ (by simp)).trans hk
        have hdu := hdu.tr (fw5 _ (by simp))
        have hwo := hwo.tr (fw5 _ (by simp))
        have hrd := hrd.tr (fw5 _ (by simp))
        have hpt := hpt.tr (fw5 _ (by simp))
        refine aw_iinc C (v := nI (a + 1)) (lv' := [(2, .int (nI (a + 1))), (0, .ref (ad (1, i, 0))), (1, .int p)]) d_K_overwrite_71 (j := 0) rfl (nI_1 _) (by decide) rfl ?_
        refine aw_goto C (tgt := 24) d_K_overwrite_74 (by decide) ?_
        refine ih (a + 1) ce5 (upd gb a ((upd gd a (pB p a (gb a))) a)) (upd gd a (pB p a (gb a))) (by omega) (fun q h1 h2 => by rw [fw5 q h1, fw4 q h2]; exact hf q h1 h2) hby hdu ?_ ?_
        · intro j hj
          by_cases e : j = a
          · subst e; simp [upd, hgb j]
          · simp [upd, e]; exact hgd j (by omega)
        · intro j
          by_cases e : j = a
          · subst e; simp [upd, h56, hgb j]
          · have e2 : (j < a + 1) = (j < a) := by simp; omega
            simp [upd, e, hgb j, e2]
  show AW X 3 0 0 ad ce 0 [(0, .ref (ad (1, i, 0))), (1, .int p)] []
  refine aw_aload_n C d_K_overwrite_0 rfl (j := 0) rfl ?_
  refine aw_get C F_K hk 10 (by decide) tw_87 rfl d_K_overwrite_1 ?_
  refine aw_iconst C (v := 2) d_K_overwrite_4 (by decide) ?_
  refine aw_icmp_ne C (tgt := 20) d_K_overwrite_5 (by decide) (fun h5 => absurd h5 (fun q => q h2)) (fun h5 => ?_)
  refine aw_aload_n C d_K_overwrite_8 rfl (j := 0) rfl ?_
  refine aw_get C F_K hk 7 (by decide) tw_83 rfl d_K_overwrite_9 ?_
  refine aw_aload_n C d_K_overwrite_12 rfl (j := 0) rfl ?_
  refine aw_get C F_K hk 6 (by decide) tw_81 rfl d_K_overwrite_13 ?_
  refine ar_len C hpt (tt := .int) rfl d_K_overwrite_16 ?_
  refine aw_icmp_lt C (tgt := 22) d_K_overwrite_17 (by decide) (fun h17 => ?_) (fun h17 => absurd (nI_lt (by omega) (by omega)) h17)
  refine aw_iconst C (v := 0) d_K_overwrite_22 (by decide) ?_
  refine aw_istore_n C (lv' := [(2, .int 0), (0, .ref (ad (1, i, 0))), (1, .int p)]) d_K_overwrite_23 rfl (by decide) rfl ?_
  refine aw_lv (lv' := [(2, .int (nI 0)), (0, .ref (ad (1, i, 0))), (1, .int p)]) (by simp only [nI_0]) ?_
  exact loop (k_np c) 0 ce (k_by c) (k_du c) (by omega) (fun _ _ _ => rfl) hby hdu (fun j hj => absurd hj (by omega)) (fun j => by simp)
set_option maxRecDepth 100000 in
set_option maxHeartbeats 4000000 in
theorem c_read_out (l : Launch) (G : aw_G) (ad : aw_Ad) (ce : aw_He) (i : Nat) (c : CarS) (hK : Car ad ce i c) (x b : Int32) (h : ¬ k_st c = 2 ∨ k_ps c = 0 ∨ (x < 0 ∨ nI (k_np c) ≤ x)) : CT l G M_K_takeReading 1 21 0 0 [.ref (ad (1, i, 0)), .int x, .int b] ad ce (rN (some (.int (-1))) ad ce) := by
  refine CT.of (by decide) (Nat.le_of_ble_eq_true rfl) ?_
  intro X C I E
  have hK0 := hK
  obtain ⟨hk, hby, hdu, hwo, hrd, hpt, ⟨hn1, hn2⟩, hps⟩ := hK0
  show AW X 4 0 0 ad ce 0 [(0, .ref (ad (1, i, 0))), (1, .int x), (2, .int b)] []
  refine aw_aload_n C d_K_takeReading_0 rfl (j := 0) rfl ?_
  refine aw_get C F_K hk 10 (by decide) tw_87 rfl d_K_takeReading_1 ?_
  refine aw_iconst C (v := 2) d_K_takeReading_4 (by decide) ?_
  refine aw_icmp_ne C (tgt := 32) d_K_takeReading_5 (by decide) (fun h5 => ?_) (fun h5 => ?_)
  · refine aw_iconst C (v := (-1)) d_K_takeReading_32 (by decide) ?_
    refine aw_iret C E (rfl) (by decide) (by decide) d_K_takeReading_33 ?_
    exact ⟨rfl, rfl, rfl⟩
  · refine aw_aload_n C d_K_takeReading_8 rfl (j := 0) rfl ?_
    refine aw_get C F_K hk 7 (by decide) tw_83 rfl d_K_takeReading_9 ?_
    refine aw_if_eq C (tgt := 32) d_K_takeReading_12 (by decide) (fun h12 => ?_) (fun h12 => ?_)
    · refine aw_iconst C (v := (-1)) d_K_takeReading_32 (by decide) ?_
      refine aw_iret C E (rfl) (by decide) (by decide) d_K_takeReading_33 ?_
      exact ⟨rfl, rfl, rfl⟩
    · refine aw_aload_n C d_K_takeReading_15 rfl (j := 0) rfl ?_
      refine aw_iload_n C d_K_takeReading_16 rfl (j := 1) rfl ?_
      refine aw_callV C I (k := (1, i, 0)) (as := [.int x]) (rest := []) (c_hasPlace l G ad ce i c hK x) g_K_51 hk rfl rfl ⟨by decide, by decide⟩ ⟨by decide, by decide⟩ rfl (Nat.le_of_ble_eq_true rfl) d_K_takeReading_17 ?_
      rintro _ _ _ ⟨rfl, rfl, rfl⟩
      show AW X 4 0 0 ad ce 20 [(0, .ref (ad (1, i, 0))), (1, .int x), (2, .int b)] [.int (bI (decide (0 ≤ x ∧ x < nI (k_np c))))]
      have hx : x < 0 ∨ nI (k_np c) ≤ x := by
        rcases h with h | h | h
        · exact absurd h5 h
        · exact absurd (by rw [h]; exact nI_0) h12
        · exact h
      refine aw_topi (v' := 0) (by rw [← bI_f (by (try simp only [Int32.le_iff_toInt_le, Int32.lt_iff_toInt_lt] at hx ⊢); omega)]) ?_
      refine aw_if_eq C (tgt := 32) d_K_takeReading_20 (by decide) (fun h20 => ?_) (fun h20 => absurd (rfl) h20)
      refine aw_iconst C (v := (-1)) d_K_takeReading_32 (by decide) ?_
      refine aw_iret C E (rfl) (by decide) (by decide) d_K_takeReading_33 ?_
      exact ⟨rfl, rfl, rfl⟩
set_option maxRecDepth 100000 in
set_option maxHeartbeats 4000000 in
theorem c_read_no (l : Launch) (G : aw_G) (ad : aw_Ad) (ce : aw_He) (i : Nat) (c : CarS) (hK : Car ad ce i c) (j : Nat) (hj : j < k_np c) (b : Int32) (h : ¬ k_st c = 2 ∨ k_ps c = 0 ∨ ¬ k_rd c j = 0) : CT l G M_K_takeReading 1 21 0 0 [.ref (ad (1, i, 0)), .int (nI j), .int b] ad ce (rN (some (.int (-1))) ad ce) := by
  refine CT.of (by decide) (Nat.le_of_ble_eq_true rfl) ?_
  intro X C I E
  have hK0 := hK
  obtain ⟨hk, hby, hdu, hwo, hrd, hpt, ⟨hn1, hn2⟩, hps⟩ := hK0
  show AW X 4 0 0 ad ce 0 [(0, .ref (ad (1, i, 0))), (1, .int (nI j)), (2, .int b)] []
  refine aw_aload_n C d_K_takeReading_0 rfl (j := 0) rfl ?_
  refine aw_get C F_K hk 10 (by decide) tw_87 rfl d_K_takeReading_1 ?_
  refine aw_iconst C (v := 2) d_K_takeReading_4 (by decide) ?_
  refine aw_icmp_ne C (tgt := 32) d_K_takeReading_5 (by decide) (fun h5 => ?_) (fun h5 => ?_)
  · refine aw_iconst C (v := (-1)) d_K_takeReading_32 (by decide) ?_
    refine aw_iret C E (rfl) (by decide) (by decide) d_K_takeReading_33 ?_
    exact ⟨rfl, rfl, rfl⟩
  · refine aw_aload_n C d_K_takeReading_8 rfl (j := 0) rfl ?_
    refine aw_get C F_K hk 7 (by decide) tw_83 rfl d_K_takeReading_9 ?_
    refine aw_if_eq C (tgt := 32) d_K_takeReading_12 (by decide) (fun h12 => ?_) (fun h12 => ?_)
    · refine aw_iconst C (v := (-1)) d_K_takeReading_32 (by decide) ?_
      refine aw_iret C E (rfl) (by decide) (by decide) d_K_takeReading_33 ?_
      exact ⟨rfl, rfl, rfl⟩
    · refine aw_aload_n C d_K_takeReading_15 rfl (j := 0) rfl ?_
      refine aw_iload_n C d_K_takeReading_16 rfl (j := 1) rfl ?_
      refine aw_callV C I (k := (1, i, 0)) (as := [.int (nI j)]) (rest := []) (c_hasPlace l G ad ce i c hK (nI j)) g_K_51 hk rfl rfl ⟨by decide, by decide⟩ ⟨by decide, by decide⟩ rfl (Nat.le_of_ble_eq_true rfl) d_K_takeReading_17 ?_
      rintro _ _ _ ⟨rfl, rfl, rfl⟩
      show AW X 4 0 0 ad ce 20 [(0, .ref (ad (1, i, 0))), (1, .int (nI j)), (2, .int b)] [.int (bI (decide (0 ≤ (nI j) ∧ (nI j) < nI (k_np c))))]
      refine aw_topi (v' := 1) (by rw [← bI_t ⟨nI_pos' (by omega), nI_lt (by omega) (by omega)⟩]) ?_
      show AW X 4 0 0 ad ce 20 [(0, .ref (ad (1, i, 0))), (1, .int (nI j)), (2, .int b)] [.int 1]
      refine aw_if_eq C (tgt := 32) d_K_takeReading_20 (by decide) (fun h20 => absurd h20 (by decide)) (fun h20 => ?_)
      refine aw_aload_n C d_K_takeReading_23 rfl (j := 0) rfl ?_
      refine aw_get C F_K hk 5 (by decide) tw_79 rfl d_K_takeReading_24 ?_
      refine aw_iload_n C d_K_takeReading_27 rfl (j := 1) rfl ?_
      refine ar_zald C hrd (j := j) (rfl) (by omega) (by omega) d_K_takeReading_28 ?_
      have hx : ¬ k_rd c j = 0 := by
        rcases h with h | h | h
        · exact absurd h5 h
        · exact absurd (by rw [h]; exact nI_0) h12
        · exact h
      refine aw_if_eq C (tgt := 34) d_K_takeReading_29 (by decide) (fun h29 => absurd h29 (hx)) (fun h29 => ?_)
      refine aw_iconst C (v := (-1)) d_K_takeReading_32 (by decide) ?_
      refine aw_iret C E (rfl) (by decide) (by decide) d_K_takeReading_33 ?_
      exact ⟨rfl, rfl, rfl⟩
set_option maxRecDepth 100000 in
set_option maxHeartbeats 4000000 in
theorem c_read_ok (l : Launch) (G : aw_G) (ad : aw_Ad) (ce : aw_He) (i : Nat) (c : CarS) (hK : Car ad ce i c) (j : Nat) (hj : j < k_np c) (b : Int32) (h2 : k_st c = 2) (hp : ¬ k_ps c = 0) (hr : k_rd c j = 0) : CT l G M_K_takeReading 1 21 0 0 [.ref (ad (1, i, 0)), .int (nI j), .int b] ad ce (rK (some (.int (if b = k_du c j then 1 else 0))) i (k_read c j b) ad ce) := by
  refine CT.of (by decide) (Nat.le_of_ble_eq_true rfl) ?_
  intro X C I E
  have hK0 := hK
  obtain ⟨hk, hby, hdu, hwo, hrd, hpt, ⟨hn1, hn2⟩, hps⟩ := hK0
  show AW X 4 0 0 ad ce 0 [(0, .ref (ad (1, i, 0))), (1, .int (nI j)), (2, .int b)] []
  refine aw_aload_n C d_K_takeReading_0 rfl (j := 0) rfl ?_
  refine aw_get C F_K hk 10 (by decide) tw_87 rfl d_K_takeReading_1 ?_
  refine aw_iconst C (v := 2) d_K_takeReading_4 (by decide) ?_
  refine aw_icmp_ne C (tgt := 32) d_K_takeReading_5 (by decide) (fun h5 => absurd h5 (fun q => q h2)) (fun h5 => ?_)
  refine aw_aload_n C d_K_takeReading_8 rfl (j := 0) rfl ?_
  refine aw_get C F_K hk 7 (by decide) tw_83 rfl d_K_takeReading_9 ?_
  refine aw_if_eq C (tgt := 32) d_K_takeReading_12 (by decide) (fun h12 => absurd h12 (nI_ne0 (by omega) (by omega))) (fun h12 => ?_)
  refine aw_aload_n C d_K_takeReading_15 rfl (j := 0) rfl ?_
  refine aw_iload_n C d_K_takeReading_16 rfl (j := 1) rfl ?_
  refine aw_callV C I (k := (1, i, 0)) (as := [.int (nI j)]) (rest := []) (c_hasPlace l G ad ce i c hK (nI j)) g_K_51 hk rfl rfl ⟨by decide, by decide⟩ ⟨by decide, by decide⟩ rfl (Nat.le_of_ble_eq_true rfl) d_K_takeReading_17 ?_
  rintro _ _ _ ⟨rfl, rfl, rfl⟩
  show AW X 4 0 0 ad ce 20 [(0, .ref (ad (1, i, 0))), (1, .int (nI j)), (2, .int b)] [.int (bI (decide (0 ≤ (nI j) ∧ (nI j) < nI (k_np c))))]
  refine aw_topi (v' := 1) (by rw [← bI_t ⟨nI_pos' (by omega), nI_lt (by omega) (by omega)⟩]) ?_
  show AW X 4 0 0 ad ce 20 [(0, .ref (ad (1, i, 0))), (1, .int (nI j)), (2, .int b)] [.int 1]
  refine aw_if_eq C (tgt := 32) d_K_takeReading_20 (by decide) (fun h20 => absurd h20 (by decide)) (fun h20 => ?_)
  refine aw_aload_n C d_K_takeReading_23 rfl (j := 0) rfl ?_
  refine aw_get C F_K hk 5 (by decide) tw_79 rfl d_K_takeReading_24 ?_
  refine aw_iload_n C d_K_takeReading_27 rfl (j := 1) rfl ?_
  refine ar_zald C hrd (j := j) (rfl) (by omega) (by omega) d_K_takeReading_28 ?_
  refine aw_if_eq C (tgt := 34) d_K_takeReading_29 (by decide) (fun h29 => ?_) (fun h29 => absurd (hr) h29)
  refine aw_aload_n C d_K_takeReading_34 rfl (j := 0) rfl ?_
  refine aw_get C F_K hk 5 (by decide) tw_79 rfl d_K_takeReading_35 ?_
  refine aw_iload_n C d_K_takeReading_38 rfl (j := 1) rfl ?_
  refine aw_iconst C (v := 1) d_K_takeReading_39 (by decide) ?_
  refine ar_zast C (v := 1) hrd (j := j) (rfl) (by omega) (by omega) rfl d_K_takeReading_40 ?_
  intro ce6 fw6 hrd
  have hk : ce6 (1, i, 0) = some (.inr (1, [.int (k_kd c), .long (k_sr c), .ref (ad (1, i, 1)), .ref (ad (1, i, 2)), .ref (ad (1, i, 3)), .ref (ad (1, i, 4)), .ref (ad (1, i, 5)), .int (nI (k_ps c)), .int (nI (cnt (k_rd c) (k_np c))), .int (k_un c), .int (k_st c), .int (k_la c)])) := (fw6 _ (by simp)).trans hk
  have hby := hby.tr (fw6 _ (by simp))
  have hdu := hdu.tr (fw6 _ (by simp))
  have hwo := hwo.tr (fw6 _ (by simp))
  have hpt := hpt.tr (fw6 _ (by simp))
  refine aw_aload_n C d_K_takeReading_41 rfl (j := 0) rfl ?_
  refine aw_dup C d_K_takeReading_42 rfl ?_
  refine aw_get C F_K hk 8 (by decide) tw_84 rfl d_K_takeReading_43 ?_
  refine aw_iconst C (v := 1) d_K_takeReading_46 (by decide) ?_
  refine aw_iadd C d_K_takeReading_47 ?_
  refine aw_topi (v' := nI (cnt (upd (k_rd c) j 1) (k_np c))) (by rw [cnt_upd hj hr (by decide)]; exact nI_1 _) ?_
  refine ob_put C F_K hk 8 (by decide) tw_84 rfl rfl rfl (Nat.le_of_ble_eq_true rfl) (fs' := [.int (k_kd c), .long (k_sr c), .ref (ad (1, i, 1)), .ref (ad (1, i, 2)), .ref (ad (1, i, 3)), .ref (ad (1, i, 4)), .ref (ad (1, i, 5)), .int (nI (k_ps c)), .int (nI (cnt (upd (k_rd c) j 1) (k_np c))), .int (k_un c), .int (k_st c), .int (k_la c)]) rfl d_K_takeReading_48 ?_
  intro ce7 fw7 hk
  have hby := hby.tr (fw7 _ (by simp))
  have hdu := hdu.tr (fw7 _ (by simp))
  have hwo := hwo.tr (fw7 _ (by simp))
  have hrd := hrd.tr (fw7 _ (by simp))
  have hpt := hpt.tr (fw7 _ (by simp))
  refine aw_iload_n C d_K_takeReading_51 rfl (j := 2) rfl ?_
  refine aw_aload_n C d_K_takeReading_52 rfl (j := 0) rfl ?_
  refine aw_get C F_K hk 3 (by decide) tw_77 rfl d_K_takeReading_53 ?_
  refine aw_iload_n C d_K_takeReading_56 rfl (j := 1) rfl ?_
  refine ar_iald C hdu (j := j) (rfl) (by omega) (by omega) d_K_takeReading_57 ?_
  refine aw_icmp_ne C (tgt := 65) d_K_takeReading_58 (by decide) (fun h58 => ?_) (fun h58 => ?_)
  · refine aw_iconst C (v := 0) d_K_takeReading_65 (by decide) ?_
    refine aw_istore_n C (lv' := [(3, .int 0), (0, .ref (ad (1, i, 0))), (1, .int (nI j)), (2, .int b)]) d_K_takeReading_66 rfl (by decide) rfl ?_
    refine aw_iload_n C d_K_takeReading_67 rfl (j := 0) rfl ?_
    refine aw_if_ne C (tgt := 81) d_K_takeReading_68 (by decide) (fun h68 => absurd h68 (by decide)) (fun h68 => ?_)
    refine aw_aload_n C d_K_takeReading_71 rfl (j := 1) rfl ?_
    refine aw_dup C d_K_takeReading_72 rfl ?_
    refine aw_get C F_K hk 9 (by decide) tw_85 rfl d_K_takeReading_73 ?_
    refine aw_iconst C (v := 1) d_K_takeReading_76 (by decide) ?_
    refine aw_iadd C d_K_takeReading_77 ?_
    refine ob_put C F_K hk 9 (by decide) tw_85 rfl rfl rfl (Nat.le_of_ble_eq_true rfl) (fs' := [.int (k_kd c), .long (k_sr c), .ref (ad (1, i, 1)), .ref (ad (1, i, 2)), .ref (ad (1, i, 3)), .ref (ad (1, i, 4)), .ref (ad (1, i, 5)), .int (nI (k_ps c)), .int (nI (cnt (upd (k_rd c) j 1) (k_np c))), .int ((k_un c) + 1), .int (k_st c), .int (k_la c)]) rfl d_K_takeReading_78 ?_
    intro ce8 fw8 hk
    have hby := hby.tr (fw8 _ (by simp))
    have hdu := hdu.tr (fw8 _ (by simp))
    have hwo := hwo.tr (fw8 _ (by simp))
    have hrd := hrd.tr (fw8 _ (by simp))
    have hpt := hpt.tr (fw8 _ (by simp))
    refine aw_aload_n C d_K_takeReading_81 rfl (j := 1) rfl ?_
    refine aw_get C F_K hk 8 (by decide) tw_84 rfl d_K_takeReading_82 ?_
    refine aw_aload_n C d_K_takeReading_85 rfl (j := 1) rfl ?_
    refine aw_get C F_K hk 2 (by decide) tw_75 rfl d_K_takeReading_86 ?_
    refine ar_len C hby (tt := .int) rfl d_K_takeReading_89 ?_
    refine aw_icmp_ne C (tgt := 105) d_K_takeReading_90 (by decide) (fun h90 => ?_) (fun h90 => ?_)
    · refine aw_iload_n C d_K_takeReading_105 rfl (j := 0) rfl ?_
      refine aw_if_eq C (tgt := 113) d_K_takeReading_106 (by decide) (fun h106 => ?_) (fun h106 => absurd (rfl) h106)
      refine aw_iconst C (v := 0) d_K_takeReading_113 (by decide) ?_
      refine aw_iret C E (rfl) (by decide) (by decide) d_K_takeReading_114 ?_
      have e5 : k_rdU c j b = k_un c + 1 := by simp [k_rdU, h58]
      have e6 : k_st c = k_st (k_read c j b) := (if_neg (fun q => h90 (by rw [q.1]))).symm
      exact ⟨sI (by simp [h58]), rfl, ((fr1 fw6).trans (fr1 fw7)).trans (fr1 fw8), Car.of hk rfl rfl rfl rfl e5.symm e6 rfl hby hdu hwo hrd hpt ⟨hn1, hn2⟩ hps⟩
    · refine aw_aload_n C d_K_takeReading_93 rfl (j := 1) rfl ?_
      refine aw_get C F_K hk 9 (by decide) tw_85 rfl d_K_takeReading_94 ?_
      refine aw_if_ne C (tgt := 105) d_K_takeReading_97 (by decide) (fun h97 => ?_) (fun h97 => ?_)
      · refine aw_iload_n C d_K_takeReading_105 rfl (j := 0) rfl ?_
        refine aw_if_eq C (tgt := 113) d_K_takeReading_106 (by decide) (fun h106 => ?_) (fun h106 => absurd (rfl) h106)
        refine aw_iconst C (v := 0) d_K_takeReading_113 (by decide) ?_
        refine aw_iret C E (rfl) (by decide) (by decide) d_K_takeReading_114 ?_
        have e5 : k_rdU c j b = k_un c + 1 := by simp [k_rdU, h58]
        have e6 : k_st c = k_st (k_read c j b) := (if_neg (fun q => h97 (by rw [← e5]; exact q.2))).symm
        exact ⟨sI (by simp [h58]), rfl, ((fr1 fw6).trans (fr1 fw7)).trans (fr1 fw8), Car.of hk rfl rfl rfl rfl e5.symm e6 rfl hby hdu hwo hrd hpt ⟨hn1, hn2⟩ hps⟩
      · refine aw_aload_n C d_K_takeReading_100 rfl (j := 1) rfl ?_
        refine aw_iconst C (v := 3) d_K_takeReading_101 (by decide) ?_
        refine ob_put C F_K hk 10 (by decide) tw_87 rfl rfl rfl (Nat.le_of_ble_eq_true rfl) (fs' := [.int (k_kd c), .long (k_sr c), .ref (ad (1, i, 1)), .ref (ad (1, i, 2)), .ref (ad (1, i, 3)), .ref (ad (1, i, 4)), .ref (ad (1, i, 5)), .int (nI (k_ps c)), .int (nI (cnt (upd (k_rd c) j 1) (k_np c))), .int ((k_un c) + 1), .int 3, .int (k_la c)]) rfl d_K_takeReading_102 ?_
        intro ce9 fw9 hk
        have hby := hby.tr (fw9 _ (by simp))
        have hdu := hdu.tr (fw9 _ (by simp))
        have hwo := hwo.tr (fw9 _ (by simp))
        have hrd := hrd.tr (fw9 _ (by simp))
        have hpt := hpt.tr (fw9 _ (by simp))
        refine aw_iload_n C d_K_takeReading_105 rfl (j := 0) rfl ?_
        refine aw_if_eq C (tgt := 113) d_K_takeReading_106 (by decide) (fun h106 => ?_) (fun h106 => absurd (rfl) h106)
        refine aw_iconst C (v := 0) d_K_takeReading_113 (by decide) ?_
        refine aw_iret C E (rfl) (by decide) (by decide) d_K_takeReading_114 ?_
        have e5 : k_rdU c j b = k_un c + 1 := by simp [k_rdU, h58]
        have hc := cnt_le (upd (k_rd c) j 1) (k_np c)
        have e6 : (3 : Int32) = k_st (k_read c j b) := (if_pos ⟨(nI_eq (by omega) (by omega)).mp h90, by rw [e5]; exact h97⟩).symm
        exact ⟨sI (by simp [h58]), rfl, (((fr1 fw6).trans (fr1 fw7)).trans (fr1 fw8)).trans (fr1 fw9), Car.of hk rfl rfl rfl rfl e5.symm e6 rfl hby hdu hwo hrd hpt ⟨hn1, hn2⟩ hps⟩
  · refine aw_iconst C (v := 1) d_K_takeReading_61 (by decide) ?_
    refine aw_goto C (tgt := 66) d_K_takeReading_62 (by decide) ?_
    refine aw_istore_n C (lv' := [(3, .int 1), (0, .ref (ad (1, i, 0))), (1, .int (nI j)), (2, .int b)]) d_K_takeReading_66 rfl (by decide) rfl ?_
    refine aw_iload_n C d_K_takeReading_67 rfl (j := 0) rfl ?_
    refine aw_if_ne C (tgt := 81) d_K_takeReading_68 (by decide) (fun h68 => ?_) (fun h68 => absurd h68 (by decide))
    refine aw_aload_n C d_K_takeReading_81 rfl (j := 1) rfl ?_
    refine aw_get C F_K hk 8 (by decide) tw_84 rfl d_K_takeReading_82 ?_
    refine aw_aload_n C d_K_takeReading_85 rfl (j := 1) rfl ?_
    refine aw_get C F_K hk 2 (by decide) tw_75 rfl d_K_takeReading_86 ?_
    refine ar_len C hby (tt := .int) rfl d_K_takeReading_89 ?_
    refine aw_icmp_ne C (tgt := 105) d_K_takeReading_90 (by decide) (fun h90 => ?_) (fun h90 => ?_)
    · refine aw_iload_n C d_K_takeReading_105 rfl (j := 0) rfl ?_
      refine aw_if_eq C (tgt := 113) d_K_takeReading_106 (by decide) (fun h106 => absurd h106 (by decide)) (fun h106 => ?_)
      refine aw_iconst C (v := 1) d_K_takeReading_109 (by decide) ?_
      refine aw_goto C (tgt := 114) d_K_takeReading_110 (by decide) ?_
      refine aw_iret C E (rfl) (by decide) (by decide) d_K_takeReading_114 ?_
      have e5 : k_rdU c j b = k_un c := by simp [k_rdU, h58]
      have e6 : k_st c = k_st (k_read c j b) := (if_neg (fun q => h90 (by rw [q.1]))).symm
      exact ⟨sI (by simp [h58]), rfl, (fr1 fw6).trans (fr1 fw7), Car.of hk rfl rfl rfl rfl e5.symm e6 rfl hby hdu hwo hrd hpt ⟨hn1, hn2⟩ hps⟩
    · refine aw_aload_n C d_K_takeReading_93 rfl (j := 1) rfl ?_
      refine aw_get C F_K hk 9 (by decide) tw_85 rfl d_K_takeReading_94 ?_
      refine aw_if_ne C (tgt := 105) d_K_takeReading_97 (by decide) (fun h97 => ?_) (fun h97 => ?_)
      · refine aw_iload_n C d_K_takeReading_105 rfl (j := 0) rfl ?_
        refine aw_if_eq C (tgt := 113) d_K_takeReading_106 (by decide) (fun h106 => absurd h106 (by decide)) (fun h106 => ?_)
        refine aw_iconst C (v := 1) d_K_takeReading_109 (by decide) ?_
        refine aw_goto C (tgt := 114) d_K_takeReading_110 (by decide) ?_
        refine aw_iret C E (rfl) (by decide) (by decide) d_K_takeReading_114 ?_
        have e5 : k_rdU c j b = k_un c := by simp [k_rdU, h58]
        have e6 : k_st c = k_st (k_read c j b) := (if_neg (fun q => h97 (by rw [← e5]; exact q.2))).symm
        exact ⟨sI (by simp [h58]), rfl, (fr1 fw6).trans (fr1 fw7), Car.of hk rfl rfl rfl rfl e5.symm e6 rfl hby hdu hwo hrd hpt ⟨hn1, hn2⟩ hps⟩
      · refine aw_aload_n C d_K_takeReading_100 rfl (j := 1) rfl ?_
        refine aw_iconst C (v := 3) d_K_takeReading_101 (by decide) ?_
        refine ob_put C F_K hk 10 (by decide) tw_87 rfl rfl rfl (Nat.le_of_ble_eq_true rfl) (fs' := [.int (k_kd c), .long (k_sr c), .ref (ad (1, i, 1)), .ref (ad (1, i, 2)), .ref (ad (1, i, 3)), .ref (ad (1, i, 4)), .ref (ad (1, i, 5)), .int (nI (k_ps c)), .int (nI (cnt (upd (k_rd c) j 1) (k_np c))), .int (k_un c), .int 3, .int (k_la c)]) rfl d_K_takeReading_102 ?_
        intro ce10 fw10 hk
        have hby := hby.tr (fw10 _ (by simp))
        have hdu := hdu.tr (fw10 _ (by simp))
        have hwo := hwo.tr (fw10 _ (by simp))
        have hrd := hrd.tr (fw10 _ (by simp))
        have hpt := hpt.tr (fw10 _ (by simp))
        refine aw_iload_n C d_K_takeReading_105 rfl (j := 0) rfl ?_
        refine aw_if_eq C (tgt := 113) d_K_takeReading_106 (by decide) (fun h106 => absurd h106 (by decide)) (fun h106 => ?_)
        refine aw_iconst C (v := 1) d_K_takeReading_109 (by decide) ?_
        refine aw_goto C (tgt := 114) d_K_takeReading_110 (by decide) ?_
        refine aw_iret C E (rfl) (by decide) (by decide) d_K_takeReading_114 ?_
        have e5 : k_rdU c j b = k_un c := by simp [k_rdU, h58]
        have hc := cnt_le (upd (k_rd c) j 1) (k_np c)
        have e6 : (3 : Int32) = k_st (k_read c j b) := (if_pos ⟨(nI_eq (by omega) (by omega)).mp h90, by rw [e5]; exact h97⟩).symm
        exact ⟨sI (by simp [h58]), rfl, ((fr1 fw6).trans (fr1 fw7)).trans (fr1 fw10), Car.of hk rfl rfl rfl rfl e5.symm e6 rfl hby hdu hwo hrd hpt ⟨hn1, hn2⟩ hps⟩
end
section
/-! the system's steps, in numbers -/
def s_set (S : SysS) (i : Nat) (c : CarS) : SysS := (s_cn S, va_up (s_car S) i c, s_pn S, s_pap S, s_ln S, s_li S, s_on S, s_lo S)
theorem Car.tr {ad ad' : aw_Ad} {ce ce' : aw_He} {i : Nat} {c : CarS} (h : Car ad ce i c) (ha : ∀ p, ad' (1, i, p) = ad (1, i, p)) (hf : ∀ p, ce' (1, i, p) = ce (1, i, p)) : Car ad' ce' i c := by
  obtain ⟨hk, hby, hdu, hwo, hrd, hpt, hn, hps⟩ := h
  exact ⟨by rw [hf, hk, ha, ha, ha, ha, ha], hby.tr (hf _), hdu.tr (hf _), hwo.tr (hf _), hrd.tr (hf _), hpt.tr (hf _), hn, hps⟩
theorem Pap.tr {ad ad' : aw_Ad} {ce ce' : aw_He} {j : Nat} {p : PapS} (h : Pap ad ce j p) (ha : ∀ p, ad' (2, j, p) = ad (2, j, p)) (hf : ∀ p, ce' (2, j, p) = ce (2, j, p)) : Pap ad' ce' j p := by
  obtain ⟨h1, h2, h3⟩ := h
  exact ⟨by rw [hf, h1, ha], h2.tr (hf _), h3⟩
theorem LayC.car {S : SysS} {ad : aw_Ad} {ce ce' : aw_He} {i : Nat} {c : CarS} (hL : LayC S ad ce) (hi : i < s_cn S) (hf : frK i ce ce') (hK : Car ad ce' i c) : LayC (s_set S i c) ad ce' := by
  obtain ⟨ho, hca, hpa, hli, hlo, hcars, hpaps, hnoc, hnop, hb⟩ := hL
  have h0 : ∀ p, ce' (0, 0, p) = ce (0, 0, p) := fun p => hf _ (Or.inl (by simp))
  refine ⟨(h0 _).trans ho, hca.tr (h0 _), hpa.tr (h0 _), hli.tr (h0 _), hlo.tr (h0 _), fun j hj => ?_, fun j hj => (hpaps j hj).tr (fun _ => rfl) (fun p => hf _ (Or.inl (by simp))), fun j p hj => ?_, fun j p hj => (hf _ (Or.inl (by simp))).trans (hnop j p hj), hb⟩
  · by_cases e : j = i
    · subst e
      show Car ad ce' j (va_up (s_car S) j c j)
      rw [va_up_self]; exact hK
    · show Car ad ce' j (va_up (s_car S) i c j)
      rw [va_up_ne _ _ e]
      exact (hcars j hj).tr (fun _ => rfl) (fun p => hf _ (Or.inr e))
  · have hj' : s_cn S ≤ j := hj
    exact (hf _ (Or.inr (by show j ≠ i; omega))).trans (hnoc j p hj)
/-- an answer, the class's cells hold S' now, the reference's are as they were -/
def rC (v : Option Value) (S' : SysS) (ad : aw_Ad) (ce : aw_He) : Option Value → aw_Ad → aw_He → Prop := fun r ad' ce' => r = v ∧ (∀ q : aw_Lb, q.1 = 3 → ad' q = ad q ∧ ce' q = ce q) ∧ ad' (0, 0, 0) = ad (0, 0, 0) ∧ LayC S' ad' ce'
theorem rC.of {v : Option Value} {S : SysS} {ad : aw_Ad} {ce : aw_He} {r : Option Value} {ad' : aw_Ad} {ce' : aw_He} (hL : LayC S ad ce) (h : rN v ad ce r ad' ce') : rC v S ad ce r ad' ce' := by
  obtain ⟨rfl, rfl, rfl⟩ := h
  exact ⟨rfl, fun _ _ => ⟨rfl, rfl⟩, rfl, hL⟩
theorem rC.car {v : Option Value} {S : SysS} {ad : aw_Ad} {ce ce' : aw_He} {i : Nat} {c : CarS} (hL : LayC S ad ce) (hi : i < s_cn S) (hf : frK i ce ce') (hK : Car ad ce' i c) : rC v (s_set S i c) ad ce v ad ce' :=
  ⟨rfl, fun q hq => ⟨rfl, hf q (Or.inl (by omega))⟩, rfl, hL.car hi hf hK⟩
def evTo (e s : Int32) : Int32 := if e = 0 then (if s = 0 then 1 else -1) else if e = 1 then (if s = 1 then 0 else -1) else if e = 2 then (if s ≤ 3 then 4 else -1) else if e = 3 then (if s = 1 then 2 else -1) else if e = 4 then (if s = 3 then 1 else -1) else -1
/-- one field into the mark -/
def mkS (x : Int64) (v : Int32) : Int64 := ((x + v.toInt64 + 1) * 6364136223846793005) ^^^ (((x + v.toInt64 + 1) * 6364136223846793005).toUInt64 >>> ((32 : Int32).toInt64.toUInt64 &&& Int64.toUInt64 63)).toInt64
def fldM (st : Int64 → Int32 → Int64) (f : Nat → Int32) : Nat → Nat → Int64 → Int64
  | 0, _, x => x
  | m + 1, a, x => fldM st f m (a + 1) (st x (f a))
theorem fldM_0 (st : Int64 → Int32 → Int64) (f : Nat → Int32) (a : Nat) (x : Int64) : fldM st f 0 a x = x := rfl
theorem fldM_s (st : Int64 → Int32 → Int64) (f : Nat → Int32) (m a : Nat) (x : Int64) : fldM st f (m + 1) a x = fldM st f m (a + 1) (st x (f a)) := rfl
def anyF (f : Nat → Int64) (x : Int64) : Nat → Nat → Bool
  | 0, _ => false
  | m + 1, a => decide (f a = x) || anyF f x m (a + 1)
theorem sw5 {x : Int32} (h0 : ¬ x = 0) (h1 : ¬ x = 1) (h2 : ¬ x = 2) (h3 : ¬ x = 3) (h4 : ¬ x = 4) : x.toInt < 0 ∨ 4 < x.toInt := by
  have n0 := lv_neT (a := 0) h0 rfl
  have n1 := lv_neT (a := 1) h1 rfl
  have n2 := lv_neT (a := 2) h2 rfl
  have n3 := lv_neT (a := 3) h3 rfl
  have n4 := lv_neT (a := 4) h4 rfl
  omega
end
section
theorem aw_sub {X : aw_X} {nL cells slots : Nat} {ad : aw_Ad} {ce : aw_He} {pc : Nat} {lv lv' : List (Nat × Value)} {st : List Value} (h : ∀ q ∈ lv', q ∈ lv) (k : AW X nL cells slots ad ce pc lv' st) : AW X nL cells slots ad ce pc lv st := by
  obtain ⟨p, l, e, R, s, m, args, below, meth, c, Q, G⟩ := X
  intro H locs ls hH hS hl
  exact k H locs ls hH hS ⟨hl.1, hl.2.1, fun q hq => hl.2.2 q (h q hq)⟩
set_option maxRecDepth 100000 in
set_option maxHeartbeats 4000000 in
theorem c_leadsFrom (l : Launch) (G : aw_G) (ad : aw_Ad) (ce : aw_He) (x s : Int32) (hs : 0 ≤ s) : CT l G M_C_leadsFrom 1 22 0 0 [.int x, .int s] ad ce (rN (some (.int (bI (decide (0 ≤ evTo x s))))) ad ce) := by
  refine CT.of (by decide) (Nat.le_of_ble_eq_true rfl) ?_
  intro X C I E
  by_cases h0 : x = 0
  · subst h0
    show AW X 2 0 0 ad ce 0 [(0, .int 0), (1, .int s)] []
    refine aw_iload_n C d_C_leadsFrom_0 rfl (j := 0) rfl ?_
    refine aw_tableIn C (tgt := 36) d_C_leadsFrom_1 (by decide) (by decide) rfl (by decide) ?_
    refine aw_iload_n C d_C_leadsFrom_36 rfl (j := 1) rfl ?_
    refine aw_if_ne C (tgt := 44) d_C_leadsFrom_37 (by decide) (fun h37 => ?_) (fun h37 => ?_)
    · refine aw_iconst C (v := 0) d_C_leadsFrom_44 (by decide) ?_
      refine aw_iret C E (rfl) (by decide) (by decide) d_C_leadsFrom_45 ?_
      exact ⟨sI (by rw [show evTo 0 s = -1 from by simp [evTo, h37]]; decide), rfl, rfl⟩
    · refine aw_iconst C (v := 1) d_C_leadsFrom_40 (by decide) ?_
      refine aw_goto C (tgt := 45) d_C_leadsFrom_41 (by decide) ?_
      refine aw_iret C E (rfl) (by decide) (by decide) d_C_leadsFrom_45 ?_
      exact ⟨sI (by rw [show evTo 0 s = 1 from by simp [evTo, h37]]; decide), rfl, rfl⟩
  by_cases h1 : x = 1
  · subst h1
    show AW X 2 0 0 ad ce 0 [(0, .int 1), (1, .int s)] []
    refine aw_iload_n C d_C_leadsFrom_0 rfl (j := 0) rfl ?_
    refine aw_tableIn C (tgt := 46) d_C_leadsFrom_1 (by decide) (by decide) rfl (by decide) ?_
    refine aw_iload_n C d_C_leadsFrom_46 rfl (j := 1) rfl ?_
    refine aw_iconst C (v := 1) d_C_leadsFrom_47 (by decide) ?_
    refine aw_icmp_ne C (tgt := 55) d_C_leadsFrom_48 (by decide) (fun h48 => ?_) (fun h48 => ?_)
    · refine aw_iconst C (v := 0) d_C_leadsFrom_55 (by decide) ?_
      refine aw_iret C E (rfl) (by decide) (by decide) d_C_leadsFrom_56 ?_
      exact ⟨sI (by rw [show evTo 1 s = -1 from by simp [evTo, h48]]; decide), rfl, rfl⟩
    · refine aw_iconst C (v := 1) d_C_leadsFrom_51 (by decide) ?_
      refine aw_goto C (tgt := 56) d_C_leadsFrom_52 (by decide) ?_
      refine aw_iret C E (rfl) (by decide) (by decide) d_C_leadsFrom_56 ?_
      exact ⟨sI (by rw [show evTo 1 s = 0 from by simp [evTo, h48]]; decide), rfl, rfl⟩
  by_cases h2 : x = 2
  · subst h2
    show AW X 2 0 0 ad ce 0 [(0, .int 2), (1, .int s)] []
    refine aw_iload_n C d_C_leadsFrom_0 rfl (j := 0) rfl ?_
    refine aw_tableIn C (tgt := 57) d_C_leadsFrom_1 (by decide) (by decide) rfl (by decide) ?_
    refine aw_iload_n C d_C_leadsFrom_57 rfl (j := 1) rfl ?_
    refine aw_iconst C (v := 0) d_C_leadsFrom_58 (by decide) ?_
    refine aw_iconst C (v := 3) d_C_leadsFrom_59 (by decide) ?_
    refine aw_callS C I (as := [.int s, .int 0, .int 3]) (rest := []) (c_within l G ad ce s 0 3) g_C_42 ⟨by decide, by decide⟩ ⟨by decide, by decide⟩ rfl (Nat.le_of_ble_eq_true rfl) d_C_leadsFrom_60 ?_
    rintro _ _ _ ⟨rfl, rfl, rfl⟩
    show AW X 2 0 0 ad ce 63 [(0, .int 2), (1, .int s)] [.int (bI (decide (0 ≤ s ∧ s ≤ 3)))]
    refine aw_iret C E (nar_bI _) (by decide) (by decide) d_C_leadsFrom_63 ?_
    refine ⟨sI ?_, rfl, rfl⟩
    by_cases h : s ≤ 3
    · rw [show evTo 2 s = 4 from by simp [evTo, h]]; simp [hs, h]
    · rw [show evTo 2 s = -1 from by simp [evTo, h]]; simp [h]
  by_cases h3 : x = 3
  · subst h3
    show AW X 2 0 0 ad ce 0 [(0, .int 3), (1, .int s)] []
    refine aw_iload_n C d_C_leadsFrom_0 rfl (j := 0) rfl ?_
    refine aw_tableIn C (tgt := 46) d_C_leadsFrom_1 (by decide) (by decide) rfl (by decide) ?_
    refine aw_iload_n C d_C_leadsFrom_46 rfl (j := 1) rfl ?_
    refine aw_iconst C (v := 1) d_C_leadsFrom_47 (by decide) ?_
    refine aw_icmp_ne C (tgt := 55) d_C_leadsFrom_48 (by decide) (fun h48 => ?_) (fun h48 => ?_)
    · refine aw_iconst C (v := 0) d_C_leadsFrom_55 (by decide) ?_
      refine aw_iret C E (rfl) (by decide) (by decide) d_C_leadsFrom_56 ?_
      exact ⟨sI (by rw [show evTo 3 s = -1 from by simp [evTo, h48]]; decide), rfl, rfl⟩
    · refine aw_iconst C (v := 1) d_C_leadsFrom_51 (by decide) ?_
      refine aw_goto C (tgt := 56) d_C_leadsFrom_52 (by decide) ?_
      refine aw_iret C E (rfl) (by decide) (by decide) d_C_leadsFrom_56 ?_
      exact ⟨sI (by rw [show evTo 3 s = 2 from by simp [evTo, h48]]; decide), rfl, rfl⟩
  by_cases h4 : x = 4
  · subst h4
    show AW X 2 0 0 ad ce 0 [(0, .int 4), (1, .int s)] []
    refine aw_iload_n C d_C_leadsFrom_0 rfl (j := 0) rfl ?_
    refine aw_tableIn C (tgt := 64) d_C_leadsFrom_1 (by decide) (by decide) rfl (by decide) ?_
    refine aw_iload_n C d_C_leadsFrom_64 rfl (j := 1) rfl ?_
    refine aw_iconst C (v := 3) d_C_leadsFrom_65 (by decide) ?_
    refine aw_icmp_ne C (tgt := 73) d_C_leadsFrom_66 (by decide) (fun h66 => ?_) (fun h66 => ?_)
    · refine aw_iconst C (v := 0) d_C_leadsFrom_73 (by decide) ?_
      refine aw_iret C E (rfl) (by decide) (by decide) d_C_leadsFrom_74 ?_
      exact ⟨sI (by rw [show evTo 4 s = -1 from by simp [evTo, h66]]; decide), rfl, rfl⟩
    · refine aw_iconst C (v := 1) d_C_leadsFrom_69 (by decide) ?_
      refine aw_goto C (tgt := 74) d_C_leadsFrom_70 (by decide) ?_
      refine aw_iret C E (rfl) (by decide) (by decide) d_C_leadsFrom_74 ?_
      exact ⟨sI (by rw [show evTo 4 s = 1 from by simp [evTo, h66]]; decide), rfl, rfl⟩
  have hout := sw5 h0 h1 h2 h3 h4
  show AW X 2 0 0 ad ce 0 [(0, .int x), (1, .int s)] []
  refine aw_iload_n C d_C_leadsFrom_0 rfl (j := 0) rfl ?_
  refine aw_tableOut C (tgt := 75) d_C_leadsFrom_1 (hout) (by decide) ?_
  refine aw_iconst C (v := 0) d_C_leadsFrom_75 (by decide) ?_
  refine aw_iret C E (rfl) (by decide) (by decide) d_C_leadsFrom_76 ?_
  exact ⟨sI (by rw [show evTo x s = -1 from by simp [evTo, h0, h1, h2, h3, h4]]; decide), rfl, rfl⟩
set_option maxRecDepth 100000 in
set_option maxHeartbeats 4000000 in
theorem c_leadsTo (l : Launch) (G : aw_G) (ad : aw_Ad) (ce : aw_He) (x s : Int32) (h : 0 ≤ evTo x s) : CT l G M_C_leadsTo 0 0 0 0 [.int x] ad ce (rN (some (.int (evTo x s))) ad ce) := by
  refine CT.of (by decide) (Nat.le_of_ble_eq_true rfl) ?_
  intro X C I E
  by_cases h0 : x = 0
  · subst h0
    show AW X 1 0 0 ad ce 0 [(0, .int 0)] []
    refine aw_iload_n C d_C_leadsTo_0 rfl (j := 0) rfl ?_
    refine aw_tableOut C (tgt := 34) d_C_leadsTo_1 (by decide) (by decide) ?_
    refine aw_iconst C (v := 1) d_C_leadsTo_34 (by decide) ?_
    refine aw_iret C E (rfl) (by decide) (by decide) d_C_leadsTo_35 ?_
    by_cases hc : s = 0
    · exact ⟨sI (by simp [evTo, hc]), rfl, rfl⟩
    · exact absurd h (by rw [show evTo 0 s = -1 from by simp [evTo, hc]]; decide)
  by_cases h1 : x = 1
  · subst h1
    show AW X 1 0 0 ad ce 0 [(0, .int 1)] []
    refine aw_iload_n C d_C_leadsTo_0 rfl (j := 0) rfl ?_
    refine aw_tableIn C (tgt := 28) d_C_leadsTo_1 (by decide) (by decide) rfl (by decide) ?_
    refine aw_iconst C (v := 0) d_C_leadsTo_28 (by decide) ?_
    refine aw_iret C E (rfl) (by decide) (by decide) d_C_leadsTo_29 ?_
    by_cases hc : s = 1
    · exact ⟨sI (by simp [evTo, hc]), rfl, rfl⟩
    · exact absurd h (by rw [show evTo 1 s = -1 from by simp [evTo, hc]]; decide)
  by_cases h2 : x = 2
  · subst h2
    show AW X 1 0 0 ad ce 0 [(0, .int 2)] []
    refine aw_iload_n C d_C_leadsTo_0 rfl (j := 0) rfl ?_
    refine aw_tableIn C (tgt := 30) d_C_leadsTo_1 (by decide) (by decide) rfl (by decide) ?_
    refine aw_iconst C (v := 4) d_C_leadsTo_30 (by decide) ?_
    refine aw_iret C E (rfl) (by decide) (by decide) d_C_leadsTo_31 ?_
    by_cases hc : s ≤ 3
    · exact ⟨sI (by simp [evTo, hc]), rfl, rfl⟩
    · exact absurd h (by rw [show evTo 2 s = -1 from by simp [evTo, hc]]; decide)
  by_cases h3 : x = 3
  · subst h3
    show AW X 1 0 0 ad ce 0 [(0, .int 3)] []
    refine aw_iload_n C d_C_leadsTo_0 rfl (j := 0) rfl ?_
    refine aw_tableIn C (tgt := 32) d_C_leadsTo_1 (by decide) (by decide) rfl (by decide) ?_
    refine aw_iconst C (v := 2) d_C_leadsTo_32 (by decide) ?_
    refine aw_iret C E (rfl) (by decide) (by decide) d_C_leadsTo_33 ?_
    by_cases hc : s = 1
    · exact ⟨sI (by simp [evTo, hc]), rfl, rfl⟩
    · exact absurd h (by rw [show evTo 3 s = -1 from by simp [evTo, hc]]; decide)
  by_cases h4 : x = 4
  · subst h4
    show AW X 1 0 0 ad ce 0 [(0, .int 4)] []
    refine aw_iload_n C d_C_leadsTo_0 rfl (j := 0) rfl ?_
    refine aw_tableOut C (tgt := 34) d_C_leadsTo_1 (by decide) (by decide) ?_
    refine aw_iconst C (v := 1) d_C_leadsTo_34 (by decide) ?_
    refine aw_iret C E (rfl) (by decide) (by decide) d_C_leadsTo_35 ?_
    by_cases hc : s = 3
    · exact ⟨sI (by simp [evTo, hc]), rfl, rfl⟩
    · exact absurd h (by rw [show evTo 4 s = -1 from by simp [evTo, hc]]; decide)
  have hout := sw5 h0 h1 h2 h3 h4
  exact absurd h (by rw [show evTo x s = -1 from by simp [evTo, h0, h1, h2, h3, h4]]; decide)
set_option maxRecDepth 100000 in
set_option maxHeartbeats 4000000 in
theorem c_markBy (l : Launch) (G : aw_G) (ad : aw_Ad) (ce : aw_He) (j : Nat) (p : PapS) (hP : Pap ad ce j p) (key : Int64) : CT l G M_P_markBy 0 0 0 0 [.ref (ad (2, j, 0)), .long key] ad ce (rN (some (.long (fldM mkS p.2 p.1 0 key))) ad ce) := by
  refine CT.of (by decide) (Nat.le_of_ble_eq_true rfl) ?_
  intro X C I E
  obtain ⟨hp, hf, h6, h12⟩ := hP
  have loop : ∀ (m a : Nat) (x : Int64), a + m = p.1 → fldM mkS p.2 m a x = fldM mkS p.2 p.1 0 key → AW X 6 0 0 ad ce 5 [(5, .int (nI a)), (3, .long x), (0, .ref (ad (2, j, 0))), (1, .long key)] [] := by
    intro m
    induction m with
    | zero =>
      intro a x ha hr
      refine aw_iload C d_P_markBy_5 (j := 0) rfl ?_
      refine aw_aload_n C d_P_markBy_7 rfl (j := 2) rfl ?_
      refine aw_get C F_P hp 0 (by decide) tw_232 rfl d_P_markBy_8 ?_
      refine ar_len C hf (tt := .int) rfl d_P_markBy_11 ?_
      refine aw_icmp_ge C (tgt := 45) d_P_markBy_12 (by decide) (fun h12 => ?_) (fun h12 => absurd (nI_le (by omega) (by omega)) h12)
      refine aw_lload_n C d_P_markBy_45 rfl (j := 1) rfl ?_
      refine aw_lret C E (by decide) (by decide) d_P_markBy_46 ?_
      rw [fldM_0] at hr
      exact ⟨by rw [hr], rfl, rfl⟩
    | succ m ih =>
      intro a x ha hr
      refine aw_iload C d_P_markBy_5 (j := 0) rfl ?_
      refine aw_aload_n C d_P_markBy_7 rfl (j := 2) rfl ?_
      refine aw_get C F_P hp 0 (by decide) tw_232 rfl d_P_markBy_8 ?_
      refine ar_len C hf (tt := .int) rfl d_P_markBy_11 ?_
      refine aw_icmp_ge C (tgt := 45) d_P_markBy_12 (by decide) (fun h12 => absurd h12 (nI_ge (by omega) (by omega))) (fun h12 => ?_)
      refine aw_lload_n C d_P_markBy_15 rfl (j := 1) rfl ?_
      refine aw_aload_n C d_P_markBy_16 rfl (j := 2) rfl ?_
      refine aw_get C F_P hp 0 (by decide) tw_232 rfl d_P_markBy_17 ?_
      refine aw_iload C d_P_markBy_20 (j := 0) rfl ?_
      refine ar_iald C hf (j := a) (rfl) (by omega) (by omega) d_P_markBy_22 ?_
      refine aw_i2l C d_P_markBy_23 ?_
      refine aw_ladd C d_P_markBy_24 ?_
      refine aw_lconst C (v := 1) d_P_markBy_25 (by decide) ?_
      refine aw_ladd C d_P_markBy_26 ?_
      refine aw_ldc2 C tw_253 d_P_markBy_27 ?_
      refine aw_lmul C d_P_markBy_30 ?_
      obtain ⟨y, hy⟩ : ∃ y : Int64, ((x + (Int32.toInt64 (p.2 a))) + 1) * 6364136223846793005 = y := ⟨_, rfl⟩
      refine aw_topl (v' := y) (hy) ?_
      refine aw_lstore_n C (lv' := [(3, .long y), (5, .int (nI a)), (0, .ref (ad (2, j, 0))), (1, .long key)]) d_P_markBy_31 rfl (by decide) rfl ?_
      refine aw_lload_n C d_P_markBy_32 rfl (j := 0) rfl ?_
      refine aw_lload_n C d_P_markBy_33 rfl (j := 0) rfl ?_
      refine aw_bipush C (v := 32) d_P_markBy_34 (by decide) ?_
      refine aw_lushr C d_P_markBy_36 ?_
      refine aw_lxor C d_P_markBy_37 ?_
      refine aw_topl (v' := mkS x (p.2 a)) (by simp only [mkS, hy]) ?_
      refine aw_lstore_n C (lv' := [(3, .long (mkS x (p.2 a))), (5, .int (nI a)), (0, .ref (ad (2, j, 0))), (1, .long key)]) d_P_markBy_38 rfl (by decide) rfl ?_
      refine aw_iinc C (v := nI (a + 1)) (lv' := [(5, .int (nI (a + 1))), (3, .long (mkS x (p.2 a))), (0, .ref (ad (2, j, 0))), (1, .long key)]) d_P_markBy_39 (j := 1) rfl (nI_1 _) (by decide) rfl ?_
      refine aw_goto C (tgt := 5) d_P_markBy_42 (by decide) ?_
      rw [fldM_s] at hr
      exact ih (a + 1) _ (by omega) hr
  show AW X 6 0 0 ad ce 0 [(0, .ref (ad (2, j, 0))), (1, .long key)] []
  refine aw_lload_n C d_P_markBy_0 rfl (j := 1) rfl ?_
  refine aw_lstore_n C (lv' := [(3, .long key), (0, .ref (ad (2, j, 0))), (1, .long key)]) d_P_markBy_1 rfl (by decide) rfl ?_
  refine aw_iconst C (v := 0) d_P_markBy_2 (by decide) ?_
  refine aw_istore C (lv' := [(5, .int 0), (3, .long key), (0, .ref (ad (2, j, 0))), (1, .long key)]) d_P_markBy_3 (by decide) rfl ?_
  refine aw_lv (lv' := [(5, .int (nI 0)), (3, .long key), (0, .ref (ad (2, j, 0))), (1, .long key)]) (by simp only [nI_0]) ?_
  exact loop p.1 0 key (by omega) rfl
set_option maxRecDepth 100000 in
set_option maxHeartbeats 4000000 in
theorem c_hasSerial (l : Launch) (G : aw_G) (ad : aw_Ad) (ce : aw_He) (S : SysS) (hL : LayC S ad ce) (x : Int64) : CT l G M_C_carrierHasSerial 1 21 0 0 [.ref (ad (0, 0, 0)), .long x] ad ce (rN (some (.int (bI (anyF (fun i => k_sr (s_car S i)) x (s_cn S) 0)))) ad ce) := by
  refine CT.of (by decide) (Nat.le_of_ble_eq_true rfl) ?_
  intro X C I E
  have hL0 := hL
  obtain ⟨ho, hca, hpa, hli, hlo, hcars, hpaps, hnoc, hnop, hb1, hb2, hb3, hb4⟩ := hL0
  have loop : ∀ (m a : Nat), a + m = s_cn S → anyF (fun i => k_sr (s_car S i)) x m a = anyF (fun i => k_sr (s_car S i)) x (s_cn S) 0 → AW X 5 0 0 ad ce 2 [(3, .int (nI a)), (0, .ref (ad (0, 0, 0))), (1, .long x)] [] := by
    intro m
    induction m with
    | zero =>
      intro a ha hr
      refine aw_iload_n C d_C_carrierHasSerial_2 rfl (j := 0) rfl ?_
      refine aw_aload_n C d_C_carrierHasSerial_3 rfl (j := 1) rfl ?_
      refine aw_get C F_C ho 1 (by decide) tw_20 rfl d_C_carrierHasSerial_4 ?_
      refine aw_icmp_ge C (tgt := 40) d_C_carrierHasSerial_7 (by decide) (fun h7 => ?_) (fun h7 => absurd (nI_le (by omega) (by omega)) h7)
      refine aw_iconst C (v := 0) d_C_carrierHasSerial_40 (by decide) ?_
      refine aw_iret C E (rfl) (by decide) (by decide) d_C_carrierHasSerial_41 ?_
      exact ⟨sI (by rw [← hr]; rfl), rfl, rfl⟩
    | succ m ih =>
      intro a ha hr
      refine aw_iload_n C d_C_carrierHasSerial_2 rfl (j := 0) rfl ?_
      refine aw_aload_n C d_C_carrierHasSerial_3 rfl (j := 1) rfl ?_
      refine aw_get C F_C ho 1 (by decide) tw_20 rfl d_C_carrierHasSerial_4 ?_
      refine aw_icmp_ge C (tgt := 40) d_C_carrierHasSerial_7 (by decide) (fun h7 => absurd h7 (nI_ge (by omega) (by omega))) (fun h7 => ?_)
      refine aw_aload_n C d_C_carrierHasSerial_10 rfl (j := 1) rfl ?_
      refine aw_iload_n C d_C_carrierHasSerial_11 rfl (j := 0) rfl ?_
      refine aw_callV C I (k := (0, 0, 0)) (as := [.int (nI a)]) (rest := []) (c_findC_in l G ad ce S hL a (by omega)) g_C_56 ho rfl rfl ⟨by decide, by decide⟩ ⟨by decide, by decide⟩ rfl (Nat.le_of_ble_eq_true rfl) d_C_carrierHasSerial_12 ?_
      rintro _ _ _ ⟨rfl, rfl, rfl⟩
      show AW X 5 0 0 ad ce 15 [(3, .int (nI a)), (0, .ref (ad (0, 0, 0))), (1, .long x)] [.ref (ad (1, a, 0))]
      have hka := (hcars a (by omega)).1
      refine aw_astore C (lv' := [(4, .ref (ad (1, a, 0))), (3, .int (nI a)), (0, .ref (ad (0, 0, 0))), (1, .long x)]) d_C_carrierHasSerial_15 (by decide) rfl ?_
      refine aw_aload C d_C_carrierHasSerial_17 (j := 0) rfl ?_
      refine aw_ifnull C d_C_carrierHasSerial_19 ?_
      refine aw_aload C d_C_carrierHasSerial_22 (j := 0) rfl ?_
      refine aw_get C F_K hka 1 (by decide) tw_74 rfl d_C_carrierHasSerial_24 ?_
      refine aw_lload_n C d_C_carrierHasSerial_27 rfl (j := 3) rfl ?_
      refine aw_lcmp C d_C_carrierHasSerial_28 ?_
      refine aw_if_ne C (tgt := 34) d_C_carrierHasSerial_29 (by decide) (fun h29 => ?_) (fun h29 => ?_)
      · refine aw_iinc C (v := nI (a + 1)) (lv' := [(3, .int (nI (a + 1))), (4, .ref (ad (1, a, 0))), (0, .ref (ad (0, 0, 0))), (1, .long x)]) d_C_carrierHasSerial_34 (j := 1) rfl (nI_1 _) (by decide) rfl ?_
        refine aw_goto C (tgt := 2) d_C_carrierHasSerial_37 (by decide) ?_
        refine aw_sub (lv' := [(3, .int (nI (a + 1))), (0, .ref (ad (0, 0, 0))), (1, .long x)]) (by simp) ?_
        exact ih (a + 1) (by omega) (by rw [← hr]; simp [lg_cmp_eq] at h29; simp [anyF, h29])
      · refine aw_iconst C (v := 1) d_C_carrierHasSerial_32 (by decide) ?_
        refine aw_iret C E (rfl) (by decide) (by decide) d_C_carrierHasSerial_33 ?_
        exact ⟨sI (by rw [← hr]; simp [lg_cmp_eq] at h29; simp [anyF, h29, bI]), rfl, rfl⟩
  show AW X 5 0 0 ad ce 0 [(0, .ref (ad (0, 0, 0))), (1, .long x)] []
  refine aw_iconst C (v := 0) d_C_carrierHasSerial_0 (by decide) ?_
  refine aw_istore_n C (lv' := [(3, .int 0), (0, .ref (ad (0, 0, 0))), (1, .long x)]) d_C_carrierHasSerial_1 rfl (by decide) rfl ?_
  refine aw_lv (lv' := [(3, .int (nI 0)), (0, .ref (ad (0, 0, 0))), (1, .long x)]) (by simp only [nI_0]) ?_
  exact loop (s_cn S) 0 (by omega) rfl
set_option maxRecDepth 100000 in
set_option maxHeartbeats 4000000 in
theorem c_listHas (l : Launch) (G : aw_G) (ad : aw_Ad) (ce : aw_He) (S : SysS) (hL : LayC S ad ce) (x : Int64) : CT l G M_C_listHasSerial 0 0 0 0 [.ref (ad (0, 0, 0)), .long x] ad ce (rN (some (.int (bI (anyF (s_li S) x (s_ln S) 0)))) ad ce) := by
  refine CT.of (by decide) (Nat.le_of_ble_eq_true rfl) ?_
  intro X C I E
  obtain ⟨ho, hca, hpa, hli, hlo, hcars, hpaps, hnoc, hnop, hb1, hb2, hb3, hb4⟩ := hL
  have loop : ∀ (m a : Nat), a + m = s_ln S → anyF (s_li S) x m a = anyF (s_li S) x (s_ln S) 0 → AW X 4 0 0 ad ce 2 [(3, .int (nI a)), (0, .ref (ad (0, 0, 0))), (1, .long x)] [] := by
    intro m
    induction m with
    | zero =>
      intro a ha hr
      refine aw_iload_n C d_C_listHasSerial_2 rfl (j := 0) rfl ?_
      refine aw_aload_n C d_C_listHasSerial_3 rfl (j := 1) rfl ?_
      refine aw_get C F_C ho 5 (by decide) tw_24 rfl d_C_listHasSerial_4 ?_
      refine aw_icmp_ge C (tgt := 38) d_C_listHasSerial_7 (by decide) (fun h7 => ?_) (fun h7 => absurd (nI_le (by omega) (by omega)) h7)
      refine aw_iconst C (v := 0) d_C_listHasSerial_38 (by decide) ?_
      refine aw_iret C E (rfl) (by decide) (by decide) d_C_listHasSerial_39 ?_
      exact ⟨sI (by rw [← hr]; rfl), rfl, rfl⟩
    | succ m ih =>
      intro a ha hr
      refine aw_iload_n C d_C_listHasSerial_2 rfl (j := 0) rfl ?_
      refine aw_aload_n C d_C_listHasSerial_3 rfl (j := 1) rfl ?_
      refine aw_get C F_C ho 5 (by decide) tw_24 rfl d_C_listHasSerial_4 ?_
      refine aw_icmp_ge C (tgt := 38) d_C_listHasSerial_7 (by decide) (fun h7 => absurd h7 (nI_ge (by omega) (by omega))) (fun h7 => ?_)
      refine aw_iload_n C d_C_listHasSerial_10 rfl (j := 0) rfl ?_
      refine aw_aload_n C d_C_listHasSerial_11 rfl (j := 1) rfl ?_
      refine aw_get C F_C ho 4 (by decide) tw_23 rfl d_C_listHasSerial_12 ?_
      refine ar_lenJ C hli d_C_listHasSerial_15 ?_
      refine aw_icmp_ge C (tgt := 38) d_C_listHasSerial_16 (by decide) (fun h16 => absurd h16 (nI_ge (by omega) (by omega))) (fun h16 => ?_)
      refine aw_aload_n C d_C_listHasSerial_19 rfl (j := 1) rfl ?_
      refine aw_get C F_C ho 4 (by decide) tw_23 rfl d_C_listHasSerial_20 ?_
      refine aw_iload_n C d_C_listHasSerial_23 rfl (j := 0) rfl ?_
      refine ar_lald C hli (j := a) (rfl) (by omega) (by omega) d_C_listHasSerial_24 ?_
      refine aw_lload_n C d_C_listHasSerial_25 rfl (j := 2) rfl ?_
      refine aw_lcmp C d_C_listHasSerial_26 ?_
      refine aw_if_ne C (tgt := 32) d_C_listHasSerial_27 (by decide) (fun h27 => ?_) (fun h27 => ?_)
      · refine aw_iinc C (v := nI (a + 1)) (lv' := [(3, .int (nI (a + 1))), (0, .ref (ad (0, 0, 0))), (1, .long x)]) d_C_listHasSerial_32 (j := 0) rfl (nI_1 _) (by decide) rfl ?_
        refine aw_goto C (tgt := 2) d_C_listHasSerial_35 (by decide) ?_
        exact ih (a + 1) (by omega) (by rw [← hr]; simp [lg_cmp_eq] at h27; simp [anyF, h27])
      · refine aw_iconst C (v := 1) d_C_listHasSerial_30 (by decide) ?_
        refine aw_iret C E (rfl) (by decide) (by decide) d_C_listHasSerial_31 ?_
        exact ⟨sI (by rw [← hr]; simp [lg_cmp_eq] at h27; simp [anyF, h27, bI]), rfl, rfl⟩
  show AW X 4 0 0 ad ce 0 [(0, .ref (ad (0, 0, 0))), (1, .long x)] []
  refine aw_iconst C (v := 0) d_C_listHasSerial_0 (by decide) ?_
  refine aw_istore_n C (lv' := [(3, .int 0), (0, .ref (ad (0, 0, 0))), (1, .long x)]) d_C_listHasSerial_1 rfl (by decide) rfl ?_
  refine aw_lv (lv' := [(3, .int (nI 0)), (0, .ref (ad (0, 0, 0))), (1, .long x)]) (by simp only [nI_0]) ?_
  exact loop (s_ln S) 0 (by omega) rfl
end
section
def k_new (kd : Int32) (sr : Int64) (n : Nat) : CarS := k_mk kd sr n (fun _ => 0) (fun _ => 0) (fun _ => 0) (fun _ => 0) (fun _ => 0) 0 0 0 (-1)
set_option maxRecDepth 100000 in
set_option maxHeartbeats 4000000 in
theorem c_Kinit (l : Launch) (G : aw_G) (ad : aw_Ad) (ce : aw_He) (i : Nat) (kd : Int32) (sr : Int64) (n : Nat) (hn1 : 1 ≤ n) (hn2 : n ≤ 64) (hk : ce (1, i, 0) = some (.inr (1, [.int 0, .long 0, .null, .null, .null, .null, .null, .int 0, .int 0, .int 0, .int 0, .int 0]))) (hno : ∀ p, p ≠ 0 → ce (1, i, p) = none) : CT l G M_K_init 1 20 5 262 [.ref (ad (1, i, 0)), .int kd, .long sr, .int (nI n)] ad ce (fun r ad' ce' => r = none ∧ (∀ q : aw_Lb, (q.1 ≠ 1 ∨ q.2.1 ≠ i) → ad' q = ad q ∧ ce' q = ce q) ∧ ad' (1, i, 0) = ad (1, i, 0) ∧ Car ad' ce' i (k_new kd sr n)) := by
  refine CT.of (by decide) (Nat.le_of_ble_eq_true rfl) ?_
  intro X C I E
  show AW X 5 0 0 ad ce 0 [(0, .ref (ad (1, i, 0))), (1, .int kd), (2, .long sr), (4, .int (nI n))] []
  refine aw_aload_n C d_K_init_0 rfl (j := 0) rfl ?_
  refine aw_objInit C I tw_69 tw_13 tw_14 ⟨by decide, by decide⟩ (Nat.le_of_ble_eq_true rfl) d_K_init_1 ?_
  refine aw_aload_n C d_K_init_4 rfl (j := 0) rfl ?_
  refine aw_iload_n C d_K_init_5 rfl (j := 1) rfl ?_
  refine ob_putF C E rfl F_K hk 0 (by decide) tw_70 rfl rfl rfl rfl (Nat.le_of_ble_eq_true rfl) (fs' := [.int kd, .long 0, .null, .null, .null, .null, .null, .int 0, .int 0, .int 0, .int 0, .int 0]) rfl d_K_init_6 ?_
  intro ce1 fw1 hk
  refine aw_aload_n C d_K_init_9 rfl (j := 0) rfl ?_
  refine aw_lload_n C d_K_init_10 rfl (j := 2) rfl ?_
  refine ob_putF C E rfl F_K hk 1 (by decide) tw_73 rfl rfl rfl rfl (Nat.le_of_ble_eq_true rfl) (fs' := [.int kd, .long sr, .null, .null, .null, .null, .null, .int 0, .int 0, .int 0, .int 0, .int 0]) rfl d_K_init_11 ?_
  intro ce2 fw2 hk
  refine aw_aload_n C d_K_init_14 rfl (j := 0) rfl ?_
  refine aw_iload C d_K_init_15 (j := 3) rfl ?_
  refine ar_newI C I (1, i, 1) (by rw [fw2 _ (by simp), fw1 _ (by simp)]; exact hno 1 (by decide)) tw_45 (N' := n) (rfl) (by omega) ⟨Nat.le_trans (m := 5) (by omega) (Nat.le_refl _), Nat.le_trans (m := 262) (by omega) (Nat.le_refl _)⟩ d_K_init_17 ?_
  intro ad3 ce3 ha3 fw3 hby
  have ea3_0 : ad (1, i, 0) = ad3 (1, i, 0) := (ha3 _ (by simp)).symm
  rw [ea3_0]
  have hk : ce3 (1, i, 0) = some (.inr (1, [.int kd, .long sr, .null, .null, .null, .null, .null, .int 0, .int 0, .int 0, .int 0, .int 0])) := (fw3 _ (by simp)).trans hk
  refine ob_putF C E rfl F_K hk 2 (by decide) tw_75 rfl rfl rfl rfl (Nat.le_of_ble_eq_true rfl) (fs' := [.int kd, .long sr, .ref (ad3 (1, i, 1)), .null, .null, .null, .null, .int 0, .int 0, .int 0, .int 0, .int 0]) rfl d_K_init_19 ?_
  intro ce4 fw4 hk
  have hby := hby.tr (fw4 _ (by simp))
  refine aw_aload_n C d_K_init_22 rfl (j := 0) rfl ?_
  refine aw_iload C d_K_init_23 (j := 3) rfl ?_
  refine ar_newI C I (1, i, 2) (by rw [fw4 _ (by simp), fw3 _ (by simp), fw2 _ (by simp), fw1 _ (by simp)]; exact hno 2 (by decide)) tw_45 (N' := n) (rfl) (by omega) ⟨Nat.le_trans (m := 5) (by omega) (Nat.le_refl _), Nat.le_trans (m := 262) (by omega) (Nat.le_refl _)⟩ d_K_init_25 ?_
  intro ad5 ce5 ha5 fw5 hdu
  have ea5_0 : ad3 (1, i, 0) = ad5 (1, i, 0) := (ha5 _ (by simp)).symm
  have ea5_1 : ad3 (1, i, 1) = ad5 (1, i, 1) := (ha5 _ (by simp)).symm
  rw [ea5_0]
  rw [ea5_1] at hk
  have hk : ce5 (1, i, 0) = some (.inr (1, [.int kd, .long sr, .ref (ad5 (1, i, 1)), .null, .null, .null, .null, .int 0, .int 0, .int 0, .int 0, .int 0])) := (fw5 _ (by simp)).trans hk
  have hby := hby.tr (fw5 _ (by simp))
  refine ob_putF C E rfl F_K hk 3 (by decide) tw_77 rfl rfl rfl rfl (Nat.le_of_ble_eq_true rfl) (fs' := [.int kd, .long sr, .ref (ad5 (1, i, 1)), .ref (ad5 (1, i, 2)), .null, .null, .null, .int 0, .int 0, .int 0, .int 0, .int 0]) rfl d_K_init_27 ?_
  intro ce6 fw6 hk
  have hby := hby.tr (fw6 _ (by simp))
  have hdu := hdu.tr (fw6 _ (by simp))
  refine aw_aload_n C d_K_init_30 rfl (j := 0) rfl ?_
  refine aw_iload C d_K_init_31 (j := 3) rfl ?_
  refine ar_newZ C I (1, i, 3) (by rw [fw6 _ (by simp), fw5 _ (by simp), fw4 _ (by simp), fw3 _ (by simp), fw2 _ (by simp), fw1 _ (by simp)]; exact hno 3 (by decide)) tw_117 (N' := n) (rfl) (by omega) ⟨Nat.le_trans (m := 5) (by omega) (Nat.le_refl _), Nat.le_trans (m := 262) (by omega) (Nat.le_refl _)⟩ d_K_init_33 ?_
  intro ad7 ce7 ha7 fw7 hwo
  have ea7_0 : ad5 (1, i, 0) = ad7 (1, i, 0) := (ha7 _ (by simp)).symm
  have ea7_1 : ad5 (1, i, 1) = ad7 (1, i, 1) := (ha7 _ (by simp)).symm
  have ea7_2 : ad5 (1, i, 2) = ad7 (1, i, 2) := (ha7 _ (by simp)).symm
  rw [ea7_0]
  rw [ea7_1, ea7_2] at hk
  have hk : ce7 (1, i, 0) = some (.inr (1, [.int kd, .long sr, .ref (ad7 (1, i, 1)), .ref (ad7 (1, i, 2)), .null, .null, .null, .int 0, .int 0, .int 0, .int 0, .int 0])) := (fw7 _ (by simp)).trans hk
  have hby := hby.tr (fw7 _ (by simp))
  have hdu := hdu.tr (fw7 _ (by simp))
  refine ob_putF C E rfl F_K hk 4 (by decide) tw_78 rfl rfl rfl rfl (Nat.le_of_ble_eq_true rfl) (fs' := [.int kd, .long sr, .ref (ad7 (1, i, 1)), .ref (ad7 (1, i, 2)), .ref (ad7 (1, i, 3)), .null, .null, .int 0, .int 0, .int 0, .int 0, .int 0]) rfl d_K_init_35 ?_
  intro ce8 fw8 hk
  have hby := hby.tr (fw8 _ (by simp))
  have hdu := hdu.tr (fw8 _ (by simp))
  have hwo := hwo.tr (fw8 _ (by simp))
  refine aw_aload_n C d_K_init_38 rfl (j := 0) rfl ?_
  refine aw_iload C d_K_init_39 (j := 3) rfl ?_
  refine ar_newZ C I (1, i, 4) (by rw [fw8 _ (by simp), fw7 _ (by simp), fw6 _ (by simp), fw5 _ (by simp), fw4 _ (by simp), fw3 _ (by simp), fw2 _ (by simp), fw1 _ (by simp)]; exact hno 4 (by decide)) tw_117 (N' := n) (rfl) (by omega) ⟨Nat.le_trans (m := 5) (by omega) (Nat.le_refl _), Nat.le_trans (m := 262) (by omega) (Nat.le_refl _)⟩ d_K_init_41 ?_
  intro ad9 ce9 ha9 fw9 hrd
  have ea9_0 : ad7 (1, i, 0) = ad9 (1, i, 0) := (ha9 _ (by simp)).symm
  have ea9_1 : ad7 (1, i, 1) = ad9 (1, i, 1) := (ha9 _ (by simp)).symm
  have ea9_2 : ad7 (1, i, 2) = ad9 (1, i, 2) := (ha9 _ (by simp)).symm
  have ea9_3 : ad7 (1, i, 3) = ad9 (1, i, 3) := (ha9 _ (by simp)).symm
  rw [ea9_0]
  rw [ea9_1, ea9_2, ea9_3] at hk
  have hk : ce9 (1, i, 0) = some (.inr (1, [.int kd, .long sr, .ref (ad9 (1, i, 1)), .ref (ad9 (1, i, 2)), .ref (ad9 (1, i, 3)), .null, .null, .int 0, .int 0, .int 0, .int 0, .int 0])) := (fw9 _ (by simp)).trans hk
  have hby := hby.tr (fw9 _ (by simp))
  have hdu := hdu.tr (fw9 _ (by simp))
  have hwo := hwo.tr (fw9 _ (by simp))
  refine ob_putF C E rfl F_K hk 5 (by decide) tw_79 rfl rfl rfl rfl (Nat.le_of_ble_eq_true rfl) (fs' := [.int kd, .long sr, .ref (ad9 (1, i, 1)), .ref (ad9 (1, i, 2)), .ref (ad9 (1, i, 3)), .ref (ad9 (1, i, 4)), .null, .int 0, .int 0, .int 0, .int 0, .int 0]) rfl d_K_init_43 ?_
  intro ce10 fw10 hk
  have hby := hby.tr (fw10 _ (by simp))
  have hdu := hdu.tr (fw10 _ (by simp))
  have hwo := hwo.tr (fw10 _ (by simp))
  have hrd := hrd.tr (fw10 _ (by simp))
  refine aw_aload_n C d_K_init_46 rfl (j := 0) rfl ?_
  refine aw_bipush C (v := 6) d_K_init_47 (by decide) ?_
  refine ar_newI C I (1, i, 5) (by rw [fw10 _ (by simp), fw9 _ (by simp), fw8 _ (by simp), fw7 _ (by simp), fw6 _ (by simp), fw5 _ (by simp), fw4 _ (by simp), fw3 _ (by simp), fw2 _ (by simp), fw1 _ (by simp)]; exact hno 5 (by decide)) tw_45 (N' := 6) (by decide) (by omega) ⟨Nat.le_trans (m := 5) (by omega) (Nat.le_refl _), Nat.le_trans (m := 262) (by omega) (Nat.le_refl _)⟩ d_K_init_49 ?_
  intro ad11 ce11 ha11 fw11 hpt
  have ea11_0 : ad9 (1, i, 0) = ad11 (1, i, 0) := (ha11 _ (by simp)).symm
  have ea11_1 : ad9 (1, i, 1) = ad11 (1, i, 1) := (ha11 _ (by simp)).symm
  have ea11_2 : ad9 (1, i, 2) = ad11 (1, i, 2) := (ha11 _ (by simp)).symm
  have ea11_3 : ad9 (1, i, 3) = ad11 (1, i, 3) := (ha11 _ (by simp)).symm
  have ea11_4 : ad9 (1, i, 4) = ad11 (1, i, 4) := (ha11 _ (by simp)).symm
  rw [ea11_0]
  rw [ea11_1, ea11_2, ea11_3, ea11_4] at hk
  have hk : ce11 (1, i, 0) = some (.inr (1, [.int kd, .long sr, .ref (ad11 (1, i, 1)), .ref (ad11 (1, i, 2)), .ref (ad11 (1, i, 3)), .ref (ad11 (1, i, 4)), .null, .int 0, .int 0, .int 0, .int 0, .int 0])) := (fw11 _ (by simp)).trans hk
  have hby := hby.tr (fw11 _ (by simp))
  have hdu := hdu.tr (fw11 _ (by simp))
  have hwo := hwo.tr (fw11 _ (by simp))
  have hrd := hrd.tr (fw11 _ (by simp))
  refine ob_putF C E rfl F_K hk 6 (by decide) tw_81 rfl rfl rfl rfl (Nat.le_of_ble_eq_true rfl) (fs' := [.int kd, .long sr, .ref (ad11 (1, i, 1)), .ref (ad11 (1, i, 2)), .ref (ad11 (1, i, 3)), .ref (ad11 (1, i, 4)), .ref (ad11 (1, i, 5)), .int 0, .int 0, .int 0, .int 0, .int 0]) rfl d_K_init_51 ?_
  intro ce12 fw12 hk
  have hby := hby.tr (fw12 _ (by simp))
  have hdu := hdu.tr (fw12 _ (by simp))
  have hwo := hwo.tr (fw12 _ (by simp))
  have hrd := hrd.tr (fw12 _ (by simp))
  have hpt := hpt.tr (fw12 _ (by simp))
  refine aw_aload_n C d_K_init_54 rfl (j := 0) rfl ?_
  refine aw_iconst C (v := 0) d_K_init_55 (by decide) ?_
  refine ob_put C F_K hk 7 (by decide) tw_83 rfl rfl rfl (Nat.le_of_ble_eq_true rfl) (fs' := [.int kd, .long sr, .ref (ad11 (1, i, 1)), .ref (ad11 (1, i, 2)), .ref (ad11 (1, i, 3)), .ref (ad11 (1, i, 4)), .ref (ad11 (1, i, 5)), .int 0, .int 0, .int 0, .int 0, .int 0]) rfl d_K_init_56 ?_
  intro ce13 fw13 hk
  have hby := hby.tr (fw13 _ (by simp))
  have hdu := hdu.tr (fw13 _ (by simp))
  have hwo := hwo.tr (fw13 _ (by simp))
  have hrd := hrd.tr (fw13 _ (by simp))
  have hpt := hpt.tr (fw13 _ (by simp))
  refine aw_aload_n C d_K_init_59 rfl (j := 0) rfl ?_
  refine aw_iconst C (v := 0) d_K_init_60 (by decide) ?_
  refine ob_put C F_K hk 8 (by decide) tw_84 rfl rfl rfl (Nat.le_of_ble_eq_true rfl) (fs' := [.int kd, .long sr, .ref (ad11 (1, i, 1)), .ref (ad11 (1, i, 2)), .ref (ad11 (1, i, 3)), .ref (ad11 (1, i, 4)), .ref (ad11 (1, i, 5)), .int 0, .int 0, .int 0, .int 0, .int 0]) rfl d_K_init_61 ?_
  intro ce14 fw14 hk
  have hby := hby.tr (fw14 _ (by simp))
  have hdu := hdu.tr (fw14 _ (by simp))
  have hwo := hwo.tr (fw14 _ (by simp))
  have hrd := hrd.tr (fw14 _ (by simp))
  have hpt := hpt.tr (fw14 _ (by simp))
  refine aw_aload_n C d_K_init_64 rfl (j := 0) rfl ?_
  refine aw_iconst C (v := 0) d_K_init_65 (by decide) ?_
  refine ob_put C F_K hk 9 (by decide) tw_85 rfl rfl rfl (Nat.le_of_ble_eq_true rfl) (fs' := [.int kd, .long sr, .ref (ad11 (1, i, 1)), .ref (ad11 (1, i, 2)), .ref (ad11 (1, i, 3)), .ref (ad11 (1, i, 4)), .ref (ad11 (1, i, 5)), .int 0, .int 0, .int 0, .int 0, .int 0]) rfl d_K_init_66 ?_
  intro ce15 fw15 hk
  have hby := hby.tr (fw15 _ (by simp))
  have hdu := hdu.tr (fw15 _ (by simp))
  have hwo := hwo.tr (fw15 _ (by simp))
  have hrd := hrd.tr (fw15 _ (by simp))
  have hpt := hpt.tr (fw15 _ (by simp))
  refine aw_aload_n C d_K_init_69 rfl (j := 0) rfl ?_
  refine aw_iconst C (v := 0) d_K_init_70 (by decide) ?_
  refine ob_put C F_K hk 10 (by decide) tw_87 rfl rfl rfl (Nat.le_of_ble_eq_true rfl) (fs' := [.int kd, .long sr, .ref (ad11 (1, i, 1)), .ref (ad11 (1, i, 2)), .ref (ad11 (1, i, 3)), .ref (ad11 (1, i, 4)), .ref (ad11 (1, i, 5)), .int 0, .int 0, .int 0, .int 0, .int 0]) rfl d_K_init_71 ?_
  intro ce16 fw16 hk
  have hby := hby.tr (fw16 _ (by simp))
  have hdu := hdu.tr (fw16 _ (by simp))
  have hwo := hwo.tr (fw16 _ (by simp))
  have hrd := hrd.tr (fw16 _ (by simp))
  have hpt := hpt.tr (fw16 _ (by simp))
  refine aw_aload_n C d_K_init_74 rfl (j := 0) rfl ?_
  refine aw_iconst C (v := (-1)) d_K_init_75 (by decide) ?_
  refine ob_put C F_K hk 11 (by decide) tw_90 rfl rfl rfl (Nat.le_of_ble_eq_true rfl) (fs' := [.int kd, .long sr, .ref (ad11 (1, i, 1)), .ref (ad11 (1, i, 2)), .ref (ad11 (1, i, 3)), .ref (ad11 (1, i, 4)), .ref (ad11 (1, i, 5)), .int 0, .int 0, .int 0, .int 0, .int (-1)]) rfl d_K_init_76 ?_
  intro ce17 fw17 hk
  have hby := hby.tr (fw17 _ (by simp))
  have hdu := hdu.tr (fw17 _ (by simp))
  have hwo := hwo.tr (fw17 _ (by simp))
  have hrd := hrd.tr (fw17 _ (by simp))
  have hpt := hpt.tr (fw17 _ (by simp))
  refine aw_vret C E (by decide) (by omega) d_K_init_79 ?_
  exact ⟨rfl, fun q hq => ⟨by rw [ha11 q (fun e => by subst e; simp at hq), ha9 q (fun e => by subst e; simp at hq), ha7 q (fun e => by subst e; simp at hq), ha5 q (fun e => by subst e; simp at hq), ha3 q (fun e => by subst e; simp at hq)], by rw [fw17 q (fun e => by subst e; simp at hq), fw16 q (fun e => by subst e; simp at hq), fw15 q (fun e => by subst e; simp at hq), fw14 q (fun e => by subst e; simp at hq), fw13 q (fun e => by subst e; simp at hq), fw12 q (fun e => by subst e; simp at hq), fw11 q (fun e => by subst e; simp at hq), fw10 q (fun e => by subst e; simp at hq), fw9 q (fun e => by subst e; simp at hq), fw8 q (fun e => by subst e; simp at hq), fw7 q (fun e => by subst e; simp at hq), fw6 q (fun e => by subst e; simp at hq), fw5 q (fun e => by subst e; simp at hq), fw4 q (fun e => by subst e; simp at hq), fw3 q (fun e => by subst e; simp at hq), fw2 q (fun e => by subst e; simp at hq), fw1 q (fun e => by subst e; simp at hq)]⟩, by rw [ha11 _ (by simp), ha9 _ (by simp), ha7 _ (by simp), ha5 _ (by simp), ha3 _ (by simp)], Car.of hk rfl rfl nI_0.symm (cnt0 _) rfl rfl rfl hby hdu hwo hrd hpt ⟨hn1, hn2⟩ (Nat.zero_le 6)⟩
end
section
theorem ofWF {l : Launch} {y : MethodName} {ws ws' : List Cond} {rm : Room} {Pc : Array Value → State → Prop} {Qc : Array Value → State → Outcome → State → Prop} {mc ms : Nat} {free : Addr → Prop} {cc : ByteArray} {maxL : Nat} {ret : Option FieldType}
    (hy : plainFor y = true) (hw : ws = Cond.code y cc maxL ret :: ws')
    (body : ∀ p e s m args below meth c s₁, BodyLoose p l y (headSpec ws rm) cc maxL ret e s m args below meth c s₁ → c.maxLocals = maxL → Pc args s →
      W p l e (headSpec ws rm).room s m args below meth c s.heap [] 0 0 (MQ below Qc args s mc ms free) (entryFrame m args maxL)) : Met l y ws rm Pc Qc mc ms free := by
  refine MetFree.of_bodySF (code := cc) (maxLocals := maxL) (ret := ret) hy ?_ ?_
  · intro args s m h hn
    obtain ⟨meth, c, h1, h2, h3, h4, h5, h6, -, -⟩ := Cond.code_spec hn (atoms_spec (ws := ws) h _ (by rw [hw]; exact List.mem_cons_self))
    exact ⟨meth, c, h1, h2, h3, h4, h5, h6⟩
  · intro p e s m args below meth c s₁ B hml hP _
    have hh0 : s₁.heap = s.heap := by rw [B.state]; rfl
    obtain ⟨t, a1, o, b1, b2, b3⟩ := body p e s m args below meth c s₁ B hml hP s₁ hh0 (Stand.of_body B)
    exact ⟨t, o, a1, b1, b2, ⟨b3.1, b3.2⟩⟩
theorem CT.ofF {l : Launch} {G : aw_G} {y : MethodName} {cc : ByteArray} {nL : Nat} {ret : Option FieldType} {d lo mc ms : Nat} {as : List Value} {ad : aw_Ad} {ce : aw_He} {P : Option Value → aw_Ad → aw_He → Prop} (hy : plainFor y = true) (hlen : (lg_sl as).length ≤ nL)
    (body : ∀ X : aw_X, aw_ok X cc nL y.cls → aw_in X l G (aw_rm d lo mc ms) → aw_me X y.name ret mc ms P → AW X nL 0 0 ad ce 0 (lv_args 0 as) []) : CT l G (y, cc, nL, ret) d lo mc ms as ad ce P := by
  refine ofWF (cc := cc) (maxL := nL) (ret := ret) hy rfl ?_
  intro p e s m args below meth c s₁ B hml hv
  obtain ⟨rfl, hH, hK, hbs⟩ := hv
  have hts := atoms_spec (ws := .code y cc nL ret :: aw_tb) B.pre
  have hown : s.vm.findClass y.cls = some m.cls := findClass_of_methodNamed B.named
  have h := body (p, l, e, aw_rm d lo mc ms, s, m, as.toArray, below, meth, c, MQ below (aw_Qc G P) as.toArray s mc ms (aw_A G), G) ⟨B.exec, B.bytes, hml, hown, fun w hw => hts w (List.mem_cons_of_mem _ hw), B.notSynchronized, hK, hbs⟩ ⟨rfl, rfl, rfl⟩ ⟨(name_of_methodNamed B.named B.method).1, B.returns, rfl⟩
  rw [lg_entry_eq]
  exact h s.heap [] _ hH va_S.rf (lv_entry as hlen)
set_option maxRecDepth 100000 in
set_option maxHeartbeats 4000000 in
theorem c_minI (l : Launch) (G : aw_G) (ad : aw_Ad) (ce : aw_He) (x y : Int32) : CT l G M_A_minI 0 0 0 0 [.int x, .int y] ad ce (rN (some (.int (if y < x then y else x))) ad ce) := by
  refine CT.ofF (by decide +kernel) (Nat.le_of_ble_eq_true rfl) ?_
  intro X C I E
  show AW X 2 0 0 ad ce 0 [(0, .int x), (1, .int y)] []
  refine aw_iload_n C d_A_minI_0 rfl (j := 0) rfl ?_
  refine aw_iload_n C d_A_minI_1 rfl (j := 1) rfl ?_
  refine aw_icmp_gt C (tgt := 9) d_A_minI_2 (by decide) (fun h2 => ?_) (fun h2 => ?_)
  · refine aw_iload_n C d_A_minI_9 rfl (j := 1) rfl ?_
    refine aw_iret C E (rfl) (by decide) (by decide) d_A_minI_10 ?_
    exact ⟨sI (by simp [h2]), rfl, rfl⟩
  · refine aw_iload_n C d_A_minI_5 rfl (j := 0) rfl ?_
    refine aw_goto C (tgt := 10) d_A_minI_6 (by decide) ?_
    refine aw_iret C E (rfl) (by decide) (by decide) d_A_minI_10 ?_
    exact ⟨sI (by simp [h2]), rfl, rfl⟩
set_option maxRecDepth 100000 in
set_option maxHeartbeats 4000000 in
theorem c_maxI (l : Launch) (G : aw_G) (ad : aw_Ad) (ce : aw_He) (x y : Int32) : CT l G M_A_maxI 0 0 0 0 [.int x, .int y] ad ce (rN (some (.int (if x < y then y else x))) ad ce) := by
  refine CT.ofF (by decide +kernel) (Nat.le_of_ble_eq_true rfl) ?_
  intro X C I E
  show AW X 2 0 0 ad ce 0 [(0, .int x), (1, .int y)] []
  refine aw_iload_n C d_A_maxI_0 rfl (j := 0) rfl ?_
  refine aw_iload_n C d_A_maxI_1 rfl (j := 1) rfl ?_
  refine aw_icmp_lt C (tgt := 9) d_A_maxI_2 (by decide) (fun h2 => ?_) (fun h2 => ?_)
  · refine aw_iload_n C d_A_maxI_9 rfl (j := 1) rfl ?_
    refine aw_iret C E (rfl) (by decide) (by decide) d_A_maxI_10 ?_
    exact ⟨sI (by simp [h2]), rfl, rfl⟩
  · refine aw_iload_n C d_A_maxI_5 rfl (j := 0) rfl ?_
    refine aw_goto C (tgt := 10) d_A_maxI_6 (by decide) ?_
    refine aw_iret C E (rfl) (by decide) (by decide) d_A_maxI_10 ?_
    exact ⟨sI (by simp [h2]), rfl, rfl⟩
set_option maxRecDepth 100000 in
set_option maxHeartbeats 4000000 in
theorem c_maxL (l : Launch) (G : aw_G) (ad : aw_Ad) (ce : aw_He) (x y : Int64) : CT l G M_A_maxL 0 0 0 0 [.long x, .long y] ad ce (rN (some (.long (if x < y then y else x))) ad ce) := by
  refine CT.ofF (by decide +kernel) (Nat.le_of_ble_eq_true rfl) ?_
  intro X C I E
  show AW X 4 0 0 ad ce 0 [(0, .long x), (2, .long y)] []
  refine aw_lload_n C d_A_maxL_0 rfl (j := 0) rfl ?_
  refine aw_lload_n C d_A_maxL_1 rfl (j := 1) rfl ?_
  refine aw_lcmp C d_A_maxL_2 ?_
  refine aw_if_lt C (tgt := 10) d_A_maxL_3 (by decide) (fun h3 => ?_) (fun h3 => ?_)
  · refine aw_lload_n C d_A_maxL_10 rfl (j := 1) rfl ?_
    refine aw_lret C E (by decide) (by decide) d_A_maxL_11 ?_
    exact ⟨by rw [lg_cmp_lt] at h3; simp [h3], rfl, rfl⟩
  · refine aw_lload_n C d_A_maxL_6 rfl (j := 0) rfl ?_
    refine aw_goto C (tgt := 11) d_A_maxL_7 (by decide) ?_
    refine aw_lret C E (by decide) (by decide) d_A_maxL_11 ?_
    exact ⟨by rw [lg_cmp_lt] at h3; simp [h3], rfl, rfl⟩
def k_zero : CarS := k_mk 0 0 0 (fun _ => 0) (fun _ => 0) (fun _ => 0) (fun _ => 0) (fun _ => 0) 0 0 0 0
def S_new : SysS := (0, fun _ => k_zero, 0, fun _ => (0, fun _ => 0), 0, fun _ => 0, 0, fun _ => 0)
set_option maxRecDepth 100000 in
set_option maxHeartbeats 4000000 in
theorem c_Cinit (l : Launch) (G : aw_G) (ad : aw_Ad) (ce : aw_He) (ho : ce (0, 0, 0) = some (.inr (0, [.null, .int 0, .null, .int 0, .null, .int 0, .null, .int 0]))) (hno : ∀ p, p ≠ 0 → ce (0, 0, p) = none) (hn1 : ∀ i p, ce (1, i, p) = none) (hn2 : ∀ i p, ce (2, i, p) = none) : CT l G M_C_init 1 20 4 60 [.ref (ad (0, 0, 0))] ad ce (fun r ad' ce' => r = none ∧ (∀ q : aw_Lb, q.1 ≠ 0 → ad' q = ad q ∧ ce' q = ce q) ∧ ad' (0, 0, 0) = ad (0, 0, 0) ∧ LayC S_new ad' ce') := by
  refine CT.of (by decide) (Nat.le_of_ble_eq_true rfl) ?_
  intro X C I E
  show AW X 1 0 0 ad ce 0 [(0, .ref (ad (0, 0, 0)))] []
  refine aw_aload_n C d_C_init_0 rfl (j := 0) rfl ?_
  refine aw_objInit C I tw_12 tw_13 tw_14 ⟨by decide, by decide⟩ (Nat.le_of_ble_eq_true rfl) d_C_init_1 ?_
  refine aw_aload_n C d_C_init_4 rfl (j := 0) rfl ?_
  refine aw_bipush C (v := 10) d_C_init_5 (by decide) ?_
  refine ar_newQ C I 3 rfl (0, 0, 1) (hno 1 (by decide)) tw_15 (by decide) (N' := 10) (by decide) (by omega) ⟨Nat.le_trans (m := 4) (by omega) (Nat.le_refl _), Nat.le_trans (m := 60) (by omega) (Nat.le_refl _)⟩ d_C_init_7 ?_
  intro ad1 ce1 ha1 fw1 hca
  have ea1_0 : ad (0, 0, 0) = ad1 (0, 0, 0) := (ha1 _ (by simp)).symm
  rw [ea1_0]
  have ho : ce1 (0, 0, 0) = some (.inr (0, [.null, .int 0, .null, .int 0, .null, .int 0, .null, .int 0])) := (fw1 _ (by simp)).trans ho
  refine ob_putF C E rfl F_C ho 0 (by decide) tw_19 rfl rfl rfl rfl (Nat.le_of_ble_eq_true rfl) (fs' := [.ref (ad1 (0, 0, 1)), .int 0, .null, .int 0, .null, .int 0, .null, .int 0]) rfl d_C_init_10 ?_
  intro ce2 fw2 ho
  have hca := hca.tr (fw2 _ (by simp))
  refine aw_aload_n C d_C_init_13 rfl (j := 0) rfl ?_
  refine aw_iconst C (v := 0) d_C_init_14 (by decide) ?_
  refine ob_put C F_C ho 1 (by decide) tw_20 rfl rfl rfl (Nat.le_of_ble_eq_true rfl) (fs' := [.ref (ad1 (0, 0, 1)), .int 0, .null, .int 0, .null, .int 0, .null, .int 0]) rfl d_C_init_15 ?_
  intro ce3 fw3 ho
  have hca := hca.tr (fw3 _ (by simp))
  refine aw_aload_n C d_C_init_18 rfl (j := 0) rfl ?_
  refine aw_bipush C (v := 20) d_C_init_19 (by decide) ?_
  refine ar_newQ C I 4 rfl (0, 0, 2) (by rw [fw3 _ (by simp), fw2 _ (by simp), fw1 _ (by simp)]; exact hno 2 (by decide)) tw_17 (by decide) (N' := 20) (by decide) (by omega) ⟨Nat.le_trans (m := 4) (by omega) (Nat.le_refl _), Nat.le_trans (m := 60) (by omega) (Nat.le_refl _)⟩ d_C_init_21 ?_
  intro ad4 ce4 ha4 fw4 hpa
  have ea4_0 : ad1 (0, 0, 0) = ad4 (0, 0, 0) := (ha4 _ (by simp)).symm
  have ea4_1 : ad1 (0, 0, 1) = ad4 (0, 0, 1) := (ha4 _ (by simp)).symm
  rw [ea4_0]
  rw [ea4_1] at ho
  have ho : ce4 (0, 0, 0) = some (.inr (0, [.ref (ad4 (0, 0, 1)), .int 0, .null, .int 0, .null, .int 0, .null, .int 0])) := (fw4 _ (by simp)).trans ho
  have hca := hca.tr (fw4 _ (by simp))
  refine ob_putF C E rfl F_C ho 2 (by decide) tw_21 rfl rfl rfl rfl (Nat.le_of_ble_eq_true rfl) (fs' := [.ref (ad4 (0, 0, 1)), .int 0, .ref (ad4 (0, 0, 2)), .int 0, .null, .int 0, .null, .int 0]) rfl d_C_init_24 ?_
  intro ce5 fw5 ho
  have hca := hca.tr (fw5 _ (by simp))
  have hpa := hpa.tr (fw5 _ (by simp))
  refine aw_aload_n C d_C_init_27 rfl (j := 0) rfl ?_
  refine aw_iconst C (v := 0) d_C_init_28 (by decide) ?_
  refine ob_put C F_C ho 3 (by decide) tw_22 rfl rfl rfl (Nat.le_of_ble_eq_true rfl) (fs' := [.ref (ad4 (0, 0, 1)), .int 0, .ref (ad4 (0, 0, 2)), .int 0, .null, .int 0, .null, .int 0]) rfl d_C_init_29 ?_
  intro ce6 fw6 ho
  have hca := hca.tr (fw6 _ (by simp))
  have hpa := hpa.tr (fw6 _ (by simp))
  refine aw_aload_n C d_C_init_32 rfl (j := 0) rfl ?_
  refine aw_bipush C (v := 20) d_C_init_33 (by decide) ?_
  refine ar_newJ C I (0, 0, 3) (by rw [fw6 _ (by simp), fw5 _ (by simp), fw4 _ (by simp), fw3 _ (by simp), fw2 _ (by simp), fw1 _ (by simp)]; exact hno 3 (by decide)) tw_44 (N' := 20) (by decide) (by omega) ⟨Nat.le_trans (m := 4) (by omega) (Nat.le_refl _), Nat.le_trans (m := 60) (by omega) (Nat.le_refl _)⟩ d_C_init_35 ?_
  intro ad7 ce7 ha7 fw7 hli
  have ea7_0 : ad4 (0, 0, 0) = ad7 (0, 0, 0) := (ha7 _ (by simp)).symm
  have ea7_1 : ad4 (0, 0, 1) = ad7 (0, 0, 1) := (ha7 _ (by simp)).symm
  have ea7_2 : ad4 (0, 0, 2) = ad7 (0, 0, 2) := (ha7 _ (by simp)).symm
  rw [ea7_0]
  rw [ea7_1, ea7_2] at ho
  have ho : ce7 (0, 0, 0) = some (.inr (0, [.ref (ad7 (0, 0, 1)), .int 0, .ref (ad7 (0, 0, 2)), .int 0, .null, .int 0, .null, .int 0])) := (fw7 _ (by simp)).trans ho
  have hca := hca.tr (fw7 _ (by simp))
  have hpa := hpa.tr (fw7 _ (by simp))
  refine ob_putF C E rfl F_C ho 4 (by decide) tw_23 rfl rfl rfl rfl (Nat.le_of_ble_eq_true rfl) (fs' := [.ref (ad7 (0, 0, 1)), .int 0, .ref (ad7 (0, 0, 2)), .int 0, .ref (ad7 (0, 0, 3)), .int 0, .null, .int 0]) rfl d_C_init_37 ?_
  intro ce8 fw8 ho
  have hca := hca.tr (fw8 _ (by simp))
  have hpa := hpa.tr (fw8 _ (by simp))
  have hli := hli.tr (fw8 _ (by simp))
  refine aw_aload_n C d_C_init_40 rfl (j := 0) rfl ?_
  refine aw_iconst C (v := 0) d_C_init_41 (by decide) ?_
  refine ob_put C F_C ho 5 (by decide) tw_24 rfl rfl rfl (Nat.le_of_ble_eq_true rfl) (fs' := [.ref (ad7 (0, 0, 1)), .int 0, .ref (ad7 (0, 0, 2)), .int 0, .ref (ad7 (0, 0, 3)), .int 0, .null, .int 0]) rfl d_C_init_42 ?_
  intro ce9 fw9 ho
  have hca := hca.tr (fw9 _ (by simp))
  have hpa := hpa.tr (fw9 _ (by simp))
  have hli := hli.tr (fw9 _ (by simp))
  refine aw_aload_n C d_C_init_45 rfl (j := 0) rfl ?_
  refine aw_bipush C (v := 10) d_C_init_46 (by decide) ?_
  refine ar_newI C I (0, 0, 4) (by rw [fw9 _ (by simp), fw8 _ (by simp), fw7 _ (by simp), fw6 _ (by simp), fw5 _ (by simp), fw4 _ (by simp), fw3 _ (by simp), fw2 _ (by simp), fw1 _ (by simp)]; exact hno 4 (by decide)) tw_45 (N' := 10) (by decide) (by omega) ⟨Nat.le_trans (m := 4) (by omega) (Nat.le_refl _), Nat.le_trans (m := 60) (by omega) (Nat.le_refl _)⟩ d_C_init_48 ?_
  intro ad10 ce10 ha10 fw10 hlo
  have ea10_0 : ad7 (0, 0, 0) = ad10 (0, 0, 0) := (ha10 _ (by simp)).symm
  have ea10_1 : ad7 (0, 0, 1) = ad10 (0, 0, 1) := (ha10 _ (by simp)).symm
  have ea10_2 : ad7 (0, 0, 2) = ad10 (0, 0, 2) := (ha10 _ (by simp)).symm
  have ea10_3 : ad7 (0, 0, 3) = ad10 (0, 0, 3) := (ha10 _ (by simp)).symm
  rw [ea10_0]
  rw [ea10_1, ea10_2, ea10_3] at ho
  have ho : ce10 (0, 0, 0) = some (.inr (0, [.ref (ad10 (0, 0, 1)), .int 0, .ref (ad10 (0, 0, 2)), .int 0, .ref (ad10 (0, 0, 3)), .int 0, .null, .int 0])) := (fw10 _ (by simp)).trans ho
  have hca := hca.tr (fw10 _ (by simp))
  have hpa := hpa.tr (fw10 _ (by simp))
  have hli := hli.tr (fw10 _ (by simp))
  refine ob_putF C E rfl F_C ho 6 (by decide) tw_25 rfl rfl rfl rfl (Nat.le_of_ble_eq_true rfl) (fs' := [.ref (ad10 (0, 0, 1)), .int 0, .ref (ad10 (0, 0, 2)), .int 0, .ref (ad10 (0, 0, 3)), .int 0, .ref (ad10 (0, 0, 4)), .int 0]) rfl d_C_init_50 ?_
  intro ce11 fw11 ho
  have hca := hca.tr (fw11 _ (by simp))
  have hpa := hpa.tr (fw11 _ (by simp))
  have hli := hli.tr (fw11 _ (by simp))
  have hlo := hlo.tr (fw11 _ (by simp))
  refine aw_aload_n C d_C_init_53 rfl (j := 0) rfl ?_
  refine aw_iconst C (v := 0) d_C_init_54 (by decide) ?_
  refine ob_put C F_C ho 7 (by decide) tw_26 rfl rfl rfl (Nat.le_of_ble_eq_true rfl) (fs' := [.ref (ad10 (0, 0, 1)), .int 0, .ref (ad10 (0, 0, 2)), .int 0, .ref (ad10 (0, 0, 3)), .int 0, .ref (ad10 (0, 0, 4)), .int 0]) rfl d_C_init_55 ?_
  intro ce12 fw12 ho
  have hca := hca.tr (fw12 _ (by simp))
  have hpa := hpa.tr (fw12 _ (by simp))
  have hli := hli.tr (fw12 _ (by simp))
  have hlo := hlo.tr (fw12 _ (by simp))
  refine aw_vret C E (by decide) (by decide) d_C_init_58 ?_
  exact ⟨rfl, fun q hq => ⟨by rw [ha10 q (fun e => by subst e; simp at hq), ha7 q (fun e => by subst e; simp at hq), ha4 q (fun e => by subst e; simp at hq), ha1 q (fun e => by subst e; simp at hq)], by rw [fw12 q (fun e => by subst e; simp at hq), fw11 q (fun e => by subst e; simp at hq), fw10 q (fun e => by subst e; simp at hq), fw9 q (fun e => by subst e; simp at hq), fw8 q (fun e => by subst e; simp at hq), fw7 q (fun e => by subst e; simp at hq), fw6 q (fun e => by subst e; simp at hq), fw5 q (fun e => by subst e; simp at hq), fw4 q (fun e => by subst e; simp at hq), fw3 q (fun e => by subst e; simp at hq), fw2 q (fun e => by subst e; simp at hq), fw1 q (fun e => by subst e; simp at hq)]⟩, by rw [ha10 _ (by simp), ha7 _ (by simp), ha4 _ (by simp), ha1 _ (by simp)], ho, hca, hpa, hli, hlo, fun i hi => absurd hi (Nat.not_lt_zero _), fun i hi => absurd hi (Nat.not_lt_zero _), fun i p _ => (show ce12 (1, i, p) = ce (1, i, p) by rw [fw12 _ (by simp), fw11 _ (by simp), fw10 _ (by simp), fw9 _ (by simp), fw8 _ (by simp), fw7 _ (by simp), fw6 _ (by simp), fw5 _ (by simp), fw4 _ (by simp), fw3 _ (by simp), fw2 _ (by simp), fw1 _ (by simp)]).trans (hn1 i p), fun i p _ => (show ce12 (2, i, p) = ce (2, i, p) by rw [fw12 _ (by simp), fw11 _ (by simp), fw10 _ (by simp), fw9 _ (by simp), fw8 _ (by simp), fw7 _ (by simp), fw6 _ (by simp), fw5 _ (by simp), fw4 _ (by simp), fw3 _ (by simp), fw2 _ (by simp), fw1 _ (by simp)]).trans (hn2 i p), by decide⟩
def papF (num : Int32) (c : CarS) (a b : Int32) : Nat → Int32 := fun k => if k = 0 then num else if k = 1 then k_kd c else if k = 2 then a else if k = 3 then b else if k = 4 then k_st c else if k = 5 then nI (k_ps c) else k_pt c (k - 6)
theorem max0 {n : Nat} (h : n < 2 ^ 31) : (if (0 : Int32) < nI n then nI n else 0) = nI n := by
  by_cases h0 : n = 0
  · subst h0; decide
  · rw [if_pos]
    rw [← nI_0]; exact nI_lt (by omega) h
set_option maxRecDepth 100000 in
set_option maxHeartbeats 4000000 in
theorem c_Pinit (l : Launch) (G : aw_G) (ad : aw_Ad) (ce : aw_He) (i : Nat) (c : CarS) (hK : Car ad ce i c) (j : Nat) (num pa pb : Int32) (hp : ce (2, j, 0) = some (.inr (2, [.null]))) (hno : ce (2, j, 1) = none) : CT l G M_P_init 1 21 1 12 [.ref (ad (2, j, 0)), .int num, .ref (ad (1, i, 0)), .int pa, .int pb] ad ce (fun r ad' ce' => r = none ∧ (∀ q : aw_Lb, (q.1 ≠ 2 ∨ q.2.1 ≠ j) → ad' q = ad q ∧ ce' q = ce q) ∧ ad' (2, j, 0) = ad (2, j, 0) ∧ Pap ad' ce' j (6 + k_ps c, papF num c pa pb)) := by
  refine CT.of (by decide) (Nat.le_of_ble_eq_true rfl) ?_
  intro X C I E
  obtain ⟨hk, hby, hdu, hwo, hrd, hpt, ⟨hn1, hn2⟩, hps⟩ := hK
  show AW X 7 0 0 ad ce 0 [(0, .ref (ad (2, j, 0))), (1, .int num), (2, .ref (ad (1, i, 0))), (3, .int pa), (4, .int pb)] []
  refine aw_aload_n C d_P_init_0 rfl (j := 0) rfl ?_
  refine aw_objInit C I tw_225 tw_13 tw_14 ⟨by decide, by decide⟩ (Nat.le_of_ble_eq_true rfl) d_P_init_1 ?_
  refine aw_iconst C (v := 0) d_P_init_4 (by decide) ?_
  refine aw_aload_n C d_P_init_5 rfl (j := 2) rfl ?_
  refine aw_get C F_K hk 7 (by decide) tw_82 rfl d_P_init_6 ?_
  refine aw_aload_n C d_P_init_9 rfl (j := 2) rfl ?_
  refine aw_get C F_K hk 6 (by decide) tw_80 rfl d_P_init_10 ?_
  refine ar_len C hpt (tt := .int) rfl d_P_init_13 ?_
  refine aw_callS C I (as := [.int (nI (k_ps c)), .int (nI 6)]) (rest := [.int 0]) (c_minI l G ad ce (nI (k_ps c)) (nI 6)) g_P_19 ⟨by decide, by decide⟩ ⟨by decide, by decide⟩ rfl (Nat.le_of_ble_eq_true rfl) d_P_init_14 ?_
  rintro _ _ _ ⟨rfl, rfl, rfl⟩
  show AW X 7 0 0 ad ce 17 [(0, .ref (ad (2, j, 0))), (1, .int num), (2, .ref (ad (1, i, 0))), (3, .int pa), (4, .int pb)] [.int (if nI 6 < nI (k_ps c) then nI 6 else nI (k_ps c)), .int 0]
  refine aw_topi (v' := nI (k_ps c)) (if_neg (nI_nlt (by omega) (by omega))) ?_
  refine aw_callS C I (as := [.int 0, .int (nI (k_ps c))]) (rest := []) (c_maxI l G ad ce 0 (nI (k_ps c))) g_P_25 ⟨by decide, by decide⟩ ⟨by decide, by decide⟩ rfl (Nat.le_of_ble_eq_true rfl) d_P_init_17 ?_
  rintro _ _ _ ⟨rfl, rfl, rfl⟩
  show AW X 7 0 0 ad ce 20 [(0, .ref (ad (2, j, 0))), (1, .int num), (2, .ref (ad (1, i, 0))), (3, .int pa), (4, .int pb)] [.int (if (0 : Int32) < nI (k_ps c) then nI (k_ps c) else 0)]
  refine aw_topi (v' := nI (k_ps c)) (max0 (by omega)) ?_
  refine aw_istore C (lv' := [(5, .int (nI (k_ps c))), (0, .ref (ad (2, j, 0))), (1, .int num), (2, .ref (ad (1, i, 0))), (3, .int pa), (4, .int pb)]) d_P_init_20 (by decide) rfl ?_
  refine aw_aload_n C d_P_init_22 rfl (j := 1) rfl ?_
  refine aw_bipush C (v := 6) d_P_init_23 (by decide) ?_
  refine aw_iload C d_P_init_25 (j := 0) rfl ?_
  refine aw_iadd C d_P_init_27 ?_
  refine aw_topi (v' := nI (6 + k_ps c)) (nI_add 6 _) ?_
  refine ar_newI C I (2, j, 1) hno tw_45 (N' := (6 + k_ps c)) (rfl) (by omega) ⟨Nat.le_trans (m := 1) (by omega) (Nat.le_refl _), Nat.le_trans (m := 12) (by omega) (Nat.le_refl _)⟩ d_P_init_28 ?_
  intro ad13 ce13 ha13 fw13 hfl
  have ea13_0 : ad (2, j, 0) = ad13 (2, j, 0) := (ha13 _ (by simp)).symm
  have ea13_1 : ad (1, i, 0) = ad13 (1, i, 0) := (ha13 _ (by simp)).symm
  have ea13_2 : ad (1, i, 1) = ad13 (1, i, 1) := (ha13 _ (by simp)).symm
  have ea13_3 : ad (1, i, 2) = ad13 (1, i, 2) := (ha13 _ (by simp)).symm
  have ea13_4 : ad (1, i, 3) = ad13 (1, i, 3) := (ha13 _ (by simp)).symm
  have ea13_5 : ad (1, i, 4) = ad13 (1, i, 4) := (ha13 _ (by simp)).symm
  have ea13_6 : ad (1, i, 5) = ad13 (1, i, 5) := (ha13 _ (by simp)).symm
  rw [ea13_0, ea13_1]
  have hp : ce13 (2, j, 0) = some (.inr (2, [.null])) := (fw13 _ (by simp)).trans hp
  rw [ea13_2, ea13_3, ea13_4, ea13_5, ea13_6] at hk
  have hk : ce13 (1, i, 0) = some (.inr (1, [.int (k_kd c), .long (k_sr c), .ref (ad13 (1, i, 1)), .ref (ad13 (1, i, 2)), .ref (ad13 (1, i, 3)), .ref (ad13 (1, i, 4)), .ref (ad13 (1, i, 5)), .int (nI (k_ps c)), .int (nI (cnt (k_rd c) (k_np c))), .int (k_un c), .int (k_st c), .int (k_la c)])) := (fw13 _ (by simp)).trans hk
  have hpt := hpt.tr (fw13 _ (by simp))
  refine ob_putF C E rfl F_P hp 0 (by decide) tw_232 rfl rfl rfl rfl (Nat.le_of_ble_eq_true rfl) (fs' := [.ref (ad13 (2, j, 1))]) rfl d_P_init_30 ?_
  intro ce14 fw14 hp
  have hk : ce14 (1, i, 0) = some (.inr (1, [.int (k_kd c), .long (k_sr c), .ref (ad13 (1, i, 1)), .ref (ad13 (1, i, 2)), .ref (ad13 (1, i, 3)), .ref (ad13 (1, i, 4)), .ref (ad13 (1, i, 5)), .int (nI (k_ps c)), .int (nI (cnt (k_rd c) (k_np c))), .int (k_un c), .int (k_st c), .int (k_la c)])) := (fw14 _ (by simp)).trans hk
  have hpt := hpt.tr (fw14 _ (by simp))
  have hfl := hfl.tr (fw14 _ (by simp))
  refine aw_aload_n C d_P_init_33 rfl (j := 1) rfl ?_
  refine aw_get C F_P hp 0 (by decide) tw_232 rfl d_P_init_34 ?_
  refine aw_iconst C (v := 0) d_P_init_37 (by decide) ?_
  refine aw_iload_n C d_P_init_38 rfl (j := 2) rfl ?_
  refine ar_iast C hfl (j := 0) (by decide) (by omega) (by omega) d_P_init_39 ?_
  intro ce15 fw15 hfl
  have hp : ce15 (2, j, 0) = some (.inr (2, [.ref (ad13 (2, j, 1))])) := (fw15 _ (by simp)).trans hp
  have hk : ce15 (1, i, 0) = some (.inr (1, [.int (k_kd c), .long (k_sr c), .ref (ad13 (1, i, 1)), .ref (ad13 (1, i, 2)), .ref (ad13 (1, i, 3)), .ref (ad13 (1, i, 4)), .ref (ad13 (1, i, 5)), .int (nI (k_ps c)), .int (nI (cnt (k_rd c) (k_np c))), .int (k_un c), .int (k_st c), .int (k_la c)])) := (fw15 _ (by simp)).trans hk
  have hpt := hpt.tr (fw15 _ (by simp))
  refine aw_aload_n C d_P_init_40 rfl (j := 1) rfl ?_
  refine aw_get C F_P hp 0 (by decide) tw_232 rfl d_P_init_41 ?_
  refine aw_iconst C (v := 1) d_P_init_44 (by decide) ?_
  refine aw_aload_n C d_P_init_45 rfl (j := 3) rfl ?_
  refine aw_get C F_K hk 0 (by decide) tw_71 rfl d_P_init_46 ?_
  refine ar_iast C hfl (j := 1) (by decide) (by omega) (by omega) d_P_init_49 ?_
  intro ce16 fw16 hfl
  have hp : ce16 (2, j, 0) = some (.inr (2, [.ref (ad13 (2, j, 1))])) := (fw16 _ (by simp)).trans hp
  have hk : ce16 (1, i, 0) = some (.inr (1, [.int (k_kd c), .long (k_sr c), .ref (ad13 (1, i, 1)), .ref (ad13 (1, i, 2)), .ref (ad13 (1, i, 3)), .ref (ad13 (1, i, 4)), .ref (ad13 (1, i, 5)), .int (nI (k_ps c)), .int (nI (cnt (k_rd c) (k_np c))), .int (k_un c), .int (k_st c), .int (k_la c)])) := (fw16 _ (by simp)).trans hk
  have hpt := hpt.tr (fw16 _ (by simp))
  refine aw_aload_n C d_P_init_50 rfl (j := 1) rfl ?_
  refine aw_get C F_P hp 0 (by decide) tw_232 rfl d_P_init_51 ?_
  refine aw_iconst C (v := 2) d_P_init_54 (by decide) ?_
  refine aw_iload_n C d_P_init_55 rfl (j := 4) rfl ?_
  refine ar_iast C hfl (j := 2) (by decide) (by omega) (by omega) d_P_init_56 ?_
  intro ce17 fw17 hfl
  have hp : ce17 (2, j, 0) = some (.inr (2, [.ref (ad13 (2, j, 1))])) := (fw17 _ (by simp)).trans hp
  have hk : ce17 (1, i, 0) = some (.inr (1, [.int (k_kd c), .long (k_sr c), .ref (ad13 (1, i, 1)), .ref (ad13 (1, i, 2)), .ref (ad13 (1, i, 3)), .ref (ad13 (1, i, 4)), .ref (ad13 (1, i, 5)), .int (nI (k_ps c)), .int (nI (cnt (k_rd c) (k_np c))), .int (k_un c), .int (k_st c), .int (k_la c)])) := (fw17 _ (by simp)).trans hk
  have hpt := hpt.tr (fw17 _ (by simp))
  refine aw_aload_n C d_P_init_57 rfl (j := 1) rfl ?_
  refine aw_get C F_P hp 0 (by decide) tw_232 rfl d_P_init_58 ?_
  refine aw_iconst C (v := 3) d_P_init_61 (by decide) ?_
  refine aw_iload C d_P_init_62 (j := 5) rfl ?_
  refine ar_iast C hfl (j := 3) (by decide) (by omega) (by omega) d_P_init_64 ?_
  intro ce18 fw18 hfl
  have hp : ce18 (2, j, 0) = some (.inr (2, [.ref (ad13 (2, j, 1))])) := (fw18 _ (by simp)).trans hp
  have hk : ce18 (1, i, 0) = some (.inr (1, [.int (k_kd c), .long (k_sr c), .ref (ad13 (1, i, 1)), .ref (ad13 (1, i, 2)), .ref (ad13 (1, i, 3)), .ref (ad13 (1, i, 4)), .ref (ad13 (1, i, 5)), .int (nI (k_ps c)), .int (nI (cnt (k_rd c) (k_np c))), .int (k_un c), .int (k_st c), .int (k_la c)])) := (fw18 _ (by simp)).trans hk
  have hpt := hpt.tr (fw18 _ (by simp))
  refine aw_aload_n C d_P_init_65 rfl (j := 1) rfl ?_
  refine aw_get C F_P hp 0 (by decide) tw_232 rfl d_P_init_66 ?_
  refine aw_iconst C (v := 4) d_P_init_69 (by decide) ?_
  refine aw_aload_n C d_P_init_70 rfl (j := 3) rfl ?_
  refine aw_get C F_K hk 10 (by decide) tw_88 rfl d_P_init_71 ?_
  refine ar_iast C hfl (j := 4) (by decide) (by omega) (by omega) d_P_init_74 ?_
  intro ce19 fw19 hfl
  have hp : ce19 (2, j, 0) = some (.inr (2, [.ref (ad13 (2, j, 1))])) := (fw19 _ (by simp)).trans hp
  have hk : ce19 (1, i, 0) = some (.inr (1, [.int (k_kd c), .long (k_sr c), .ref (ad13 (1, i, 1)), .ref (ad13 (1, i, 2)), .ref (ad13 (1, i, 3)), .ref (ad13 (1, i, 4)), .ref (ad13 (1, i, 5)), .int (nI (k_ps c)), .int (nI (cnt (k_rd c) (k_np c))), .int (k_un c), .int (k_st c), .int (k_la c)])) := (fw19 _ (by simp)).trans hk
  have hpt := hpt.tr (fw19 _ (by simp))
  refine aw_aload_n C d_P_init_75 rfl (j := 1) rfl ?_
  refine aw_get C F_P hp 0 (by decide) tw_232 rfl d_P_init_76 ?_
  refine aw_iconst C (v := 5) d_P_init_79 (by decide) ?_
  refine aw_iload C d_P_init_80 (j := 0) rfl ?_
  refine ar_iast C hfl (j := 5) (by decide) (by omega) (by omega) d_P_init_82 ?_
  intro ce20 fw20 hfl
  have hp : ce20 (2, j, 0) = some (.inr (2, [.ref (ad13 (2, j, 1))])) := (fw20 _ (by simp)).trans hp
  have hk : ce20 (1, i, 0) = some (.inr (1, [.int (k_kd c), .long (k_sr c), .ref (ad13 (1, i, 1)), .ref (ad13 (1, i, 2)), .ref (ad13 (1, i, 3)), .ref (ad13 (1, i, 4)), .ref (ad13 (1, i, 5)), .int (nI (k_ps c)), .int (nI (cnt (k_rd c) (k_np c))), .int (k_un c), .int (k_st c), .int (k_la c)])) := (fw20 _ (by simp)).trans hk
  have hpt := hpt.tr (fw20 _ (by simp))
  refine aw_iconst C (v := 0) d_P_init_83 (by decide) ?_
  refine aw_istore C (lv' := [(6, .int 0), (5, .int (nI (k_ps c))), (0, .ref (ad13 (2, j, 0))), (1, .int num), (2, .ref (ad13 (1, i, 0))), (3, .int pa), (4, .int pb)]) d_P_init_84 (by decide) rfl ?_
  have loop : ∀ (m a : Nat) (cez : aw_He) (g : Nat → Int32), a + m = k_ps c → (∀ q, q ≠ (2, j, 1) → cez q = ce20 q) → arI cez (2, j, 1) 0 (6 + k_ps c) g → (∀ k, k < 6 + a → g k = papF num c pa pb k) → AW X 7 (0 + 1) (0 + (6 + k_ps c)) ad13 cez 86 [(6, .int (nI a)), (5, .int (nI (k_ps c))), (0, .ref (ad13 (2, j, 0))), (1, .int num), (2, .ref (ad13 (1, i, 0))), (3, .int pa), (4, .int pb)] [] := by
    intro m
    induction m with
    | zero =>
      intro a cez g ha hfz hfl hg
      have hp : cez (2, j, 0) = some (.inr (2, [.ref (ad13 (2, j, 1))])) := (hfz _ (by simp)).trans hp
      have hk : cez (1, i, 0) = some (.inr (1, [.int (k_kd c), .long (k_sr c), .ref (ad13 (1, i, 1)), .ref (ad13 (1, i, 2)), .ref (ad13 (1, i, 3)), .ref (ad13 (1, i, 4)), .ref (ad13 (1, i, 5)), .int (nI (k_ps c)), .int (nI (cnt (k_rd c) (k_np c))), .int (k_un c), .int (k_st c), .int (k_la c)])) := (hfz _ (by simp)).trans hk
      have hpt := hpt.tr (hfz _ (by simp))
      refine aw_iload C d_P_init_86 (j := 0) rfl ?_
      refine aw_iload C d_P_init_88 (j := 1) rfl ?_
      refine aw_icmp_ge C (tgt := 116) d_P_init_90 (by decide) (fun h90 => ?_) (fun h90 => absurd (nI_le (by omega) (by omega)) h90)
      refine aw_vret C E (by decide) (by omega) d_P_init_116 ?_
      exact ⟨rfl, fun q hq => ⟨by rw [ha13 q (fun e => by subst e; simp at hq)], by rw [hfz q (fun e => by subst e; simp at hq), fw20 q (fun e => by subst e; simp at hq), fw19 q (fun e => by subst e; simp at hq), fw18 q (fun e => by subst e; simp at hq), fw17 q (fun e => by subst e; simp at hq), fw16 q (fun e => by subst e; simp at hq), fw15 q (fun e => by subst e; simp at hq), fw14 q (fun e => by subst e; simp at hq), fw13 q (fun e => by subst e; simp at hq)]⟩, by rw [ha13 _ (by simp)], hp, hfl.to (fun k hk => hg k (by omega)), by show 6 ≤ 6 + k_ps c; omega, by show 6 + k_ps c ≤ 12; omega⟩
    | succ m ih =>
      intro a cez g ha hfz hfl hg
      have hp : cez (2, j, 0) = some (.inr (2, [.ref (ad13 (2, j, 1))])) := (hfz _ (by simp)).trans hp
      have hk : cez (1, i, 0) = some (.inr (1, [.int (k_kd c), .long (k_sr c), .ref (ad13 (1, i, 1)), .ref (ad13 (1, i, 2)), .ref (ad13 (1, i, 3)), .ref (ad13 (1, i, 4)), .ref (ad13 (1, i, 5)), .int (nI (k_ps c)), .int (nI (cnt (k_rd c) (k_np c))), .int (k_un c), .int (k_st c), .int (k_la c)])) := (hfz _ (by simp)).trans hk
      have hpt := hpt.tr (hfz _ (by simp))
      refine aw_iload C d_P_init_86 (j := 0) rfl ?_
      refine aw_iload C d_P_init_88 (j := 1) rfl ?_
      refine aw_icmp_ge C (tgt := 116) d_P_init_90 (by decide) (fun h90 => absurd h90 (nI_ge (by omega) (by omega))) (fun h90 => ?_)
      refine aw_aload_n C d_P_init_93 rfl (j := 2) rfl ?_
      refine aw_get C F_P hp 0 (by decide) tw_232 rfl d_P_init_94 ?_
      refine aw_bipush C (v := 6) d_P_init_97 (by decide) ?_
      refine aw_iload C d_P_init_99 (j := 0) rfl ?_
      refine aw_iadd C d_P_init_101 ?_
      refine aw_topi (v' := nI (6 + a)) (nI_add 6 _) ?_
      refine aw_aload_n C d_P_init_102 rfl (j := 4) rfl ?_
      refine aw_get C F_K hk 6 (by decide) tw_80 rfl d_P_init_103 ?_
      refine aw_iload C d_P_init_106 (j := 0) rfl ?_
      refine ar_iald C hpt (j := a) (rfl) (by omega) (by omega) d_P_init_108 ?_
      refine ar_iast C hfl (j := (6 + a)) (rfl) (by omega) (by omega) d_P_init_109 ?_
      intro ce21 fw21 hfl
      have hp : ce21 (2, j, 0) = some (.inr (2, [.ref (ad13 (2, j, 1))])) := (fw21 _ (by simp)).trans hp
      have hk : ce21 (1, i, 0) = some (.inr (1, [.int (k_kd c), .long (k_sr c), .ref (ad13 (1, i, 1)), .ref (ad13 (1, i, 2)), .ref (ad13 (1, i, 3)), .ref (ad13 (1, i, 4)), .ref (ad13 (1, i, 5)), .int (nI (k_ps c)), .int (nI (cnt (k_rd c) (k_np c))), .int (k_un c), .int (k_st c), .int (k_la c)])) := (fw21 _ (by simp)).trans hk
      have hpt := hpt.tr (fw21 _ (by simp))
      refine aw_iinc C (v := nI (a + 1)) (lv' := [(6, .int (nI (a + 1))), (5, .int (nI (k_ps c))), (0, .ref (ad13 (2, j, 0))), (1, .int num), (2, .ref (ad13 (1, i, 0))), (3, .int pa), (4, .int pb)]) d_P_init_110 (j := 0) rfl (nI_1 _) (by decide) rfl ?_
      refine aw_goto C (tgt := 86) d_P_init_113 (by decide) ?_
      refine ih (a + 1) ce21 (upd g (6 + a) ((k_pt c) a)) (by omega) (fun q hq => (fw21 q hq).trans (hfz q hq)) hfl ?_
      intro k hk
      by_cases e : k = 6 + a
      · subst e; simp [upd, papF]
        repeat rw [if_neg (by omega)]
      · simp [upd, e]; exact hg k (by omega)
  refine aw_lv (lv' := [(6, .int (nI 0)), (5, .int (nI (k_ps c))), (0, .ref (ad13 (2, j, 0))), (1, .int num), (2, .ref (ad13 (1, i, 0))), (3, .int pa), (4, .int pb)]) (by simp only [nI_0]) ?_
  exact loop (k_ps c) 0 ce20 (upd (upd (upd (upd (upd (upd (fun _ => 0) 0 num) 1 (k_kd c)) 2 pa) 3 pb) 4 (k_st c)) 5 (nI (k_ps c))) (by omega) (fun _ _ => rfl) hfl (fun k hk => by rcases (show k = 0 ∨ k = 1 ∨ k = 2 ∨ k = 3 ∨ k = 4 ∨ k = 5 by omega) with rfl | rfl | rfl | rfl | rfl | rfl <;> simp [upd, papF])
end
section
/-! what each call answers, and the system behind it -/
def ix (n : Nat) (x : Int32) : Option Nat := if x < 0 ∨ nI n ≤ x then none else some x.toNatClampNeg
theorem ix_out {n : Nat} {x : Int32} (h : x < 0 ∨ nI n ≤ x) : ix n x = none := if_pos h
theorem ix_in {n j : Nat} (hj : j < n) (hn : n < 2 ^ 31) : ix n (nI j) = some j := by
  unfold ix
  rw [if_neg, nI_clamp (by omega)]
  rintro (h | h)
  · exact nI_pos (by omega) h
  · exact nI_ge hj hn h
theorem ix_cases (x : Int32) {n : Nat} (hn : n < 2 ^ 31) : (x < 0 ∨ nI n ≤ x) ∨ ∃ j, j < n ∧ x = nI j := by
  rcases pk_ix x hn with h | h | h
  · exact Or.inl (Or.inl h)
  · exact Or.inl (Or.inr h)
  · exact Or.inr h
def gone (c : CarS) : Prop := k_st c = 5 ∨ k_st c = 6
abbrev sC (S : SysS) (j : Nat) : CarS := s_car S j
def f_state (S : SysS) (x : Int32) : Int32 := match ix (s_cn S) x with
  | none => -1
  | some j => k_st (s_car S j)
def f_last (S : SysS) (x : Int32) : Int32 := match ix (s_cn S) x with
  | none => -1
  | some j => k_la (s_car S j)
def f_unlike (S : SysS) (x : Int32) : Int32 := match ix (s_cn S) x with
  | none => -1
  | some j => k_un (s_car S j)
def f_failed (S : SysS) (x k : Int32) : Int32 := match ix (s_cn S) x with
  | none => -1
  | some j => kth (k_wo (s_car S j)) k (k_np (s_car S j)) 0 0
def f_byteAt (S : SysS) (x y : Int32) : Int32 := match ix (s_cn S) x with
  | none => -1
  | some j => if k_st (s_car S j) = 5 ∨ k_st (s_car S j) = 6 then -1 else match ix (k_np (s_car S j)) y with
    | none => -1
    | some p => k_by (s_car S j) p
def f_fail (S : SysS) (x y : Int32) : Int32 × SysS := match ix (s_cn S) x with
  | none => (0, S)
  | some j => if k_st (s_car S j) = 5 ∨ k_st (s_car S j) = 6 then (0, S) else match ix (k_np (s_car S j)) y with
    | none => (0, S)
    | some p => if k_wo (s_car S j) p = 0 then (1, s_set S j (k_sWo (s_car S j) (upd (k_wo (s_car S j)) p 1))) else (0, S)
def k_ev (c : CarS) (e p : Int32) : CarS := k_sLa (k_sSt (if e = 3 then k_sNp c else c) (evTo e (k_st c))) p
def f_event (S : SysS) (x e p : Int32) : Int32 × SysS := match ix (s_cn S) x with
  | none => (0, S)
  | some j => if (0 ≤ p ∧ p ≤ 9) ∧ 0 ≤ evTo e (k_st (s_car S j)) then (1, s_set S j (k_ev (s_car S j) e p)) else (0, S)
def f_pass (S : SysS) (x p : Int32) : Int32 × SysS := match ix (s_cn S) x with
  | none => (-1, S)
  | some j => if (0 ≤ p ∧ p ≤ 257) ∧ k_st (s_car S j) = 2 ∧ k_ps (s_car S j) < 6 then (nI (k_ps (s_car S j) + 1), s_set S j (k_pass (s_car S j) p)) else (-1, S)
def f_read (S : SysS) (x y b : Int32) : Int32 × SysS := match ix (s_cn S) x with
  | none => (-1, S)
  | some j => match ix (k_np (s_car S j)) y with
    | none => (-1, S)
    | some q => if (0 ≤ b ∧ b ≤ 255) ∧ k_st (s_car S j) = 2 ∧ ¬ k_ps (s_car S j) = 0 ∧ k_rd (s_car S j) q = 0 then ((if b = k_du (s_car S j) q then 1 else 0), s_set S j (k_read (s_car S j) q b)) else (-1, S)
def f_shred (S : SysS) (x m : Int32) : Int32 × SysS := match ix (s_cn S) x with
  | none => (0, S)
  | some j => if (1 ≤ m ∧ m ≤ 100) ∧ (k_st (s_car S j) = 3 ∨ k_st (s_car S j) = 4) ∧ ¬ 2 + 6 * k_kd (s_car S j) < m then (1, s_set S j (k_sSt (s_car S j) 5)) else (0, S)
def s_lost (S : SysS) (j : Nat) : SysS := (s_cn S, va_up (s_car S) j (k_sSt (s_car S j) 6), s_pn S, s_pap S, s_ln S, s_li S, s_on S + 1, upd (s_lo S) (s_on S) (nI j))
def f_lost (S : SysS) (x : Int32) : Int32 × SysS := match ix (s_cn S) x with
  | none => (-1, S)
  | some j => if k_st (s_car S j) = 5 ∨ k_st (s_car S j) = 6 then (-1, S) else (nI (s_on S + 1), s_lost S j)
def s_addP (S : SysS) (p : PapS) : SysS := (s_cn S, s_car S, s_pn S + 1, va_up (s_pap S) (s_pn S) p, s_ln S, s_li S, s_on S, s_lo S)
def f_paper (S : SysS) (x a b : Int32) : Int32 × SysS := match ix (s_cn S) x with
  | none => (-1, S)
  | some j => if (0 ≤ a ∧ a ≤ 9) ∧ (0 ≤ b ∧ b ≤ 9) ∧ ¬ a = b ∧ (k_st (s_car S j) = 3 ∨ k_st (s_car S j) = 5) ∧ s_pn S < 20 then (nI (s_pn S), s_addP S (6 + k_ps (s_car S j), papF (nI j) (s_car S j) a b)) else (-1, S)
def s_addL (S : SysS) (x : Int64) : SysS := (s_cn S, s_car S, s_pn S, s_pap S, s_ln S + 1, vp_updL (s_li S) (s_ln S) x, s_on S, s_lo S)
def hasC (S : SysS) (x : Int64) : Bool := anyF (fun i => k_sr (s_car S i)) x (s_cn S) 0
def hasL (S : SysS) (x : Int64) : Bool := anyF (s_li S) x (s_ln S) 0
def f_listed (S : SysS) (x : Int64) : Int32 × SysS := if (0 ≤ x ∧ x ≤ 1000000000000) ∧ hasL S x = false ∧ s_ln S < 20 then (nI (s_ln S + 1), s_addL S x) else (-1, S)
def s_addC (S : SysS) (c : CarS) : SysS := (s_cn S + 1, va_up (s_car S) (s_cn S) c, s_pn S, s_pap S, s_ln S, s_li S, s_on S, s_lo S)
def f_carrier (S : SysS) (kd : Int32) (x : Int64) (n : Int32) : Int32 × SysS := if (0 ≤ kd ∧ kd ≤ 3) ∧ (0 ≤ x ∧ x ≤ 1000000000000) ∧ (1 ≤ n ∧ n ≤ 64) ∧ s_cn S < 10 ∧ hasC S x = false then (nI (s_cn S), s_addC S (k_new kd x n.toNatClampNeg)) else (-1, S)
def f_at (S : SysS) (x i : Int32) : Int32 := match ix (s_pn S) x with
  | none => -1
  | some j => match ix (s_pap S j).1 i with
    | none => -1
    | some k => (s_pap S j).2 k
def mkOf (p : PapS) (key : Int64) : Int64 := fldM mkS p.2 p.1 0 key
def mkB (x : Int64) (s : Int32) : Int32 := Int64.toInt32 ((Int64.toUInt64 x >>> ((Int32.toInt64 s).toUInt64 &&& Int64.toUInt64 63)).toInt64 &&& 255)
def f_mark (S : SysS) (x : Int32) (key : Int64) (i : Int32) : Int32 := match ix (s_pn S) x with
  | none => -1
  | some j => if 0 ≤ i ∧ i ≤ 7 then mkB (mkOf (s_pap S j) key) (56 - 8 * i) else -1
def f_check (S : SysS) (x : Int32) (key b : Int64) : Int32 := match ix (s_pn S) x with
  | none => 0
  | some j => if mkOf (s_pap S j) key = b then 1 else 0
def f_missing (S : SysS) (k : Int32) : Int32 := kth (fun i => if hasC S (s_li S i) = true then 0 else 1) k (s_ln S) 0 0
def f_extra (S : SysS) (k : Int32) : Int32 := kth (fun i => if hasL S (k_sr (s_car S i)) = true then 0 else 1) k (s_cn S) 0 0
def f_told (S : SysS) (k : Int32) : Int32 := match ix (s_on S) k with
  | none => -1
  | some j => s_lo S j
end
section
set_option maxRecDepth 100000 in
set_option maxHeartbeats 4000000 in
theorem C_state (l : Launch) (G : aw_G) (ad : aw_Ad) (ce : aw_He) (S : SysS) (hL : LayC S ad ce) (x : Int32) : CT l G M_C_state 1 21 0 0 [.ref (ad (0, 0, 0)), .int x] ad ce (rN (some (.int (f_state S x))) ad ce) := by
  refine CT.of (by decide) (Nat.le_of_ble_eq_true rfl) ?_
  intro X C I E
  have hL0 := hL
  obtain ⟨ho, hca, hpa, hli, hlo, hcars, hpaps, hnoc, hnop, hb1, hb2, hb3, hb4⟩ := hL0
  rcases ix_cases x (n := s_cn S) (by omega) with hx | ⟨j, hj, rfl⟩
  · skip
    show AW X 3 0 0 ad ce 0 [(0, .ref (ad (0, 0, 0))), (1, .int x)] []
    refine aw_aload_n C d_C_state_0 rfl (j := 0) rfl ?_
    refine aw_iload_n C d_C_state_1 rfl (j := 1) rfl ?_
    refine aw_callV C I (k := (0, 0, 0)) (as := [.int x]) (rest := []) (c_findC_out l G ad ce S hL x hx) g_C_56 ho rfl rfl ⟨by decide, by decide⟩ ⟨by decide, by decide⟩ rfl (Nat.le_of_ble_eq_true rfl) d_C_state_2 ?_
    rintro _ _ _ ⟨rfl, rfl, rfl⟩
    show AW X 3 0 0 ad ce 5 [(0, .ref (ad (0, 0, 0))), (1, .int x)] [.null]
    refine aw_astore_nN C (lv' := [(2, .null), (0, .ref (ad (0, 0, 0))), (1, .int x)]) d_C_state_5 rfl (by decide) rfl ?_
    refine aw_aload_nN C d_C_state_6 rfl (j := 0) rfl ?_
    refine aw_ifnonnullN C d_C_state_7 ?_
    refine aw_iconst C (v := (-1)) d_C_state_10 (by decide) ?_
    refine aw_goto C (tgt := 18) d_C_state_11 (by decide) ?_
    refine aw_iret C E (rfl) (by decide) (by decide) d_C_state_18 ?_
    exact ⟨sI (by simp only [f_state, ix_out hx]), rfl, rfl⟩
  · skip
    show AW X 3 0 0 ad ce 0 [(0, .ref (ad (0, 0, 0))), (1, .int (nI j))] []
    refine aw_aload_n C d_C_state_0 rfl (j := 0) rfl ?_
    refine aw_iload_n C d_C_state_1 rfl (j := 1) rfl ?_
    refine aw_callV C I (k := (0, 0, 0)) (as := [.int (nI j)]) (rest := []) (c_findC_in l G ad ce S hL j hj) g_C_56 ho rfl rfl ⟨by decide, by decide⟩ ⟨by decide, by decide⟩ rfl (Nat.le_of_ble_eq_true rfl) d_C_state_2 ?_
    rintro _ _ _ ⟨rfl, rfl, rfl⟩
    show AW X 3 0 0 ad ce 5 [(0, .ref (ad (0, 0, 0))), (1, .int (nI j))] [.ref (ad (1, j, 0))]
    have hK := hcars j hj
    have hK0 := hK
    obtain ⟨hk, hby, hdu, hwo, hrd, hpt, ⟨hn1, hn2⟩, hps⟩ := hK0
    refine aw_astore_n C (lv' := [(2, .ref (ad (1, j, 0))), (0, .ref (ad (0, 0, 0))), (1, .int (nI j))]) d_C_state_5 rfl (by decide) rfl ?_
    refine aw_aload_n C d_C_state_6 rfl (j := 0) rfl ?_
    refine aw_ifnonnull C (tgt := 14) d_C_state_7 (by decide) ?_
    refine aw_aload_n C d_C_state_14 rfl (j := 0) rfl ?_
    refine aw_get C F_K hk 10 (by decide) tw_89 rfl d_C_state_15 ?_
    refine aw_iret C E (rfl) (by decide) (by decide) d_C_state_18 ?_
    exact ⟨sI (by simp only [f_state, ix_in hj (show s_cn S < 2 ^ 31 by omega)]), rfl, rfl⟩
set_option maxRecDepth 100000 in
set_option maxHeartbeats 4000000 in
theorem C_last (l : Launch) (G : aw_G) (ad : aw_Ad) (ce : aw_He) (S : SysS) (hL : LayC S ad ce) (x : Int32) : CT l G M_C_last 1 21 0 0 [.ref (ad (0, 0, 0)), .int x] ad ce (rN (some (.int (f_last S x))) ad ce) := by
  refine CT.of (by decide) (Nat.le_of_ble_eq_true rfl) ?_
  intro X C I E
  have hL0 := hL
  obtain ⟨ho, hca, hpa, hli, hlo, hcars, hpaps, hnoc, hnop, hb1, hb2, hb3, hb4⟩ := hL0
  rcases ix_cases x (n := s_cn S) (by omega) with hx | ⟨j, hj, rfl⟩
  · skip
    show AW X 3 0 0 ad ce 0 [(0, .ref (ad (0, 0, 0))), (1, .int x)] []
    refine aw_aload_n C d_C_last_0 rfl (j := 0) rfl ?_
    refine aw_iload_n C d_C_last_1 rfl (j := 1) rfl ?_
    refine aw_callV C I (k := (0, 0, 0)) (as := [.int x]) (rest := []) (c_findC_out l G ad ce S hL x hx) g_C_56 ho rfl rfl ⟨by decide, by decide⟩ ⟨by decide, by decide⟩ rfl (Nat.le_of_ble_eq_true rfl) d_C_last_2 ?_
    rintro _ _ _ ⟨rfl, rfl, rfl⟩
    show AW X 3 0 0 ad ce 5 [(0, .ref (ad (0, 0, 0))), (1, .int x)] [.null]
    refine aw_astore_nN C (lv' := [(2, .null), (0, .ref (ad (0, 0, 0))), (1, .int x)]) d_C_last_5 rfl (by decide) rfl ?_
    refine aw_aload_nN C d_C_last_6 rfl (j := 0) rfl ?_
    refine aw_ifnonnullN C d_C_last_7 ?_
    refine aw_iconst C (v := (-1)) d_C_last_10 (by decide) ?_
    refine aw_goto C (tgt := 18) d_C_last_11 (by decide) ?_
    refine aw_iret C E (rfl) (by decide) (by decide) d_C_last_18 ?_
    exact ⟨sI (by simp only [f_last, ix_out hx]), rfl, rfl⟩
  · skip
    show AW X 3 0 0 ad ce 0 [(0, .ref (ad (0, 0, 0))), (1, .int (nI j))] []
    refine aw_aload_n C d_C_last_0 rfl (j := 0) rfl ?_
    refine aw_iload_n C d_C_last_1 rfl (j := 1) rfl ?_
    refine aw_callV C I (k := (0, 0, 0)) (as := [.int (nI j)]) (rest := []) (c_findC_in l G ad ce S hL j hj) g_C_56 ho rfl rfl ⟨by decide, by decide⟩ ⟨by decide, by decide⟩ rfl (Nat.le_of_ble_eq_true rfl) d_C_last_2 ?_
    rintro _ _ _ ⟨rfl, rfl, rfl⟩
    show AW X 3 0 0 ad ce 5 [(0, .ref (ad (0, 0, 0))), (1, .int (nI j))] [.ref (ad (1, j, 0))]
    have hK := hcars j hj
    have hK0 := hK
    obtain ⟨hk, hby, hdu, hwo, hrd, hpt, ⟨hn1, hn2⟩, hps⟩ := hK0
    refine aw_astore_n C (lv' := [(2, .ref (ad (1, j, 0))), (0, .ref (ad (0, 0, 0))), (1, .int (nI j))]) d_C_last_5 rfl (by decide) rfl ?_
    refine aw_aload_n C d_C_last_6 rfl (j := 0) rfl ?_
    refine aw_ifnonnull C (tgt := 14) d_C_last_7 (by decide) ?_
    refine aw_aload_n C d_C_last_14 rfl (j := 0) rfl ?_
    refine aw_get C F_K hk 11 (by decide) tw_91 rfl d_C_last_15 ?_
    refine aw_iret C E (rfl) (by decide) (by decide) d_C_last_18 ?_
    exact ⟨sI (by simp only [f_last, ix_in hj (show s_cn S < 2 ^ 31 by omega)]), rfl, rfl⟩
set_option maxRecDepth 100000 in
set_option maxHeartbeats 4000000 in
theorem C_unlike (l : Launch) (G : aw_G) (ad : aw_Ad) (ce : aw_He) (S : SysS) (hL : LayC S ad ce) (x : Int32) : CT l G M_C_unlike 1 21 0 0 [.ref (ad (0, 0, 0)), .int x] ad ce (rN (some (.int (f_unlike S x))) ad ce) := by
  refine CT.of (by decide) (Nat.le_of_ble_eq_true rfl) ?_
  intro X C I E
  have hL0 := hL
  obtain ⟨ho, hca, hpa, hli, hlo, hcars, hpaps, hnoc, hnop, hb1, hb2, hb3, hb4⟩ := hL0
  rcases ix_cases x (n := s_cn S) (by omega) with hx | ⟨j, hj, rfl⟩
  · skip
    show AW X 3 0 0 ad ce 0 [(0, .ref (ad (0, 0, 0))), (1, .int x)] []
    refine aw_aload_n C d_C_unlike_0 rfl (j := 0) rfl ?_
    refine aw_iload_n C d_C_unlike_1 rfl (j := 1) rfl ?_
    refine aw_callV C I (k := (0, 0, 0)) (as := [.int x]) (rest := []) (c_findC_out l G ad ce S hL x hx) g_C_56 ho rfl rfl ⟨by decide, by decide⟩ ⟨by decide, by decide⟩ rfl (Nat.le_of_ble_eq_true rfl) d_C_unlike_2 ?_
    rintro _ _ _ ⟨rfl, rfl, rfl⟩
    show AW X 3 0 0 ad ce 5 [(0, .ref (ad (0, 0, 0))), (1, .int x)] [.null]
    refine aw_astore_nN C (lv' := [(2, .null), (0, .ref (ad (0, 0, 0))), (1, .int x)]) d_C_unlike_5 rfl (by decide) rfl ?_
    refine aw_aload_nN C d_C_unlike_6 rfl (j := 0) rfl ?_
    refine aw_ifnonnullN C d_C_unlike_7 ?_
    refine aw_iconst C (v := (-1)) d_C_unlike_10 (by decide) ?_
    refine aw_goto C (tgt := 18) d_C_unlike_11 (by decide) ?_
    refine aw_iret C E (rfl) (by decide) (by decide) d_C_unlike_18 ?_
    exact ⟨sI (by simp only [f_unlike, ix_out hx]), rfl, rfl⟩
  · skip
    show AW X 3 0 0 ad ce 0 [(0, .ref (ad (0, 0, 0))), (1, .int (nI j))] []
    refine aw_aload_n C d_C_unlike_0 rfl (j := 0) rfl ?_
    refine aw_iload_n C d_C_unlike_1 rfl (j := 1) rfl ?_
    refine aw_callV C I (k := (0, 0, 0)) (as := [.int (nI j)]) (rest := []) (c_findC_in l G ad ce S hL j hj) g_C_56 ho rfl rfl ⟨by decide, by decide⟩ ⟨by decide, by decide⟩ rfl (Nat.le_of_ble_eq_true rfl) d_C_unlike_2 ?_
    rintro _ _ _ ⟨rfl, rfl, rfl⟩
    show AW X 3 0 0 ad ce 5 [(0, .ref (ad (0, 0, 0))), (1, .int (nI j))] [.ref (ad (1, j, 0))]
    have hK := hcars j hj
    have hK0 := hK
    obtain ⟨hk, hby, hdu, hwo, hrd, hpt, ⟨hn1, hn2⟩, hps⟩ := hK0
    refine aw_astore_n C (lv' := [(2, .ref (ad (1, j, 0))), (0, .ref (ad (0, 0, 0))), (1, .int (nI j))]) d_C_unlike_5 rfl (by decide) rfl ?_
    refine aw_aload_n C d_C_unlike_6 rfl (j := 0) rfl ?_
    refine aw_ifnonnull C (tgt := 14) d_C_unlike_7 (by decide) ?_
    refine aw_aload_n C d_C_unlike_14 rfl (j := 0) rfl ?_
    refine aw_get C F_K hk 9 (by decide) tw_86 rfl d_C_unlike_15 ?_
    refine aw_iret C E (rfl) (by decide) (by decide) d_C_unlike_18 ?_
    exact ⟨sI (by simp only [f_unlike, ix_in hj (show s_cn S < 2 ^ 31 by omega)]), rfl, rfl⟩
set_option maxRecDepth 100000 in
set_option maxHeartbeats 4000000 in
theorem C_failed (l : Launch) (G : aw_G) (ad : aw_Ad) (ce : aw_He) (S : SysS) (hL : LayC S ad ce) (x k : Int32) : CT l G M_C_failed 1 23 0 0 [.ref (ad (0, 0, 0)), .int x, .int k] ad ce (rN (some (.int (f_failed S x k))) ad ce) := by
  refine CT.of (by decide) (Nat.le_of_ble_eq_true rfl) ?_
  intro X C I E
  have hL0 := hL
  obtain ⟨ho, hca, hpa, hli, hlo, hcars, hpaps, hnoc, hnop, hb1, hb2, hb3, hb4⟩ := hL0
  rcases ix_cases x (n := s_cn S) (by omega) with hx | ⟨j, hj, rfl⟩
  · skip
    show AW X 4 0 0 ad ce 0 [(0, .ref (ad (0, 0, 0))), (1, .int x), (2, .int k)] []
    refine aw_aload_n C d_C_failed_0 rfl (j := 0) rfl ?_
    refine aw_iload_n C d_C_failed_1 rfl (j := 1) rfl ?_
    refine aw_callV C I (k := (0, 0, 0)) (as := [.int x]) (rest := []) (c_findC_out l G ad ce S hL x hx) g_C_56 ho rfl rfl ⟨by decide, by decide⟩ ⟨by decide, by decide⟩ rfl (Nat.le_of_ble_eq_true rfl) d_C_failed_2 ?_
    rintro _ _ _ ⟨rfl, rfl, rfl⟩
    show AW X 4 0 0 ad ce 5 [(0, .ref (ad (0, 0, 0))), (1, .int x), (2, .int k)] [.null]
    refine aw_astore_nN C (lv' := [(3, .null), (0, .ref (ad (0, 0, 0))), (1, .int x), (2, .int k)]) d_C_failed_5 rfl (by decide) rfl ?_
    refine aw_aload_nN C d_C_failed_6 rfl (j := 0) rfl ?_
    refine aw_ifnonnullN C d_C_failed_7 ?_
    refine aw_iconst C (v := (-1)) d_C_failed_10 (by decide) ?_
    refine aw_goto C (tgt := 19) d_C_failed_11 (by decide) ?_
    refine aw_iret C E (rfl) (by decide) (by decide) d_C_failed_19 ?_
    exact ⟨sI (by simp only [f_failed, ix_out hx]), rfl, rfl⟩
  · skip
    show AW X 4 0 0 ad ce 0 [(0, .ref (ad (0, 0, 0))), (1, .int (nI j)), (2, .int k)] []
    refine aw_aload_n C d_C_failed_0 rfl (j := 0) rfl ?_
    refine aw_iload_n C d_C_failed_1 rfl (j := 1) rfl ?_
    refine aw_callV C I (k := (0, 0, 0)) (as := [.int (nI j)]) (rest := []) (c_findC_in l G ad ce S hL j hj) g_C_56 ho rfl rfl ⟨by decide, by decide⟩ ⟨by decide, by decide⟩ rfl (Nat.le_of_ble_eq_true rfl) d_C_failed_2 ?_
    rintro _ _ _ ⟨rfl, rfl, rfl⟩
    show AW X 4 0 0 ad ce 5 [(0, .ref (ad (0, 0, 0))), (1, .int (nI j)), (2, .int k)] [.ref (ad (1, j, 0))]
    have hK := hcars j hj
    have hK0 := hK
    obtain ⟨hk, hby, hdu, hwo, hrd, hpt, ⟨hn1, hn2⟩, hps⟩ := hK0
    refine aw_astore_n C (lv' := [(3, .ref (ad (1, j, 0))), (0, .ref (ad (0, 0, 0))), (1, .int (nI j)), (2, .int k)]) d_C_failed_5 rfl (by decide) rfl ?_
    refine aw_aload_n C d_C_failed_6 rfl (j := 0) rfl ?_
    refine aw_ifnonnull C (tgt := 14) d_C_failed_7 (by decide) ?_
    refine aw_aload_n C d_C_failed_14 rfl (j := 0) rfl ?_
    refine aw_iload_n C d_C_failed_15 rfl (j := 3) rfl ?_
    refine aw_callV C I (k := (1, j, 0)) (as := [.int k]) (rest := []) (c_wornPlace l G ad ce j _ hK k) g_C_88 hk rfl rfl ⟨by decide, by decide⟩ ⟨by decide, by decide⟩ rfl (Nat.le_of_ble_eq_true rfl) d_C_failed_16 ?_
    rintro _ _ _ ⟨rfl, rfl, rfl⟩
    show AW X 4 0 0 ad ce 19 [(3, .ref (ad (1, j, 0))), (0, .ref (ad (0, 0, 0))), (1, .int (nI j)), (2, .int k)] [.int (kth (k_wo (s_car S j)) k (k_np (s_car S j)) 0 0)]
    refine aw_iret C E (rfl) (by decide) (by decide) d_C_failed_19 ?_
    exact ⟨sI (by simp only [f_failed, ix_in hj (show s_cn S < 2 ^ 31 by omega)]), rfl, rfl⟩
set_option maxRecDepth 100000 in
set_option maxHeartbeats 4000000 in
theorem C_byteAt (l : Launch) (G : aw_G) (ad : aw_Ad) (ce : aw_He) (S : SysS) (hL : LayC S ad ce) (x y : Int32) : CT l G M_C_byteAt 1 21 0 0 [.ref (ad (0, 0, 0)), .int x, .int y] ad ce (rN (some (.int (f_byteAt S x y))) ad ce) := by
  refine CT.of (by decide) (Nat.le_of_ble_eq_true rfl) ?_
  intro X C I E
  have hL0 := hL
  obtain ⟨ho, hca, hpa, hli, hlo, hcars, hpaps, hnoc, hnop, hb1, hb2, hb3, hb4⟩ := hL0
  rcases ix_cases x (n := s_cn S) (by omega) with hx | ⟨j, hj, rfl⟩
  · skip
    show AW X 4 0 0 ad ce 0 [(0, .ref (ad (0, 0, 0))), (1, .int x), (2, .int y)] []
    refine aw_aload_n C d_C_byteAt_0 rfl (j := 0) rfl ?_
    refine aw_iload_n C d_C_byteAt_1 rfl (j := 1) rfl ?_
    refine aw_callV C I (k := (0, 0, 0)) (as := [.int x]) (rest := []) (c_findC_out l G ad ce S hL x hx) g_C_56 ho rfl rfl ⟨by decide, by decide⟩ ⟨by decide, by decide⟩ rfl (Nat.le_of_ble_eq_true rfl) d_C_byteAt_2 ?_
    rintro _ _ _ ⟨rfl, rfl, rfl⟩
    show AW X 4 0 0 ad ce 5 [(0, .ref (ad (0, 0, 0))), (1, .int x), (2, .int y)] [.null]
    refine aw_astore_nN C (lv' := [(3, .null), (0, .ref (ad (0, 0, 0))), (1, .int x), (2, .int y)]) d_C_byteAt_5 rfl (by decide) rfl ?_
    refine aw_aload_nN C d_C_byteAt_6 rfl (j := 0) rfl ?_
    refine aw_ifnullN C (tgt := 25) d_C_byteAt_7 (by decide) ?_
    refine aw_iconst C (v := (-1)) d_C_byteAt_25 (by decide) ?_
    refine aw_iret C E (rfl) (by decide) (by decide) d_C_byteAt_26 ?_
    exact ⟨sI (by simp only [f_byteAt, ix_out hx]), rfl, rfl⟩
  by_cases hg : k_st (s_car S j) = 5 ∨ k_st (s_car S j) = 6
  · skip
    show AW X 4 0 0 ad ce 0 [(0, .ref (ad (0, 0, 0))), (1, .int (nI j)), (2, .int y)] []
    refine aw_aload_n C d_C_byteAt_0 rfl (j := 0) rfl ?_
    refine aw_iload_n C d_C_byteAt_1 rfl (j := 1) rfl ?_
    refine aw_callV C I (k := (0, 0, 0)) (as := [.int (nI j)]) (rest := []) (c_findC_in l G ad ce S hL j hj) g_C_56 ho rfl rfl ⟨by decide, by decide⟩ ⟨by decide, by decide⟩ rfl (Nat.le_of_ble_eq_true rfl) d_C_byteAt_2 ?_
    rintro _ _ _ ⟨rfl, rfl, rfl⟩
    show AW X 4 0 0 ad ce 5 [(0, .ref (ad (0, 0, 0))), (1, .int (nI j)), (2, .int y)] [.ref (ad (1, j, 0))]
    have hK := hcars j hj
    have hK0 := hK
    obtain ⟨hk, hby, hdu, hwo, hrd, hpt, ⟨hn1, hn2⟩, hps⟩ := hK0
    refine aw_astore_n C (lv' := [(3, .ref (ad (1, j, 0))), (0, .ref (ad (0, 0, 0))), (1, .int (nI j)), (2, .int y)]) d_C_byteAt_5 rfl (by decide) rfl ?_
    refine aw_aload_n C d_C_byteAt_6 rfl (j := 0) rfl ?_
    refine aw_ifnull C d_C_byteAt_7 ?_
    refine aw_aload_n C d_C_byteAt_10 rfl (j := 0) rfl ?_
    refine aw_callV C I (k := (1, j, 0)) (as := []) (rest := []) (c_isGone l G ad ce j _ hK) g_C_81 hk rfl rfl ⟨by decide, by decide⟩ ⟨by decide, by decide⟩ rfl (Nat.le_of_ble_eq_true rfl) d_C_byteAt_11 ?_
    rintro _ _ _ ⟨rfl, rfl, rfl⟩
    show AW X 4 0 0 ad ce 14 [(3, .ref (ad (1, j, 0))), (0, .ref (ad (0, 0, 0))), (1, .int (nI j)), (2, .int y)] [.int (bI (decide (k_st (s_car S j) = 5 ∨ k_st (s_car S j) = 6)))]
    refine aw_topi (v' := 1) ((bI_t hg).symm) ?_
    show AW X 4 0 0 ad ce 14 [(3, .ref (ad (1, j, 0))), (0, .ref (ad (0, 0, 0))), (1, .int (nI j)), (2, .int y)] [.int 1]
    refine aw_if_ne C (tgt := 25) d_C_byteAt_14 (by decide) (fun h14 => ?_) (fun h14 => absurd h14 (by decide))
    refine aw_iconst C (v := (-1)) d_C_byteAt_25 (by decide) ?_
    refine aw_iret C E (rfl) (by decide) (by decide) d_C_byteAt_26 ?_
    exact ⟨sI (by simp only [f_byteAt, ix_in hj (show s_cn S < 2 ^ 31 by omega), if_pos hg]), rfl, rfl⟩
  · skip
    have hnp := (hcars j hj).2.2.2.2.2.2.1.2
    rcases ix_cases y (n := k_np (s_car S j)) (by omega) with hy | ⟨p, hp0, rfl⟩
    · skip
      show AW X 4 0 0 ad ce 0 [(0, .ref (ad (0, 0, 0))), (1, .int (nI j)), (2, .int y)] []
      refine aw_aload_n C d_C_byteAt_0 rfl (j := 0) rfl ?_
      refine aw_iload_n C d_C_byteAt_1 rfl (j := 1) rfl ?_
      refine aw_callV C I (k := (0, 0, 0)) (as := [.int (nI j)]) (rest := []) (c_findC_in l G ad ce S hL j hj) g_C_56 ho rfl rfl ⟨by decide, by decide⟩ ⟨by decide, by decide⟩ rfl (Nat.le_of_ble_eq_true rfl) d_C_byteAt_2 ?_
      rintro _ _ _ ⟨rfl, rfl, rfl⟩
      show AW X 4 0 0 ad ce 5 [(0, .ref (ad (0, 0, 0))), (1, .int (nI j)), (2, .int y)] [.ref (ad (1, j, 0))]
      have hK := hcars j hj
      have hK0 := hK
      obtain ⟨hk, hby, hdu, hwo, hrd, hpt, ⟨hn1, hn2⟩, hps⟩ := hK0
      refine aw_astore_n C (lv' := [(3, .ref (ad (1, j, 0))), (0, .ref (ad (0, 0, 0))), (1, .int (nI j)), (2, .int y)]) d_C_byteAt_5 rfl (by decide) rfl ?_
      refine aw_aload_n C d_C_byteAt_6 rfl (j := 0) rfl ?_
      refine aw_ifnull C d_C_byteAt_7 ?_
      refine aw_aload_n C d_C_byteAt_10 rfl (j := 0) rfl ?_
      refine aw_callV C I (k := (1, j, 0)) (as := []) (rest := []) (c_isGone l G ad ce j _ hK) g_C_81 hk rfl rfl ⟨by decide, by decide⟩ ⟨by decide, by decide⟩ rfl (Nat.le_of_ble_eq_true rfl) d_C_byteAt_11 ?_
      rintro _ _ _ ⟨rfl, rfl, rfl⟩
      show AW X 4 0 0 ad ce 14 [(3, .ref (ad (1, j, 0))), (0, .ref (ad (0, 0, 0))), (1, .int (nI j)), (2, .int y)] [.int (bI (decide (k_st (s_car S j) = 5 ∨ k_st (s_car S j) = 6)))]
      refine aw_topi (v' := 0) ((bI_f hg).symm) ?_
      show AW X 4 0 0 ad ce 14 [(3, .ref (ad (1, j, 0))), (0, .ref (ad (0, 0, 0))), (1, .int (nI j)), (2, .int y)] [.int 0]
      refine aw_if_ne C (tgt := 25) d_C_byteAt_14 (by decide) (fun h14 => absurd h14 (by decide)) (fun h14 => ?_)
      refine aw_aload_n C d_C_byteAt_17 rfl (j := 0) rfl ?_
      refine aw_iload_n C d_C_byteAt_18 rfl (j := 3) rfl ?_
      refine aw_callV C I (k := (1, j, 0)) (as := [.int y]) (rest := []) (c_hasPlace l G ad ce j _ hK y) g_C_94 hk rfl rfl ⟨by decide, by decide⟩ ⟨by decide, by decide⟩ rfl (Nat.le_of_ble_eq_true rfl) d_C_byteAt_19 ?_
      rintro _ _ _ ⟨rfl, rfl, rfl⟩
      show AW X 4 0 0 ad ce 22 [(3, .ref (ad (1, j, 0))), (0, .ref (ad (0, 0, 0))), (1, .int (nI j)), (2, .int y)] [.int (bI (decide (0 ≤ y ∧ y < nI (k_np (s_car S j)))))]
      refine aw_topi (v' := 0) ((bI_f (by (try simp only [Int32.le_iff_toInt_le, Int32.lt_iff_toInt_lt] at hy ⊢); omega)).symm) ?_
      show AW X 4 0 0 ad ce 22 [(3, .ref (ad (1, j, 0))), (0, .ref (ad (0, 0, 0))), (1, .int (nI j)), (2, .int y)] [.int 0]
      refine aw_if_ne C (tgt := 27) d_C_byteAt_22 (by decide) (fun h22 => absurd h22 (by decide)) (fun h22 => ?_)
      refine aw_iconst C (v := (-1)) d_C_byteAt_25 (by decide) ?_
      refine aw_iret C E (rfl) (by decide) (by decide) d_C_byteAt_26 ?_
      exact ⟨sI (by simp only [f_byteAt, ix_in hj (show s_cn S < 2 ^ 31 by omega), if_neg hg, ix_out hy]), rfl, rfl⟩
    · skip
      show AW X 4 0 0 ad ce 0 [(0, .ref (ad (0, 0, 0))), (1, .int (nI j)), (2, .int (nI p))] []
      refine aw_aload_n C d_C_byteAt_0 rfl (j := 0) rfl ?_
      refine aw_iload_n C d_C_byteAt_1 rfl (j := 1) rfl ?_
      refine aw_callV C I (k := (0, 0, 0)) (as := [.int (nI j)]) (rest := []) (c_findC_in l G ad ce S hL j hj) g_C_56 ho rfl rfl ⟨by decide, by decide⟩ ⟨by decide, by decide⟩ rfl (Nat.le_of_ble_eq_true rfl) d_C_byteAt_2 ?_
      rintro _ _ _ ⟨rfl, rfl, rfl⟩
      show AW X 4 0 0 ad ce 5 [(0, .ref (ad (0, 0, 0))), (1, .int (nI j)), (2, .int (nI p))] [.ref (ad (1, j, 0))]
      have hK := hcars j hj
      have hK0 := hK
      obtain ⟨hk, hby, hdu, hwo, hrd, hpt, ⟨hn1, hn2⟩, hps⟩ := hK0
      refine aw_astore_n C (lv' := [(3, .ref (ad (1, j, 0))), (0, .ref (ad (0, 0, 0))), (1, .int (nI j)), (2, .int (nI p))]) d_C_byteAt_5 rfl (by decide) rfl ?_
      refine aw_aload_n C d_C_byteAt_6 rfl (j := 0) rfl ?_
      refine aw_ifnull C d_C_byteAt_7 ?_
      refine aw_aload_n C d_C_byteAt_10 rfl (j := 0) rfl ?_
      refine aw_callV C I (k := (1, j, 0)) (as := []) (rest := []) (c_isGone l G ad ce j _ hK) g_C_81 hk rfl rfl ⟨by decide, by decide⟩ ⟨by decide, by decide⟩ rfl (Nat.le_of_ble_eq_true rfl) d_C_byteAt_11 ?_
      rintro _ _ _ ⟨rfl, rfl, rfl⟩
      show AW X 4 0 0 ad ce 14 [(3, .ref (ad (1, j, 0))), (0, .ref (ad (0, 0, 0))), (1, .int (nI j)), (2, .int (nI p))] [.int (bI (decide (k_st (s_car S j) = 5 ∨ k_st (s_car S j) = 6)))]
      refine aw_topi (v' := 0) ((bI_f hg).symm) ?_
      show AW X 4 0 0 ad ce 14 [(3, .ref (ad (1, j, 0))), (0, .ref (ad (0, 0, 0))), (1, .int (nI j)), (2, .int (nI p))] [.int 0]
      refine aw_if_ne C (tgt := 25) d_C_byteAt_14 (by decide) (fun h14 => absurd h14 (by decide)) (fun h14 => ?_)
      refine aw_aload_n C d_C_byteAt_17 rfl (j := 0) rfl ?_
      refine aw_iload_n C d_C_byteAt_18 rfl (j := 3) rfl ?_
      refine aw_callV C I (k := (1, j, 0)) (as := [.int (nI p)]) (rest := []) (c_hasPlace l G ad ce j _ hK (nI p)) g_C_94 hk rfl rfl ⟨by decide, by decide⟩ ⟨by decide, by decide⟩ rfl (Nat.le_of_ble_eq_true rfl) d_C_byteAt_19 ?_
      rintro _ _ _ ⟨rfl, rfl, rfl⟩
      show AW X 4 0 0 ad ce 22 [(3, .ref (ad (1, j, 0))), (0, .ref (ad (0, 0, 0))), (1, .int (nI j)), (2, .int (nI p))] [.int (bI (decide (0 ≤ (nI p) ∧ (nI p) < nI (k_np (s_car S j)))))]
      refine aw_topi (v' := 1) ((bI_t ⟨nI_pos' (by omega), nI_lt (by omega) (by omega)⟩).symm) ?_
      show AW X 4 0 0 ad ce 22 [(3, .ref (ad (1, j, 0))), (0, .ref (ad (0, 0, 0))), (1, .int (nI j)), (2, .int (nI p))] [.int 1]
      refine aw_if_ne C (tgt := 27) d_C_byteAt_22 (by decide) (fun h22 => ?_) (fun h22 => absurd h22 (by decide))
      refine aw_aload_n C d_C_byteAt_27 rfl (j := 0) rfl ?_
      refine aw_get C F_K hk 2 (by decide) tw_76 rfl d_C_byteAt_28 ?_
      refine aw_iload_n C d_C_byteAt_31 rfl (j := 3) rfl ?_
      refine ar_iald C hby (j := p) (rfl) (by omega) (by omega) d_C_byteAt_32 ?_
      refine aw_iret C E (rfl) (by decide) (by decide) d_C_byteAt_33 ?_
      exact ⟨sI (by simp only [f_byteAt, ix_in hj (show s_cn S < 2 ^ 31 by omega), if_neg hg, ix_in hp0 (show k_np (s_car S j) < 2 ^ 31 by omega)]), rfl, rfl⟩
set_option maxRecDepth 100000 in
set_option maxHeartbeats 4000000 in
theorem C_at (l : Launch) (G : aw_G) (ad : aw_Ad) (ce : aw_He) (S : SysS) (hL : LayC S ad ce) (x y : Int32) : CT l G M_C_at 1 21 0 0 [.ref (ad (0, 0, 0)), .int x, .int y] ad ce (rN (some (.int (f_at S x y))) ad ce) := by
  refine CT.of (by decide) (Nat.le_of_ble_eq_true rfl) ?_
  intro X C I E
  have hL0 := hL
  obtain ⟨ho, hca, hpa, hli, hlo, hcars, hpaps, hnoc, hnop, hb1, hb2, hb3, hb4⟩ := hL0
  rcases ix_cases x (n := s_pn S) (by omega) with hx | ⟨j, hj, rfl⟩
  · skip
    show AW X 4 0 0 ad ce 0 [(0, .ref (ad (0, 0, 0))), (1, .int x), (2, .int y)] []
    refine aw_aload_n C d_C_at_0 rfl (j := 0) rfl ?_
    refine aw_iload_n C d_C_at_1 rfl (j := 1) rfl ?_
    refine aw_callV C I (k := (0, 0, 0)) (as := [.int x]) (rest := []) (c_findP_out l G ad ce S hL x hx) g_C_123 ho rfl rfl ⟨by decide, by decide⟩ ⟨by decide, by decide⟩ rfl (Nat.le_of_ble_eq_true rfl) d_C_at_2 ?_
    rintro _ _ _ ⟨rfl, rfl, rfl⟩
    show AW X 4 0 0 ad ce 5 [(0, .ref (ad (0, 0, 0))), (1, .int x), (2, .int y)] [.null]
    refine aw_astore_nN C (lv' := [(3, .null), (0, .ref (ad (0, 0, 0))), (1, .int x), (2, .int y)]) d_C_at_5 rfl (by decide) rfl ?_
    refine aw_aload_nN C d_C_at_6 rfl (j := 0) rfl ?_
    refine aw_ifnullN C (tgt := 23) d_C_at_7 (by decide) ?_
    refine aw_iconst C (v := (-1)) d_C_at_23 (by decide) ?_
    refine aw_iret C E (rfl) (by decide) (by decide) d_C_at_24 ?_
    exact ⟨sI (by simp only [f_at, ix_out hx]), rfl, rfl⟩
  · have hfc := (hpaps j hj).2.2.2
    rcases ix_cases y (n := (s_pap S j).1) (by omega) with hy | ⟨p, hp0, rfl⟩
    · skip
      show AW X 4 0 0 ad ce 0 [(0, .ref (ad (0, 0, 0))), (1, .int (nI j)), (2, .int y)] []
      refine aw_aload_n C d_C_at_0 rfl (j := 0) rfl ?_
      refine aw_iload_n C d_C_at_1 rfl (j := 1) rfl ?_
      refine aw_callV C I (k := (0, 0, 0)) (as := [.int (nI j)]) (rest := []) (c_findP_in l G ad ce S hL j hj) g_C_123 ho rfl rfl ⟨by decide, by decide⟩ ⟨by decide, by decide⟩ rfl (Nat.le_of_ble_eq_true rfl) d_C_at_2 ?_
      rintro _ _ _ ⟨rfl, rfl, rfl⟩
      show AW X 4 0 0 ad ce 5 [(0, .ref (ad (0, 0, 0))), (1, .int (nI j)), (2, .int y)] [.ref (ad (2, j, 0))]
      have hP := hpaps j hj
      have hP0 := hP
      obtain ⟨hp, hfl, h6, h12⟩ := hP0
      refine aw_astore_n C (lv' := [(3, .ref (ad (2, j, 0))), (0, .ref (ad (0, 0, 0))), (1, .int (nI j)), (2, .int y)]) d_C_at_5 rfl (by decide) rfl ?_
      refine aw_aload_n C d_C_at_6 rfl (j := 0) rfl ?_
      refine aw_ifnull C d_C_at_7 ?_
      refine aw_iload_n C d_C_at_10 rfl (j := 3) rfl ?_
      refine aw_if_lt C (tgt := 23) d_C_at_11 (by decide) (fun h11 => ?_) (fun h11 => ?_)
      · refine aw_iconst C (v := (-1)) d_C_at_23 (by decide) ?_
        refine aw_iret C E (rfl) (by decide) (by decide) d_C_at_24 ?_
        exact ⟨sI (by simp only [f_at, ix_in hj (show s_pn S < 2 ^ 31 by omega), ix_out hy]), rfl, rfl⟩
      · refine aw_iload_n C d_C_at_14 rfl (j := 3) rfl ?_
        refine aw_aload_n C d_C_at_15 rfl (j := 0) rfl ?_
        refine aw_get C F_P hp 0 (by decide) tw_233 rfl d_C_at_16 ?_
        refine ar_len C hfl (tt := .int) rfl d_C_at_19 ?_
        refine aw_icmp_lt C (tgt := 25) d_C_at_20 (by decide) (fun h20 => ?_) (fun h20 => ?_)
        · exact absurd hy (by simp [h11]; exact h20)
        · refine aw_iconst C (v := (-1)) d_C_at_23 (by decide) ?_
          refine aw_iret C E (rfl) (by decide) (by decide) d_C_at_24 ?_
          exact ⟨sI (by simp only [f_at, ix_in hj (show s_pn S < 2 ^ 31 by omega), ix_out hy]), rfl, rfl⟩
    · skip
      show AW X 4 0 0 ad ce 0 [(0, .ref (ad (0, 0, 0))), (1, .int (nI j)), (2, .int (nI p))] []
      refine aw_aload_n C d_C_at_0 rfl (j := 0) rfl ?_
      refine aw_iload_n C d_C_at_1 rfl (j := 1) rfl ?_
      refine aw_callV C I (k := (0, 0, 0)) (as := [.int (nI j)]) (rest := []) (c_findP_in l G ad ce S hL j hj) g_C_123 ho rfl rfl ⟨by decide, by decide⟩ ⟨by decide, by decide⟩ rfl (Nat.le_of_ble_eq_true rfl) d_C_at_2 ?_
      rintro _ _ _ ⟨rfl, rfl, rfl⟩
      show AW X 4 0 0 ad ce 5 [(0, .ref (ad (0, 0, 0))), (1, .int (nI j)), (2, .int (nI p))] [.ref (ad (2, j, 0))]
      have hP := hpaps j hj
      have hP0 := hP
      obtain ⟨hp, hfl, h6, h12⟩ := hP0
      refine aw_astore_n C (lv' := [(3, .ref (ad (2, j, 0))), (0, .ref (ad (0, 0, 0))), (1, .int (nI j)), (2, .int (nI p))]) d_C_at_5 rfl (by decide) rfl ?_
      refine aw_aload_n C d_C_at_6 rfl (j := 0) rfl ?_
      refine aw_ifnull C d_C_at_7 ?_
      refine aw_iload_n C d_C_at_10 rfl (j := 3) rfl ?_
      refine aw_if_lt C (tgt := 23) d_C_at_11 (by decide) (fun h11 => absurd h11 (nI_pos (by omega))) (fun h11 => ?_)
      refine aw_iload_n C d_C_at_14 rfl (j := 3) rfl ?_
      refine aw_aload_n C d_C_at_15 rfl (j := 0) rfl ?_
      refine aw_get C F_P hp 0 (by decide) tw_233 rfl d_C_at_16 ?_
      refine ar_len C hfl (tt := .int) rfl d_C_at_19 ?_
      refine aw_icmp_lt C (tgt := 25) d_C_at_20 (by decide) (fun h20 => ?_) (fun h20 => absurd (nI_lt (by omega) (by omega)) h20)
      refine aw_aload_n C d_C_at_25 rfl (j := 0) rfl ?_
      refine aw_get C F_P hp 0 (by decide) tw_233 rfl d_C_at_26 ?_
      refine aw_iload_n C d_C_at_29 rfl (j := 3) rfl ?_
      refine ar_iald C hfl (j := p) (rfl) (by omega) (by omega) d_C_at_30 ?_
      refine aw_iret C E (rfl) (by decide) (by decide) d_C_at_31 ?_
      exact ⟨sI (by simp only [f_at, ix_in hj (show s_pn S < 2 ^ 31 by omega), ix_in hp0 (show (s_pap S j).1 < 2 ^ 31 by omega)]), rfl, rfl⟩
theorem sh56 (i : Int32) : 8 * (7 - i) = 56 - 8 * i := by
  apply Int32.toBitVec_inj.mp
  simp only [Int32.toBitVec_mul, Int32.toBitVec_sub, Int32.toBitVec_ofNat]
  rw [BitVec.mul_sub]
  rfl
set_option maxRecDepth 100000 in
set_option maxHeartbeats 4000000 in
theorem C_mark (l : Launch) (G : aw_G) (ad : aw_Ad) (ce : aw_He) (S : SysS) (hL : LayC S ad ce) (x : Int32) (key : Int64) (i : Int32) : CT l G M_C_mark 1 25 0 0 [.ref (ad (0, 0, 0)), .int x, .long key, .int i] ad ce (rN (some (.int (f_mark S x key i))) ad ce) := by
  refine CT.of (by decide) (Nat.le_of_ble_eq_true rfl) ?_
  intro X C I E
  have hL0 := hL
  obtain ⟨ho, hca, hpa, hli, hlo, hcars, hpaps, hnoc, hnop, hb1, hb2, hb3, hb4⟩ := hL0
  rcases ix_cases x (n := s_pn S) (by omega) with hx | ⟨j, hj, rfl⟩
  · skip
    show AW X 7 0 0 ad ce 0 [(0, .ref (ad (0, 0, 0))), (1, .int x), (2, .long key), (4, .int i)] []
    refine aw_aload_n C d_C_mark_0 rfl (j := 0) rfl ?_
    refine aw_iload_n C d_C_mark_1 rfl (j := 1) rfl ?_
    refine aw_callV C I (k := (0, 0, 0)) (as := [.int x]) (rest := []) (c_findP_out l G ad ce S hL x hx) g_C_123 ho rfl rfl ⟨by decide, by decide⟩ ⟨by decide, by decide⟩ rfl (Nat.le_of_ble_eq_true rfl) d_C_mark_2 ?_
    rintro _ _ _ ⟨rfl, rfl, rfl⟩
    show AW X 7 0 0 ad ce 5 [(0, .ref (ad (0, 0, 0))), (1, .int x), (2, .long key), (4, .int i)] [.null]
    refine aw_astoreN C (lv' := [(5, .null), (0, .ref (ad (0, 0, 0))), (1, .int x), (2, .long key), (4, .int i)]) d_C_mark_5 (by decide) rfl ?_
    refine aw_aloadN C d_C_mark_7 (j := 0) rfl ?_
    refine aw_ifnullN C (tgt := 23) d_C_mark_9 (by decide) ?_
    refine aw_iconst C (v := (-1)) d_C_mark_23 (by decide) ?_
    refine aw_iret C E (rfl) (by decide) (by decide) d_C_mark_24 ?_
    exact ⟨sI (by simp only [f_mark, ix_out hx]), rfl, rfl⟩
  · by_cases hi : 0 ≤ i ∧ i ≤ 7
    · skip
      show AW X 7 0 0 ad ce 0 [(0, .ref (ad (0, 0, 0))), (1, .int (nI j)), (2, .long key), (4, .int i)] []
      refine aw_aload_n C d_C_mark_0 rfl (j := 0) rfl ?_
      refine aw_iload_n C d_C_mark_1 rfl (j := 1) rfl ?_
      refine aw_callV C I (k := (0, 0, 0)) (as := [.int (nI j)]) (rest := []) (c_findP_in l G ad ce S hL j hj) g_C_123 ho rfl rfl ⟨by decide, by decide⟩ ⟨by decide, by decide⟩ rfl (Nat.le_of_ble_eq_true rfl) d_C_mark_2 ?_
      rintro _ _ _ ⟨rfl, rfl, rfl⟩
      show AW X 7 0 0 ad ce 5 [(0, .ref (ad (0, 0, 0))), (1, .int (nI j)), (2, .long key), (4, .int i)] [.ref (ad (2, j, 0))]
      have hP := hpaps j hj
      have hP0 := hP
      obtain ⟨hp, hfl, h6, h12⟩ := hP0
      refine aw_astore C (lv' := [(5, .ref (ad (2, j, 0))), (0, .ref (ad (0, 0, 0))), (1, .int (nI j)), (2, .long key), (4, .int i)]) d_C_mark_5 (by decide) rfl ?_
      refine aw_aload C d_C_mark_7 (j := 0) rfl ?_
      refine aw_ifnull C d_C_mark_9 ?_
      refine aw_iload C d_C_mark_12 (j := 4) rfl ?_
      refine aw_iconst C (v := 0) d_C_mark_14 (by decide) ?_
      refine aw_bipush C (v := 7) d_C_mark_15 (by decide) ?_
      refine aw_callS C I (as := [.int i, .int 0, .int 7]) (rest := []) (c_within l G ad ce i 0 7) g_C_42 ⟨by decide, by decide⟩ ⟨by decide, by decide⟩ rfl (Nat.le_of_ble_eq_true rfl) d_C_mark_17 ?_
      rintro _ _ _ ⟨rfl, rfl, rfl⟩
      show AW X 7 0 0 ad ce 20 [(5, .ref (ad (2, j, 0))), (0, .ref (ad (0, 0, 0))), (1, .int (nI j)), (2, .long key), (4, .int i)] [.int (bI (decide (0 ≤ i ∧ i ≤ 7)))]
      refine aw_topi (v' := 1) ((bI_t hi).symm) ?_
      show AW X 7 0 0 ad ce 20 [(5, .ref (ad (2, j, 0))), (0, .ref (ad (0, 0, 0))), (1, .int (nI j)), (2, .long key), (4, .int i)] [.int 1]
      refine aw_if_ne C (tgt := 25) d_C_mark_20 (by decide) (fun h20 => ?_) (fun h20 => absurd h20 (by decide))
      refine aw_bipush C (v := 8) d_C_mark_25 (by decide) ?_
      refine aw_bipush C (v := 7) d_C_mark_27 (by decide) ?_
      refine aw_iload C d_C_mark_29 (j := 4) rfl ?_
      refine aw_isub C d_C_mark_31 ?_
      refine aw_imul C d_C_mark_32 ?_
      refine aw_topi (v' := 56 - 8 * i) (sh56 i) ?_
      refine aw_istore C (lv' := [(6, .int (56 - 8 * i)), (5, .ref (ad (2, j, 0))), (0, .ref (ad (0, 0, 0))), (1, .int (nI j)), (2, .long key), (4, .int i)]) d_C_mark_33 (by decide) rfl ?_
      refine aw_aload C d_C_mark_35 (j := 1) rfl ?_
      refine aw_lload_n C d_C_mark_37 rfl (j := 4) rfl ?_
      refine aw_callV C I (k := (2, j, 0)) (as := [.long key]) (rest := []) (c_markBy l G ad ce j _ hP key) g_C_130 hp rfl rfl ⟨by decide, by decide⟩ ⟨by decide, by decide⟩ rfl (Nat.le_of_ble_eq_true rfl) d_C_mark_38 ?_
      rintro _ _ _ ⟨rfl, rfl, rfl⟩
      show AW X 7 0 0 ad ce 41 [(6, .int (56 - 8 * i)), (5, .ref (ad (2, j, 0))), (0, .ref (ad (0, 0, 0))), (1, .int (nI j)), (2, .long key), (4, .int i)] [.long (fldM mkS (s_pap S j).2 (s_pap S j).1 0 key)]
      refine aw_iload C d_C_mark_41 (j := 0) rfl ?_
      refine aw_lushr C d_C_mark_43 ?_
      refine aw_ldc2 C tw_254 d_C_mark_44 ?_
      refine aw_land C d_C_mark_47 ?_
      refine aw_l2i C d_C_mark_48 ?_
      refine aw_topi (v' := mkB (mkOf (s_pap S j) key) (56 - 8 * i)) (by simp only [mkB, mkOf]) ?_
      refine aw_iret C E (rfl) (by decide) (by decide) d_C_mark_49 ?_
      exact ⟨sI (by simp only [f_mark, ix_in hj (show s_pn S < 2 ^ 31 by omega), if_pos hi]), rfl, rfl⟩
    · skip
      show AW X 7 0 0 ad ce 0 [(0, .ref (ad (0, 0, 0))), (1, .int (nI j)), (2, .long key), (4, .int i)] []
      refine aw_aload_n C d_C_mark_0 rfl (j := 0) rfl ?_
      refine aw_iload_n C d_C_mark_1 rfl (j := 1) rfl ?_
      refine aw_callV C I (k := (0, 0, 0)) (as := [.int (nI j)]) (rest := []) (c_findP_in l G ad ce S hL j hj) g_C_123 ho rfl rfl ⟨by decide, by decide⟩ ⟨by decide, by decide⟩ rfl (Nat.le_of_ble_eq_true rfl) d_C_mark_2 ?_
      rintro _ _ _ ⟨rfl, rfl, rfl⟩
      show AW X 7 0 0 ad ce 5 [(0, .ref (ad (0, 0, 0))), (1, .int (nI j)), (2, .long key), (4, .int i)] [.ref (ad (2, j, 0))]
      have hP := hpaps j hj
      have hP0 := hP
      obtain ⟨hp, hfl, h6, h12⟩ := hP0
      refine aw_astore C (lv' := [(5, .ref (ad (2, j, 0))), (0, .ref (ad (0, 0, 0))), (1, .int (nI j)), (2, .long key), (4, .int i)]) d_C_mark_5 (by decide) rfl ?_
      refine aw_aload C d_C_mark_7 (j := 0) rfl ?_
      refine aw_ifnull C d_C_mark_9 ?_
      refine aw_iload C d_C_mark_12 (j := 4) rfl ?_
      refine aw_iconst C (v := 0) d_C_mark_14 (by decide) ?_
      refine aw_bipush C (v := 7) d_C_mark_15 (by decide) ?_
      refine aw_callS C I (as := [.int i, .int 0, .int 7]) (rest := []) (c_within l G ad ce i 0 7) g_C_42 ⟨by decide, by decide⟩ ⟨by decide, by decide⟩ rfl (Nat.le_of_ble_eq_true rfl) d_C_mark_17 ?_
      rintro _ _ _ ⟨rfl, rfl, rfl⟩
      show AW X 7 0 0 ad ce 20 [(5, .ref (ad (2, j, 0))), (0, .ref (ad (0, 0, 0))), (1, .int (nI j)), (2, .long key), (4, .int i)] [.int (bI (decide (0 ≤ i ∧ i ≤ 7)))]
      refine aw_topi (v' := 0) ((bI_f hi).symm) ?_
      show AW X 7 0 0 ad ce 20 [(5, .ref (ad (2, j, 0))), (0, .ref (ad (0, 0, 0))), (1, .int (nI j)), (2, .long key), (4, .int i)] [.int 0]
      refine aw_if_ne C (tgt := 25) d_C_mark_20 (by decide) (fun h20 => absurd h20 (by decide)) (fun h20 => ?_)
      refine aw_iconst C (v := (-1)) d_C_mark_23 (by decide) ?_
      refine aw_iret C E (rfl) (by decide) (by decide) d_C_mark_24 ?_
      exact ⟨sI (by simp only [f_mark, ix_in hj (show s_pn S < 2 ^ 31 by omega), if_neg hi]), rfl, rfl⟩
set_option maxRecDepth 100000 in
set_option maxHeartbeats 4000000 in
theorem C_check (l : Launch) (G : aw_G) (ad : aw_Ad) (ce : aw_He) (S : SysS) (hL : LayC S ad ce) (x : Int32) (key b : Int64) : CT l G M_C_check 1 25 0 0 [.ref (ad (0, 0, 0)), .int x, .long key, .long b] ad ce (rN (some (.int (f_check S x key b))) ad ce) := by
  refine CT.of (by decide) (Nat.le_of_ble_eq_true rfl) ?_
  intro X C I E
  have hL0 := hL
  obtain ⟨ho, hca, hpa, hli, hlo, hcars, hpaps, hnoc, hnop, hb1, hb2, hb3, hb4⟩ := hL0
  rcases ix_cases x (n := s_pn S) (by omega) with hx | ⟨j, hj, rfl⟩
  · skip
    show AW X 7 0 0 ad ce 0 [(0, .ref (ad (0, 0, 0))), (1, .int x), (2, .long key), (4, .long b)] []
    refine aw_aload_n C d_C_check_0 rfl (j := 0) rfl ?_
    refine aw_iload_n C d_C_check_1 rfl (j := 1) rfl ?_
    refine aw_callV C I (k := (0, 0, 0)) (as := [.int x]) (rest := []) (c_findP_out l G ad ce S hL x hx) g_C_123 ho rfl rfl ⟨by decide, by decide⟩ ⟨by decide, by decide⟩ rfl (Nat.le_of_ble_eq_true rfl) d_C_check_2 ?_
    rintro _ _ _ ⟨rfl, rfl, rfl⟩
    show AW X 7 0 0 ad ce 5 [(0, .ref (ad (0, 0, 0))), (1, .int x), (2, .long key), (4, .long b)] [.null]
    refine aw_astoreN C (lv' := [(6, .null), (0, .ref (ad (0, 0, 0))), (1, .int x), (2, .long key), (4, .long b)]) d_C_check_5 (by decide) rfl ?_
    refine aw_aloadN C d_C_check_7 (j := 0) rfl ?_
    refine aw_ifnullN C (tgt := 28) d_C_check_9 (by decide) ?_
    refine aw_iconst C (v := 0) d_C_check_28 (by decide) ?_
    refine aw_iret C E (rfl) (by decide) (by decide) d_C_check_29 ?_
    exact ⟨sI (by simp only [f_check, ix_out hx]), rfl, rfl⟩
  · skip
    show AW X 7 0 0 ad ce 0 [(0, .ref (ad (0, 0, 0))), (1, .int (nI j)), (2, .long key), (4, .long b)] []
    refine aw_aload_n C d_C_check_0 rfl (j := 0) rfl ?_
    refine aw_iload_n C d_C_check_1 rfl (j := 1) rfl ?_
    refine aw_callV C I (k := (0, 0, 0)) (as := [.int (nI j)]) (rest := []) (c_findP_in l G ad ce S hL j hj) g_C_123 ho rfl rfl ⟨by decide, by decide⟩ ⟨by decide, by decide⟩ rfl (Nat.le_of_ble_eq_true rfl) d_C_check_2 ?_
    rintro _ _ _ ⟨rfl, rfl, rfl⟩
    show AW X 7 0 0 ad ce 5 [(0, .ref (ad (0, 0, 0))), (1, .int (nI j)), (2, .long key), (4, .long b)] [.ref (ad (2, j, 0))]
    have hP := hpaps j hj
    have hP0 := hP
    obtain ⟨hp, hfl, h6, h12⟩ := hP0
    refine aw_astore C (lv' := [(6, .ref (ad (2, j, 0))), (0, .ref (ad (0, 0, 0))), (1, .int (nI j)), (2, .long key), (4, .long b)]) d_C_check_5 (by decide) rfl ?_
    refine aw_aload C d_C_check_7 (j := 0) rfl ?_
    refine aw_ifnull C d_C_check_9 ?_
    refine aw_aload C d_C_check_12 (j := 0) rfl ?_
    refine aw_lload_n C d_C_check_14 rfl (j := 3) rfl ?_
    refine aw_callV C I (k := (2, j, 0)) (as := [.long key]) (rest := []) (c_markBy l G ad ce j _ hP key) g_C_130 hp rfl rfl ⟨by decide, by decide⟩ ⟨by decide, by decide⟩ rfl (Nat.le_of_ble_eq_true rfl) d_C_check_15 ?_
    rintro _ _ _ ⟨rfl, rfl, rfl⟩
    show AW X 7 0 0 ad ce 18 [(6, .ref (ad (2, j, 0))), (0, .ref (ad (0, 0, 0))), (1, .int (nI j)), (2, .long key), (4, .long b)] [.long (fldM mkS (s_pap S j).2 (s_pap S j).1 0 key)]
    refine aw_lload C d_C_check_18 (j := 4) rfl ?_
    refine aw_lcmp C d_C_check_20 ?_
    refine aw_if_ne C (tgt := 28) d_C_check_21 (by decide) (fun h21 => ?_) (fun h21 => ?_)
    · refine aw_iconst C (v := 0) d_C_check_28 (by decide) ?_
      refine aw_iret C E (rfl) (by decide) (by decide) d_C_check_29 ?_
      rw [lg_cmp_eq] at h21
      exact ⟨sI (by simp only [f_check, ix_in hj (show s_pn S < 2 ^ 31 by omega)]; first | exact (if_pos h21).symm | exact (if_neg h21).symm), rfl, rfl⟩
    · refine aw_iconst C (v := 1) d_C_check_24 (by decide) ?_
      refine aw_goto C (tgt := 29) d_C_check_25 (by decide) ?_
      refine aw_iret C E (rfl) (by decide) (by decide) d_C_check_29 ?_
      rw [lg_cmp_eq] at h21
      exact ⟨sI (by simp only [f_check, ix_in hj (show s_pn S < 2 ^ 31 by omega)]; first | exact (if_pos h21).symm | exact (if_neg h21).symm), rfl, rfl⟩
set_option maxRecDepth 100000 in
set_option maxHeartbeats 4000000 in
theorem C_told (l : Launch) (G : aw_G) (ad : aw_Ad) (ce : aw_He) (S : SysS) (hL : LayC S ad ce) (x : Int32) : CT l G M_C_told 0 0 0 0 [.ref (ad (0, 0, 0)), .int x] ad ce (rN (some (.int (f_told S x))) ad ce) := by
  refine CT.of (by decide) (Nat.le_of_ble_eq_true rfl) ?_
  intro X C I E
  have hL0 := hL
  obtain ⟨ho, hca, hpa, hli, hlo, hcars, hpaps, hnoc, hnop, hb1, hb2, hb3, hb4⟩ := hL0
  rcases ix_cases x (n := s_on S) (by omega) with hx | ⟨j, hj, rfl⟩
  · skip
    show AW X 2 0 0 ad ce 0 [(0, .ref (ad (0, 0, 0))), (1, .int x)] []
    refine aw_iload_n C d_C_told_0 rfl (j := 1) rfl ?_
    refine aw_if_lt C (tgt := 21) d_C_told_1 (by decide) (fun h1 => ?_) (fun h1 => ?_)
    · refine aw_iconst C (v := (-1)) d_C_told_21 (by decide) ?_
      refine aw_iret C E (rfl) (by decide) (by decide) d_C_told_22 ?_
      exact ⟨sI (by simp only [f_told, ix_out hx]), rfl, rfl⟩
    · refine aw_iload_n C d_C_told_4 rfl (j := 1) rfl ?_
      refine aw_aload_n C d_C_told_5 rfl (j := 0) rfl ?_
      refine aw_get C F_C ho 7 (by decide) tw_26 rfl d_C_told_6 ?_
      refine aw_icmp_ge C (tgt := 21) d_C_told_9 (by decide) (fun h9 => ?_) (fun h9 => ?_)
      · refine aw_iconst C (v := (-1)) d_C_told_21 (by decide) ?_
        refine aw_iret C E (rfl) (by decide) (by decide) d_C_told_22 ?_
        exact ⟨sI (by simp only [f_told, ix_out hx]), rfl, rfl⟩
      · exact absurd hx (by simp [h1, h9])
  · skip
    show AW X 2 0 0 ad ce 0 [(0, .ref (ad (0, 0, 0))), (1, .int (nI j))] []
    refine aw_iload_n C d_C_told_0 rfl (j := 1) rfl ?_
    refine aw_if_lt C (tgt := 21) d_C_told_1 (by decide) (fun h1 => absurd h1 (nI_pos (by omega))) (fun h1 => ?_)
    refine aw_iload_n C d_C_told_4 rfl (j := 1) rfl ?_
    refine aw_aload_n C d_C_told_5 rfl (j := 0) rfl ?_
    refine aw_get C F_C ho 7 (by decide) tw_26 rfl d_C_told_6 ?_
    refine aw_icmp_ge C (tgt := 21) d_C_told_9 (by decide) (fun h9 => absurd h9 (nI_ge (by omega) (by omega))) (fun h9 => ?_)
    refine aw_iload_n C d_C_told_12 rfl (j := 1) rfl ?_
    refine aw_aload_n C d_C_told_13 rfl (j := 0) rfl ?_
    refine aw_get C F_C ho 6 (by decide) tw_25 rfl d_C_told_14 ?_
    refine ar_len C hlo (tt := .int) rfl d_C_told_17 ?_
    refine aw_icmp_lt C (tgt := 23) d_C_told_18 (by decide) (fun h18 => ?_) (fun h18 => absurd (nI_lt (by omega) (by omega)) h18)
    refine aw_aload_n C d_C_told_23 rfl (j := 0) rfl ?_
    refine aw_get C F_C ho 6 (by decide) tw_25 rfl d_C_told_24 ?_
    refine aw_iload_n C d_C_told_27 rfl (j := 1) rfl ?_
    refine ar_iald C hlo (j := j) (rfl) (by omega) (by omega) d_C_told_28 ?_
    refine aw_iret C E (rfl) (by decide) (by decide) d_C_told_29 ?_
    exact ⟨sI (by simp only [f_told, ix_in hj (show s_on S < 2 ^ 31 by omega)]), rfl, rfl⟩
end
section
set_option maxRecDepth 100000 in
set_option maxHeartbeats 4000000 in
theorem C_fail (l : Launch) (G : aw_G) (ad : aw_Ad) (ce : aw_He) (S : SysS) (hL : LayC S ad ce) (x y : Int32) : CT l G M_C_fail 2 42 0 0 [.ref (ad (0, 0, 0)), .int x, .int y] ad ce (rC (some (.int (f_fail S x y).1)) (f_fail S x y).2 ad ce) := by
  refine CT.of (by decide) (Nat.le_of_ble_eq_true rfl) ?_
  intro X C I E
  have hL0 := hL
  obtain ⟨ho, hca, hpa, hli, hlo, hcars, hpaps, hnoc, hnop, hb1, hb2, hb3, hb4⟩ := hL0
  rcases ix_cases x (n := s_cn S) (by omega) with hx | ⟨j, hj, rfl⟩
  · skip
    show AW X 4 0 0 ad ce 0 [(0, .ref (ad (0, 0, 0))), (1, .int x), (2, .int y)] []
    refine aw_aload_n C d_C_fail_0 rfl (j := 0) rfl ?_
    refine aw_iload_n C d_C_fail_1 rfl (j := 1) rfl ?_
    refine aw_callV C I (k := (0, 0, 0)) (as := [.int x]) (rest := []) (c_findC_out l G ad ce S hL x hx) g_C_56 ho rfl rfl ⟨by decide, by decide⟩ ⟨by decide, by decide⟩ rfl (Nat.le_of_ble_eq_true rfl) d_C_fail_2 ?_
    rintro _ _ _ ⟨rfl, rfl, rfl⟩
    show AW X 4 0 0 ad ce 5 [(0, .ref (ad (0, 0, 0))), (1, .int x), (2, .int y)] [.null]
    refine aw_astore_nN C (lv' := [(3, .null), (0, .ref (ad (0, 0, 0))), (1, .int x), (2, .int y)]) d_C_fail_5 rfl (by decide) rfl ?_
    refine aw_aload_nN C d_C_fail_6 rfl (j := 0) rfl ?_
    refine aw_ifnullN C (tgt := 29) d_C_fail_7 (by decide) ?_
    refine aw_iconst C (v := 0) d_C_fail_29 (by decide) ?_
    refine aw_iret C E (rfl) (by decide) (by decide) d_C_fail_30 ?_
    rw [show f_fail S x y = (0, S) from by simp only [f_fail, ix_out hx]]
    exact rC.of hL ⟨rfl, rfl, rfl⟩
  by_cases hg : k_st (s_car S j) = 5 ∨ k_st (s_car S j) = 6
  · skip
    show AW X 4 0 0 ad ce 0 [(0, .ref (ad (0, 0, 0))), (1, .int (nI j)), (2, .int y)] []
    refine aw_aload_n C d_C_fail_0 rfl (j := 0) rfl ?_
    refine aw_iload_n C d_C_fail_1 rfl (j := 1) rfl ?_
    refine aw_callV C I (k := (0, 0, 0)) (as := [.int (nI j)]) (rest := []) (c_findC_in l G ad ce S hL j hj) g_C_56 ho rfl rfl ⟨by decide, by decide⟩ ⟨by decide, by decide⟩ rfl (Nat.le_of_ble_eq_true rfl) d_C_fail_2 ?_
    rintro _ _ _ ⟨rfl, rfl, rfl⟩
    show AW X 4 0 0 ad ce 5 [(0, .ref (ad (0, 0, 0))), (1, .int (nI j)), (2, .int y)] [.ref (ad (1, j, 0))]
    have hK := hcars j hj
    have hK0 := hK
    obtain ⟨hk, hby, hdu, hwo, hrd, hpt, ⟨hn1, hn2⟩, hps⟩ := hK0
    refine aw_astore_n C (lv' := [(3, .ref (ad (1, j, 0))), (0, .ref (ad (0, 0, 0))), (1, .int (nI j)), (2, .int y)]) d_C_fail_5 rfl (by decide) rfl ?_
    refine aw_aload_n C d_C_fail_6 rfl (j := 0) rfl ?_
    refine aw_ifnull C d_C_fail_7 ?_
    refine aw_aload_n C d_C_fail_10 rfl (j := 0) rfl ?_
    refine aw_callV C I (k := (1, j, 0)) (as := []) (rest := []) (c_isGone l G ad ce j _ hK) g_C_81 hk rfl rfl ⟨by decide, by decide⟩ ⟨by decide, by decide⟩ rfl (Nat.le_of_ble_eq_true rfl) d_C_fail_11 ?_
    rintro _ _ _ ⟨rfl, rfl, rfl⟩
    show AW X 4 0 0 ad ce 14 [(3, .ref (ad (1, j, 0))), (0, .ref (ad (0, 0, 0))), (1, .int (nI j)), (2, .int y)] [.int (bI (decide (k_st (s_car S j) = 5 ∨ k_st (s_car S j) = 6)))]
    refine aw_topi (v' := 1) ((bI_t hg).symm) ?_
    show AW X 4 0 0 ad ce 14 [(3, .ref (ad (1, j, 0))), (0, .ref (ad (0, 0, 0))), (1, .int (nI j)), (2, .int y)] [.int 1]
    refine aw_if_ne C (tgt := 29) d_C_fail_14 (by decide) (fun h14 => ?_) (fun h14 => absurd h14 (by decide))
    refine aw_iconst C (v := 0) d_C_fail_29 (by decide) ?_
    refine aw_iret C E (rfl) (by decide) (by decide) d_C_fail_30 ?_
    rw [show f_fail S (nI j) y = (0, S) from by simp only [f_fail, ix_in hj (show s_cn S < 2 ^ 31 by omega), if_pos hg]]
    exact rC.of hL ⟨rfl, rfl, rfl⟩
  · skip
    have hnp := (hcars j hj).2.2.2.2.2.2.1.2
    rcases ix_cases y (n := k_np (s_car S j)) (by omega) with hy | ⟨p, hp0, rfl⟩
    · skip
      show AW X 4 0 0 ad ce 0 [(0, .ref (ad (0, 0, 0))), (1, .int (nI j)), (2, .int y)] []
      refine aw_aload_n C d_C_fail_0 rfl (j := 0) rfl ?_
      refine aw_iload_n C d_C_fail_1 rfl (j := 1) rfl ?_
      refine aw_callV C I (k := (0, 0, 0)) (as := [.int (nI j)]) (rest := []) (c_findC_in l G ad ce S hL j hj) g_C_56 ho rfl rfl ⟨by decide, by decide⟩ ⟨by decide, by decide⟩ rfl (Nat.le_of_ble_eq_true rfl) d_C_fail_2 ?_
      rintro _ _ _ ⟨rfl, rfl, rfl⟩
      show AW X 4 0 0 ad ce 5 [(0, .ref (ad (0, 0, 0))), (1, .int (nI j)), (2, .int y)] [.ref (ad (1, j, 0))]
      have hK := hcars j hj
      have hK0 := hK
      obtain ⟨hk, hby, hdu, hwo, hrd, hpt, ⟨hn1, hn2⟩, hps⟩ := hK0
      refine aw_astore_n C (lv' := [(3, .ref (ad (1, j, 0))), (0, .ref (ad (0, 0, 0))), (1, .int (nI j)), (2, .int y)]) d_C_fail_5 rfl (by decide) rfl ?_
      refine aw_aload_n C d_C_fail_6 rfl (j := 0) rfl ?_
      refine aw_ifnull C d_C_fail_7 ?_
      refine aw_aload_n C d_C_fail_10 rfl (j := 0) rfl ?_
      refine aw_callV C I (k := (1, j, 0)) (as := []) (rest := []) (c_isGone l G ad ce j _ hK) g_C_81 hk rfl rfl ⟨by decide, by decide⟩ ⟨by decide, by decide⟩ rfl (Nat.le_of_ble_eq_true rfl) d_C_fail_11 ?_
      rintro _ _ _ ⟨rfl, rfl, rfl⟩
      show AW X 4 0 0 ad ce 14 [(3, .ref (ad (1, j, 0))), (0, .ref (ad (0, 0, 0))), (1, .int (nI j)), (2, .int y)] [.int (bI (decide (k_st (s_car S j) = 5 ∨ k_st (s_car S j) = 6)))]
      refine aw_topi (v' := 0) ((bI_f hg).symm) ?_
      show AW X 4 0 0 ad ce 14 [(3, .ref (ad (1, j, 0))), (0, .ref (ad (0, 0, 0))), (1, .int (nI j)), (2, .int y)] [.int 0]
      refine aw_if_ne C (tgt := 29) d_C_fail_14 (by decide) (fun h14 => absurd h14 (by decide)) (fun h14 => ?_)
      refine aw_aload_n C d_C_fail_17 rfl (j := 0) rfl ?_
      refine aw_iload_n C d_C_fail_18 rfl (j := 3) rfl ?_
      refine aw_callV C I (k := (1, j, 0)) (as := [.int y]) (rest := []) (c_wear_out l G ad ce j _ hK y hy) g_C_85 hk rfl rfl ⟨by decide, by decide⟩ ⟨by decide, by decide⟩ rfl (Nat.le_of_ble_eq_true rfl) d_C_fail_19 ?_
      rintro _ _ _ ⟨rfl, rfl, rfl⟩
      show AW X 4 0 0 ad ce 22 [(3, .ref (ad (1, j, 0))), (0, .ref (ad (0, 0, 0))), (1, .int (nI j)), (2, .int y)] [.int 0]
      refine aw_if_eq C (tgt := 29) d_C_fail_22 (by decide) (fun h22 => ?_) (fun h22 => absurd (rfl) h22)
      refine aw_iconst C (v := 0) d_C_fail_29 (by decide) ?_
      refine aw_iret C E (rfl) (by decide) (by decide) d_C_fail_30 ?_
      rw [show f_fail S (nI j) y = (0, S) from by simp only [f_fail, ix_in hj (show s_cn S < 2 ^ 31 by omega), if_neg hg, ix_out hy]]
      exact rC.of hL ⟨rfl, rfl, rfl⟩
    by_cases hw : k_wo (s_car S j) p = 0
    · skip
      show AW X 4 0 0 ad ce 0 [(0, .ref (ad (0, 0, 0))), (1, .int (nI j)), (2, .int (nI p))] []
      refine aw_aload_n C d_C_fail_0 rfl (j := 0) rfl ?_
      refine aw_iload_n C d_C_fail_1 rfl (j := 1) rfl ?_
      refine aw_callV C I (k := (0, 0, 0)) (as := [.int (nI j)]) (rest := []) (c_findC_in l G ad ce S hL j hj) g_C_56 ho rfl rfl ⟨by decide, by decide⟩ ⟨by decide, by decide⟩ rfl (Nat.le_of_ble_eq_true rfl) d_C_fail_2 ?_
      rintro _ _ _ ⟨rfl, rfl, rfl⟩
      show AW X 4 0 0 ad ce 5 [(0, .ref (ad (0, 0, 0))), (1, .int (nI j)), (2, .int (nI p))] [.ref (ad (1, j, 0))]
      have hK := hcars j hj
      have hK0 := hK
      obtain ⟨hk, hby, hdu, hwo, hrd, hpt, ⟨hn1, hn2⟩, hps⟩ := hK0
      refine aw_astore_n C (lv' := [(3, .ref (ad (1, j, 0))), (0, .ref (ad (0, 0, 0))), (1, .int (nI j)), (2, .int (nI p))]) d_C_fail_5 rfl (by decide) rfl ?_
      refine aw_aload_n C d_C_fail_6 rfl (j := 0) rfl ?_
      refine aw_ifnull C d_C_fail_7 ?_
      refine aw_aload_n C d_C_fail_10 rfl (j := 0) rfl ?_
      refine aw_callV C I (k := (1, j, 0)) (as := []) (rest := []) (c_isGone l G ad ce j _ hK) g_C_81 hk rfl rfl ⟨by decide, by decide⟩ ⟨by decide, by decide⟩ rfl (Nat.le_of_ble_eq_true rfl) d_C_fail_11 ?_
      rintro _ _ _ ⟨rfl, rfl, rfl⟩
      show AW X 4 0 0 ad ce 14 [(3, .ref (ad (1, j, 0))), (0, .ref (ad (0, 0, 0))), (1, .int (nI j)), (2, .int (nI p))] [.int (bI (decide (k_st (s_car S j) = 5 ∨ k_st (s_car S j) = 6)))]
      refine aw_topi (v' := 0) ((bI_f hg).symm) ?_
      show AW X 4 0 0 ad ce 14 [(3, .ref (ad (1, j, 0))), (0, .ref (ad (0, 0, 0))), (1, .int (nI j)), (2, .int (nI p))] [.int 0]
      refine aw_if_ne C (tgt := 29) d_C_fail_14 (by decide) (fun h14 => absurd h14 (by decide)) (fun h14 => ?_)
      refine aw_aload_n C d_C_fail_17 rfl (j := 0) rfl ?_
      refine aw_iload_n C d_C_fail_18 rfl (j := 3) rfl ?_
      refine aw_callV C I (k := (1, j, 0)) (as := [.int (nI p)]) (rest := []) (c_wear_ok l G ad ce j _ hK p hp0 hw) g_C_85 hk rfl rfl ⟨by decide, by decide⟩ ⟨by decide, by decide⟩ rfl (Nat.le_of_ble_eq_true rfl) d_C_fail_19 ?_
      rintro _ _ ce9 ⟨rfl, rfl, hf9, hK9⟩
      show AW X 4 0 0 ad ce9 22 [(3, .ref (ad (1, j, 0))), (0, .ref (ad (0, 0, 0))), (1, .int (nI j)), (2, .int (nI p))] [.int 1]
      refine aw_if_eq C (tgt := 29) d_C_fail_22 (by decide) (fun h22 => absurd h22 (by decide)) (fun h22 => ?_)
      refine aw_iconst C (v := 1) d_C_fail_25 (by decide) ?_
      refine aw_goto C (tgt := 30) d_C_fail_26 (by decide) ?_
      refine aw_iret C E (rfl) (by decide) (by decide) d_C_fail_30 ?_
      rw [show f_fail S (nI j) (nI p) = (1, s_set S j (k_sWo (s_car S j) (upd (k_wo (s_car S j)) p 1))) from by simp only [f_fail, ix_in hj (show s_cn S < 2 ^ 31 by omega), if_neg hg, ix_in hp0 (show k_np (s_car S j) < 2 ^ 31 by omega), if_pos hw]]
      exact rC.car hL hj hf9 hK9
    · skip
      show AW X 4 0 0 ad ce 0 [(0, .ref (ad (0, 0, 0))), (1, .int (nI j)), (2, .int (nI p))] []
      refine aw_aload_n C d_C_fail_0 rfl (j := 0) rfl ?_
      refine aw_iload_n C d_C_fail_1 rfl (j := 1) rfl ?_
      refine aw_callV C I (k := (0, 0, 0)) (as := [.int (nI j)]) (rest := []) (c_findC_in l G ad ce S hL j hj) g_C_56 ho rfl rfl ⟨by decide, by decide⟩ ⟨by decide, by decide⟩ rfl (Nat.le_of_ble_eq_true rfl) d_C_fail_2 ?_
      rintro _ _ _ ⟨rfl, rfl, rfl⟩
      show AW X 4 0 0 ad ce 5 [(0, .ref (ad (0, 0, 0))), (1, .int (nI j)), (2, .int (nI p))] [.ref (ad (1, j, 0))]
      have hK := hcars j hj
      have hK0 := hK
      obtain ⟨hk, hby, hdu, hwo, hrd, hpt, ⟨hn1, hn2⟩, hps⟩ := hK0
      refine aw_astore_n C (lv' := [(3, .ref (ad (1, j, 0))), (0, .ref (ad (0, 0, 0))), (1, .int (nI j)), (2, .int (nI p))]) d_C_fail_5 rfl (by decide) rfl ?_
      refine aw_aload_n C d_C_fail_6 rfl (j := 0) rfl ?_
      refine aw_ifnull C d_C_fail_7 ?_
      refine aw_aload_n C d_C_fail_10 rfl (j := 0) rfl ?_
      refine aw_callV C I (k := (1, j, 0)) (as := []) (rest := []) (c_isGone l G ad ce j _ hK) g_C_81 hk rfl rfl ⟨by decide, by decide⟩ ⟨by decide, by decide⟩ rfl (Nat.le_of_ble_eq_true rfl) d_C_fail_11 ?_
      rintro _ _ _ ⟨rfl, rfl, rfl⟩
      show AW X 4 0 0 ad ce 14 [(3, .ref (ad (1, j, 0))), (0, .ref (ad (0, 0, 0))), (1, .int (nI j)), (2, .int (nI p))] [.int (bI (decide (k_st (s_car S j) = 5 ∨ k_st (s_car S j) = 6)))]
      refine aw_topi (v' := 0) ((bI_f hg).symm) ?_
      show AW X 4 0 0 ad ce 14 [(3, .ref (ad (1, j, 0))), (0, .ref (ad (0, 0, 0))), (1, .int (nI j)), (2, .int (nI p))] [.int 0]
      refine aw_if_ne C (tgt := 29) d_C_fail_14 (by decide) (fun h14 => absurd h14 (by decide)) (fun h14 => ?_)
      refine aw_aload_n C d_C_fail_17 rfl (j := 0) rfl ?_
      refine aw_iload_n C d_C_fail_18 rfl (j := 3) rfl ?_
      refine aw_callV C I (k := (1, j, 0)) (as := [.int (nI p)]) (rest := []) (c_wear_no l G ad ce j _ hK p hp0 hw) g_C_85 hk rfl rfl ⟨by decide, by decide⟩ ⟨by decide, by decide⟩ rfl (Nat.le_of_ble_eq_true rfl) d_C_fail_19 ?_
      rintro _ _ _ ⟨rfl, rfl, rfl⟩
      show AW X 4 0 0 ad ce 22 [(3, .ref (ad (1, j, 0))), (0, .ref (ad (0, 0, 0))), (1, .int (nI j)), (2, .int (nI p))] [.int 0]
      refine aw_if_eq C (tgt := 29) d_C_fail_22 (by decide) (fun h22 => ?_) (fun h22 => absurd (rfl) h22)
      refine aw_iconst C (v := 0) d_C_fail_29 (by decide) ?_
      refine aw_iret C E (rfl) (by decide) (by decide) d_C_fail_30 ?_
      rw [show f_fail S (nI j) (nI p) = (0, S) from by simp only [f_fail, ix_in hj (show s_cn S < 2 ^ 31 by omega), if_neg hg, ix_in hp0 (show k_np (s_car S j) < 2 ^ 31 by omega), if_neg hw]]
      exact rC.of hL ⟨rfl, rfl, rfl⟩
set_option maxRecDepth 100000 in
set_option maxHeartbeats 4000000 in
theorem C_pass (l : Launch) (G : aw_G) (ad : aw_Ad) (ce : aw_He) (S : SysS) (hL : LayC S ad ce) (x p : Int32) : CT l G M_C_pass 2 44 0 0 [.ref (ad (0, 0, 0)), .int x, .int p] ad ce (rC (some (.int (f_pass S x p).1)) (f_pass S x p).2 ad ce) := by
  refine CT.of (by decide) (Nat.le_of_ble_eq_true rfl) ?_
  intro X C I E
  have hL0 := hL
  obtain ⟨ho, hca, hpa, hli, hlo, hcars, hpaps, hnoc, hnop, hb1, hb2, hb3, hb4⟩ := hL0
  rcases ix_cases x (n := s_cn S) (by omega) with hx | ⟨j, hj, rfl⟩
  · skip
    show AW X 4 0 0 ad ce 0 [(0, .ref (ad (0, 0, 0))), (1, .int x), (2, .int p)] []
    refine aw_aload_n C d_C_pass_0 rfl (j := 0) rfl ?_
    refine aw_iload_n C d_C_pass_1 rfl (j := 1) rfl ?_
    refine aw_callV C I (k := (0, 0, 0)) (as := [.int x]) (rest := []) (c_findC_out l G ad ce S hL x hx) g_C_56 ho rfl rfl ⟨by decide, by decide⟩ ⟨by decide, by decide⟩ rfl (Nat.le_of_ble_eq_true rfl) d_C_pass_2 ?_
    rintro _ _ _ ⟨rfl, rfl, rfl⟩
    show AW X 4 0 0 ad ce 5 [(0, .ref (ad (0, 0, 0))), (1, .int x), (2, .int p)] [.null]
    refine aw_astore_nN C (lv' := [(3, .null), (0, .ref (ad (0, 0, 0))), (1, .int x), (2, .int p)]) d_C_pass_5 rfl (by decide) rfl ?_
    refine aw_aload_nN C d_C_pass_6 rfl (j := 0) rfl ?_
    refine aw_ifnullN C (tgt := 21) d_C_pass_7 (by decide) ?_
    refine aw_iconst C (v := (-1)) d_C_pass_21 (by decide) ?_
    refine aw_iret C E (rfl) (by decide) (by decide) d_C_pass_22 ?_
    rw [show f_pass S x p = (-1, S) from by simp only [f_pass, ix_out hx]]
    exact rC.of hL ⟨rfl, rfl, rfl⟩
  by_cases hc : (0 ≤ p ∧ p ≤ 257) ∧ k_st (s_car S j) = 2 ∧ k_ps (s_car S j) < 6
  · skip
    show AW X 4 0 0 ad ce 0 [(0, .ref (ad (0, 0, 0))), (1, .int (nI j)), (2, .int p)] []
    refine aw_aload_n C d_C_pass_0 rfl (j := 0) rfl ?_
    refine aw_iload_n C d_C_pass_1 rfl (j := 1) rfl ?_
    refine aw_callV C I (k := (0, 0, 0)) (as := [.int (nI j)]) (rest := []) (c_findC_in l G ad ce S hL j hj) g_C_56 ho rfl rfl ⟨by decide, by decide⟩ ⟨by decide, by decide⟩ rfl (Nat.le_of_ble_eq_true rfl) d_C_pass_2 ?_
    rintro _ _ _ ⟨rfl, rfl, rfl⟩
    show AW X 4 0 0 ad ce 5 [(0, .ref (ad (0, 0, 0))), (1, .int (nI j)), (2, .int p)] [.ref (ad (1, j, 0))]
    have hK := hcars j hj
    have hK0 := hK
    obtain ⟨hk, hby, hdu, hwo, hrd, hpt, ⟨hn1, hn2⟩, hps⟩ := hK0
    refine aw_astore_n C (lv' := [(3, .ref (ad (1, j, 0))), (0, .ref (ad (0, 0, 0))), (1, .int (nI j)), (2, .int p)]) d_C_pass_5 rfl (by decide) rfl ?_
    refine aw_aload_n C d_C_pass_6 rfl (j := 0) rfl ?_
    refine aw_ifnull C d_C_pass_7 ?_
    refine aw_iload_n C d_C_pass_10 rfl (j := 3) rfl ?_
    refine aw_iconst C (v := 0) d_C_pass_11 (by decide) ?_
    refine aw_sipush C (v := 257) d_C_pass_12 (by decide) ?_
    refine aw_callS C I (as := [.int p, .int 0, .int 257]) (rest := []) (c_within l G ad ce p 0 257) g_C_42 ⟨by decide, by decide⟩ ⟨by decide, by decide⟩ rfl (Nat.le_of_ble_eq_true rfl) d_C_pass_15 ?_
    rintro _ _ _ ⟨rfl, rfl, rfl⟩
    show AW X 4 0 0 ad ce 18 [(3, .ref (ad (1, j, 0))), (0, .ref (ad (0, 0, 0))), (1, .int (nI j)), (2, .int p)] [.int (bI (decide (0 ≤ p ∧ p ≤ 257)))]
    refine aw_topi (v' := 1) ((bI_t hc.1).symm) ?_
    show AW X 4 0 0 ad ce 18 [(3, .ref (ad (1, j, 0))), (0, .ref (ad (0, 0, 0))), (1, .int (nI j)), (2, .int p)] [.int 1]
    refine aw_if_ne C (tgt := 23) d_C_pass_18 (by decide) (fun h18 => ?_) (fun h18 => absurd h18 (by decide))
    refine aw_aload_n C d_C_pass_23 rfl (j := 0) rfl ?_
    refine aw_iload_n C d_C_pass_24 rfl (j := 3) rfl ?_
    refine aw_callV C I (k := (1, j, 0)) (as := [.int p]) (rest := []) (c_over_ok l G ad ce j _ hK p hc.2.1 hc.2.2) g_C_91 hk rfl rfl ⟨by decide, by decide⟩ ⟨by decide, by decide⟩ rfl (Nat.le_of_ble_eq_true rfl) d_C_pass_25 ?_
    rintro _ _ ce9 ⟨rfl, rfl, hf9, hK9⟩
    show AW X 4 0 0 ad ce9 28 [(3, .ref (ad (1, j, 0))), (0, .ref (ad (0, 0, 0))), (1, .int (nI j)), (2, .int p)] [.int (nI (k_ps (s_car S j) + 1))]
    refine aw_iret C E (rfl) (by decide) (by decide) d_C_pass_28 ?_
    rw [show f_pass S (nI j) p = (nI (k_ps (s_car S j) + 1), s_set S j (k_pass (s_car S j) p)) from by simp only [f_pass, ix_in hj (show s_cn S < 2 ^ 31 by omega), if_pos hc]]
    exact rC.car hL hj hf9 hK9
  by_cases h1 : 0 ≤ p ∧ p ≤ 257
  · have hps0 := (hcars j hj).2.2.2.2.2.2.2
    have hn : ¬ k_st (s_car S j) = 2 ∨ k_ps (s_car S j) = 6 := by
      by_cases h2 : k_st (s_car S j) = 2
      · refine Or.inr ?_
        by_cases h3 : k_ps (s_car S j) < 6
        · exact absurd ⟨h1, h2, h3⟩ hc
        · omega
      · exact Or.inl h2
    show AW X 4 0 0 ad ce 0 [(0, .ref (ad (0, 0, 0))), (1, .int (nI j)), (2, .int p)] []
    refine aw_aload_n C d_C_pass_0 rfl (j := 0) rfl ?_
    refine aw_iload_n C d_C_pass_1 rfl (j := 1) rfl ?_
    refine aw_callV C I (k := (0, 0, 0)) (as := [.int (nI j)]) (rest := []) (c_findC_in l G ad ce S hL j hj) g_C_56 ho rfl rfl ⟨by decide, by decide⟩ ⟨by decide, by decide⟩ rfl (Nat.le_of_ble_eq_true rfl) d_C_pass_2 ?_
    rintro _ _ _ ⟨rfl, rfl, rfl⟩
    show AW X 4 0 0 ad ce 5 [(0, .ref (ad (0, 0, 0))), (1, .int (nI j)), (2, .int p)] [.ref (ad (1, j, 0))]
    have hK := hcars j hj
    have hK0 := hK
    obtain ⟨hk, hby, hdu, hwo, hrd, hpt, ⟨hn1, hn2⟩, hps⟩ := hK0
    refine aw_astore_n C (lv' := [(3, .ref (ad (1, j, 0))), (0, .ref (ad (0, 0, 0))), (1, .int (nI j)), (2, .int p)]) d_C_pass_5 rfl (by decide) rfl ?_
    refine aw_aload_n C d_C_pass_6 rfl (j := 0) rfl ?_
    refine aw_ifnull C d_C_pass_7 ?_
    refine aw_iload_n C d_C_pass_10 rfl (j := 3) rfl ?_
    refine aw_iconst C (v := 0) d_C_pass_11 (by decide) ?_
    refine aw_sipush C (v := 257) d_C_pass_12 (by decide) ?_
    refine aw_callS C I (as := [.int p, .int 0, .int 257]) (rest := []) (c_within l G ad ce p 0 257) g_C_42 ⟨by decide, by decide⟩ ⟨by decide, by decide⟩ rfl (Nat.le_of_ble_eq_true rfl) d_C_pass_15 ?_
    rintro _ _ _ ⟨rfl, rfl, rfl⟩
    show AW X 4 0 0 ad ce 18 [(3, .ref (ad (1, j, 0))), (0, .ref (ad (0, 0, 0))), (1, .int (nI j)), (2, .int p)] [.int (bI (decide (0 ≤ p ∧ p ≤ 257)))]
    refine aw_topi (v' := 1) ((bI_t h1).symm) ?_
    show AW X 4 0 0 ad ce 18 [(3, .ref (ad (1, j, 0))), (0, .ref (ad (0, 0, 0))), (1, .int (nI j)), (2, .int p)] [.int 1]
    refine aw_if_ne C (tgt := 23) d_C_pass_18 (by decide) (fun h18 => ?_) (fun h18 => absurd h18 (by decide))
    refine aw_aload_n C d_C_pass_23 rfl (j := 0) rfl ?_
    refine aw_iload_n C d_C_pass_24 rfl (j := 3) rfl ?_
    refine aw_callV C I (k := (1, j, 0)) (as := [.int p]) (rest := []) (c_over_no l G ad ce j _ hK p hn) g_C_91 hk rfl rfl ⟨by decide, by decide⟩ ⟨by decide, by decide⟩ rfl (Nat.le_of_ble_eq_true rfl) d_C_pass_25 ?_
    rintro _ _ _ ⟨rfl, rfl, rfl⟩
    show AW X 4 0 0 ad ce 28 [(3, .ref (ad (1, j, 0))), (0, .ref (ad (0, 0, 0))), (1, .int (nI j)), (2, .int p)] [.int (-1)]
    refine aw_iret C E (rfl) (by decide) (by decide) d_C_pass_28 ?_
    rw [show f_pass S (nI j) p = (-1, S) from by simp only [f_pass, ix_in hj (show s_cn S < 2 ^ 31 by omega), if_neg hc]]
    exact rC.of hL ⟨rfl, rfl, rfl⟩
  · skip
    show AW X 4 0 0 ad ce 0 [(0, .ref (ad (0, 0, 0))), (1, .int (nI j)), (2, .int p)] []
    refine aw_aload_n C d_C_pass_0 rfl (j := 0) rfl ?_
    refine aw_iload_n C d_C_pass_1 rfl (j := 1) rfl ?_
    refine aw_callV C I (k := (0, 0, 0)) (as := [.int (nI j)]) (rest := []) (c_findC_in l G ad ce S hL j hj) g_C_56 ho rfl rfl ⟨by decide, by decide⟩ ⟨by decide, by decide⟩ rfl (Nat.le_of_ble_eq_true rfl) d_C_pass_2 ?_
    rintro _ _ _ ⟨rfl, rfl, rfl⟩
    show AW X 4 0 0 ad ce 5 [(0, .ref (ad (0, 0, 0))), (1, .int (nI j)), (2, .int p)] [.ref (ad (1, j, 0))]
    have hK := hcars j hj
    have hK0 := hK
    obtain ⟨hk, hby, hdu, hwo, hrd, hpt, ⟨hn1, hn2⟩, hps⟩ := hK0
    refine aw_astore_n C (lv' := [(3, .ref (ad (1, j, 0))), (0, .ref (ad (0, 0, 0))), (1, .int (nI j)), (2, .int p)]) d_C_pass_5 rfl (by decide) rfl ?_
    refine aw_aload_n C d_C_pass_6 rfl (j := 0) rfl ?_
    refine aw_ifnull C d_C_pass_7 ?_
    refine aw_iload_n C d_C_pass_10 rfl (j := 3) rfl ?_
    refine aw_iconst C (v := 0) d_C_pass_11 (by decide) ?_
    refine aw_sipush C (v := 257) d_C_pass_12 (by decide) ?_
    refine aw_callS C I (as := [.int p, .int 0, .int 257]) (rest := []) (c_within l G ad ce p 0 257) g_C_42 ⟨by decide, by decide⟩ ⟨by decide, by decide⟩ rfl (Nat.le_of_ble_eq_true rfl) d_C_pass_15 ?_
    rintro _ _ _ ⟨rfl, rfl, rfl⟩
    show AW X 4 0 0 ad ce 18 [(3, .ref (ad (1, j, 0))), (0, .ref (ad (0, 0, 0))), (1, .int (nI j)), (2, .int p)] [.int (bI (decide (0 ≤ p ∧ p ≤ 257)))]
    refine aw_topi (v' := 0) ((bI_f h1).symm) ?_
    show AW X 4 0 0 ad ce 18 [(3, .ref (ad (1, j, 0))), (0, .ref (ad (0, 0, 0))), (1, .int (nI j)), (2, .int p)] [.int 0]
    refine aw_if_ne C (tgt := 23) d_C_pass_18 (by decide) (fun h18 => absurd h18 (by decide)) (fun h18 => ?_)
    refine aw_iconst C (v := (-1)) d_C_pass_21 (by decide) ?_
    refine aw_iret C E (rfl) (by decide) (by decide) d_C_pass_22 ?_
    rw [show f_pass S (nI j) p = (-1, S) from by simp only [f_pass, ix_in hj (show s_cn S < 2 ^ 31 by omega), if_neg hc]]
    exact rC.of hL ⟨rfl, rfl, rfl⟩
set_option maxRecDepth 100000 in
set_option maxHeartbeats 4000000 in
theorem C_read (l : Launch) (G : aw_G) (ad : aw_Ad) (ce : aw_He) (S : SysS) (hL : LayC S ad ce) (x y b : Int32) : CT l G M_C_read 2 44 0 0 [.ref (ad (0, 0, 0)), .int x, .int y, .int b] ad ce (rC (some (.int (f_read S x y b).1)) (f_read S x y b).2 ad ce) := by
  refine CT.of (by decide) (Nat.le_of_ble_eq_true rfl) ?_
  intro X C I E
  have hL0 := hL
  obtain ⟨ho, hca, hpa, hli, hlo, hcars, hpaps, hnoc, hnop, hb1, hb2, hb3, hb4⟩ := hL0
  rcases ix_cases x (n := s_cn S) (by omega) with hx | ⟨j, hj, rfl⟩
  · skip
    show AW X 5 0 0 ad ce 0 [(0, .ref (ad (0, 0, 0))), (1, .int x), (2, .int y), (3, .int b)] []
    refine aw_aload_n C d_C_read_0 rfl (j := 0) rfl ?_
    refine aw_iload_n C d_C_read_1 rfl (j := 1) rfl ?_
    refine aw_callV C I (k := (0, 0, 0)) (as := [.int x]) (rest := []) (c_findC_out l G ad ce S hL x hx) g_C_56 ho rfl rfl ⟨by decide, by decide⟩ ⟨by decide, by decide⟩ rfl (Nat.le_of_ble_eq_true rfl) d_C_read_2 ?_
    rintro _ _ _ ⟨rfl, rfl, rfl⟩
    show AW X 5 0 0 ad ce 5 [(0, .ref (ad (0, 0, 0))), (1, .int x), (2, .int y), (3, .int b)] [.null]
    refine aw_astoreN C (lv' := [(4, .null), (0, .ref (ad (0, 0, 0))), (1, .int x), (2, .int y), (3, .int b)]) d_C_read_5 (by decide) rfl ?_
    refine aw_aloadN C d_C_read_7 (j := 0) rfl ?_
    refine aw_ifnullN C (tgt := 23) d_C_read_9 (by decide) ?_
    refine aw_iconst C (v := (-1)) d_C_read_23 (by decide) ?_
    refine aw_iret C E (rfl) (by decide) (by decide) d_C_read_24 ?_
    rw [show f_read S x y b = (-1, S) from by simp only [f_read, ix_out hx]]
    exact rC.of hL ⟨rfl, rfl, rfl⟩
  have hnp := (hcars j hj).2.2.2.2.2.2.1.2
  rcases ix_cases y (n := k_np (s_car S j)) (by omega) with hy | ⟨p, hp0, rfl⟩
  · by_cases h1 : 0 ≤ b ∧ b ≤ 255
    · skip
      show AW X 5 0 0 ad ce 0 [(0, .ref (ad (0, 0, 0))), (1, .int (nI j)), (2, .int y), (3, .int b)] []
      refine aw_aload_n C d_C_read_0 rfl (j := 0) rfl ?_
      refine aw_iload_n C d_C_read_1 rfl (j := 1) rfl ?_
      refine aw_callV C I (k := (0, 0, 0)) (as := [.int (nI j)]) (rest := []) (c_findC_in l G ad ce S hL j hj) g_C_56 ho rfl rfl ⟨by decide, by decide⟩ ⟨by decide, by decide⟩ rfl (Nat.le_of_ble_eq_true rfl) d_C_read_2 ?_
      rintro _ _ _ ⟨rfl, rfl, rfl⟩
      show AW X 5 0 0 ad ce 5 [(0, .ref (ad (0, 0, 0))), (1, .int (nI j)), (2, .int y), (3, .int b)] [.ref (ad (1, j, 0))]
      have hK := hcars j hj
      have hK0 := hK
      obtain ⟨hk, hby, hdu, hwo, hrd, hpt, ⟨hn1, hn2⟩, hps⟩ := hK0
      refine aw_astore C (lv' := [(4, .ref (ad (1, j, 0))), (0, .ref (ad (0, 0, 0))), (1, .int (nI j)), (2, .int y), (3, .int b)]) d_C_read_5 (by decide) rfl ?_
      refine aw_aload C d_C_read_7 (j := 0) rfl ?_
      refine aw_ifnull C d_C_read_9 ?_
      refine aw_iload_n C d_C_read_12 rfl (j := 4) rfl ?_
      refine aw_iconst C (v := 0) d_C_read_13 (by decide) ?_
      refine aw_sipush C (v := 255) d_C_read_14 (by decide) ?_
      refine aw_callS C I (as := [.int b, .int 0, .int 255]) (rest := []) (c_within l G ad ce b 0 255) g_C_42 ⟨by decide, by decide⟩ ⟨by decide, by decide⟩ rfl (Nat.le_of_ble_eq_true rfl) d_C_read_17 ?_
      rintro _ _ _ ⟨rfl, rfl, rfl⟩
      show AW X 5 0 0 ad ce 20 [(4, .ref (ad (1, j, 0))), (0, .ref (ad (0, 0, 0))), (1, .int (nI j)), (2, .int y), (3, .int b)] [.int (bI (decide (0 ≤ b ∧ b ≤ 255)))]
      refine aw_topi (v' := 1) ((bI_t h1).symm) ?_
      show AW X 5 0 0 ad ce 20 [(4, .ref (ad (1, j, 0))), (0, .ref (ad (0, 0, 0))), (1, .int (nI j)), (2, .int y), (3, .int b)] [.int 1]
      refine aw_if_ne C (tgt := 25) d_C_read_20 (by decide) (fun h20 => ?_) (fun h20 => absurd h20 (by decide))
      refine aw_aload C d_C_read_25 (j := 0) rfl ?_
      refine aw_iload_n C d_C_read_27 rfl (j := 3) rfl ?_
      refine aw_iload_n C d_C_read_28 rfl (j := 4) rfl ?_
      refine aw_callV C I (k := (1, j, 0)) (as := [.int y, .int b]) (rest := []) (c_read_out l G ad ce j _ hK y b (Or.inr (Or.inr hy))) g_C_100 hk rfl rfl ⟨by decide, by decide⟩ ⟨by decide, by decide⟩ rfl (Nat.le_of_ble_eq_true rfl) d_C_read_29 ?_
      rintro _ _ _ ⟨rfl, rfl, rfl⟩
      show AW X 5 0 0 ad ce 32 [(4, .ref (ad (1, j, 0))), (0, .ref (ad (0, 0, 0))), (1, .int (nI j)), (2, .int y), (3, .int b)] [.int (-1)]
      refine aw_iret C E (rfl) (by decide) (by decide) d_C_read_32 ?_
      rw [show f_read S (nI j) y b = (-1, S) from by simp only [f_read, ix_in hj (show s_cn S < 2 ^ 31 by omega), ix_out hy]]
      exact rC.of hL ⟨rfl, rfl, rfl⟩
    · skip
      show AW X 5 0 0 ad ce 0 [(0, .ref (ad (0, 0, 0))), (1, .int (nI j)), (2, .int y), (3, .int b)] []
      refine aw_aload_n C d_C_read_0 rfl (j := 0) rfl ?_
      refine aw_iload_n C d_C_read_1 rfl (j := 1) rfl ?_
      refine aw_callV C I (k := (0, 0, 0)) (as := [.int (nI j)]) (rest := []) (c_findC_in l G ad ce S hL j hj) g_C_56 ho rfl rfl ⟨by decide, by decide⟩ ⟨by decide, by decide⟩ rfl (Nat.le_of_ble_eq_true rfl) d_C_read_2 ?_
      rintro _ _ _ ⟨rfl, rfl, rfl⟩
      show AW X 5 0 0 ad ce 5 [(0, .ref (ad (0, 0, 0))), (1, .int (nI j)), (2, .int y), (3, .int b)] [.ref (ad (1, j, 0))]
      have hK := hcars j hj
      have hK0 := hK
      obtain ⟨hk, hby, hdu, hwo, hrd, hpt, ⟨hn1, hn2⟩, hps⟩ := hK0
      refine aw_astore C (lv' := [(4, .ref (ad (1, j, 0))), (0, .ref (ad (0, 0, 0))), (1, .int (nI j)), (2, .int y), (3, .int b)]) d_C_read_5 (by decide) rfl ?_
      refine aw_aload C d_C_read_7 (j := 0) rfl ?_
      refine aw_ifnull C d_C_read_9 ?_
      refine aw_iload_n C d_C_read_12 rfl (j := 4) rfl ?_
      refine aw_iconst C (v := 0) d_C_read_13 (by decide) ?_
      refine aw_sipush C (v := 255) d_C_read_14 (by decide) ?_
      refine aw_callS C I (as := [.int b, .int 0, .int 255]) (rest := []) (c_within l G ad ce b 0 255) g_C_42 ⟨by decide, by decide⟩ ⟨by decide, by decide⟩ rfl (Nat.le_of_ble_eq_true rfl) d_C_read_17 ?_
      rintro _ _ _ ⟨rfl, rfl, rfl⟩
      show AW X 5 0 0 ad ce 20 [(4, .ref (ad (1, j, 0))), (0, .ref (ad (0, 0, 0))), (1, .int (nI j)), (2, .int y), (3, .int b)] [.int (bI (decide (0 ≤ b ∧ b ≤ 255)))]
      refine aw_topi (v' := 0) ((bI_f h1).symm) ?_
      show AW X 5 0 0 ad ce 20 [(4, .ref (ad (1, j, 0))), (0, .ref (ad (0, 0, 0))), (1, .int (nI j)), (2, .int y), (3, .int b)] [.int 0]
      refine aw_if_ne C (tgt := 25) d_C_read_20 (by decide) (fun h20 => absurd h20 (by decide)) (fun h20 => ?_)
      refine aw_iconst C (v := (-1)) d_C_read_23 (by decide) ?_
      refine aw_iret C E (rfl) (by decide) (by decide) d_C_read_24 ?_
      rw [show f_read S (nI j) y b = (-1, S) from by simp only [f_read, ix_in hj (show s_cn S < 2 ^ 31 by omega), ix_out hy]]
      exact rC.of hL ⟨rfl, rfl, rfl⟩
  by_cases hc : (0 ≤ b ∧ b ≤ 255) ∧ k_st (s_car S j) = 2 ∧ ¬ k_ps (s_car S j) = 0 ∧ k_rd (s_car S j) p = 0
  · skip
    show AW X 5 0 0 ad ce 0 [(0, .ref (ad (0, 0, 0))), (1, .int (nI j)), (2, .int (nI p)), (3, .int b)] []
    refine aw_aload_n C d_C_read_0 rfl (j := 0) rfl ?_
    refine aw_iload_n C d_C_read_1 rfl (j := 1) rfl ?_
    refine aw_callV C I (k := (0, 0, 0)) (as := [.int (nI j)]) (rest := []) (c_findC_in l G ad ce S hL j hj) g_C_56 ho rfl rfl ⟨by decide, by decide⟩ ⟨by decide, by decide⟩ rfl (Nat.le_of_ble_eq_true rfl) d_C_read_2 ?_
    rintro _ _ _ ⟨rfl, rfl, rfl⟩
    show AW X 5 0 0 ad ce 5 [(0, .ref (ad (0, 0, 0))), (1, .int (nI j)), (2, .int (nI p)), (3, .int b)] [.ref (ad (1, j, 0))]
    have hK := hcars j hj
    have hK0 := hK
    obtain ⟨hk, hby, hdu, hwo, hrd, hpt, ⟨hn1, hn2⟩, hps⟩ := hK0
    refine aw_astore C (lv' := [(4, .ref (ad (1, j, 0))), (0, .ref (ad (0, 0, 0))), (1, .int (nI j)), (2, .int (nI p)), (3, .int b)]) d_C_read_5 (by decide) rfl ?_
    refine aw_aload C d_C_read_7 (j := 0) rfl ?_
    refine aw_ifnull C d_C_read_9 ?_
    refine aw_iload_n C d_C_read_12 rfl (j := 4) rfl ?_
    refine aw_iconst C (v := 0) d_C_read_13 (by decide) ?_
    refine aw_sipush C (v := 255) d_C_read_14 (by decide) ?_
    refine aw_callS C I (as := [.int b, .int 0, .int 255]) (rest := []) (c_within l G ad ce b 0 255) g_C_42 ⟨by decide, by decide⟩ ⟨by decide, by decide⟩ rfl (Nat.le_of_ble_eq_true rfl) d_C_read_17 ?_
    rintro _ _ _ ⟨rfl, rfl, rfl⟩
    show AW X 5 0 0 ad ce 20 [(4, .ref (ad (1, j, 0))), (0, .ref (ad (0, 0, 0))), (1, .int (nI j)), (2, .int (nI p)), (3, .int b)] [.int (bI (decide (0 ≤ b ∧ b ≤ 255)))]
    refine aw_topi (v' := 1) ((bI_t hc.1).symm) ?_
    show AW X 5 0 0 ad ce 20 [(4, .ref (ad (1, j, 0))), (0, .ref (ad (0, 0, 0))), (1, .int (nI j)), (2, .int (nI p)), (3, .int b)] [.int 1]
    refine aw_if_ne C (tgt := 25) d_C_read_20 (by decide) (fun h20 => ?_) (fun h20 => absurd h20 (by decide))
    refine aw_aload C d_C_read_25 (j := 0) rfl ?_
    refine aw_iload_n C d_C_read_27 rfl (j := 3) rfl ?_
    refine aw_iload_n C d_C_read_28 rfl (j := 4) rfl ?_
    refine aw_callV C I (k := (1, j, 0)) (as := [.int (nI p), .int b]) (rest := []) (c_read_ok l G ad ce j _ hK p hp0 b hc.2.1 hc.2.2.1 hc.2.2.2) g_C_100 hk rfl rfl ⟨by decide, by decide⟩ ⟨by decide, by decide⟩ rfl (Nat.le_of_ble_eq_true rfl) d_C_read_29 ?_
    rintro _ _ ce9 ⟨rfl, rfl, hf9, hK9⟩
    show AW X 5 0 0 ad ce9 32 [(4, .ref (ad (1, j, 0))), (0, .ref (ad (0, 0, 0))), (1, .int (nI j)), (2, .int (nI p)), (3, .int b)] [.int (if b = k_du (s_car S j) p then 1 else 0)]
    refine aw_iret C E (rfl) (by decide) (by decide) d_C_read_32 ?_
    rw [show f_read S (nI j) (nI p) b = ((if b = k_du (s_car S j) p then 1 else 0), s_set S j (k_read (s_car S j) p b)) from by simp only [f_read, ix_in hj (show s_cn S < 2 ^ 31 by omega), ix_in hp0 (show k_np (s_car S j) < 2 ^ 31 by omega), if_pos hc]]
    exact rC.car hL hj hf9 hK9
  by_cases h1 : 0 ≤ b ∧ b ≤ 255
  · have hn : ¬ k_st (s_car S j) = 2 ∨ k_ps (s_car S j) = 0 ∨ ¬ k_rd (s_car S j) p = 0 := by
      by_cases h2 : k_st (s_car S j) = 2
      · refine Or.inr ?_
        by_cases h3 : k_ps (s_car S j) = 0
        · exact Or.inl h3
        · exact Or.inr (fun h4 => hc ⟨h1, h2, h3, h4⟩)
      · exact Or.inl h2
    show AW X 5 0 0 ad ce 0 [(0, .ref (ad (0, 0, 0))), (1, .int (nI j)), (2, .int (nI p)), (3, .int b)] []
    refine aw_aload_n C d_C_read_0 rfl (j := 0) rfl ?_
    refine aw_iload_n C d_C_read_1 rfl (j := 1) rfl ?_
    refine aw_callV C I (k := (0, 0, 0)) (as := [.int (nI j)]) (rest := []) (c_findC_in l G ad ce S hL j hj) g_C_56 ho rfl rfl ⟨by decide, by decide⟩ ⟨by decide, by decide⟩ rfl (Nat.le_of_ble_eq_true rfl) d_C_read_2 ?_
    rintro _ _ _ ⟨rfl, rfl, rfl⟩
    show AW X 5 0 0 ad ce 5 [(0, .ref (ad (0, 0, 0))), (1, .int (nI j)), (2, .int (nI p)), (3, .int b)] [.ref (ad (1, j, 0))]
    have hK := hcars j hj
    have hK0 := hK
    obtain ⟨hk, hby, hdu, hwo, hrd, hpt, ⟨hn1, hn2⟩, hps⟩ := hK0
    refine aw_astore C (lv' := [(4, .ref (ad (1, j, 0))), (0, .ref (ad (0, 0, 0))), (1, .int (nI j)), (2, .int (nI p)), (3, .int b)]) d_C_read_5 (by decide) rfl ?_
    refine aw_aload C d_C_read_7 (j := 0) rfl ?_
    refine aw_ifnull C d_C_read_9 ?_
    refine aw_iload_n C d_C_read_12 rfl (j := 4) rfl ?_
    refine aw_iconst C (v := 0) d_C_read_13 (by decide) ?_
    refine aw_sipush C (v := 255) d_C_read_14 (by decide) ?_
    refine aw_callS C I (as := [.int b, .int 0, .int 255]) (rest := []) (c_within l G ad ce b 0 255) g_C_42 ⟨by decide, by decide⟩ ⟨by decide, by decide⟩ rfl (Nat.le_of_ble_eq_true rfl) d_C_read_17 ?_
    rintro _ _ _ ⟨rfl, rfl, rfl⟩
    show AW X 5 0 0 ad ce 20 [(4, .ref (ad (1, j, 0))), (0, .ref (ad (0, 0, 0))), (1, .int (nI j)), (2, .int (nI p)), (3, .int b)] [.int (bI (decide (0 ≤ b ∧ b ≤ 255)))]
    refine aw_topi (v' := 1) ((bI_t h1).symm) ?_
    show AW X 5 0 0 ad ce 20 [(4, .ref (ad (1, j, 0))), (0, .ref (ad (0, 0, 0))), (1, .int (nI j)), (2, .int (nI p)), (3, .int b)] [.int 1]
    refine aw_if_ne C (tgt := 25) d_C_read_20 (by decide) (fun h20 => ?_) (fun h20 => absurd h20 (by decide))
    refine aw_aload C d_C_read_25 (j := 0) rfl ?_
    refine aw_iload_n C d_C_read_27 rfl (j := 3) rfl ?_
    refine aw_iload_n C d_C_read_28 rfl (j := 4) rfl ?_
    refine aw_callV C I (k := (1, j, 0)) (as := [.int (nI p), .int b]) (rest := []) (c_read_no l G ad ce j _ hK p hp0 b hn) g_C_100 hk rfl rfl ⟨by decide, by decide⟩ ⟨by decide, by decide⟩ rfl (Nat.le_of_ble_eq_true rfl) d_C_read_29 ?_
    rintro _ _ _ ⟨rfl, rfl, rfl⟩
    show AW X 5 0 0 ad ce 32 [(4, .ref (ad (1, j, 0))), (0, .ref (ad (0, 0, 0))), (1, .int (nI j)), (2, .int (nI p)), (3, .int b)] [.int (-1)]
    refine aw_iret C E (rfl) (by decide) (by decide) d_C_read_32 ?_
    rw [show f_read S (nI j) (nI p) b = (-1, S) from by simp only [f_read, ix_in hj (show s_cn S < 2 ^ 31 by omega), ix_in hp0 (show k_np (s_car S j) < 2 ^ 31 by omega), if_neg hc]]
    exact rC.of hL ⟨rfl, rfl, rfl⟩
  · skip
    show AW X 5 0 0 ad ce 0 [(0, .ref (ad (0, 0, 0))), (1, .int (nI j)), (2, .int (nI p)), (3, .int b)] []
    refine aw_aload_n C d_C_read_0 rfl (j := 0) rfl ?_
    refine aw_iload_n C d_C_read_1 rfl (j := 1) rfl ?_
    refine aw_callV C I (k := (0, 0, 0)) (as := [.int (nI j)]) (rest := []) (c_findC_in l G ad ce S hL j hj) g_C_56 ho rfl rfl ⟨by decide, by decide⟩ ⟨by decide, by decide⟩ rfl (Nat.le_of_ble_eq_true rfl) d_C_read_2 ?_
    rintro _ _ _ ⟨rfl, rfl, rfl⟩
    show AW X 5 0 0 ad ce 5 [(0, .ref (ad (0, 0, 0))), (1, .int (nI j)), (2, .int (nI p)), (3, .int b)] [.ref (ad (1, j, 0))]
    have hK := hcars j hj
    have hK0 := hK
    obtain ⟨hk, hby, hdu, hwo, hrd, hpt, ⟨hn1, hn2⟩, hps⟩ := hK0
    refine aw_astore C (lv' := [(4, .ref (ad (1, j, 0))), (0, .ref (ad (0, 0, 0))), (1, .int (nI j)), (2, .int (nI p)), (3, .int b)]) d_C_read_5 (by decide) rfl ?_
    refine aw_aload C d_C_read_7 (j := 0) rfl ?_
    refine aw_ifnull C d_C_read_9 ?_
    refine aw_iload_n C d_C_read_12 rfl (j := 4) rfl ?_
    refine aw_iconst C (v := 0) d_C_read_13 (by decide) ?_
    refine aw_sipush C (v := 255) d_C_read_14 (by decide) ?_
    refine aw_callS C I (as := [.int b, .int 0, .int 255]) (rest := []) (c_within l G ad ce b 0 255) g_C_42 ⟨by decide, by decide⟩ ⟨by decide, by decide⟩ rfl (Nat.le_of_ble_eq_true rfl) d_C_read_17 ?_
    rintro _ _ _ ⟨rfl, rfl, rfl⟩
    show AW X 5 0 0 ad ce 20 [(4, .ref (ad (1, j, 0))), (0, .ref (ad (0, 0, 0))), (1, .int (nI j)), (2, .int (nI p)), (3, .int b)] [.int (bI (decide (0 ≤ b ∧ b ≤ 255)))]
    refine aw_topi (v' := 0) ((bI_f h1).symm) ?_
    show AW X 5 0 0 ad ce 20 [(4, .ref (ad (1, j, 0))), (0, .ref (ad (0, 0, 0))), (1, .int (nI j)), (2, .int (nI p)), (3, .int b)] [.int 0]
    refine aw_if_ne C (tgt := 25) d_C_read_20 (by decide) (fun h20 => absurd h20 (by decide)) (fun h20 => ?_)
    refine aw_iconst C (v := (-1)) d_C_read_23 (by decide) ?_
    refine aw_iret C E (rfl) (by decide) (by decide) d_C_read_24 ?_
    rw [show f_read S (nI j) (nI p) b = (-1, S) from by simp only [f_read, ix_in hj (show s_cn S < 2 ^ 31 by omega), ix_in hp0 (show k_np (s_car S j) < 2 ^ 31 by omega), if_neg hc]]
    exact rC.of hL ⟨rfl, rfl, rfl⟩
set_option maxRecDepth 100000 in
set_option maxHeartbeats 4000000 in
theorem C_shred (l : Launch) (G : aw_G) (ad : aw_Ad) (ce : aw_He) (S : SysS) (hL : LayC S ad ce) (x m : Int32) : CT l G M_C_shred 1 22 0 0 [.ref (ad (0, 0, 0)), .int x, .int m] ad ce (rC (some (.int (f_shred S x m).1)) (f_shred S x m).2 ad ce) := by
  refine CT.of (by decide) (Nat.le_of_ble_eq_true rfl) ?_
  intro X C I E
  have hL0 := hL
  obtain ⟨ho, hca, hpa, hli, hlo, hcars, hpaps, hnoc, hnop, hb1, hb2, hb3, hb4⟩ := hL0
  rcases ix_cases x (n := s_cn S) (by omega) with hx | ⟨j, hj, rfl⟩
  · skip
    show AW X 4 0 0 ad ce 0 [(0, .ref (ad (0, 0, 0))), (1, .int x), (2, .int m)] []
    refine aw_aload_n C d_C_shred_0 rfl (j := 0) rfl ?_
    refine aw_iload_n C d_C_shred_1 rfl (j := 1) rfl ?_
    refine aw_callV C I (k := (0, 0, 0)) (as := [.int x]) (rest := []) (c_findC_out l G ad ce S hL x hx) g_C_56 ho rfl rfl ⟨by decide, by decide⟩ ⟨by decide, by decide⟩ rfl (Nat.le_of_ble_eq_true rfl) d_C_shred_2 ?_
    rintro _ _ _ ⟨rfl, rfl, rfl⟩
    show AW X 4 0 0 ad ce 5 [(0, .ref (ad (0, 0, 0))), (1, .int x), (2, .int m)] [.null]
    refine aw_astore_nN C (lv' := [(3, .null), (0, .ref (ad (0, 0, 0))), (1, .int x), (2, .int m)]) d_C_shred_5 rfl (by decide) rfl ?_
    refine aw_aload_nN C d_C_shred_6 rfl (j := 0) rfl ?_
    refine aw_ifnullN C (tgt := 20) d_C_shred_7 (by decide) ?_
    refine aw_iconst C (v := 0) d_C_shred_20 (by decide) ?_
    refine aw_iret C E (rfl) (by decide) (by decide) d_C_shred_21 ?_
    rw [show f_shred S x m = (0, S) from by simp only [f_shred, ix_out hx]]
    exact rC.of hL ⟨rfl, rfl, rfl⟩
  by_cases h1 : 1 ≤ m ∧ m ≤ 100
  · skip
    show AW X 4 0 0 ad ce 0 [(0, .ref (ad (0, 0, 0))), (1, .int (nI j)), (2, .int m)] []
    refine aw_aload_n C d_C_shred_0 rfl (j := 0) rfl ?_
    refine aw_iload_n C d_C_shred_1 rfl (j := 1) rfl ?_
    refine aw_callV C I (k := (0, 0, 0)) (as := [.int (nI j)]) (rest := []) (c_findC_in l G ad ce S hL j hj) g_C_56 ho rfl rfl ⟨by decide, by decide⟩ ⟨by decide, by decide⟩ rfl (Nat.le_of_ble_eq_true rfl) d_C_shred_2 ?_
    rintro _ _ _ ⟨rfl, rfl, rfl⟩
    show AW X 4 0 0 ad ce 5 [(0, .ref (ad (0, 0, 0))), (1, .int (nI j)), (2, .int m)] [.ref (ad (1, j, 0))]
    have hK := hcars j hj
    have hK0 := hK
    obtain ⟨hk, hby, hdu, hwo, hrd, hpt, ⟨hn1, hn2⟩, hps⟩ := hK0
    refine aw_astore_n C (lv' := [(3, .ref (ad (1, j, 0))), (0, .ref (ad (0, 0, 0))), (1, .int (nI j)), (2, .int m)]) d_C_shred_5 rfl (by decide) rfl ?_
    refine aw_aload_n C d_C_shred_6 rfl (j := 0) rfl ?_
    refine aw_ifnull C d_C_shred_7 ?_
    refine aw_iload_n C d_C_shred_10 rfl (j := 3) rfl ?_
    refine aw_iconst C (v := 1) d_C_shred_11 (by decide) ?_
    refine aw_bipush C (v := 100) d_C_shred_12 (by decide) ?_
    refine aw_callS C I (as := [.int m, .int 1, .int 100]) (rest := []) (c_within l G ad ce m 1 100) g_C_42 ⟨by decide, by decide⟩ ⟨by decide, by decide⟩ rfl (Nat.le_of_ble_eq_true rfl) d_C_shred_14 ?_
    rintro _ _ _ ⟨rfl, rfl, rfl⟩
    show AW X 4 0 0 ad ce 17 [(3, .ref (ad (1, j, 0))), (0, .ref (ad (0, 0, 0))), (1, .int (nI j)), (2, .int m)] [.int (bI (decide (1 ≤ m ∧ m ≤ 100)))]
    refine aw_topi (v' := 1) ((bI_t h1).symm) ?_
    show AW X 4 0 0 ad ce 17 [(3, .ref (ad (1, j, 0))), (0, .ref (ad (0, 0, 0))), (1, .int (nI j)), (2, .int m)] [.int 1]
    refine aw_if_ne C (tgt := 22) d_C_shred_17 (by decide) (fun h17 => ?_) (fun h17 => absurd h17 (by decide))
    refine aw_aload_n C d_C_shred_22 rfl (j := 0) rfl ?_
    refine aw_get C F_K hk 10 (by decide) tw_89 rfl d_C_shred_23 ?_
    refine aw_iconst C (v := 3) d_C_shred_26 (by decide) ?_
    refine aw_icmp_eq C (tgt := 40) d_C_shred_27 (by decide) (fun h27 => ?_) (fun h27 => ?_)
    · refine aw_iload_n C d_C_shred_40 rfl (j := 3) rfl ?_
      refine aw_iconst C (v := 2) d_C_shred_41 (by decide) ?_
      refine aw_bipush C (v := 6) d_C_shred_42 (by decide) ?_
      refine aw_aload_n C d_C_shred_44 rfl (j := 0) rfl ?_
      refine aw_get C F_K hk 0 (by decide) tw_72 rfl d_C_shred_45 ?_
      refine aw_imul C d_C_shred_48 ?_
      refine aw_iadd C d_C_shred_49 ?_
      refine aw_icmp_le C (tgt := 55) d_C_shred_50 (by decide) (fun h50 => ?_) (fun h50 => ?_)
      · refine aw_aload_n C d_C_shred_55 rfl (j := 0) rfl ?_
        refine aw_iconst C (v := 5) d_C_shred_56 (by decide) ?_
        refine ob_put C F_K hk 10 (by decide) tw_89 rfl rfl rfl (Nat.le_of_ble_eq_true rfl) (fs' := [.int (k_kd (s_car S j)), .long (k_sr (s_car S j)), .ref (ad (1, j, 1)), .ref (ad (1, j, 2)), .ref (ad (1, j, 3)), .ref (ad (1, j, 4)), .ref (ad (1, j, 5)), .int (nI (k_ps (s_car S j))), .int (nI (cnt (k_rd (s_car S j)) (k_np (s_car S j)))), .int (k_un (s_car S j)), .int 5, .int (k_la (s_car S j))]) rfl d_C_shred_57 ?_
        intro ce1 fw1 hk
        have ho : ce1 (0, 0, 0) = some (.inr (0, [.ref (ad (0, 0, 1)), .int (nI (s_cn S)), .ref (ad (0, 0, 2)), .int (nI (s_pn S)), .ref (ad (0, 0, 3)), .int (nI (s_ln S)), .ref (ad (0, 0, 4)), .int (nI (s_on S))])) := (fw1 _ (by simp)).trans ho
        have hca := hca.tr (fw1 _ (by simp))
        have hpa := hpa.tr (fw1 _ (by simp))
        have hli := hli.tr (fw1 _ (by simp))
        have hlo := hlo.tr (fw1 _ (by simp))
        have hby := hby.tr (fw1 _ (by simp))
        have hdu := hdu.tr (fw1 _ (by simp))
        have hwo := hwo.tr (fw1 _ (by simp))
        have hrd := hrd.tr (fw1 _ (by simp))
        have hpt := hpt.tr (fw1 _ (by simp))
        refine aw_iconst C (v := 1) d_C_shred_60 (by decide) ?_
        refine aw_iret C E (rfl) (by decide) (by decide) d_C_shred_61 ?_
        have hK9 : Car ad ce1 j (k_sSt (s_car S j) 5) := ⟨hk, hby, hdu, hwo, hrd, hpt, ⟨hn1, hn2⟩, hps⟩
        have hcn : (1 ≤ m ∧ m ≤ 100) ∧ (k_st (s_car S j) = 3 ∨ k_st (s_car S j) = 4) ∧ ¬ 2 + 6 * k_kd (s_car S j) < m := ⟨h1, by first | exact Or.inl h27 | exact Or.inr h35, fun q => absurd h50 (by (try simp only [Int32.le_iff_toInt_le, Int32.lt_iff_toInt_lt] at q ⊢); omega)⟩
        rw [show f_shred S (nI j) m = (1, s_set S j (k_sSt (s_car S j) 5)) from by simp only [f_shred, ix_in hj (show s_cn S < 2 ^ 31 by omega), if_pos hcn]]
        exact rC.car hL hj (fr1 fw1) hK9
      · refine aw_iconst C (v := 0) d_C_shred_53 (by decide) ?_
        refine aw_iret C E (rfl) (by decide) (by decide) d_C_shred_54 ?_
        have hcn : ¬ ((1 ≤ m ∧ m ≤ 100) ∧ (k_st (s_car S j) = 3 ∨ k_st (s_car S j) = 4) ∧ ¬ 2 + 6 * k_kd (s_car S j) < m) := fun q => q.2.2 (by (try simp only [Int32.le_iff_toInt_le, Int32.lt_iff_toInt_lt] at h50 ⊢); omega)
        rw [show f_shred S (nI j) m = (0, S) from by simp only [f_shred, ix_in hj (show s_cn S < 2 ^ 31 by omega), if_neg hcn]]
        exact rC.of hL ⟨rfl, rfl, rfl⟩
    · refine aw_aload_n C d_C_shred_30 rfl (j := 0) rfl ?_
      refine aw_get C F_K hk 10 (by decide) tw_89 rfl d_C_shred_31 ?_
      refine aw_iconst C (v := 4) d_C_shred_34 (by decide) ?_
      refine aw_icmp_eq C (tgt := 40) d_C_shred_35 (by decide) (fun h35 => ?_) (fun h35 => ?_)
      · refine aw_iload_n C d_C_shred_40 rfl (j := 3) rfl ?_
        refine aw_iconst C (v := 2) d_C_shred_41 (by decide) ?_
        refine aw_bipush C (v := 6) d_C_shred_42 (by decide) ?_
        refine aw_aload_n C d_C_shred_44 rfl (j := 0) rfl ?_
        refine aw_get C F_K hk 0 (by decide) tw_72 rfl d_C_shred_45 ?_
        refine aw_imul C d_C_shred_48 ?_
        refine aw_iadd C d_C_shred_49 ?_
        refine aw_icmp_le C (tgt := 55) d_C_shred_50 (by decide) (fun h50 => ?_) (fun h50 => ?_)
        · refine aw_aload_n C d_C_shred_55 rfl (j := 0) rfl ?_
          refine aw_iconst C (v := 5) d_C_shred_56 (by decide) ?_
          refine ob_put C F_K hk 10 (by decide) tw_89 rfl rfl rfl (Nat.le_of_ble_eq_true rfl) (fs' := [.int (k_kd (s_car S j)), .long (k_sr (s_car S j)), .ref (ad (1, j, 1)), .ref (ad (1, j, 2)), .ref (ad (1, j, 3)), .ref (ad (1, j, 4)), .ref (ad (1, j, 5)), .int (nI (k_ps (s_car S j))), .int (nI (cnt (k_rd (s_car S j)) (k_np (s_car S j)))), .int (k_un (s_car S j)), .int 5, .int (k_la (s_car S j))]) rfl d_C_shred_57 ?_
          intro ce2 fw2 hk
          have ho : ce2 (0, 0, 0) = some (.inr (0, [.ref (ad (0, 0, 1)), .int (nI (s_cn S)), .ref (ad (0, 0, 2)), .int (nI (s_pn S)), .ref (ad (0, 0, 3)), .int (nI (s_ln S)), .ref (ad (0, 0, 4)), .int (nI (s_on S))])) := (fw2 _ (by simp)).trans ho
          have hca := hca.tr (fw2 _ (by simp))
          have hpa := hpa.tr (fw2 _ (by simp))
          have hli := hli.tr (fw2 _ (by simp))
          have hlo := hlo.tr (fw2 _ (by simp))
          have hby := hby.tr (fw2 _ (by simp))
          have hdu := hdu.tr (fw2 _ (by simp))
          have hwo := hwo.tr (fw2 _ (by simp))
          have hrd := hrd.tr (fw2 _ (by simp))
          have hpt := hpt.tr (fw2 _ (by simp))
          refine aw_iconst C (v := 1) d_C_shred_60 (by decide) ?_
          refine aw_iret C E (rfl) (by decide) (by decide) d_C_shred_61 ?_
          have hK9 : Car ad ce2 j (k_sSt (s_car S j) 5) := ⟨hk, hby, hdu, hwo, hrd, hpt, ⟨hn1, hn2⟩, hps⟩
          have hcn : (1 ≤ m ∧ m ≤ 100) ∧ (k_st (s_car S j) = 3 ∨ k_st (s_car S j) = 4) ∧ ¬ 2 + 6 * k_kd (s_car S j) < m := ⟨h1, by first | exact Or.inl h27 | exact Or.inr h35, fun q => absurd h50 (by (try simp only [Int32.le_iff_toInt_le, Int32.lt_iff_toInt_lt] at q ⊢); omega)⟩
          rw [show f_shred S (nI j) m = (1, s_set S j (k_sSt (s_car S j) 5)) from by simp only [f_shred, ix_in hj (show s_cn S < 2 ^ 31 by omega), if_pos hcn]]
          exact rC.car hL hj (fr1 fw2) hK9
        · refine aw_iconst C (v := 0) d_C_shred_53 (by decide) ?_
          refine aw_iret C E (rfl) (by decide) (by decide) d_C_shred_54 ?_
          have hcn : ¬ ((1 ≤ m ∧ m ≤ 100) ∧ (k_st (s_car S j) = 3 ∨ k_st (s_car S j) = 4) ∧ ¬ 2 + 6 * k_kd (s_car S j) < m) := fun q => q.2.2 (by (try simp only [Int32.le_iff_toInt_le, Int32.lt_iff_toInt_lt] at h50 ⊢); omega)
          rw [show f_shred S (nI j) m = (0, S) from by simp only [f_shred, ix_in hj (show s_cn S < 2 ^ 31 by omega), if_neg hcn]]
          exact rC.of hL ⟨rfl, rfl, rfl⟩
      · refine aw_iconst C (v := 0) d_C_shred_38 (by decide) ?_
        refine aw_iret C E (rfl) (by decide) (by decide) d_C_shred_39 ?_
        have hcn : ¬ ((1 ≤ m ∧ m ≤ 100) ∧ (k_st (s_car S j) = 3 ∨ k_st (s_car S j) = 4) ∧ ¬ 2 + 6 * k_kd (s_car S j) < m) := fun q => q.2.1.elim h27 h35
        rw [show f_shred S (nI j) m = (0, S) from by simp only [f_shred, ix_in hj (show s_cn S < 2 ^ 31 by omega), if_neg hcn]]
        exact rC.of hL ⟨rfl, rfl, rfl⟩
  · skip
    show AW X 4 0 0 ad ce 0 [(0, .ref (ad (0, 0, 0))), (1, .int (nI j)), (2, .int m)] []
    refine aw_aload_n C d_C_shred_0 rfl (j := 0) rfl ?_
    refine aw_iload_n C d_C_shred_1 rfl (j := 1) rfl ?_
    refine aw_callV C I (k := (0, 0, 0)) (as := [.int (nI j)]) (rest := []) (c_findC_in l G ad ce S hL j hj) g_C_56 ho rfl rfl ⟨by decide, by decide⟩ ⟨by decide, by decide⟩ rfl (Nat.le_of_ble_eq_true rfl) d_C_shred_2 ?_
    rintro _ _ _ ⟨rfl, rfl, rfl⟩
    show AW X 4 0 0 ad ce 5 [(0, .ref (ad (0, 0, 0))), (1, .int (nI j)), (2, .int m)] [.ref (ad (1, j, 0))]
    have hK := hcars j hj
    have hK0 := hK
    obtain ⟨hk, hby, hdu, hwo, hrd, hpt, ⟨hn1, hn2⟩, hps⟩ := hK0
    refine aw_astore_n C (lv' := [(3, .ref (ad (1, j, 0))), (0, .ref (ad (0, 0, 0))), (1, .int (nI j)), (2, .int m)]) d_C_shred_5 rfl (by decide) rfl ?_
    refine aw_aload_n C d_C_shred_6 rfl (j := 0) rfl ?_
    refine aw_ifnull C d_C_shred_7 ?_
    refine aw_iload_n C d_C_shred_10 rfl (j := 3) rfl ?_
    refine aw_iconst C (v := 1) d_C_shred_11 (by decide) ?_
    refine aw_bipush C (v := 100) d_C_shred_12 (by decide) ?_
    refine aw_callS C I (as := [.int m, .int 1, .int 100]) (rest := []) (c_within l G ad ce m 1 100) g_C_42 ⟨by decide, by decide⟩ ⟨by decide, by decide⟩ rfl (Nat.le_of_ble_eq_true rfl) d_C_shred_14 ?_
    rintro _ _ _ ⟨rfl, rfl, rfl⟩
    show AW X 4 0 0 ad ce 17 [(3, .ref (ad (1, j, 0))), (0, .ref (ad (0, 0, 0))), (1, .int (nI j)), (2, .int m)] [.int (bI (decide (1 ≤ m ∧ m ≤ 100)))]
    refine aw_topi (v' := 0) ((bI_f h1).symm) ?_
    show AW X 4 0 0 ad ce 17 [(3, .ref (ad (1, j, 0))), (0, .ref (ad (0, 0, 0))), (1, .int (nI j)), (2, .int m)] [.int 0]
    refine aw_if_ne C (tgt := 22) d_C_shred_17 (by decide) (fun h17 => absurd h17 (by decide)) (fun h17 => ?_)
    refine aw_iconst C (v := 0) d_C_shred_20 (by decide) ?_
    refine aw_iret C E (rfl) (by decide) (by decide) d_C_shred_21 ?_
    have hcn : ¬ ((1 ≤ m ∧ m ≤ 100) ∧ (k_st (s_car S j) = 3 ∨ k_st (s_car S j) = 4) ∧ ¬ 2 + 6 * k_kd (s_car S j) < m) := fun q => h1 q.1
    rw [show f_shred S (nI j) m = (0, S) from by simp only [f_shred, ix_in hj (show s_cn S < 2 ^ 31 by omega), if_neg hcn]]
    exact rC.of hL ⟨rfl, rfl, rfl⟩
set_option maxRecDepth 100000 in
set_option maxHeartbeats 4000000 in
theorem C_event (l : Launch) (G : aw_G) (ad : aw_Ad) (ce : aw_He) (S : SysS) (hL : LayC S ad ce) (hW : ∀ j, j < s_cn S → 0 ≤ k_st (s_car S j)) (x e p : Int32) : CT l G M_C_event 2 43 0 0 [.ref (ad (0, 0, 0)), .int x, .int e, .int p] ad ce (rC (some (.int (f_event S x e p).1)) (f_event S x e p).2 ad ce) := by
  refine CT.of (by decide) (Nat.le_of_ble_eq_true rfl) ?_
  intro X C I E
  have hL0 := hL
  obtain ⟨ho, hca, hpa, hli, hlo, hcars, hpaps, hnoc, hnop, hb1, hb2, hb3, hb4⟩ := hL0
  rcases ix_cases x (n := s_cn S) (by omega) with hx | ⟨j, hj, rfl⟩
  · skip
    show AW X 5 0 0 ad ce 0 [(0, .ref (ad (0, 0, 0))), (1, .int x), (2, .int e), (3, .int p)] []
    refine aw_aload_n C d_C_event_0 rfl (j := 0) rfl ?_
    refine aw_iload_n C d_C_event_1 rfl (j := 1) rfl ?_
    refine aw_callV C I (k := (0, 0, 0)) (as := [.int x]) (rest := []) (c_findC_out l G ad ce S hL x hx) g_C_56 ho rfl rfl ⟨by decide, by decide⟩ ⟨by decide, by decide⟩ rfl (Nat.le_of_ble_eq_true rfl) d_C_event_2 ?_
    rintro _ _ _ ⟨rfl, rfl, rfl⟩
    show AW X 5 0 0 ad ce 5 [(0, .ref (ad (0, 0, 0))), (1, .int x), (2, .int e), (3, .int p)] [.null]
    refine aw_astoreN C (lv' := [(4, .null), (0, .ref (ad (0, 0, 0))), (1, .int x), (2, .int e), (3, .int p)]) d_C_event_5 (by decide) rfl ?_
    refine aw_aloadN C d_C_event_7 (j := 0) rfl ?_
    refine aw_ifnullN C (tgt := 31) d_C_event_9 (by decide) ?_
    refine aw_iconst C (v := 0) d_C_event_31 (by decide) ?_
    refine aw_iret C E (rfl) (by decide) (by decide) d_C_event_32 ?_
    rw [show f_event S x e p = (0, S) from by simp only [f_event, ix_out hx]]
    exact rC.of hL ⟨rfl, rfl, rfl⟩
  by_cases hc : (0 ≤ p ∧ p ≤ 9) ∧ 0 ≤ evTo e (k_st (s_car S j))
  · skip
    show AW X 5 0 0 ad ce 0 [(0, .ref (ad (0, 0, 0))), (1, .int (nI j)), (2, .int e), (3, .int p)] []
    refine aw_aload_n C d_C_event_0 rfl (j := 0) rfl ?_
    refine aw_iload_n C d_C_event_1 rfl (j := 1) rfl ?_
    refine aw_callV C I (k := (0, 0, 0)) (as := [.int (nI j)]) (rest := []) (c_findC_in l G ad ce S hL j hj) g_C_56 ho rfl rfl ⟨by decide, by decide⟩ ⟨by decide, by decide⟩ rfl (Nat.le_of_ble_eq_true rfl) d_C_event_2 ?_
    rintro _ _ _ ⟨rfl, rfl, rfl⟩
    show AW X 5 0 0 ad ce 5 [(0, .ref (ad (0, 0, 0))), (1, .int (nI j)), (2, .int e), (3, .int p)] [.ref (ad (1, j, 0))]
    have hK := hcars j hj
    have hK0 := hK
    obtain ⟨hk, hby, hdu, hwo, hrd, hpt, ⟨hn1, hn2⟩, hps⟩ := hK0
    refine aw_astore C (lv' := [(4, .ref (ad (1, j, 0))), (0, .ref (ad (0, 0, 0))), (1, .int (nI j)), (2, .int e), (3, .int p)]) d_C_event_5 (by decide) rfl ?_
    refine aw_aload C d_C_event_7 (j := 0) rfl ?_
    refine aw_ifnull C d_C_event_9 ?_
    refine aw_iload_n C d_C_event_12 rfl (j := 4) rfl ?_
    refine aw_callS C I (as := [.int p]) (rest := []) (c_isPerson l G ad ce p) g_C_63 ⟨by decide, by decide⟩ ⟨by decide, by decide⟩ rfl (Nat.le_of_ble_eq_true rfl) d_C_event_13 ?_
    rintro _ _ _ ⟨rfl, rfl, rfl⟩
    show AW X 5 0 0 ad ce 16 [(4, .ref (ad (1, j, 0))), (0, .ref (ad (0, 0, 0))), (1, .int (nI j)), (2, .int e), (3, .int p)] [.int (bI (decide (0 ≤ p ∧ p ≤ 9)))]
    refine aw_topi (v' := 1) ((bI_t hc.1).symm) ?_
    show AW X 5 0 0 ad ce 16 [(4, .ref (ad (1, j, 0))), (0, .ref (ad (0, 0, 0))), (1, .int (nI j)), (2, .int e), (3, .int p)] [.int 1]
    refine aw_if_eq C (tgt := 31) d_C_event_16 (by decide) (fun h16 => absurd h16 (by decide)) (fun h16 => ?_)
    refine aw_iload_n C d_C_event_19 rfl (j := 3) rfl ?_
    refine aw_aload C d_C_event_20 (j := 0) rfl ?_
    refine aw_get C F_K hk 10 (by decide) tw_89 rfl d_C_event_22 ?_
    refine aw_callS C I (as := [.int e, .int (k_st (s_car S j))]) (rest := []) (c_leadsFrom l G ad ce e (k_st (s_car S j)) (hW j hj)) g_C_67 ⟨by decide, by decide⟩ ⟨by decide, by decide⟩ rfl (Nat.le_of_ble_eq_true rfl) d_C_event_25 ?_
    rintro _ _ _ ⟨rfl, rfl, rfl⟩
    show AW X 5 0 0 ad ce 28 [(4, .ref (ad (1, j, 0))), (0, .ref (ad (0, 0, 0))), (1, .int (nI j)), (2, .int e), (3, .int p)] [.int (bI (decide (0 ≤ evTo e (k_st (s_car S j)))))]
    refine aw_topi (v' := 1) ((bI_t hc.2).symm) ?_
    show AW X 5 0 0 ad ce 28 [(4, .ref (ad (1, j, 0))), (0, .ref (ad (0, 0, 0))), (1, .int (nI j)), (2, .int e), (3, .int p)] [.int 1]
    refine aw_if_ne C (tgt := 33) d_C_event_28 (by decide) (fun h28 => ?_) (fun h28 => absurd h28 (by decide))
    refine aw_iload_n C d_C_event_33 rfl (j := 3) rfl ?_
    refine aw_iconst C (v := 3) d_C_event_34 (by decide) ?_
    refine aw_icmp_ne C (tgt := 43) d_C_event_35 (by decide) (fun h35 => ?_) (fun h35 => ?_)
    · refine aw_aload C d_C_event_43 (j := 0) rfl ?_
      refine aw_iload_n C d_C_event_45 rfl (j := 3) rfl ?_
      refine aw_callS C I (as := [.int e]) (rest := [.ref (ad (1, j, 0))]) (c_leadsTo l G ad ce e (k_st (s_car S j)) hc.2) g_C_74 ⟨by decide, by decide⟩ ⟨by decide, by decide⟩ rfl (Nat.le_of_ble_eq_true rfl) d_C_event_46 ?_
      rintro _ _ _ ⟨rfl, rfl, rfl⟩
      show AW X 5 0 0 ad ce 49 [(4, .ref (ad (1, j, 0))), (0, .ref (ad (0, 0, 0))), (1, .int (nI j)), (2, .int e), (3, .int p)] [.int (evTo e (k_st (s_car S j))), .ref (ad (1, j, 0))]
      refine ob_put C F_K hk 10 (by decide) tw_89 rfl rfl rfl (Nat.le_of_ble_eq_true rfl) (fs' := [.int (k_kd (s_car S j)), .long (k_sr (s_car S j)), .ref (ad (1, j, 1)), .ref (ad (1, j, 2)), .ref (ad (1, j, 3)), .ref (ad (1, j, 4)), .ref (ad (1, j, 5)), .int (nI (k_ps (s_car S j))), .int (nI (cnt (k_rd (s_car S j)) (k_np (s_car S j)))), .int (k_un (s_car S j)), .int (evTo e (k_st (s_car S j))), .int (k_la (s_car S j))]) rfl d_C_event_49 ?_
      intro ce3 fw3 hk
      have ho : ce3 (0, 0, 0) = some (.inr (0, [.ref (ad (0, 0, 1)), .int (nI (s_cn S)), .ref (ad (0, 0, 2)), .int (nI (s_pn S)), .ref (ad (0, 0, 3)), .int (nI (s_ln S)), .ref (ad (0, 0, 4)), .int (nI (s_on S))])) := (fw3 _ (by simp)).trans ho
      have hca := hca.tr (fw3 _ (by simp))
      have hpa := hpa.tr (fw3 _ (by simp))
      have hli := hli.tr (fw3 _ (by simp))
      have hlo := hlo.tr (fw3 _ (by simp))
      have hby := hby.tr (fw3 _ (by simp))
      have hdu := hdu.tr (fw3 _ (by simp))
      have hwo := hwo.tr (fw3 _ (by simp))
      have hrd := hrd.tr (fw3 _ (by simp))
      have hpt := hpt.tr (fw3 _ (by simp))
      refine aw_aload C d_C_event_52 (j := 0) rfl ?_
      refine aw_iload_n C d_C_event_54 rfl (j := 4) rfl ?_
      refine ob_put C F_K hk 11 (by decide) tw_91 rfl rfl rfl (Nat.le_of_ble_eq_true rfl) (fs' := [.int (k_kd (s_car S j)), .long (k_sr (s_car S j)), .ref (ad (1, j, 1)), .ref (ad (1, j, 2)), .ref (ad (1, j, 3)), .ref (ad (1, j, 4)), .ref (ad (1, j, 5)), .int (nI (k_ps (s_car S j))), .int (nI (cnt (k_rd (s_car S j)) (k_np (s_car S j)))), .int (k_un (s_car S j)), .int (evTo e (k_st (s_car S j))), .int p]) rfl d_C_event_55 ?_
      intro ce4 fw4 hk
      have ho : ce4 (0, 0, 0) = some (.inr (0, [.ref (ad (0, 0, 1)), .int (nI (s_cn S)), .ref (ad (0, 0, 2)), .int (nI (s_pn S)), .ref (ad (0, 0, 3)), .int (nI (s_ln S)), .ref (ad (0, 0, 4)), .int (nI (s_on S))])) := (fw4 _ (by simp)).trans ho
      have hca := hca.tr (fw4 _ (by simp))
      have hpa := hpa.tr (fw4 _ (by simp))
      have hli := hli.tr (fw4 _ (by simp))
      have hlo := hlo.tr (fw4 _ (by simp))
      have hby := hby.tr (fw4 _ (by simp))
      have hdu := hdu.tr (fw4 _ (by simp))
      have hwo := hwo.tr (fw4 _ (by simp))
      have hrd := hrd.tr (fw4 _ (by simp))
      have hpt := hpt.tr (fw4 _ (by simp))
      refine aw_iconst C (v := 1) d_C_event_58 (by decide) ?_
      refine aw_iret C E (rfl) (by decide) (by decide) d_C_event_59 ?_
      have ee : k_ev (s_car S j) e p = k_sLa (k_sSt (s_car S j) (evTo e (k_st (s_car S j)))) p := by simp [k_ev, h35]
      have hK9 : Car ad ce4 j (k_ev (s_car S j) e p) := by
        rw [ee]
        exact ⟨hk, hby, hdu, hwo, hrd, hpt, ⟨hn1, hn2⟩, hps⟩
      rw [show f_event S (nI j) e p = (1, s_set S j (k_ev (s_car S j) e p)) from by simp only [f_event, ix_in hj (show s_cn S < 2 ^ 31 by omega), if_pos hc]]
      exact rC.car hL hj ((fr1 fw3).trans (fr1 fw4)) hK9
    · refine aw_aload C d_C_event_38 (j := 0) rfl ?_
      refine aw_callV C I (k := (1, j, 0)) (as := []) (rest := []) (c_forgetPasses l G ad ce j _ hK) g_C_71 hk rfl rfl ⟨by decide, by decide⟩ ⟨by decide, by decide⟩ rfl (Nat.le_of_ble_eq_true rfl) d_C_event_40 ?_
      rintro _ _ ce8 ⟨rfl, rfl, hf8, hk, hby, hdu, hwo, hrd, hpt, -, -⟩
      have hk : ce8 (1, j, 0) = some (.inr (1, [.int (k_kd (k_sNp (s_car S j))), .long (k_sr (k_sNp (s_car S j))), .ref (ad (1, j, 1)), .ref (ad (1, j, 2)), .ref (ad (1, j, 3)), .ref (ad (1, j, 4)), .ref (ad (1, j, 5)), .int (nI (k_ps (k_sNp (s_car S j)))), .int (nI (cnt (k_rd (k_sNp (s_car S j))) (k_np (k_sNp (s_car S j))))), .int (k_un (k_sNp (s_car S j))), .int (k_st (k_sNp (s_car S j))), .int (k_la (k_sNp (s_car S j)))])) := hk
      have hby : arI ce8 (1, j, 1) 0 (k_np (k_sNp (s_car S j))) (k_by (k_sNp (s_car S j))) := hby
      have hdu : arI ce8 (1, j, 2) 0 (k_np (k_sNp (s_car S j))) (k_du (k_sNp (s_car S j))) := hdu
      have hwo : arI ce8 (1, j, 3) 1 (k_np (k_sNp (s_car S j))) (k_wo (k_sNp (s_car S j))) := hwo
      have hrd : arI ce8 (1, j, 4) 1 (k_np (k_sNp (s_car S j))) (k_rd (k_sNp (s_car S j))) := hrd
      have hpt : arI ce8 (1, j, 5) 0 6 (k_pt (k_sNp (s_car S j))) := hpt
      show AW X 5 0 0 ad ce8 43 [(4, .ref (ad (1, j, 0))), (0, .ref (ad (0, 0, 0))), (1, .int (nI j)), (2, .int e), (3, .int p)] []
      refine aw_aload C d_C_event_43 (j := 0) rfl ?_
      refine aw_iload_n C d_C_event_45 rfl (j := 3) rfl ?_
      refine aw_callS C I (as := [.int e]) (rest := [.ref (ad (1, j, 0))]) (c_leadsTo l G ad ce8 e (k_st (s_car S j)) hc.2) g_C_74 ⟨by decide, by decide⟩ ⟨by decide, by decide⟩ rfl (Nat.le_of_ble_eq_true rfl) d_C_event_46 ?_
      rintro _ _ _ ⟨rfl, rfl, rfl⟩
      show AW X 5 0 0 ad ce8 49 [(4, .ref (ad (1, j, 0))), (0, .ref (ad (0, 0, 0))), (1, .int (nI j)), (2, .int e), (3, .int p)] [.int (evTo e (k_st (s_car S j))), .ref (ad (1, j, 0))]
      refine ob_put C F_K hk 10 (by decide) tw_89 rfl rfl rfl (Nat.le_of_ble_eq_true rfl) (fs' := [.int (k_kd (k_sNp (s_car S j))), .long (k_sr (k_sNp (s_car S j))), .ref (ad (1, j, 1)), .ref (ad (1, j, 2)), .ref (ad (1, j, 3)), .ref (ad (1, j, 4)), .ref (ad (1, j, 5)), .int (nI (k_ps (k_sNp (s_car S j)))), .int (nI (cnt (k_rd (k_sNp (s_car S j))) (k_np (k_sNp (s_car S j))))), .int (k_un (k_sNp (s_car S j))), .int (evTo e (k_st (s_car S j))), .int (k_la (k_sNp (s_car S j)))]) rfl d_C_event_49 ?_
      intro ce5 fw5 hk
      have hby := hby.tr (fw5 _ (by simp))
      have hdu := hdu.tr (fw5 _ (by simp))
      have hwo := hwo.tr (fw5 _ (by simp))
      have hrd := hrd.tr (fw5 _ (by simp))
      have hpt := hpt.tr (fw5 _ (by simp))
      refine aw_aload C d_C_event_52 (j := 0) rfl ?_
      refine aw_iload_n C d_C_event_54 rfl (j := 4) rfl ?_
      refine ob_put C F_K hk 11 (by decide) tw_91 rfl rfl rfl (Nat.le_of_ble_eq_true rfl) (fs' := [.int (k_kd (k_sNp (s_car S j))), .long (k_sr (k_sNp (s_car S j))), .ref (ad (1, j, 1)), .ref (ad (1, j, 2)), .ref (ad (1, j, 3)), .ref (ad (1, j, 4)), .ref (ad (1, j, 5)), .int (nI (k_ps (k_sNp (s_car S j)))), .int (nI (cnt (k_rd (k_sNp (s_car S j))) (k_np (k_sNp (s_car S j))))), .int (k_un (k_sNp (s_car S j))), .int (evTo e (k_st (s_car S j))), .int p]) rfl d_C_event_55 ?_
      intro ce6 fw6 hk
      have hby := hby.tr (fw6 _ (by simp))
      have hdu := hdu.tr (fw6 _ (by simp))
      have hwo := hwo.tr (fw6 _ (by simp))
      have hrd := hrd.tr (fw6 _ (by simp))
      have hpt := hpt.tr (fw6 _ (by simp))
      refine aw_iconst C (v := 1) d_C_event_58 (by decide) ?_
      refine aw_iret C E (rfl) (by decide) (by decide) d_C_event_59 ?_
      have ee : k_ev (s_car S j) e p = k_sLa (k_sSt (k_sNp (s_car S j)) (evTo e (k_st (s_car S j)))) p := by simp [k_ev, h35]
      have hK9 : Car ad ce6 j (k_ev (s_car S j) e p) := by
        rw [ee]
        exact ⟨hk, hby, hdu, hwo, hrd, hpt, ⟨hn1, hn2⟩, Nat.zero_le 6⟩
      rw [show f_event S (nI j) e p = (1, s_set S j (k_ev (s_car S j) e p)) from by simp only [f_event, ix_in hj (show s_cn S < 2 ^ 31 by omega), if_pos hc]]
      exact rC.car hL hj (((hf8).trans (fr1 fw5)).trans (fr1 fw6)) hK9
  by_cases h1 : 0 ≤ p ∧ p ≤ 9
  · have h2 : ¬ 0 ≤ evTo e (k_st (s_car S j)) := fun q => hc ⟨h1, q⟩
    show AW X 5 0 0 ad ce 0 [(0, .ref (ad (0, 0, 0))), (1, .int (nI j)), (2, .int e), (3, .int p)] []
    refine aw_aload_n C d_C_event_0 rfl (j := 0) rfl ?_
    refine aw_iload_n C d_C_event_1 rfl (j := 1) rfl ?_
    refine aw_callV C I (k := (0, 0, 0)) (as := [.int (nI j)]) (rest := []) (c_findC_in l G ad ce S hL j hj) g_C_56 ho rfl rfl ⟨by decide, by decide⟩ ⟨by decide, by decide⟩ rfl (Nat.le_of_ble_eq_true rfl) d_C_event_2 ?_
    rintro _ _ _ ⟨rfl, rfl, rfl⟩
    show AW X 5 0 0 ad ce 5 [(0, .ref (ad (0, 0, 0))), (1, .int (nI j)), (2, .int e), (3, .int p)] [.ref (ad (1, j, 0))]
    have hK := hcars j hj
    have hK0 := hK
    obtain ⟨hk, hby, hdu, hwo, hrd, hpt, ⟨hn1, hn2⟩, hps⟩ := hK0
    refine aw_astore C (lv' := [(4, .ref (ad (1, j, 0))), (0, .ref (ad (0, 0, 0))), (1, .int (nI j)), (2, .int e), (3, .int p)]) d_C_event_5 (by decide) rfl ?_
    refine aw_aload C d_C_event_7 (j := 0) rfl ?_
    refine aw_ifnull C d_C_event_9 ?_
    refine aw_iload_n C d_C_event_12 rfl (j := 4) rfl ?_
    refine aw_callS C I (as := [.int p]) (rest := []) (c_isPerson l G ad ce p) g_C_63 ⟨by decide, by decide⟩ ⟨by decide, by decide⟩ rfl (Nat.le_of_ble_eq_true rfl) d_C_event_13 ?_
    rintro _ _ _ ⟨rfl, rfl, rfl⟩
    show AW X 5 0 0 ad ce 16 [(4, .ref (ad (1, j, 0))), (0, .ref (ad (0, 0, 0))), (1, .int (nI j)), (2, .int e), (3, .int p)] [.int (bI (decide (0 ≤ p ∧ p ≤ 9)))]
    refine aw_topi (v' := 1) ((bI_t h1).symm) ?_
    show AW X 5 0 0 ad ce 16 [(4, .ref (ad (1, j, 0))), (0, .ref (ad (0, 0, 0))), (1, .int (nI j)), (2, .int e), (3, .int p)] [.int 1]
    refine aw_if_eq C (tgt := 31) d_C_event_16 (by decide) (fun h16 => absurd h16 (by decide)) (fun h16 => ?_)
    refine aw_iload_n C d_C_event_19 rfl (j := 3) rfl ?_
    refine aw_aload C d_C_event_20 (j := 0) rfl ?_
    refine aw_get C F_K hk 10 (by decide) tw_89 rfl d_C_event_22 ?_
    refine aw_callS C I (as := [.int e, .int (k_st (s_car S j))]) (rest := []) (c_leadsFrom l G ad ce e (k_st (s_car S j)) (hW j hj)) g_C_67 ⟨by decide, by decide⟩ ⟨by decide, by decide⟩ rfl (Nat.le_of_ble_eq_true rfl) d_C_event_25 ?_
    rintro _ _ _ ⟨rfl, rfl, rfl⟩
    show AW X 5 0 0 ad ce 28 [(4, .ref (ad (1, j, 0))), (0, .ref (ad (0, 0, 0))), (1, .int (nI j)), (2, .int e), (3, .int p)] [.int (bI (decide (0 ≤ evTo e (k_st (s_car S j)))))]
    refine aw_topi (v' := 0) ((bI_f h2).symm) ?_
    show AW X 5 0 0 ad ce 28 [(4, .ref (ad (1, j, 0))), (0, .ref (ad (0, 0, 0))), (1, .int (nI j)), (2, .int e), (3, .int p)] [.int 0]
    refine aw_if_ne C (tgt := 33) d_C_event_28 (by decide) (fun h28 => absurd h28 (by decide)) (fun h28 => ?_)
    refine aw_iconst C (v := 0) d_C_event_31 (by decide) ?_
    refine aw_iret C E (rfl) (by decide) (by decide) d_C_event_32 ?_
    rw [show f_event S (nI j) e p = (0, S) from by simp only [f_event, ix_in hj (show s_cn S < 2 ^ 31 by omega), if_neg hc]]
    exact rC.of hL ⟨rfl, rfl, rfl⟩
  · skip
    show AW X 5 0 0 ad ce 0 [(0, .ref (ad (0, 0, 0))), (1, .int (nI j)), (2, .int e), (3, .int p)] []
    refine aw_aload_n C d_C_event_0 rfl (j := 0) rfl ?_
    refine aw_iload_n C d_C_event_1 rfl (j := 1) rfl ?_
    refine aw_callV C I (k := (0, 0, 0)) (as := [.int (nI j)]) (rest := []) (c_findC_in l G ad ce S hL j hj) g_C_56 ho rfl rfl ⟨by decide, by decide⟩ ⟨by decide, by decide⟩ rfl (Nat.le_of_ble_eq_true rfl) d_C_event_2 ?_
    rintro _ _ _ ⟨rfl, rfl, rfl⟩
    show AW X 5 0 0 ad ce 5 [(0, .ref (ad (0, 0, 0))), (1, .int (nI j)), (2, .int e), (3, .int p)] [.ref (ad (1, j, 0))]
    have hK := hcars j hj
    have hK0 := hK
    obtain ⟨hk, hby, hdu, hwo, hrd, hpt, ⟨hn1, hn2⟩, hps⟩ := hK0
    refine aw_astore C (lv' := [(4, .ref (ad (1, j, 0))), (0, .ref (ad (0, 0, 0))), (1, .int (nI j)), (2, .int e), (3, .int p)]) d_C_event_5 (by decide) rfl ?_
    refine aw_aload C d_C_event_7 (j := 0) rfl ?_
    refine aw_ifnull C d_C_event_9 ?_
    refine aw_iload_n C d_C_event_12 rfl (j := 4) rfl ?_
    refine aw_callS C I (as := [.int p]) (rest := []) (c_isPerson l G ad ce p) g_C_63 ⟨by decide, by decide⟩ ⟨by decide, by decide⟩ rfl (Nat.le_of_ble_eq_true rfl) d_C_event_13 ?_
    rintro _ _ _ ⟨rfl, rfl, rfl⟩
    show AW X 5 0 0 ad ce 16 [(4, .ref (ad (1, j, 0))), (0, .ref (ad (0, 0, 0))), (1, .int (nI j)), (2, .int e), (3, .int p)] [.int (bI (decide (0 ≤ p ∧ p ≤ 9)))]
    refine aw_topi (v' := 0) ((bI_f h1).symm) ?_
    show AW X 5 0 0 ad ce 16 [(4, .ref (ad (1, j, 0))), (0, .ref (ad (0, 0, 0))), (1, .int (nI j)), (2, .int e), (3, .int p)] [.int 0]
    refine aw_if_eq C (tgt := 31) d_C_event_16 (by decide) (fun h16 => ?_) (fun h16 => absurd (rfl) h16)
    refine aw_iconst C (v := 0) d_C_event_31 (by decide) ?_
    refine aw_iret C E (rfl) (by decide) (by decide) d_C_event_32 ?_
    rw [show f_event S (nI j) e p = (0, S) from by simp only [f_event, ix_in hj (show s_cn S < 2 ^ 31 by omega), if_neg hc]]
    exact rC.of hL ⟨rfl, rfl, rfl⟩
end
section
set_option maxRecDepth 100000 in
set_option maxHeartbeats 4000000 in
theorem C_lost (l : Launch) (G : aw_G) (ad : aw_Ad) (ce : aw_He) (S : SysS) (hL : LayC S ad ce) (hW : ∀ j, j < s_cn S → ¬ (k_st (s_car S j) = 5 ∨ k_st (s_car S j) = 6) → s_on S < 10) (x : Int32) : CT l G M_C_lost 1 21 0 0 [.ref (ad (0, 0, 0)), .int x] ad ce (rC (some (.int (f_lost S x).1)) (f_lost S x).2 ad ce) := by
  refine CT.of (by decide) (Nat.le_of_ble_eq_true rfl) ?_
  intro X C I E
  have hL0 := hL
  obtain ⟨ho, hca, hpa, hli, hlo, hcars, hpaps, hnoc, hnop, hb1, hb2, hb3, hb4⟩ := hL0
  rcases ix_cases x (n := s_cn S) (by omega) with hx | ⟨j, hj, rfl⟩
  · skip
    show AW X 3 0 0 ad ce 0 [(0, .ref (ad (0, 0, 0))), (1, .int x)] []
    refine aw_aload_n C d_C_lost_0 rfl (j := 0) rfl ?_
    refine aw_iload_n C d_C_lost_1 rfl (j := 1) rfl ?_
    refine aw_callV C I (k := (0, 0, 0)) (as := [.int x]) (rest := []) (c_findC_out l G ad ce S hL x hx) g_C_56 ho rfl rfl ⟨by decide, by decide⟩ ⟨by decide, by decide⟩ rfl (Nat.le_of_ble_eq_true rfl) d_C_lost_2 ?_
    rintro _ _ _ ⟨rfl, rfl, rfl⟩
    show AW X 3 0 0 ad ce 5 [(0, .ref (ad (0, 0, 0))), (1, .int x)] [.null]
    refine aw_astore_nN C (lv' := [(2, .null), (0, .ref (ad (0, 0, 0))), (1, .int x)]) d_C_lost_5 rfl (by decide) rfl ?_
    refine aw_aload_nN C d_C_lost_6 rfl (j := 0) rfl ?_
    refine aw_ifnullN C (tgt := 29) d_C_lost_7 (by decide) ?_
    refine aw_iconst C (v := (-1)) d_C_lost_29 (by decide) ?_
    refine aw_iret C E (rfl) (by decide) (by decide) d_C_lost_30 ?_
    rw [show f_lost S x = (-1, S) from by simp only [f_lost, ix_out hx]]
    exact rC.of hL ⟨rfl, rfl, rfl⟩
  by_cases hg : k_st (s_car S j) = 5 ∨ k_st (s_car S j) = 6
  · skip
    show AW X 3 0 0 ad ce 0 [(0, .ref (ad (0, 0, 0))), (1, .int (nI j))] []
    refine aw_aload_n C d_C_lost_0 rfl (j := 0) rfl ?_
    refine aw_iload_n C d_C_lost_1 rfl (j := 1) rfl ?_
    refine aw_callV C I (k := (0, 0, 0)) (as := [.int (nI j)]) (rest := []) (c_findC_in l G ad ce S hL j hj) g_C_56 ho rfl rfl ⟨by decide, by decide⟩ ⟨by decide, by decide⟩ rfl (Nat.le_of_ble_eq_true rfl) d_C_lost_2 ?_
    rintro _ _ _ ⟨rfl, rfl, rfl⟩
    show AW X 3 0 0 ad ce 5 [(0, .ref (ad (0, 0, 0))), (1, .int (nI j))] [.ref (ad (1, j, 0))]
    have hK := hcars j hj
    have hK0 := hK
    obtain ⟨hk, hby, hdu, hwo, hrd, hpt, ⟨hn1, hn2⟩, hps⟩ := hK0
    refine aw_astore_n C (lv' := [(2, .ref (ad (1, j, 0))), (0, .ref (ad (0, 0, 0))), (1, .int (nI j))]) d_C_lost_5 rfl (by decide) rfl ?_
    refine aw_aload_n C d_C_lost_6 rfl (j := 0) rfl ?_
    refine aw_ifnull C d_C_lost_7 ?_
    refine aw_aload_n C d_C_lost_10 rfl (j := 0) rfl ?_
    refine aw_callV C I (k := (1, j, 0)) (as := []) (rest := []) (c_isGone l G ad ce j _ hK) g_C_81 hk rfl rfl ⟨by decide, by decide⟩ ⟨by decide, by decide⟩ rfl (Nat.le_of_ble_eq_true rfl) d_C_lost_11 ?_
    rintro _ _ _ ⟨rfl, rfl, rfl⟩
    show AW X 3 0 0 ad ce 14 [(2, .ref (ad (1, j, 0))), (0, .ref (ad (0, 0, 0))), (1, .int (nI j))] [.int (bI (decide (k_st (s_car S j) = 5 ∨ k_st (s_car S j) = 6)))]
    refine aw_topi (v' := 1) ((bI_t hg).symm) ?_
    show AW X 3 0 0 ad ce 14 [(2, .ref (ad (1, j, 0))), (0, .ref (ad (0, 0, 0))), (1, .int (nI j))] [.int 1]
    refine aw_if_ne C (tgt := 29) d_C_lost_14 (by decide) (fun h14 => ?_) (fun h14 => absurd h14 (by decide))
    refine aw_iconst C (v := (-1)) d_C_lost_29 (by decide) ?_
    refine aw_iret C E (rfl) (by decide) (by decide) d_C_lost_30 ?_
    rw [show f_lost S (nI j) = (-1, S) from by simp only [f_lost, ix_in hj (show s_cn S < 2 ^ 31 by omega), if_pos hg]]
    exact rC.of hL ⟨rfl, rfl, rfl⟩
  · have hon := hW j hj hg
    show AW X 3 0 0 ad ce 0 [(0, .ref (ad (0, 0, 0))), (1, .int (nI j))] []
    refine aw_aload_n C d_C_lost_0 rfl (j := 0) rfl ?_
    refine aw_iload_n C d_C_lost_1 rfl (j := 1) rfl ?_
    refine aw_callV C I (k := (0, 0, 0)) (as := [.int (nI j)]) (rest := []) (c_findC_in l G ad ce S hL j hj) g_C_56 ho rfl rfl ⟨by decide, by decide⟩ ⟨by decide, by decide⟩ rfl (Nat.le_of_ble_eq_true rfl) d_C_lost_2 ?_
    rintro _ _ _ ⟨rfl, rfl, rfl⟩
    show AW X 3 0 0 ad ce 5 [(0, .ref (ad (0, 0, 0))), (1, .int (nI j))] [.ref (ad (1, j, 0))]
    have hK := hcars j hj
    have hK0 := hK
    obtain ⟨hk, hby, hdu, hwo, hrd, hpt, ⟨hn1, hn2⟩, hps⟩ := hK0
    refine aw_astore_n C (lv' := [(2, .ref (ad (1, j, 0))), (0, .ref (ad (0, 0, 0))), (1, .int (nI j))]) d_C_lost_5 rfl (by decide) rfl ?_
    refine aw_aload_n C d_C_lost_6 rfl (j := 0) rfl ?_
    refine aw_ifnull C d_C_lost_7 ?_
    refine aw_aload_n C d_C_lost_10 rfl (j := 0) rfl ?_
    refine aw_callV C I (k := (1, j, 0)) (as := []) (rest := []) (c_isGone l G ad ce j _ hK) g_C_81 hk rfl rfl ⟨by decide, by decide⟩ ⟨by decide, by decide⟩ rfl (Nat.le_of_ble_eq_true rfl) d_C_lost_11 ?_
    rintro _ _ _ ⟨rfl, rfl, rfl⟩
    show AW X 3 0 0 ad ce 14 [(2, .ref (ad (1, j, 0))), (0, .ref (ad (0, 0, 0))), (1, .int (nI j))] [.int (bI (decide (k_st (s_car S j) = 5 ∨ k_st (s_car S j) = 6)))]
    refine aw_topi (v' := 0) ((bI_f hg).symm) ?_
    show AW X 3 0 0 ad ce 14 [(2, .ref (ad (1, j, 0))), (0, .ref (ad (0, 0, 0))), (1, .int (nI j))] [.int 0]
    refine aw_if_ne C (tgt := 29) d_C_lost_14 (by decide) (fun h14 => absurd h14 (by decide)) (fun h14 => ?_)
    refine aw_aload_n C d_C_lost_17 rfl (j := 1) rfl ?_
    refine aw_get C F_C ho 7 (by decide) tw_26 rfl d_C_lost_18 ?_
    refine aw_aload_n C d_C_lost_21 rfl (j := 1) rfl ?_
    refine aw_get C F_C ho 6 (by decide) tw_25 rfl d_C_lost_22 ?_
    refine ar_len C hlo (tt := .int) rfl d_C_lost_25 ?_
    refine aw_icmp_lt C (tgt := 31) d_C_lost_26 (by decide) (fun h26 => ?_) (fun h26 => absurd (nI_lt (by omega) (by omega)) h26)
    refine aw_aload_n C d_C_lost_31 rfl (j := 0) rfl ?_
    refine aw_bipush C (v := 6) d_C_lost_32 (by decide) ?_
    refine ob_put C F_K hk 10 (by decide) tw_89 rfl rfl rfl (Nat.le_of_ble_eq_true rfl) (fs' := [.int (k_kd (s_car S j)), .long (k_sr (s_car S j)), .ref (ad (1, j, 1)), .ref (ad (1, j, 2)), .ref (ad (1, j, 3)), .ref (ad (1, j, 4)), .ref (ad (1, j, 5)), .int (nI (k_ps (s_car S j))), .int (nI (cnt (k_rd (s_car S j)) (k_np (s_car S j)))), .int (k_un (s_car S j)), .int 6, .int (k_la (s_car S j))]) rfl d_C_lost_34 ?_
    intro ce7 fw7 hk
    have ho : ce7 (0, 0, 0) = some (.inr (0, [.ref (ad (0, 0, 1)), .int (nI (s_cn S)), .ref (ad (0, 0, 2)), .int (nI (s_pn S)), .ref (ad (0, 0, 3)), .int (nI (s_ln S)), .ref (ad (0, 0, 4)), .int (nI (s_on S))])) := (fw7 _ (by simp)).trans ho
    have hca := hca.tr (fw7 _ (by simp))
    have hpa := hpa.tr (fw7 _ (by simp))
    have hli := hli.tr (fw7 _ (by simp))
    have hlo := hlo.tr (fw7 _ (by simp))
    have hby := hby.tr (fw7 _ (by simp))
    have hdu := hdu.tr (fw7 _ (by simp))
    have hwo := hwo.tr (fw7 _ (by simp))
    have hrd := hrd.tr (fw7 _ (by simp))
    have hpt := hpt.tr (fw7 _ (by simp))
    refine aw_aload_n C d_C_lost_37 rfl (j := 1) rfl ?_
    refine aw_get C F_C ho 6 (by decide) tw_25 rfl d_C_lost_38 ?_
    refine aw_aload_n C d_C_lost_41 rfl (j := 1) rfl ?_
    refine aw_get C F_C ho 7 (by decide) tw_26 rfl d_C_lost_42 ?_
    refine aw_iload_n C d_C_lost_45 rfl (j := 2) rfl ?_
    refine ar_iast C hlo (j := (s_on S)) (rfl) (by omega) (by omega) d_C_lost_46 ?_
    intro ce8 fw8 hlo
    have ho : ce8 (0, 0, 0) = some (.inr (0, [.ref (ad (0, 0, 1)), .int (nI (s_cn S)), .ref (ad (0, 0, 2)), .int (nI (s_pn S)), .ref (ad (0, 0, 3)), .int (nI (s_ln S)), .ref (ad (0, 0, 4)), .int (nI (s_on S))])) := (fw8 _ (by simp)).trans ho
    have hca := hca.tr (fw8 _ (by simp))
    have hpa := hpa.tr (fw8 _ (by simp))
    have hli := hli.tr (fw8 _ (by simp))
    have hk : ce8 (1, j, 0) = some (.inr (1, [.int (k_kd (s_car S j)), .long (k_sr (s_car S j)), .ref (ad (1, j, 1)), .ref (ad (1, j, 2)), .ref (ad (1, j, 3)), .ref (ad (1, j, 4)), .ref (ad (1, j, 5)), .int (nI (k_ps (s_car S j))), .int (nI (cnt (k_rd (s_car S j)) (k_np (s_car S j)))), .int (k_un (s_car S j)), .int 6, .int (k_la (s_car S j))])) := (fw8 _ (by simp)).trans hk
    have hby := hby.tr (fw8 _ (by simp))
    have hdu := hdu.tr (fw8 _ (by simp))
    have hwo := hwo.tr (fw8 _ (by simp))
    have hrd := hrd.tr (fw8 _ (by simp))
    have hpt := hpt.tr (fw8 _ (by simp))
    refine aw_aload_n C d_C_lost_47 rfl (j := 1) rfl ?_
    refine aw_dup C d_C_lost_48 rfl ?_
    refine aw_get C F_C ho 7 (by decide) tw_26 rfl d_C_lost_49 ?_
    refine aw_iconst C (v := 1) d_C_lost_52 (by decide) ?_
    refine aw_iadd C d_C_lost_53 ?_
    refine aw_topi (v' := nI (s_on S + 1)) (nI_1 _) ?_
    refine ob_put C F_C ho 7 (by decide) tw_26 rfl rfl rfl (Nat.le_of_ble_eq_true rfl) (fs' := [.ref (ad (0, 0, 1)), .int (nI (s_cn S)), .ref (ad (0, 0, 2)), .int (nI (s_pn S)), .ref (ad (0, 0, 3)), .int (nI (s_ln S)), .ref (ad (0, 0, 4)), .int (nI (s_on S + 1))]) rfl d_C_lost_54 ?_
    intro ce9 fw9 ho
    have hca := hca.tr (fw9 _ (by simp))
    have hpa := hpa.tr (fw9 _ (by simp))
    have hli := hli.tr (fw9 _ (by simp))
    have hlo := hlo.tr (fw9 _ (by simp))
    have hk : ce9 (1, j, 0) = some (.inr (1, [.int (k_kd (s_car S j)), .long (k_sr (s_car S j)), .ref (ad (1, j, 1)), .ref (ad (1, j, 2)), .ref (ad (1, j, 3)), .ref (ad (1, j, 4)), .ref (ad (1, j, 5)), .int (nI (k_ps (s_car S j))), .int (nI (cnt (k_rd (s_car S j)) (k_np (s_car S j)))), .int (k_un (s_car S j)), .int 6, .int (k_la (s_car S j))])) := (fw9 _ (by simp)).trans hk
    have hby := hby.tr (fw9 _ (by simp))
    have hdu := hdu.tr (fw9 _ (by simp))
    have hwo := hwo.tr (fw9 _ (by simp))
    have hrd := hrd.tr (fw9 _ (by simp))
    have hpt := hpt.tr (fw9 _ (by simp))
    refine aw_aload_n C d_C_lost_57 rfl (j := 1) rfl ?_
    refine aw_get C F_C ho 7 (by decide) tw_26 rfl d_C_lost_58 ?_
    refine aw_iret C E (rfl) (by decide) (by decide) d_C_lost_61 ?_
    have fr : ∀ q : aw_Lb, q ≠ (1, j, 0) → q ≠ (0, 0, 4) → q ≠ (0, 0, 0) → ce9 q = ce q := fun q n0 n1 n2 => by rw [fw9 q n2, fw8 q n1, fw7 q n0]
    rw [show f_lost S (nI j) = (nI (s_on S + 1), s_lost S j) from by simp only [f_lost, ix_in hj (show s_cn S < 2 ^ 31 by omega), if_neg hg]]
    refine ⟨rfl, fun q hq => ⟨rfl, fr q (fun e => by subst e; simp at hq) (fun e => by subst e; simp at hq) (fun e => by subst e; simp at hq)⟩, rfl, ho, hca, hpa, hli, hlo, fun i hi => ?_, fun i hi => (hpaps i hi).tr (fun _ => rfl) (fun p => fr _ (by simp) (by simp) (by simp)), fun i p hi => (fr _ (by intro e; simp at e; have := e.1; subst this; exact absurd hj (Nat.not_lt.mpr hi)) (by simp) (by simp)).trans (hnoc i p hi), fun i p hi => (fr _ (by simp) (by simp) (by simp)).trans (hnop i p hi), hb1, hb2, hb3, by show s_on S + 1 ≤ 10; omega⟩
    by_cases e : i = j
    · subst e
      show Car ad ce9 i (va_up (s_car S) i (k_sSt (s_car S i) 6) i)
      rw [va_up_self]
      exact ⟨hk, hby, hdu, hwo, hrd, hpt, ⟨hn1, hn2⟩, hps⟩
    · show Car ad ce9 i (va_up (s_car S) j (k_sSt (s_car S j) 6) i)
      rw [va_up_ne _ _ e]
      exact (hcars i hi).tr (fun _ => rfl) (fun p => fr _ (by intro h; simp at h; exact e h.1) (by simp) (by simp))
set_option maxRecDepth 100000 in
set_option maxHeartbeats 4000000 in
theorem C_listed (l : Launch) (G : aw_G) (ad : aw_Ad) (ce : aw_He) (S : SysS) (hL : LayC S ad ce) (x : Int64) : CT l G M_C_listed 1 23 0 0 [.ref (ad (0, 0, 0)), .long x] ad ce (rC (some (.int (f_listed S x).1)) (f_listed S x).2 ad ce) := by
  refine CT.of (by decide) (Nat.le_of_ble_eq_true rfl) ?_
  intro X C I E
  have hL0 := hL
  obtain ⟨ho, hca, hpa, hli, hlo, hcars, hpaps, hnoc, hnop, hb1, hb2, hb3, hb4⟩ := hL0
  by_cases hc : (0 ≤ x ∧ x ≤ 1000000000000) ∧ hasL S x = false ∧ s_ln S < 20
  · skip
    show AW X 3 0 0 ad ce 0 [(0, .ref (ad (0, 0, 0))), (1, .long x)] []
    refine aw_lload_n C d_C_listed_0 rfl (j := 1) rfl ?_
    refine aw_callS C I (as := [.long x]) (rest := []) (c_isSerial l G ad ce x) g_C_46 ⟨by decide, by decide⟩ ⟨by decide, by decide⟩ rfl (Nat.le_of_ble_eq_true rfl) d_C_listed_1 ?_
    rintro _ _ _ ⟨rfl, rfl, rfl⟩
    show AW X 3 0 0 ad ce 4 [(0, .ref (ad (0, 0, 0))), (1, .long x)] [.int (bI (decide (0 ≤ x ∧ x ≤ 1000000000000)))]
    refine aw_topi (v' := 1) ((bI_t hc.1).symm) ?_
    show AW X 3 0 0 ad ce 4 [(0, .ref (ad (0, 0, 0))), (1, .long x)] [.int 1]
    refine aw_if_eq C (tgt := 27) d_C_listed_4 (by decide) (fun h4 => absurd h4 (by decide)) (fun h4 => ?_)
    refine aw_aload_n C d_C_listed_7 rfl (j := 0) rfl ?_
    refine aw_lload_n C d_C_listed_8 rfl (j := 1) rfl ?_
    refine aw_callV C I (k := (0, 0, 0)) (as := [.long x]) (rest := []) (c_listHas l G ad ce S hL x) g_C_136 ho rfl rfl ⟨by decide, by decide⟩ ⟨by decide, by decide⟩ rfl (Nat.le_of_ble_eq_true rfl) d_C_listed_9 ?_
    rintro _ _ _ ⟨rfl, rfl, rfl⟩
    show AW X 3 0 0 ad ce 12 [(0, .ref (ad (0, 0, 0))), (1, .long x)] [.int (bI (anyF (s_li S) x (s_ln S) 0))]
    refine aw_topi (v' := 0) (by have := hc.2.1; unfold hasL at this; rw [this]; rfl) ?_
    show AW X 3 0 0 ad ce 12 [(0, .ref (ad (0, 0, 0))), (1, .long x)] [.int 0]
    refine aw_if_ne C (tgt := 27) d_C_listed_12 (by decide) (fun h12 => absurd h12 (by decide)) (fun h12 => ?_)
    refine aw_aload_n C d_C_listed_15 rfl (j := 0) rfl ?_
    refine aw_get C F_C ho 5 (by decide) tw_24 rfl d_C_listed_16 ?_
    refine aw_aload_n C d_C_listed_19 rfl (j := 0) rfl ?_
    refine aw_get C F_C ho 4 (by decide) tw_23 rfl d_C_listed_20 ?_
    refine ar_lenJ C hli d_C_listed_23 ?_
    refine aw_icmp_lt C (tgt := 29) d_C_listed_24 (by decide) (fun h24 => ?_) (fun h24 => absurd (nI_lt (by omega) (by omega)) h24)
    refine aw_aload_n C d_C_listed_29 rfl (j := 0) rfl ?_
    refine aw_get C F_C ho 4 (by decide) tw_23 rfl d_C_listed_30 ?_
    refine aw_aload_n C d_C_listed_33 rfl (j := 0) rfl ?_
    refine aw_get C F_C ho 5 (by decide) tw_24 rfl d_C_listed_34 ?_
    refine aw_lload_n C d_C_listed_37 rfl (j := 1) rfl ?_
    refine ar_last C hli (j := (s_ln S)) (rfl) (by omega) (by omega) d_C_listed_38 ?_
    intro ce10 fw10 hli
    have ho : ce10 (0, 0, 0) = some (.inr (0, [.ref (ad (0, 0, 1)), .int (nI (s_cn S)), .ref (ad (0, 0, 2)), .int (nI (s_pn S)), .ref (ad (0, 0, 3)), .int (nI (s_ln S)), .ref (ad (0, 0, 4)), .int (nI (s_on S))])) := (fw10 _ (by simp)).trans ho
    have hca := hca.tr (fw10 _ (by simp))
    have hpa := hpa.tr (fw10 _ (by simp))
    have hlo := hlo.tr (fw10 _ (by simp))
    refine aw_aload_n C d_C_listed_39 rfl (j := 0) rfl ?_
    refine aw_dup C d_C_listed_40 rfl ?_
    refine aw_get C F_C ho 5 (by decide) tw_24 rfl d_C_listed_41 ?_
    refine aw_iconst C (v := 1) d_C_listed_44 (by decide) ?_
    refine aw_iadd C d_C_listed_45 ?_
    refine aw_topi (v' := nI (s_ln S + 1)) (nI_1 _) ?_
    refine ob_put C F_C ho 5 (by decide) tw_24 rfl rfl rfl (Nat.le_of_ble_eq_true rfl) (fs' := [.ref (ad (0, 0, 1)), .int (nI (s_cn S)), .ref (ad (0, 0, 2)), .int (nI (s_pn S)), .ref (ad (0, 0, 3)), .int (nI (s_ln S + 1)), .ref (ad (0, 0, 4)), .int (nI (s_on S))]) rfl d_C_listed_46 ?_
    intro ce11 fw11 ho
    have hca := hca.tr (fw11 _ (by simp))
    have hpa := hpa.tr (fw11 _ (by simp))
    have hli := hli.tr (fw11 _ (by simp))
    have hlo := hlo.tr (fw11 _ (by simp))
    refine aw_aload_n C d_C_listed_49 rfl (j := 0) rfl ?_
    refine aw_get C F_C ho 5 (by decide) tw_24 rfl d_C_listed_50 ?_
    refine aw_iret C E (rfl) (by decide) (by decide) d_C_listed_53 ?_
    have fr : ∀ q : aw_Lb, q ≠ (0, 0, 3) → q ≠ (0, 0, 0) → ce11 q = ce q := fun q n0 n1 => by rw [fw11 q n1, fw10 q n0]
    rw [show f_listed S x = (nI (s_ln S + 1), s_addL S x) from if_pos hc]
    exact ⟨rfl, fun q hq => ⟨rfl, fr q (fun e => by subst e; simp at hq) (fun e => by subst e; simp at hq)⟩, rfl, ho, hca, hpa, hli, hlo, fun i hi => (hcars i hi).tr (fun _ => rfl) (fun p => fr _ (by simp) (by simp)), fun i hi => (hpaps i hi).tr (fun _ => rfl) (fun p => fr _ (by simp) (by simp)), fun i p hi => (fr _ (by simp) (by simp)).trans (hnoc i p hi), fun i p hi => (fr _ (by simp) (by simp)).trans (hnop i p hi), hb1, hb2, by show s_ln S + 1 ≤ 20; omega, hb4⟩
  by_cases h1 : 0 ≤ x ∧ x ≤ 1000000000000
  · by_cases h2 : hasL S x = false
    · have h3 : s_ln S = 20 := by
        rcases Nat.lt_or_ge (s_ln S) 20 with q | q
        · exact absurd ⟨h1, h2, q⟩ hc
        · omega
      show AW X 3 0 0 ad ce 0 [(0, .ref (ad (0, 0, 0))), (1, .long x)] []
      refine aw_lload_n C d_C_listed_0 rfl (j := 1) rfl ?_
      refine aw_callS C I (as := [.long x]) (rest := []) (c_isSerial l G ad ce x) g_C_46 ⟨by decide, by decide⟩ ⟨by decide, by decide⟩ rfl (Nat.le_of_ble_eq_true rfl) d_C_listed_1 ?_
      rintro _ _ _ ⟨rfl, rfl, rfl⟩
      show AW X 3 0 0 ad ce 4 [(0, .ref (ad (0, 0, 0))), (1, .long x)] [.int (bI (decide (0 ≤ x ∧ x ≤ 1000000000000)))]
      refine aw_topi (v' := 1) ((bI_t h1).symm) ?_
      show AW X 3 0 0 ad ce 4 [(0, .ref (ad (0, 0, 0))), (1, .long x)] [.int 1]
      refine aw_if_eq C (tgt := 27) d_C_listed_4 (by decide) (fun h4 => absurd h4 (by decide)) (fun h4 => ?_)
      refine aw_aload_n C d_C_listed_7 rfl (j := 0) rfl ?_
      refine aw_lload_n C d_C_listed_8 rfl (j := 1) rfl ?_
      refine aw_callV C I (k := (0, 0, 0)) (as := [.long x]) (rest := []) (c_listHas l G ad ce S hL x) g_C_136 ho rfl rfl ⟨by decide, by decide⟩ ⟨by decide, by decide⟩ rfl (Nat.le_of_ble_eq_true rfl) d_C_listed_9 ?_
      rintro _ _ _ ⟨rfl, rfl, rfl⟩
      show AW X 3 0 0 ad ce 12 [(0, .ref (ad (0, 0, 0))), (1, .long x)] [.int (bI (anyF (s_li S) x (s_ln S) 0))]
      refine aw_topi (v' := 0) (by unfold hasL at h2; rw [h2]; rfl) ?_
      show AW X 3 0 0 ad ce 12 [(0, .ref (ad (0, 0, 0))), (1, .long x)] [.int 0]
      refine aw_if_ne C (tgt := 27) d_C_listed_12 (by decide) (fun h12 => absurd h12 (by decide)) (fun h12 => ?_)
      refine aw_aload_n C d_C_listed_15 rfl (j := 0) rfl ?_
      refine aw_get C F_C ho 5 (by decide) tw_24 rfl d_C_listed_16 ?_
      refine aw_aload_n C d_C_listed_19 rfl (j := 0) rfl ?_
      refine aw_get C F_C ho 4 (by decide) tw_23 rfl d_C_listed_20 ?_
      refine ar_lenJ C hli d_C_listed_23 ?_
      refine aw_icmp_lt C (tgt := 29) d_C_listed_24 (by decide) (fun h24 => absurd h24 (by rw [h3]; decide)) (fun h24 => ?_)
      refine aw_iconst C (v := (-1)) d_C_listed_27 (by decide) ?_
      refine aw_iret C E (rfl) (by decide) (by decide) d_C_listed_28 ?_
      rw [show f_listed S x = (-1, S) from if_neg hc]
      exact rC.of hL ⟨rfl, rfl, rfl⟩
    · have h2 : hasL S x = true := by cases h : hasL S x <;> simp_all
      show AW X 3 0 0 ad ce 0 [(0, .ref (ad (0, 0, 0))), (1, .long x)] []
      refine aw_lload_n C d_C_listed_0 rfl (j := 1) rfl ?_
      refine aw_callS C I (as := [.long x]) (rest := []) (c_isSerial l G ad ce x) g_C_46 ⟨by decide, by decide⟩ ⟨by decide, by decide⟩ rfl (Nat.le_of_ble_eq_true rfl) d_C_listed_1 ?_
      rintro _ _ _ ⟨rfl, rfl, rfl⟩
      show AW X 3 0 0 ad ce 4 [(0, .ref (ad (0, 0, 0))), (1, .long x)] [.int (bI (decide (0 ≤ x ∧ x ≤ 1000000000000)))]
      refine aw_topi (v' := 1) ((bI_t h1).symm) ?_
      show AW X 3 0 0 ad ce 4 [(0, .ref (ad (0, 0, 0))), (1, .long x)] [.int 1]
      refine aw_if_eq C (tgt := 27) d_C_listed_4 (by decide) (fun h4 => absurd h4 (by decide)) (fun h4 => ?_)
      refine aw_aload_n C d_C_listed_7 rfl (j := 0) rfl ?_
      refine aw_lload_n C d_C_listed_8 rfl (j := 1) rfl ?_
      refine aw_callV C I (k := (0, 0, 0)) (as := [.long x]) (rest := []) (c_listHas l G ad ce S hL x) g_C_136 ho rfl rfl ⟨by decide, by decide⟩ ⟨by decide, by decide⟩ rfl (Nat.le_of_ble_eq_true rfl) d_C_listed_9 ?_
      rintro _ _ _ ⟨rfl, rfl, rfl⟩
      show AW X 3 0 0 ad ce 12 [(0, .ref (ad (0, 0, 0))), (1, .long x)] [.int (bI (anyF (s_li S) x (s_ln S) 0))]
      refine aw_topi (v' := 1) (by unfold hasL at h2; rw [h2]; rfl) ?_
      show AW X 3 0 0 ad ce 12 [(0, .ref (ad (0, 0, 0))), (1, .long x)] [.int 1]
      refine aw_if_ne C (tgt := 27) d_C_listed_12 (by decide) (fun h12 => ?_) (fun h12 => absurd h12 (by decide))
      refine aw_iconst C (v := (-1)) d_C_listed_27 (by decide) ?_
      refine aw_iret C E (rfl) (by decide) (by decide) d_C_listed_28 ?_
      rw [show f_listed S x = (-1, S) from if_neg hc]
      exact rC.of hL ⟨rfl, rfl, rfl⟩
  · skip
    show AW X 3 0 0 ad ce 0 [(0, .ref (ad (0, 0, 0))), (1, .long x)] []
    refine aw_lload_n C d_C_listed_0 rfl (j := 1) rfl ?_
    refine aw_callS C I (as := [.long x]) (rest := []) (c_isSerial l G ad ce x) g_C_46 ⟨by decide, by decide⟩ ⟨by decide, by decide⟩ rfl (Nat.le_of_ble_eq_true rfl) d_C_listed_1 ?_
    rintro _ _ _ ⟨rfl, rfl, rfl⟩
    show AW X 3 0 0 ad ce 4 [(0, .ref (ad (0, 0, 0))), (1, .long x)] [.int (bI (decide (0 ≤ x ∧ x ≤ 1000000000000)))]
    refine aw_topi (v' := 0) ((bI_f h1).symm) ?_
    show AW X 3 0 0 ad ce 4 [(0, .ref (ad (0, 0, 0))), (1, .long x)] [.int 0]
    refine aw_if_eq C (tgt := 27) d_C_listed_4 (by decide) (fun h4 => ?_) (fun h4 => absurd (rfl) h4)
    refine aw_iconst C (v := (-1)) d_C_listed_27 (by decide) ?_
    refine aw_iret C E (rfl) (by decide) (by decide) d_C_listed_28 ?_
    rw [show f_listed S x = (-1, S) from if_neg hc]
    exact rC.of hL ⟨rfl, rfl, rfl⟩
set_option maxRecDepth 100000 in
set_option maxHeartbeats 4000000 in
theorem C_carrier (l : Launch) (G : aw_G) (ad : aw_Ad) (ce : aw_He) (S : SysS) (hL : LayC S ad ce) (kd : Int32) (x : Int64) (n : Int32) : CT l G M_C_carrier 2 45 6 274 [.ref (ad (0, 0, 0)), .int kd, .long x, .int n] ad ce (rC (some (.int (f_carrier S kd x n).1)) (f_carrier S kd x n).2 ad ce) := by
  refine CT.of (by decide) (Nat.le_of_ble_eq_true rfl) ?_
  intro X C I E
  have hL0 := hL
  obtain ⟨ho, hca, hpa, hli, hlo, hcars, hpaps, hnoc, hnop, hb1, hb2, hb3, hb4⟩ := hL0
  by_cases hc : (0 ≤ kd ∧ kd ≤ 3) ∧ (0 ≤ x ∧ x ≤ 1000000000000) ∧ (1 ≤ n ∧ n ≤ 64) ∧ s_cn S < 10 ∧ hasC S x = false
  · obtain ⟨n, hn0, rfl⟩ : ∃ m : Nat, m ≤ 64 ∧ n = nI m := nI_of2 (M := 64) rfl (by have := hc.2.2.1.1; (try simp only [Int32.le_iff_toInt_le, Int32.lt_iff_toInt_lt] at this ⊢); have e1 : (1 : Int32).toInt = 1 := rfl; have e0 : (0 : Int32).toInt = 0 := rfl; omega) hc.2.2.1.2
    have hn2 : n ≤ 64 := hn0
    have hn1 : 1 ≤ n := by
      rcases Nat.eq_zero_or_pos n with q | q
      · subst q; exact absurd hc.2.2.1.1 (by decide)
      · exact q
    have hcn := hc.2.2.2.1
    show AW X 5 0 0 ad ce 0 [(0, .ref (ad (0, 0, 0))), (1, .int kd), (2, .long x), (4, .int (nI n))] []
    refine aw_iload_n C d_C_carrier_0 rfl (j := 1) rfl ?_
    refine aw_iconst C (v := 0) d_C_carrier_1 (by decide) ?_
    refine aw_iconst C (v := 3) d_C_carrier_2 (by decide) ?_
    refine aw_callS C I (as := [.int kd, .int 0, .int 3]) (rest := []) (c_within l G ad ce kd 0 3) g_C_42 ⟨by decide, by decide⟩ ⟨by decide, by decide⟩ rfl (Nat.le_of_ble_eq_true rfl) d_C_carrier_3 ?_
    rintro _ _ _ ⟨rfl, rfl, rfl⟩
    show AW X 5 0 0 ad ce 6 [(0, .ref (ad (0, 0, 0))), (1, .int kd), (2, .long x), (4, .int (nI n))] [.int (bI (decide (0 ≤ kd ∧ kd ≤ 3)))]
    refine aw_topi (v' := 1) ((bI_t hc.1).symm) ?_
    show AW X 5 0 0 ad ce 6 [(0, .ref (ad (0, 0, 0))), (1, .int kd), (2, .long x), (4, .int (nI n))] [.int 1]
    refine aw_if_eq C (tgt := 27) d_C_carrier_6 (by decide) (fun h6 => absurd h6 (by decide)) (fun h6 => ?_)
    refine aw_lload_n C d_C_carrier_9 rfl (j := 2) rfl ?_
    refine aw_callS C I (as := [.long x]) (rest := []) (c_isSerial l G ad ce x) g_C_46 ⟨by decide, by decide⟩ ⟨by decide, by decide⟩ rfl (Nat.le_of_ble_eq_true rfl) d_C_carrier_10 ?_
    rintro _ _ _ ⟨rfl, rfl, rfl⟩
    show AW X 5 0 0 ad ce 13 [(0, .ref (ad (0, 0, 0))), (1, .int kd), (2, .long x), (4, .int (nI n))] [.int (bI (decide (0 ≤ x ∧ x ≤ 1000000000000)))]
    refine aw_topi (v' := 1) ((bI_t hc.2.1).symm) ?_
    show AW X 5 0 0 ad ce 13 [(0, .ref (ad (0, 0, 0))), (1, .int kd), (2, .long x), (4, .int (nI n))] [.int 1]
    refine aw_if_eq C (tgt := 27) d_C_carrier_13 (by decide) (fun h13 => absurd h13 (by decide)) (fun h13 => ?_)
    refine aw_iload C d_C_carrier_16 (j := 3) rfl ?_
    refine aw_iconst C (v := 1) d_C_carrier_18 (by decide) ?_
    refine aw_bipush C (v := 64) d_C_carrier_19 (by decide) ?_
    refine aw_callS C I (as := [.int (nI n), .int 1, .int 64]) (rest := []) (c_within l G ad ce (nI n) 1 64) g_C_42 ⟨by decide, by decide⟩ ⟨by decide, by decide⟩ rfl (Nat.le_of_ble_eq_true rfl) d_C_carrier_21 ?_
    rintro _ _ _ ⟨rfl, rfl, rfl⟩
    show AW X 5 0 0 ad ce 24 [(0, .ref (ad (0, 0, 0))), (1, .int kd), (2, .long x), (4, .int (nI n))] [.int (bI (decide (1 ≤ (nI n) ∧ (nI n) ≤ 64)))]
    refine aw_topi (v' := 1) ((bI_t hc.2.2.1).symm) ?_
    show AW X 5 0 0 ad ce 24 [(0, .ref (ad (0, 0, 0))), (1, .int kd), (2, .long x), (4, .int (nI n))] [.int 1]
    refine aw_if_ne C (tgt := 29) d_C_carrier_24 (by decide) (fun h24 => ?_) (fun h24 => absurd h24 (by decide))
    refine aw_aload_n C d_C_carrier_29 rfl (j := 0) rfl ?_
    refine aw_get C F_C ho 1 (by decide) tw_20 rfl d_C_carrier_30 ?_
    refine aw_aload_n C d_C_carrier_33 rfl (j := 0) rfl ?_
    refine aw_get C F_C ho 0 (by decide) tw_19 rfl d_C_carrier_34 ?_
    refine ar_lenQ C hca rfl d_C_carrier_37 ?_
    refine aw_icmp_ge C (tgt := 49) d_C_carrier_38 (by decide) (fun h38 => absurd h38 (nI_ge (by omega) (by omega))) (fun h38 => ?_)
    refine aw_aload_n C d_C_carrier_41 rfl (j := 0) rfl ?_
    refine aw_lload_n C d_C_carrier_42 rfl (j := 2) rfl ?_
    refine aw_callV C I (k := (0, 0, 0)) (as := [.long x]) (rest := []) (c_hasSerial l G ad ce S hL x) g_C_50 ho rfl rfl ⟨by decide, by decide⟩ ⟨by decide, by decide⟩ rfl (Nat.le_of_ble_eq_true rfl) d_C_carrier_43 ?_
    rintro _ _ _ ⟨rfl, rfl, rfl⟩
    show AW X 5 0 0 ad ce 46 [(0, .ref (ad (0, 0, 0))), (1, .int kd), (2, .long x), (4, .int (nI n))] [.int (bI (anyF (fun i => k_sr (s_car S i)) x (s_cn S) 0))]
    refine aw_topi (v' := 0) (by have := hc.2.2.2.2; unfold hasC at this; rw [this]; rfl) ?_
    show AW X 5 0 0 ad ce 46 [(0, .ref (ad (0, 0, 0))), (1, .int kd), (2, .long x), (4, .int (nI n))] [.int 0]
    refine aw_if_eq C (tgt := 51) d_C_carrier_46 (by decide) (fun h46 => ?_) (fun h46 => absurd (rfl) h46)
    refine aw_aload_n C d_C_carrier_51 rfl (j := 0) rfl ?_
    refine aw_get C F_C ho 0 (by decide) tw_19 rfl d_C_carrier_52 ?_
    refine aw_aload_n C d_C_carrier_55 rfl (j := 0) rfl ?_
    refine aw_get C F_C ho 1 (by decide) tw_20 rfl d_C_carrier_56 ?_
    refine ob_new C I F_K (1, s_cn S, 0) (hnoc _ _ (Nat.le_refl _)) tw_15 tw_65 tw_3 [.int 0, .long 0, .null, .null, .null, .null, .null, .int 0, .int 0, .int 0, .int 0, .int 0] (by decide) ⟨Nat.le_trans (m := 6) (by omega) (Nat.le_refl _), Nat.le_trans (m := 274) (by omega) (Nat.le_refl _)⟩ d_C_carrier_59 ?_
    intro ad12 ce12 ha12 fw12 hkN
    have ea12_0 : ad (0, 0, 0) = ad12 (0, 0, 0) := (ha12 _ (by simp)).symm
    have ea12_1 : ad (0, 0, 1) = ad12 (0, 0, 1) := (ha12 _ (by simp)).symm
    have ea12_2 : ad (0, 0, 2) = ad12 (0, 0, 2) := (ha12 _ (by simp)).symm
    have ea12_3 : ad (0, 0, 3) = ad12 (0, 0, 3) := (ha12 _ (by simp)).symm
    have ea12_4 : ad (0, 0, 4) = ad12 (0, 0, 4) := (ha12 _ (by simp)).symm
    rw [ea12_0, ea12_1]
    rw [ea12_1, ea12_2, ea12_3, ea12_4] at ho
    have ho : ce12 (0, 0, 0) = some (.inr (0, [.ref (ad12 (0, 0, 1)), .int (nI (s_cn S)), .ref (ad12 (0, 0, 2)), .int (nI (s_pn S)), .ref (ad12 (0, 0, 3)), .int (nI (s_ln S)), .ref (ad12 (0, 0, 4)), .int (nI (s_on S))])) := (fw12 _ (by simp)).trans ho
    have hca := hca.tr (fw12 _ (by simp))
    have hpa := hpa.tr (fw12 _ (by simp))
    have hli := hli.tr (fw12 _ (by simp))
    have hlo := hlo.tr (fw12 _ (by simp))
    refine aw_dup C d_C_carrier_62 rfl ?_
    refine aw_iload_n C d_C_carrier_63 rfl (j := 1) rfl ?_
    refine aw_lload_n C d_C_carrier_64 rfl (j := 2) rfl ?_
    refine aw_iload C d_C_carrier_65 (j := 3) rfl ?_
    refine aw_callI C I (as := [.int kd, .long x, .int (nI n)]) (rest := [.ref (ad12 (1, s_cn S, 0)), .int (nI (s_cn S)), .ref (ad12 (0, 0, 1))]) (c_Kinit l G ad12 ce12 (s_cn S) kd x n hn1 hn2 hkN (fun p hp => (fw12 _ (by simp [hp])).trans (hnoc _ _ (Nat.le_refl _)))) g_C_53 ⟨by decide, by decide⟩ ⟨by decide, by decide⟩ rfl (Nat.le_of_ble_eq_true rfl) d_C_carrier_67 ?_
    rintro _ ad9 ce9 ⟨rfl, hf9, ha9, hK9⟩
    have eb_0 : ad12 (0, 0, 0) = ad9 (0, 0, 0) := ((hf9 _ (by simp)).1).symm
    have eb_1 : ad12 (1, s_cn S, 0) = ad9 (1, s_cn S, 0) := (ha9).symm
    have eb_2 : ad12 (0, 0, 1) = ad9 (0, 0, 1) := ((hf9 _ (by simp)).1).symm
    have eb_3 : ad12 (0, 0, 2) = ad9 (0, 0, 2) := ((hf9 _ (by simp)).1).symm
    have eb_4 : ad12 (0, 0, 3) = ad9 (0, 0, 3) := ((hf9 _ (by simp)).1).symm
    have eb_5 : ad12 (0, 0, 4) = ad9 (0, 0, 4) := ((hf9 _ (by simp)).1).symm
    rw [eb_2, eb_3, eb_4, eb_5] at ho
    have ho : ce9 (0, 0, 0) = some (.inr (0, [.ref (ad9 (0, 0, 1)), .int (nI (s_cn S)), .ref (ad9 (0, 0, 2)), .int (nI (s_pn S)), .ref (ad9 (0, 0, 3)), .int (nI (s_ln S)), .ref (ad9 (0, 0, 4)), .int (nI (s_on S))])) := (hf9 _ (by simp)).2.trans ho
    have hca := hca.tr (hf9 _ (by simp)).2
    have hpa := hpa.tr (hf9 _ (by simp)).2
    have hli := hli.tr (hf9 _ (by simp)).2
    have hlo := hlo.tr (hf9 _ (by simp)).2
    rw [eb_0, eb_1, eb_2]
    have hkN := hK9.1
    show AW X 5 (0 + 1 + 5) (0 + 12 + 262) ad9 ce9 70 [(0, .ref (ad9 (0, 0, 0))), (1, .int kd), (2, .long x), (4, .int (nI n))] [.ref (ad9 (1, s_cn S, 0)), .int (nI (s_cn S)), .ref (ad9 (0, 0, 1))]
    refine ar_aast C hca rfl hkN rfl (j := (s_cn S)) (rfl) (by omega) (by omega) d_C_carrier_70 ?_
    intro ce13 fw13 hca
    have ho : ce13 (0, 0, 0) = some (.inr (0, [.ref (ad9 (0, 0, 1)), .int (nI (s_cn S)), .ref (ad9 (0, 0, 2)), .int (nI (s_pn S)), .ref (ad9 (0, 0, 3)), .int (nI (s_ln S)), .ref (ad9 (0, 0, 4)), .int (nI (s_on S))])) := (fw13 _ (by simp)).trans ho
    have hpa := hpa.tr (fw13 _ (by simp))
    have hli := hli.tr (fw13 _ (by simp))
    have hlo := hlo.tr (fw13 _ (by simp))
    have hkN : ce13 (1, s_cn S, 0) = some (.inr (1, [.int (k_kd (k_new kd x n)), .long (k_sr (k_new kd x n)), .ref (ad9 (1, (s_cn S), 1)), .ref (ad9 (1, (s_cn S), 2)), .ref (ad9 (1, (s_cn S), 3)), .ref (ad9 (1, (s_cn S), 4)), .ref (ad9 (1, (s_cn S), 5)), .int (nI (k_ps (k_new kd x n))), .int (nI (cnt (k_rd (k_new kd x n)) (k_np (k_new kd x n)))), .int (k_un (k_new kd x n)), .int (k_st (k_new kd x n)), .int (k_la (k_new kd x n))])) := (fw13 _ (by simp)).trans hkN
    refine aw_aload_n C d_C_carrier_71 rfl (j := 0) rfl ?_
    refine aw_dup C d_C_carrier_72 rfl ?_
    refine aw_get C F_C ho 1 (by decide) tw_20 rfl d_C_carrier_73 ?_
    refine aw_iconst C (v := 1) d_C_carrier_76 (by decide) ?_
    refine aw_iadd C d_C_carrier_77 ?_
    refine aw_topi (v' := nI (s_cn S + 1)) (nI_1 _) ?_
    refine ob_put C F_C ho 1 (by decide) tw_20 rfl rfl rfl (Nat.le_of_ble_eq_true rfl) (fs' := [.ref (ad9 (0, 0, 1)), .int (nI (s_cn S + 1)), .ref (ad9 (0, 0, 2)), .int (nI (s_pn S)), .ref (ad9 (0, 0, 3)), .int (nI (s_ln S)), .ref (ad9 (0, 0, 4)), .int (nI (s_on S))]) rfl d_C_carrier_78 ?_
    intro ce14 fw14 ho
    have hca := hca.tr (fw14 _ (by simp))
    have hpa := hpa.tr (fw14 _ (by simp))
    have hli := hli.tr (fw14 _ (by simp))
    have hlo := hlo.tr (fw14 _ (by simp))
    have hkN : ce14 (1, s_cn S, 0) = some (.inr (1, [.int (k_kd (k_new kd x n)), .long (k_sr (k_new kd x n)), .ref (ad9 (1, (s_cn S), 1)), .ref (ad9 (1, (s_cn S), 2)), .ref (ad9 (1, (s_cn S), 3)), .ref (ad9 (1, (s_cn S), 4)), .ref (ad9 (1, (s_cn S), 5)), .int (nI (k_ps (k_new kd x n))), .int (nI (cnt (k_rd (k_new kd x n)) (k_np (k_new kd x n)))), .int (k_un (k_new kd x n)), .int (k_st (k_new kd x n)), .int (k_la (k_new kd x n))])) := (fw14 _ (by simp)).trans hkN
    refine aw_aload_n C d_C_carrier_81 rfl (j := 0) rfl ?_
    refine aw_get C F_C ho 1 (by decide) tw_20 rfl d_C_carrier_82 ?_
    refine aw_iconst C (v := 1) d_C_carrier_85 (by decide) ?_
    refine aw_isub C d_C_carrier_86 ?_
    refine aw_topi (v' := nI (s_cn S)) (nI_pred _) ?_
    refine aw_iret C E (rfl) (by decide) (by decide) d_C_carrier_87 ?_
    have fr9 : ∀ q : aw_Lb, q ≠ (0, 0, 1) → q ≠ (0, 0, 0) → ce14 q = ce9 q := fun q n0 n1 => by rw [fw14 q n1, fw13 q n0]
    have fa : ∀ q : aw_Lb, (q.1 ≠ 1 ∨ q.2.1 ≠ s_cn S) → ad9 q = ad q := fun q hq => (hf9 q hq).1.trans (ha12 q (fun e => by subst e; simp at hq))
    have fc : ∀ q : aw_Lb, (q.1 ≠ 1 ∨ q.2.1 ≠ s_cn S) → ce9 q = ce q := fun q hq => (hf9 q hq).2.trans (fw12 q (fun e => by subst e; simp at hq))
    rw [show f_carrier S kd x (nI n) = (nI (s_cn S), s_addC S (k_new kd x n)) from by rw [f_carrier, if_pos hc, nI_clamp (by omega)]]
    refine ⟨rfl, fun q hq => ⟨fa q (Or.inl (by omega)), (fr9 q (fun e => by subst e; simp at hq) (fun e => by subst e; simp at hq)).trans (fc q (Or.inl (by omega)))⟩, fa _ (Or.inl (by simp)), ho, hca.to (fun j hj => ?_), hpa.to (fun j hj => ?_), hli, hlo, fun i hi => ?_, fun i hi => (hpaps i hi).tr (fun p => fa _ (Or.inl (by simp))) (fun p => (fr9 _ (by simp) (by simp)).trans (fc _ (Or.inl (by simp)))), fun i p hi => ?_, fun i p hi => (fr9 _ (by simp) (by simp)).trans ((fc _ (Or.inl (by simp))).trans (hnop i p hi)), by show s_cn S + 1 ≤ 10; omega, hb2, hb3, hb4⟩
    · show va_up _ (s_cn S) _ j = if j < s_cn S + 1 then some (ad9 (1, j, 0)) else none
      by_cases e : j = s_cn S
      · subst e; rw [va_up_self, if_pos (by omega)]
      · rw [va_up_ne _ _ e]
        show (if j < s_cn S then some (ad (1, j, 0)) else none) = _
        by_cases h : j < s_cn S
        · rw [if_pos h, if_pos (by omega), fa (1, j, 0) (Or.inr e)]
        · rw [if_neg h, if_neg (by omega)]
    · show (if j < s_pn S then some (ad (2, j, 0)) else none) = if j < s_pn S then some (ad9 (2, j, 0)) else none
      rw [fa (2, j, 0) (Or.inl (by simp))]
    · show Car ad9 ce14 i (va_up (s_car S) (s_cn S) (k_new kd x n) i)
      by_cases e : i = s_cn S
      · subst e
        rw [va_up_self]
        exact hK9.tr (fun _ => rfl) (fun p => fr9 _ (by simp) (by simp))
      · rw [va_up_ne _ _ e]
        have hi' : i < s_cn S + 1 := hi
        exact (hcars i (by omega)).tr (fun p => fa _ (Or.inr e)) (fun p => (fr9 _ (by simp) (by simp)).trans (fc _ (Or.inr e)))
    · have hi' : s_cn S + 1 ≤ i := hi
      exact (fr9 _ (by simp) (by simp)).trans ((fc _ (Or.inr (by show i ≠ s_cn S; omega))).trans (hnoc i p (by omega)))
  by_cases h1 : 0 ≤ kd ∧ kd ≤ 3
  · by_cases h2 : 0 ≤ x ∧ x ≤ 1000000000000
    · by_cases h3 : 1 ≤ n ∧ n ≤ 64
      · by_cases h4 : s_cn S < 10
        · have h5 : hasC S x = true := by
            cases h : hasC S x
            · exact absurd ⟨h1, h2, h3, h4, h⟩ hc
            · rfl
          show AW X 5 0 0 ad ce 0 [(0, .ref (ad (0, 0, 0))), (1, .int kd), (2, .long x), (4, .int n)] []
          refine aw_iload_n C d_C_carrier_0 rfl (j := 1) rfl ?_
          refine aw_iconst C (v := 0) d_C_carrier_1 (by decide) ?_
          refine aw_iconst C (v := 3) d_C_carrier_2 (by decide) ?_
          refine aw_callS C I (as := [.int kd, .int 0, .int 3]) (rest := []) (c_within l G ad ce kd 0 3) g_C_42 ⟨by decide, by decide⟩ ⟨by decide, by decide⟩ rfl (Nat.le_of_ble_eq_true rfl) d_C_carrier_3 ?_
          rintro _ _ _ ⟨rfl, rfl, rfl⟩
          show AW X 5 0 0 ad ce 6 [(0, .ref (ad (0, 0, 0))), (1, .int kd), (2, .long x), (4, .int n)] [.int (bI (decide (0 ≤ kd ∧ kd ≤ 3)))]
          refine aw_topi (v' := 1) ((bI_t h1).symm) ?_
          show AW X 5 0 0 ad ce 6 [(0, .ref (ad (0, 0, 0))), (1, .int kd), (2, .long x), (4, .int n)] [.int 1]
          refine aw_if_eq C (tgt := 27) d_C_carrier_6 (by decide) (fun h6 => absurd h6 (by decide)) (fun h6 => ?_)
          refine aw_lload_n C d_C_carrier_9 rfl (j := 2) rfl ?_
          refine aw_callS C I (as := [.long x]) (rest := []) (c_isSerial l G ad ce x) g_C_46 ⟨by decide, by decide⟩ ⟨by decide, by decide⟩ rfl (Nat.le_of_ble_eq_true rfl) d_C_carrier_10 ?_
          rintro _ _ _ ⟨rfl, rfl, rfl⟩
          show AW X 5 0 0 ad ce 13 [(0, .ref (ad (0, 0, 0))), (1, .int kd), (2, .long x), (4, .int n)] [.int (bI (decide (0 ≤ x ∧ x ≤ 1000000000000)))]
          refine aw_topi (v' := 1) ((bI_t h2).symm) ?_
          show AW X 5 0 0 ad ce 13 [(0, .ref (ad (0, 0, 0))), (1, .int kd), (2, .long x), (4, .int n)] [.int 1]
          refine aw_if_eq C (tgt := 27) d_C_carrier_13 (by decide) (fun h13 => absurd h13 (by decide)) (fun h13 => ?_)
          refine aw_iload C d_C_carrier_16 (j := 3) rfl ?_
          refine aw_iconst C (v := 1) d_C_carrier_18 (by decide) ?_
          refine aw_bipush C (v := 64) d_C_carrier_19 (by decide) ?_
          refine aw_callS C I (as := [.int n, .int 1, .int 64]) (rest := []) (c_within l G ad ce n 1 64) g_C_42 ⟨by decide, by decide⟩ ⟨by decide, by decide⟩ rfl (Nat.le_of_ble_eq_true rfl) d_C_carrier_21 ?_
          rintro _ _ _ ⟨rfl, rfl, rfl⟩
          show AW X 5 0 0 ad ce 24 [(0, .ref (ad (0, 0, 0))), (1, .int kd), (2, .long x), (4, .int n)] [.int (bI (decide (1 ≤ n ∧ n ≤ 64)))]
          refine aw_topi (v' := 1) ((bI_t h3).symm) ?_
          show AW X 5 0 0 ad ce 24 [(0, .ref (ad (0, 0, 0))), (1, .int kd), (2, .long x), (4, .int n)] [.int 1]
          refine aw_if_ne C (tgt := 29) d_C_carrier_24 (by decide) (fun h24 => ?_) (fun h24 => absurd h24 (by decide))
          refine aw_aload_n C d_C_carrier_29 rfl (j := 0) rfl ?_
          refine aw_get C F_C ho 1 (by decide) tw_20 rfl d_C_carrier_30 ?_
          refine aw_aload_n C d_C_carrier_33 rfl (j := 0) rfl ?_
          refine aw_get C F_C ho 0 (by decide) tw_19 rfl d_C_carrier_34 ?_
          refine ar_lenQ C hca rfl d_C_carrier_37 ?_
          refine aw_icmp_ge C (tgt := 49) d_C_carrier_38 (by decide) (fun h38 => absurd h38 (nI_ge (by omega) (by omega))) (fun h38 => ?_)
          refine aw_aload_n C d_C_carrier_41 rfl (j := 0) rfl ?_
          refine aw_lload_n C d_C_carrier_42 rfl (j := 2) rfl ?_
          refine aw_callV C I (k := (0, 0, 0)) (as := [.long x]) (rest := []) (c_hasSerial l G ad ce S hL x) g_C_50 ho rfl rfl ⟨by decide, by decide⟩ ⟨by decide, by decide⟩ rfl (Nat.le_of_ble_eq_true rfl) d_C_carrier_43 ?_
          rintro _ _ _ ⟨rfl, rfl, rfl⟩
          show AW X 5 0 0 ad ce 46 [(0, .ref (ad (0, 0, 0))), (1, .int kd), (2, .long x), (4, .int n)] [.int (bI (anyF (fun i => k_sr (s_car S i)) x (s_cn S) 0))]
          refine aw_topi (v' := 1) (by unfold hasC at h5; rw [h5]; rfl) ?_
          show AW X 5 0 0 ad ce 46 [(0, .ref (ad (0, 0, 0))), (1, .int kd), (2, .long x), (4, .int n)] [.int 1]
          refine aw_if_eq C (tgt := 51) d_C_carrier_46 (by decide) (fun h46 => absurd h46 (by decide)) (fun h46 => ?_)
          refine aw_iconst C (v := (-1)) d_C_carrier_49 (by decide) ?_
          refine aw_iret C E (rfl) (by decide) (by decide) d_C_carrier_50 ?_
          rw [show f_carrier S kd x n = (-1, S) from if_neg hc]
          exact rC.of hL ⟨rfl, rfl, rfl⟩
        · skip
          show AW X 5 0 0 ad ce 0 [(0, .ref (ad (0, 0, 0))), (1, .int kd), (2, .long x), (4, .int n)] []
          refine aw_iload_n C d_C_carrier_0 rfl (j := 1) rfl ?_
          refine aw_iconst C (v := 0) d_C_carrier_1 (by decide) ?_
          refine aw_iconst C (v := 3) d_C_carrier_2 (by decide) ?_
          refine aw_callS C I (as := [.int kd, .int 0, .int 3]) (rest := []) (c_within l G ad ce kd 0 3) g_C_42 ⟨by decide, by decide⟩ ⟨by decide, by decide⟩ rfl (Nat.le_of_ble_eq_true rfl) d_C_carrier_3 ?_
          rintro _ _ _ ⟨rfl, rfl, rfl⟩
          show AW X 5 0 0 ad ce 6 [(0, .ref (ad (0, 0, 0))), (1, .int kd), (2, .long x), (4, .int n)] [.int (bI (decide (0 ≤ kd ∧ kd ≤ 3)))]
          refine aw_topi (v' := 1) ((bI_t h1).symm) ?_
          show AW X 5 0 0 ad ce 6 [(0, .ref (ad (0, 0, 0))), (1, .int kd), (2, .long x), (4, .int n)] [.int 1]
          refine aw_if_eq C (tgt := 27) d_C_carrier_6 (by decide) (fun h6 => absurd h6 (by decide)) (fun h6 => ?_)
          refine aw_lload_n C d_C_carrier_9 rfl (j := 2) rfl ?_
          refine aw_callS C I (as := [.long x]) (rest := []) (c_isSerial l G ad ce x) g_C_46 ⟨by decide, by decide⟩ ⟨by decide, by decide⟩ rfl (Nat.le_of_ble_eq_true rfl) d_C_carrier_10 ?_
          rintro _ _ _ ⟨rfl, rfl, rfl⟩
          show AW X 5 0 0 ad ce 13 [(0, .ref (ad (0, 0, 0))), (1, .int kd), (2, .long x), (4, .int n)] [.int (bI (decide (0 ≤ x ∧ x ≤ 1000000000000)))]
          refine aw_topi (v' := 1) ((bI_t h2).symm) ?_
          show AW X 5 0 0 ad ce 13 [(0, .ref (ad (0, 0, 0))), (1, .int kd), (2, .long x), (4, .int n)] [.int 1]
          refine aw_if_eq C (tgt := 27) d_C_carrier_13 (by decide) (fun h13 => absurd h13 (by decide)) (fun h13 => ?_)
          refine aw_iload C d_C_carrier_16 (j := 3) rfl ?_
          refine aw_iconst C (v := 1) d_C_carrier_18 (by decide) ?_
          refine aw_bipush C (v := 64) d_C_carrier_19 (by decide) ?_
          refine aw_callS C I (as := [.int n, .int 1, .int 64]) (rest := []) (c_within l G ad ce n 1 64) g_C_42 ⟨by decide, by decide⟩ ⟨by decide, by decide⟩ rfl (Nat.le_of_ble_eq_true rfl) d_C_carrier_21 ?_
          rintro _ _ _ ⟨rfl, rfl, rfl⟩
          show AW X 5 0 0 ad ce 24 [(0, .ref (ad (0, 0, 0))), (1, .int kd), (2, .long x), (4, .int n)] [.int (bI (decide (1 ≤ n ∧ n ≤ 64)))]
          refine aw_topi (v' := 1) ((bI_t h3).symm) ?_
          show AW X 5 0 0 ad ce 24 [(0, .ref (ad (0, 0, 0))), (1, .int kd), (2, .long x), (4, .int n)] [.int 1]
          refine aw_if_ne C (tgt := 29) d_C_carrier_24 (by decide) (fun h24 => ?_) (fun h24 => absurd h24 (by decide))
          refine aw_aload_n C d_C_carrier_29 rfl (j := 0) rfl ?_
          refine aw_get C F_C ho 1 (by decide) tw_20 rfl d_C_carrier_30 ?_
          refine aw_aload_n C d_C_carrier_33 rfl (j := 0) rfl ?_
          refine aw_get C F_C ho 0 (by decide) tw_19 rfl d_C_carrier_34 ?_
          refine ar_lenQ C hca rfl d_C_carrier_37 ?_
          refine aw_icmp_ge C (tgt := 49) d_C_carrier_38 (by decide) (fun h38 => ?_) (fun h38 => absurd (nI_le (by omega) (by omega)) h38)
          refine aw_iconst C (v := (-1)) d_C_carrier_49 (by decide) ?_
          refine aw_iret C E (rfl) (by decide) (by decide) d_C_carrier_50 ?_
          rw [show f_carrier S kd x n = (-1, S) from if_neg hc]
          exact rC.of hL ⟨rfl, rfl, rfl⟩
      · skip
        show AW X 5 0 0 ad ce 0 [(0, .ref (ad (0, 0, 0))), (1, .int kd), (2, .long x), (4, .int n)] []
        refine aw_iload_n C d_C_carrier_0 rfl (j := 1) rfl ?_
        refine aw_iconst C (v := 0) d_C_carrier_1 (by decide) ?_
        refine aw_iconst C (v := 3) d_C_carrier_2 (by decide) ?_
        refine aw_callS C I (as := [.int kd, .int 0, .int 3]) (rest := []) (c_within l G ad ce kd 0 3) g_C_42 ⟨by decide, by decide⟩ ⟨by decide, by decide⟩ rfl (Nat.le_of_ble_eq_true rfl) d_C_carrier_3 ?_
        rintro _ _ _ ⟨rfl, rfl, rfl⟩
        show AW X 5 0 0 ad ce 6 [(0, .ref (ad (0, 0, 0))), (1, .int kd), (2, .long x), (4, .int n)] [.int (bI (decide (0 ≤ kd ∧ kd ≤ 3)))]
        refine aw_topi (v' := 1) ((bI_t h1).symm) ?_
        show AW X 5 0 0 ad ce 6 [(0, .ref (ad (0, 0, 0))), (1, .int kd), (2, .long x), (4, .int n)] [.int 1]
        refine aw_if_eq C (tgt := 27) d_C_carrier_6 (by decide) (fun h6 => absurd h6 (by decide)) (fun h6 => ?_)
        refine aw_lload_n C d_C_carrier_9 rfl (j := 2) rfl ?_
        refine aw_callS C I (as := [.long x]) (rest := []) (c_isSerial l G ad ce x) g_C_46 ⟨by decide, by decide⟩ ⟨by decide, by decide⟩ rfl (Nat.le_of_ble_eq_true rfl) d_C_carrier_10 ?_
        rintro _ _ _ ⟨rfl, rfl, rfl⟩
        show AW X 5 0 0 ad ce 13 [(0, .ref (ad (0, 0, 0))), (1, .int kd), (2, .long x), (4, .int n)] [.int (bI (decide (0 ≤ x ∧ x ≤ 1000000000000)))]
        refine aw_topi (v' := 1) ((bI_t h2).symm) ?_
        show AW X 5 0 0 ad ce 13 [(0, .ref (ad (0, 0, 0))), (1, .int kd), (2, .long x), (4, .int n)] [.int 1]
        refine aw_if_eq C (tgt := 27) d_C_carrier_13 (by decide) (fun h13 => absurd h13 (by decide)) (fun h13 => ?_)
        refine aw_iload C d_C_carrier_16 (j := 3) rfl ?_
        refine aw_iconst C (v := 1) d_C_carrier_18 (by decide) ?_
        refine aw_bipush C (v := 64) d_C_carrier_19 (by decide) ?_
        refine aw_callS C I (as := [.int n, .int 1, .int 64]) (rest := []) (c_within l G ad ce n 1 64) g_C_42 ⟨by decide, by decide⟩ ⟨by decide, by decide⟩ rfl (Nat.le_of_ble_eq_true rfl) d_C_carrier_21 ?_
        rintro _ _ _ ⟨rfl, rfl, rfl⟩
        show AW X 5 0 0 ad ce 24 [(0, .ref (ad (0, 0, 0))), (1, .int kd), (2, .long x), (4, .int n)] [.int (bI (decide (1 ≤ n ∧ n ≤ 64)))]
        refine aw_topi (v' := 0) ((bI_f h3).symm) ?_
        show AW X 5 0 0 ad ce 24 [(0, .ref (ad (0, 0, 0))), (1, .int kd), (2, .long x), (4, .int n)] [.int 0]
        refine aw_if_ne C (tgt := 29) d_C_carrier_24 (by decide) (fun h24 => absurd h24 (by decide)) (fun h24 => ?_)
        refine aw_iconst C (v := (-1)) d_C_carrier_27 (by decide) ?_
        refine aw_iret C E (rfl) (by decide) (by decide) d_C_carrier_28 ?_
        rw [show f_carrier S kd x n = (-1, S) from if_neg hc]
        exact rC.of hL ⟨rfl, rfl, rfl⟩
    · skip
      show AW X 5 0 0 ad ce 0 [(0, .ref (ad (0, 0, 0))), (1, .int kd), (2, .long x), (4, .int n)] []
      refine aw_iload_n C d_C_carrier_0 rfl (j := 1) rfl ?_
      refine aw_iconst C (v := 0) d_C_carrier_1 (by decide) ?_
      refine aw_iconst C (v := 3) d_C_carrier_2 (by decide) ?_
      refine aw_callS C I (as := [.int kd, .int 0, .int 3]) (rest := []) (c_within l G ad ce kd 0 3) g_C_42 ⟨by decide, by decide⟩ ⟨by decide, by decide⟩ rfl (Nat.le_of_ble_eq_true rfl) d_C_carrier_3 ?_
      rintro _ _ _ ⟨rfl, rfl, rfl⟩
      show AW X 5 0 0 ad ce 6 [(0, .ref (ad (0, 0, 0))), (1, .int kd), (2, .long x), (4, .int n)] [.int (bI (decide (0 ≤ kd ∧ kd ≤ 3)))]
      refine aw_topi (v' := 1) ((bI_t h1).symm) ?_
      show AW X 5 0 0 ad ce 6 [(0, .ref (ad (0, 0, 0))), (1, .int kd), (2, .long x), (4, .int n)] [.int 1]
      refine aw_if_eq C (tgt := 27) d_C_carrier_6 (by decide) (fun h6 => absurd h6 (by decide)) (fun h6 => ?_)
      refine aw_lload_n C d_C_carrier_9 rfl (j := 2) rfl ?_
      refine aw_callS C I (as := [.long x]) (rest := []) (c_isSerial l G ad ce x) g_C_46 ⟨by decide, by decide⟩ ⟨by decide, by decide⟩ rfl (Nat.le_of_ble_eq_true rfl) d_C_carrier_10 ?_
      rintro _ _ _ ⟨rfl, rfl, rfl⟩
      show AW X 5 0 0 ad ce 13 [(0, .ref (ad (0, 0, 0))), (1, .int kd), (2, .long x), (4, .int n)] [.int (bI (decide (0 ≤ x ∧ x ≤ 1000000000000)))]
      refine aw_topi (v' := 0) ((bI_f h2).symm) ?_
      show AW X 5 0 0 ad ce 13 [(0, .ref (ad (0, 0, 0))), (1, .int kd), (2, .long x), (4, .int n)] [.int 0]
      refine aw_if_eq C (tgt := 27) d_C_carrier_13 (by decide) (fun h13 => ?_) (fun h13 => absurd (rfl) h13)
      refine aw_iconst C (v := (-1)) d_C_carrier_27 (by decide) ?_
      refine aw_iret C E (rfl) (by decide) (by decide) d_C_carrier_28 ?_
      rw [show f_carrier S kd x n = (-1, S) from if_neg hc]
      exact rC.of hL ⟨rfl, rfl, rfl⟩
  · skip
    show AW X 5 0 0 ad ce 0 [(0, .ref (ad (0, 0, 0))), (1, .int kd), (2, .long x), (4, .int n)] []
    refine aw_iload_n C d_C_carrier_0 rfl (j := 1) rfl ?_
    refine aw_iconst C (v := 0) d_C_carrier_1 (by decide) ?_
    refine aw_iconst C (v := 3) d_C_carrier_2 (by decide) ?_
    refine aw_callS C I (as := [.int kd, .int 0, .int 3]) (rest := []) (c_within l G ad ce kd 0 3) g_C_42 ⟨by decide, by decide⟩ ⟨by decide, by decide⟩ rfl (Nat.le_of_ble_eq_true rfl) d_C_carrier_3 ?_
    rintro _ _ _ ⟨rfl, rfl, rfl⟩
    show AW X 5 0 0 ad ce 6 [(0, .ref (ad (0, 0, 0))), (1, .int kd), (2, .long x), (4, .int n)] [.int (bI (decide (0 ≤ kd ∧ kd ≤ 3)))]
    refine aw_topi (v' := 0) ((bI_f h1).symm) ?_
    show AW X 5 0 0 ad ce 6 [(0, .ref (ad (0, 0, 0))), (1, .int kd), (2, .long x), (4, .int n)] [.int 0]
    refine aw_if_eq C (tgt := 27) d_C_carrier_6 (by decide) (fun h6 => ?_) (fun h6 => absurd (rfl) h6)
    refine aw_iconst C (v := (-1)) d_C_carrier_27 (by decide) ?_
    refine aw_iret C E (rfl) (by decide) (by decide) d_C_carrier_28 ?_
    rw [show f_carrier S kd x n = (-1, S) from if_neg hc]
    exact rC.of hL ⟨rfl, rfl, rfl⟩
end
section
set_option maxRecDepth 100000 in
set_option maxHeartbeats 4000000 in
theorem C_paper (l : Launch) (G : aw_G) (ad : aw_Ad) (ce : aw_He) (S : SysS) (hL : LayC S ad ce) (x a b : Int32) : CT l G M_C_paper 2 47 2 13 [.ref (ad (0, 0, 0)), .int x, .int a, .int b] ad ce (rC (some (.int (f_paper S x a b).1)) (f_paper S x a b).2 ad ce) := by
  refine CT.of (by decide) (Nat.le_of_ble_eq_true rfl) ?_
  intro X C I E
  have hL0 := hL
  obtain ⟨ho, hca, hpa, hli, hlo, hcars, hpaps, hnoc, hnop, hb1, hb2, hb3, hb4⟩ := hL0
  rcases ix_cases x (n := s_cn S) (by omega) with hx | ⟨j, hj, rfl⟩
  · skip
    show AW X 5 0 0 ad ce 0 [(0, .ref (ad (0, 0, 0))), (1, .int x), (2, .int a), (3, .int b)] []
    refine aw_aload_n C d_C_paper_0 rfl (j := 0) rfl ?_
    refine aw_iload_n C d_C_paper_1 rfl (j := 1) rfl ?_
    refine aw_callV C I (k := (0, 0, 0)) (as := [.int x]) (rest := []) (c_findC_out l G ad ce S hL x hx) g_C_56 ho rfl rfl ⟨by decide, by decide⟩ ⟨by decide, by decide⟩ rfl (Nat.le_of_ble_eq_true rfl) d_C_paper_2 ?_
    rintro _ _ _ ⟨rfl, rfl, rfl⟩
    show AW X 5 0 0 ad ce 5 [(0, .ref (ad (0, 0, 0))), (1, .int x), (2, .int a), (3, .int b)] [.null]
    refine aw_astoreN C (lv' := [(4, .null), (0, .ref (ad (0, 0, 0))), (1, .int x), (2, .int a), (3, .int b)]) d_C_paper_5 (by decide) rfl ?_
    refine aw_aloadN C d_C_paper_7 (j := 0) rfl ?_
    refine aw_ifnullN C (tgt := 31) d_C_paper_9 (by decide) ?_
    refine aw_iconst C (v := (-1)) d_C_paper_31 (by decide) ?_
    refine aw_iret C E (rfl) (by decide) (by decide) d_C_paper_32 ?_
    rw [show f_paper S x a b = (-1, S) from by simp only [f_paper, ix_out hx]]
    exact rC.of hL ⟨rfl, rfl, rfl⟩
  by_cases hc : (0 ≤ a ∧ a ≤ 9) ∧ (0 ≤ b ∧ b ≤ 9) ∧ ¬ a = b ∧ (k_st (s_car S j) = 3 ∨ k_st (s_car S j) = 5) ∧ s_pn S < 20
  · have hpn := hc.2.2.2.2
    show AW X 5 0 0 ad ce 0 [(0, .ref (ad (0, 0, 0))), (1, .int (nI j)), (2, .int a), (3, .int b)] []
    refine aw_aload_n C d_C_paper_0 rfl (j := 0) rfl ?_
    refine aw_iload_n C d_C_paper_1 rfl (j := 1) rfl ?_
    refine aw_callV C I (k := (0, 0, 0)) (as := [.int (nI j)]) (rest := []) (c_findC_in l G ad ce S hL j hj) g_C_56 ho rfl rfl ⟨by decide, by decide⟩ ⟨by decide, by decide⟩ rfl (Nat.le_of_ble_eq_true rfl) d_C_paper_2 ?_
    rintro _ _ _ ⟨rfl, rfl, rfl⟩
    show AW X 5 0 0 ad ce 5 [(0, .ref (ad (0, 0, 0))), (1, .int (nI j)), (2, .int a), (3, .int b)] [.ref (ad (1, j, 0))]
    have hK := hcars j hj
    have hK0 := hK
    obtain ⟨hk, hby, hdu, hwo, hrd, hpt, ⟨hn1, hn2⟩, hps⟩ := hK0
    refine aw_astore C (lv' := [(4, .ref (ad (1, j, 0))), (0, .ref (ad (0, 0, 0))), (1, .int (nI j)), (2, .int a), (3, .int b)]) d_C_paper_5 (by decide) rfl ?_
    refine aw_aload C d_C_paper_7 (j := 0) rfl ?_
    refine aw_ifnull C d_C_paper_9 ?_
    refine aw_iload_n C d_C_paper_12 rfl (j := 3) rfl ?_
    refine aw_callS C I (as := [.int a]) (rest := []) (c_isPerson l G ad ce a) g_C_63 ⟨by decide, by decide⟩ ⟨by decide, by decide⟩ rfl (Nat.le_of_ble_eq_true rfl) d_C_paper_13 ?_
    rintro _ _ _ ⟨rfl, rfl, rfl⟩
    show AW X 5 0 0 ad ce 16 [(4, .ref (ad (1, j, 0))), (0, .ref (ad (0, 0, 0))), (1, .int (nI j)), (2, .int a), (3, .int b)] [.int (bI (decide (0 ≤ a ∧ a ≤ 9)))]
    refine aw_topi (v' := 1) ((bI_t hc.1).symm) ?_
    show AW X 5 0 0 ad ce 16 [(4, .ref (ad (1, j, 0))), (0, .ref (ad (0, 0, 0))), (1, .int (nI j)), (2, .int a), (3, .int b)] [.int 1]
    refine aw_if_eq C (tgt := 31) d_C_paper_16 (by decide) (fun h16 => absurd h16 (by decide)) (fun h16 => ?_)
    refine aw_iload_n C d_C_paper_19 rfl (j := 4) rfl ?_
    refine aw_callS C I (as := [.int b]) (rest := []) (c_isPerson l G ad ce b) g_C_63 ⟨by decide, by decide⟩ ⟨by decide, by decide⟩ rfl (Nat.le_of_ble_eq_true rfl) d_C_paper_20 ?_
    rintro _ _ _ ⟨rfl, rfl, rfl⟩
    show AW X 5 0 0 ad ce 23 [(4, .ref (ad (1, j, 0))), (0, .ref (ad (0, 0, 0))), (1, .int (nI j)), (2, .int a), (3, .int b)] [.int (bI (decide (0 ≤ b ∧ b ≤ 9)))]
    refine aw_topi (v' := 1) ((bI_t hc.2.1).symm) ?_
    show AW X 5 0 0 ad ce 23 [(4, .ref (ad (1, j, 0))), (0, .ref (ad (0, 0, 0))), (1, .int (nI j)), (2, .int a), (3, .int b)] [.int 1]
    refine aw_if_eq C (tgt := 31) d_C_paper_23 (by decide) (fun h23 => absurd h23 (by decide)) (fun h23 => ?_)
    refine aw_iload_n C d_C_paper_26 rfl (j := 3) rfl ?_
    refine aw_iload_n C d_C_paper_27 rfl (j := 4) rfl ?_
    refine aw_icmp_ne C (tgt := 33) d_C_paper_28 (by decide) (fun h28 => ?_) (fun h28 => absurd h28 (hc.2.2.1))
    refine aw_aload C d_C_paper_33 (j := 0) rfl ?_
    refine aw_get C F_K hk 10 (by decide) tw_89 rfl d_C_paper_35 ?_
    refine aw_iconst C (v := 3) d_C_paper_38 (by decide) ?_
    refine aw_icmp_eq C (tgt := 53) d_C_paper_39 (by decide) (fun h39 => ?_) (fun h39 => ?_)
    · refine aw_aload_n C d_C_paper_53 rfl (j := 1) rfl ?_
      refine aw_get C F_C ho 3 (by decide) tw_22 rfl d_C_paper_54 ?_
      refine aw_aload_n C d_C_paper_57 rfl (j := 1) rfl ?_
      refine aw_get C F_C ho 2 (by decide) tw_21 rfl d_C_paper_58 ?_
      refine ar_lenQ C hpa rfl d_C_paper_61 ?_
      refine aw_icmp_lt C (tgt := 67) d_C_paper_62 (by decide) (fun h62 => ?_) (fun h62 => absurd (nI_lt (by omega) (by omega)) h62)
      refine aw_aload_n C d_C_paper_67 rfl (j := 1) rfl ?_
      refine aw_get C F_C ho 2 (by decide) tw_21 rfl d_C_paper_68 ?_
      refine aw_aload_n C d_C_paper_71 rfl (j := 1) rfl ?_
      refine aw_get C F_C ho 3 (by decide) tw_22 rfl d_C_paper_72 ?_
      refine ob_new C I F_P (2, s_pn S, 0) (hnop _ _ (Nat.le_refl _)) tw_17 tw_221 tw_5 [.null] (by decide) ⟨Nat.le_trans (m := 2) (by omega) (Nat.le_refl _), Nat.le_trans (m := 13) (by omega) (Nat.le_refl _)⟩ d_C_paper_75 ?_
      intro ad15 ce15 ha15 fw15 hkN
      have ea15_0 : ad (1, j, 0) = ad15 (1, j, 0) := (ha15 _ (by simp)).symm
      have ea15_1 : ad (0, 0, 0) = ad15 (0, 0, 0) := (ha15 _ (by simp)).symm
      have ea15_2 : ad (0, 0, 2) = ad15 (0, 0, 2) := (ha15 _ (by simp)).symm
      have ea15_3 : ad (0, 0, 1) = ad15 (0, 0, 1) := (ha15 _ (by simp)).symm
      have ea15_4 : ad (0, 0, 3) = ad15 (0, 0, 3) := (ha15 _ (by simp)).symm
      have ea15_5 : ad (0, 0, 4) = ad15 (0, 0, 4) := (ha15 _ (by simp)).symm
      have ea15_6 : ad (1, j, 1) = ad15 (1, j, 1) := (ha15 _ (by simp)).symm
      have ea15_7 : ad (1, j, 2) = ad15 (1, j, 2) := (ha15 _ (by simp)).symm
      have ea15_8 : ad (1, j, 3) = ad15 (1, j, 3) := (ha15 _ (by simp)).symm
      have ea15_9 : ad (1, j, 4) = ad15 (1, j, 4) := (ha15 _ (by simp)).symm
      have ea15_10 : ad (1, j, 5) = ad15 (1, j, 5) := (ha15 _ (by simp)).symm
      rw [ea15_0, ea15_1, ea15_2]
      rw [ea15_3, ea15_2, ea15_4, ea15_5] at ho
      have ho : ce15 (0, 0, 0) = some (.inr (0, [.ref (ad15 (0, 0, 1)), .int (nI (s_cn S)), .ref (ad15 (0, 0, 2)), .int (nI (s_pn S)), .ref (ad15 (0, 0, 3)), .int (nI (s_ln S)), .ref (ad15 (0, 0, 4)), .int (nI (s_on S))])) := (fw15 _ (by simp)).trans ho
      have hca := hca.tr (fw15 _ (by simp))
      have hpa := hpa.tr (fw15 _ (by simp))
      have hli := hli.tr (fw15 _ (by simp))
      have hlo := hlo.tr (fw15 _ (by simp))
      rw [ea15_6, ea15_7, ea15_8, ea15_9, ea15_10] at hk
      have hk : ce15 (1, j, 0) = some (.inr (1, [.int (k_kd (s_car S j)), .long (k_sr (s_car S j)), .ref (ad15 (1, j, 1)), .ref (ad15 (1, j, 2)), .ref (ad15 (1, j, 3)), .ref (ad15 (1, j, 4)), .ref (ad15 (1, j, 5)), .int (nI (k_ps (s_car S j))), .int (nI (cnt (k_rd (s_car S j)) (k_np (s_car S j)))), .int (k_un (s_car S j)), .int (k_st (s_car S j)), .int (k_la (s_car S j))])) := (fw15 _ (by simp)).trans hk
      have hby := hby.tr (fw15 _ (by simp))
      have hdu := hdu.tr (fw15 _ (by simp))
      have hwo := hwo.tr (fw15 _ (by simp))
      have hrd := hrd.tr (fw15 _ (by simp))
      have hpt := hpt.tr (fw15 _ (by simp))
      refine aw_dup C d_C_paper_78 rfl ?_
      refine aw_iload_n C d_C_paper_79 rfl (j := 2) rfl ?_
      refine aw_aload C d_C_paper_80 (j := 0) rfl ?_
      refine aw_iload_n C d_C_paper_82 rfl (j := 3) rfl ?_
      refine aw_iload_n C d_C_paper_83 rfl (j := 4) rfl ?_
      have hKA : Car ad15 ce15 j (s_car S j) := hK.tr (fun p => ha15 _ (by simp)) (fun p => fw15 _ (by simp))
      refine aw_callI C I (as := [.int (nI j), .ref (ad15 (1, j, 0)), .int a, .int b]) (rest := [.ref (ad15 (2, s_pn S, 0)), .int (nI (s_pn S)), .ref (ad15 (0, 0, 2))]) (c_Pinit l G ad15 ce15 j _ hKA (s_pn S) (nI j) a b hkN ((fw15 _ (by simp)).trans (hnop _ _ (Nat.le_refl _)))) g_C_120 ⟨by decide, by decide⟩ ⟨by decide, by decide⟩ rfl (Nat.le_of_ble_eq_true rfl) d_C_paper_84 ?_
      rintro _ ad9 ce9 ⟨rfl, hf9, ha9, hK9⟩
      have eb_0 : ad15 (1, j, 0) = ad9 (1, j, 0) := ((hf9 _ (by simp)).1).symm
      have eb_1 : ad15 (0, 0, 0) = ad9 (0, 0, 0) := ((hf9 _ (by simp)).1).symm
      have eb_2 : ad15 (2, s_pn S, 0) = ad9 (2, s_pn S, 0) := (ha9).symm
      have eb_3 : ad15 (0, 0, 2) = ad9 (0, 0, 2) := ((hf9 _ (by simp)).1).symm
      have eb_4 : ad15 (0, 0, 1) = ad9 (0, 0, 1) := ((hf9 _ (by simp)).1).symm
      have eb_5 : ad15 (0, 0, 3) = ad9 (0, 0, 3) := ((hf9 _ (by simp)).1).symm
      have eb_6 : ad15 (0, 0, 4) = ad9 (0, 0, 4) := ((hf9 _ (by simp)).1).symm
      have eb_7 : ad15 (1, j, 1) = ad9 (1, j, 1) := ((hf9 _ (by simp)).1).symm
      have eb_8 : ad15 (1, j, 2) = ad9 (1, j, 2) := ((hf9 _ (by simp)).1).symm
      have eb_9 : ad15 (1, j, 3) = ad9 (1, j, 3) := ((hf9 _ (by simp)).1).symm
      have eb_10 : ad15 (1, j, 4) = ad9 (1, j, 4) := ((hf9 _ (by simp)).1).symm
      have eb_11 : ad15 (1, j, 5) = ad9 (1, j, 5) := ((hf9 _ (by simp)).1).symm
      rw [eb_4, eb_3, eb_5, eb_6] at ho
      have ho : ce9 (0, 0, 0) = some (.inr (0, [.ref (ad9 (0, 0, 1)), .int (nI (s_cn S)), .ref (ad9 (0, 0, 2)), .int (nI (s_pn S)), .ref (ad9 (0, 0, 3)), .int (nI (s_ln S)), .ref (ad9 (0, 0, 4)), .int (nI (s_on S))])) := (hf9 _ (by simp)).2.trans ho
      have hca := hca.tr (hf9 _ (by simp)).2
      have hpa := hpa.tr (hf9 _ (by simp)).2
      have hli := hli.tr (hf9 _ (by simp)).2
      have hlo := hlo.tr (hf9 _ (by simp)).2
      rw [eb_7, eb_8, eb_9, eb_10, eb_11] at hk
      have hk : ce9 (1, j, 0) = some (.inr (1, [.int (k_kd (s_car S j)), .long (k_sr (s_car S j)), .ref (ad9 (1, j, 1)), .ref (ad9 (1, j, 2)), .ref (ad9 (1, j, 3)), .ref (ad9 (1, j, 4)), .ref (ad9 (1, j, 5)), .int (nI (k_ps (s_car S j))), .int (nI (cnt (k_rd (s_car S j)) (k_np (s_car S j)))), .int (k_un (s_car S j)), .int (k_st (s_car S j)), .int (k_la (s_car S j))])) := (hf9 _ (by simp)).2.trans hk
      have hby := hby.tr (hf9 _ (by simp)).2
      have hdu := hdu.tr (hf9 _ (by simp)).2
      have hwo := hwo.tr (hf9 _ (by simp)).2
      have hrd := hrd.tr (hf9 _ (by simp)).2
      have hpt := hpt.tr (hf9 _ (by simp)).2
      rw [eb_0, eb_1, eb_2, eb_3]
      have hkN := hK9.1
      show AW X 5 (0 + 1 + 1) (0 + 1 + 12) ad9 ce9 87 [(4, .ref (ad9 (1, j, 0))), (0, .ref (ad9 (0, 0, 0))), (1, .int (nI j)), (2, .int a), (3, .int b)] [.ref (ad9 (2, s_pn S, 0)), .int (nI (s_pn S)), .ref (ad9 (0, 0, 2))]
      refine ar_aast C hpa rfl hkN rfl (j := (s_pn S)) (rfl) (by omega) (by omega) d_C_paper_87 ?_
      intro ce16 fw16 hpa
      have ho : ce16 (0, 0, 0) = some (.inr (0, [.ref (ad9 (0, 0, 1)), .int (nI (s_cn S)), .ref (ad9 (0, 0, 2)), .int (nI (s_pn S)), .ref (ad9 (0, 0, 3)), .int (nI (s_ln S)), .ref (ad9 (0, 0, 4)), .int (nI (s_on S))])) := (fw16 _ (by simp)).trans ho
      have hca := hca.tr (fw16 _ (by simp))
      have hli := hli.tr (fw16 _ (by simp))
      have hlo := hlo.tr (fw16 _ (by simp))
      have hk : ce16 (1, j, 0) = some (.inr (1, [.int (k_kd (s_car S j)), .long (k_sr (s_car S j)), .ref (ad9 (1, j, 1)), .ref (ad9 (1, j, 2)), .ref (ad9 (1, j, 3)), .ref (ad9 (1, j, 4)), .ref (ad9 (1, j, 5)), .int (nI (k_ps (s_car S j))), .int (nI (cnt (k_rd (s_car S j)) (k_np (s_car S j)))), .int (k_un (s_car S j)), .int (k_st (s_car S j)), .int (k_la (s_car S j))])) := (fw16 _ (by simp)).trans hk
      have hby := hby.tr (fw16 _ (by simp))
      have hdu := hdu.tr (fw16 _ (by simp))
      have hwo := hwo.tr (fw16 _ (by simp))
      have hrd := hrd.tr (fw16 _ (by simp))
      have hpt := hpt.tr (fw16 _ (by simp))
      have hkN : ce16 (2, s_pn S, 0) = some (.inr (2, [.ref (ad9 (2, s_pn S, 1))])) := (fw16 _ (by simp)).trans hkN
      refine aw_aload_n C d_C_paper_88 rfl (j := 1) rfl ?_
      refine aw_dup C d_C_paper_89 rfl ?_
      refine aw_get C F_C ho 3 (by decide) tw_22 rfl d_C_paper_90 ?_
      refine aw_iconst C (v := 1) d_C_paper_93 (by decide) ?_
      refine aw_iadd C d_C_paper_94 ?_
      refine aw_topi (v' := nI (s_pn S + 1)) (nI_1 _) ?_
      refine ob_put C F_C ho 3 (by decide) tw_22 rfl rfl rfl (Nat.le_of_ble_eq_true rfl) (fs' := [.ref (ad9 (0, 0, 1)), .int (nI (s_cn S)), .ref (ad9 (0, 0, 2)), .int (nI (s_pn S + 1)), .ref (ad9 (0, 0, 3)), .int (nI (s_ln S)), .ref (ad9 (0, 0, 4)), .int (nI (s_on S))]) rfl d_C_paper_95 ?_
      intro ce17 fw17 ho
      have hca := hca.tr (fw17 _ (by simp))
      have hpa := hpa.tr (fw17 _ (by simp))
      have hli := hli.tr (fw17 _ (by simp))
      have hlo := hlo.tr (fw17 _ (by simp))
      have hk : ce17 (1, j, 0) = some (.inr (1, [.int (k_kd (s_car S j)), .long (k_sr (s_car S j)), .ref (ad9 (1, j, 1)), .ref (ad9 (1, j, 2)), .ref (ad9 (1, j, 3)), .ref (ad9 (1, j, 4)), .ref (ad9 (1, j, 5)), .int (nI (k_ps (s_car S j))), .int (nI (cnt (k_rd (s_car S j)) (k_np (s_car S j)))), .int (k_un (s_car S j)), .int (k_st (s_car S j)), .int (k_la (s_car S j))])) := (fw17 _ (by simp)).trans hk
      have hby := hby.tr (fw17 _ (by simp))
      have hdu := hdu.tr (fw17 _ (by simp))
      have hwo := hwo.tr (fw17 _ (by simp))
      have hrd := hrd.tr (fw17 _ (by simp))
      have hpt := hpt.tr (fw17 _ (by simp))
      have hkN : ce17 (2, s_pn S, 0) = some (.inr (2, [.ref (ad9 (2, s_pn S, 1))])) := (fw17 _ (by simp)).trans hkN
      refine aw_aload_n C d_C_paper_98 rfl (j := 1) rfl ?_
      refine aw_get C F_C ho 3 (by decide) tw_22 rfl d_C_paper_99 ?_
      refine aw_iconst C (v := 1) d_C_paper_102 (by decide) ?_
      refine aw_isub C d_C_paper_103 ?_
      refine aw_topi (v' := nI (s_pn S)) (nI_pred _) ?_
      refine aw_iret C E (rfl) (by decide) (by decide) d_C_paper_104 ?_
      have fr9 : ∀ q : aw_Lb, q ≠ (0, 0, 2) → q ≠ (0, 0, 0) → ce17 q = ce9 q := fun q n0 n1 => by rw [fw17 q n1, fw16 q n0]
      have fa : ∀ q : aw_Lb, (q.1 ≠ 2 ∨ q.2.1 ≠ s_pn S) → ad9 q = ad q := fun q hq => (hf9 q hq).1.trans (ha15 q (fun e => by subst e; simp at hq))
      have fc : ∀ q : aw_Lb, (q.1 ≠ 2 ∨ q.2.1 ≠ s_pn S) → ce9 q = ce q := fun q hq => (hf9 q hq).2.trans (fw15 q (fun e => by subst e; simp at hq))
      rw [show f_paper S (nI j) a b = (nI (s_pn S), s_addP S (6 + k_ps (s_car S j), papF (nI j) (s_car S j) a b)) from by simp only [f_paper, ix_in hj (show s_cn S < 2 ^ 31 by omega), if_pos hc]]
      refine ⟨rfl, fun q hq => ⟨fa q (Or.inl (by omega)), (fr9 q (fun e => by subst e; simp at hq) (fun e => by subst e; simp at hq)).trans (fc q (Or.inl (by omega)))⟩, fa _ (Or.inl (by simp)), ho, hca.to (fun i hi => ?_), hpa.to (fun i hi => ?_), hli, hlo, fun i hi => (hcars i hi).tr (fun p => fa _ (Or.inl (by simp))) (fun p => (fr9 _ (by simp) (by simp)).trans (fc _ (Or.inl (by simp)))), fun i hi => ?_, fun i p hi => (fr9 _ (by simp) (by simp)).trans ((fc _ (Or.inl (by simp))).trans (hnoc i p hi)), fun i p hi => ?_, hb1, by show s_pn S + 1 ≤ 20; omega, hb3, hb4⟩
      · show (if i < s_cn S then some (ad (1, i, 0)) else none) = if i < s_cn S then some (ad9 (1, i, 0)) else none
        rw [fa (1, i, 0) (Or.inl (by simp))]
      · show va_up _ (s_pn S) _ i = if i < s_pn S + 1 then some (ad9 (2, i, 0)) else none
        by_cases e : i = s_pn S
        · subst e; rw [va_up_self, if_pos (by omega)]
        · rw [va_up_ne _ _ e]
          show (if i < s_pn S then some (ad (2, i, 0)) else none) = _
          by_cases h : i < s_pn S
          · rw [if_pos h, if_pos (by omega), fa (2, i, 0) (Or.inr e)]
          · rw [if_neg h, if_neg (by omega)]
      · show Pap ad9 ce17 i (va_up (s_pap S) (s_pn S) _ i)
        by_cases e : i = s_pn S
        · subst e
          rw [va_up_self]
          exact hK9.tr (fun _ => rfl) (fun p => fr9 _ (by simp) (by simp))
        · rw [va_up_ne _ _ e]
          have hi' : i < s_pn S + 1 := hi
          exact (hpaps i (by omega)).tr (fun p => fa _ (Or.inr e)) (fun p => (fr9 _ (by simp) (by simp)).trans (fc _ (Or.inr e)))
      · have hi' : s_pn S + 1 ≤ i := hi
        exact (fr9 _ (by simp) (by simp)).trans ((fc _ (Or.inr (by show i ≠ s_pn S; omega))).trans (hnop i p (by omega)))
    · refine aw_aload C d_C_paper_42 (j := 0) rfl ?_
      refine aw_get C F_K hk 10 (by decide) tw_89 rfl d_C_paper_44 ?_
      refine aw_iconst C (v := 5) d_C_paper_47 (by decide) ?_
      refine aw_icmp_eq C (tgt := 53) d_C_paper_48 (by decide) (fun h48 => ?_) (fun h48 => ?_)
      · refine aw_aload_n C d_C_paper_53 rfl (j := 1) rfl ?_
        refine aw_get C F_C ho 3 (by decide) tw_22 rfl d_C_paper_54 ?_
        refine aw_aload_n C d_C_paper_57 rfl (j := 1) rfl ?_
        refine aw_get C F_C ho 2 (by decide) tw_21 rfl d_C_paper_58 ?_
        refine ar_lenQ C hpa rfl d_C_paper_61 ?_
        refine aw_icmp_lt C (tgt := 67) d_C_paper_62 (by decide) (fun h62 => ?_) (fun h62 => absurd (nI_lt (by omega) (by omega)) h62)
        refine aw_aload_n C d_C_paper_67 rfl (j := 1) rfl ?_
        refine aw_get C F_C ho 2 (by decide) tw_21 rfl d_C_paper_68 ?_
        refine aw_aload_n C d_C_paper_71 rfl (j := 1) rfl ?_
        refine aw_get C F_C ho 3 (by decide) tw_22 rfl d_C_paper_72 ?_
        refine ob_new C I F_P (2, s_pn S, 0) (hnop _ _ (Nat.le_refl _)) tw_17 tw_221 tw_5 [.null] (by decide) ⟨Nat.le_trans (m := 2) (by omega) (Nat.le_refl _), Nat.le_trans (m := 13) (by omega) (Nat.le_refl _)⟩ d_C_paper_75 ?_
        intro ad18 ce18 ha18 fw18 hkN
        have ea18_0 : ad (1, j, 0) = ad18 (1, j, 0) := (ha18 _ (by simp)).symm
        have ea18_1 : ad (0, 0, 0) = ad18 (0, 0, 0) := (ha18 _ (by simp)).symm
        have ea18_2 : ad (0, 0, 2) = ad18 (0, 0, 2) := (ha18 _ (by simp)).symm
        have ea18_3 : ad (0, 0, 1) = ad18 (0, 0, 1) := (ha18 _ (by simp)).symm
        have ea18_4 : ad (0, 0, 3) = ad18 (0, 0, 3) := (ha18 _ (by simp)).symm
        have ea18_5 : ad (0, 0, 4) = ad18 (0, 0, 4) := (ha18 _ (by simp)).symm
        have ea18_6 : ad (1, j, 1) = ad18 (1, j, 1) := (ha18 _ (by simp)).symm
        have ea18_7 : ad (1, j, 2) = ad18 (1, j, 2) := (ha18 _ (by simp)).symm
        have ea18_8 : ad (1, j, 3) = ad18 (1, j, 3) := (ha18 _ (by simp)).symm
        have ea18_9 : ad (1, j, 4) = ad18 (1, j, 4) := (ha18 _ (by simp)).symm
        have ea18_10 : ad (1, j, 5) = ad18 (1, j, 5) := (ha18 _ (by simp)).symm
        rw [ea18_0, ea18_1, ea18_2]
        rw [ea18_3, ea18_2, ea18_4, ea18_5] at ho
        have ho : ce18 (0, 0, 0) = some (.inr (0, [.ref (ad18 (0, 0, 1)), .int (nI (s_cn S)), .ref (ad18 (0, 0, 2)), .int (nI (s_pn S)), .ref (ad18 (0, 0, 3)), .int (nI (s_ln S)), .ref (ad18 (0, 0, 4)), .int (nI (s_on S))])) := (fw18 _ (by simp)).trans ho
        have hca := hca.tr (fw18 _ (by simp))
        have hpa := hpa.tr (fw18 _ (by simp))
        have hli := hli.tr (fw18 _ (by simp))
        have hlo := hlo.tr (fw18 _ (by simp))
        rw [ea18_6, ea18_7, ea18_8, ea18_9, ea18_10] at hk
        have hk : ce18 (1, j, 0) = some (.inr (1, [.int (k_kd (s_car S j)), .long (k_sr (s_car S j)), .ref (ad18 (1, j, 1)), .ref (ad18 (1, j, 2)), .ref (ad18 (1, j, 3)), .ref (ad18 (1, j, 4)), .ref (ad18 (1, j, 5)), .int (nI (k_ps (s_car S j))), .int (nI (cnt (k_rd (s_car S j)) (k_np (s_car S j)))), .int (k_un (s_car S j)), .int (k_st (s_car S j)), .int (k_la (s_car S j))])) := (fw18 _ (by simp)).trans hk
        have hby := hby.tr (fw18 _ (by simp))
        have hdu := hdu.tr (fw18 _ (by simp))
        have hwo := hwo.tr (fw18 _ (by simp))
        have hrd := hrd.tr (fw18 _ (by simp))
        have hpt := hpt.tr (fw18 _ (by simp))
        refine aw_dup C d_C_paper_78 rfl ?_
        refine aw_iload_n C d_C_paper_79 rfl (j := 2) rfl ?_
        refine aw_aload C d_C_paper_80 (j := 0) rfl ?_
        refine aw_iload_n C d_C_paper_82 rfl (j := 3) rfl ?_
        refine aw_iload_n C d_C_paper_83 rfl (j := 4) rfl ?_
        have hKA : Car ad18 ce18 j (s_car S j) := hK.tr (fun p => ha18 _ (by simp)) (fun p => fw18 _ (by simp))
        refine aw_callI C I (as := [.int (nI j), .ref (ad18 (1, j, 0)), .int a, .int b]) (rest := [.ref (ad18 (2, s_pn S, 0)), .int (nI (s_pn S)), .ref (ad18 (0, 0, 2))]) (c_Pinit l G ad18 ce18 j _ hKA (s_pn S) (nI j) a b hkN ((fw18 _ (by simp)).trans (hnop _ _ (Nat.le_refl _)))) g_C_120 ⟨by decide, by decide⟩ ⟨by decide, by decide⟩ rfl (Nat.le_of_ble_eq_true rfl) d_C_paper_84 ?_
        rintro _ ad9 ce9 ⟨rfl, hf9, ha9, hK9⟩
        have eb_0 : ad18 (1, j, 0) = ad9 (1, j, 0) := ((hf9 _ (by simp)).1).symm
        have eb_1 : ad18 (0, 0, 0) = ad9 (0, 0, 0) := ((hf9 _ (by simp)).1).symm
        have eb_2 : ad18 (2, s_pn S, 0) = ad9 (2, s_pn S, 0) := (ha9).symm
        have eb_3 : ad18 (0, 0, 2) = ad9 (0, 0, 2) := ((hf9 _ (by simp)).1).symm
        have eb_4 : ad18 (0, 0, 1) = ad9 (0, 0, 1) := ((hf9 _ (by simp)).1).symm
        have eb_5 : ad18 (0, 0, 3) = ad9 (0, 0, 3) := ((hf9 _ (by simp)).1).symm
        have eb_6 : ad18 (0, 0, 4) = ad9 (0, 0, 4) := ((hf9 _ (by simp)).1).symm
        have eb_7 : ad18 (1, j, 1) = ad9 (1, j, 1) := ((hf9 _ (by simp)).1).symm
        have eb_8 : ad18 (1, j, 2) = ad9 (1, j, 2) := ((hf9 _ (by simp)).1).symm
        have eb_9 : ad18 (1, j, 3) = ad9 (1, j, 3) := ((hf9 _ (by simp)).1).symm
        have eb_10 : ad18 (1, j, 4) = ad9 (1, j, 4) := ((hf9 _ (by simp)).1).symm
        have eb_11 : ad18 (1, j, 5) = ad9 (1, j, 5) := ((hf9 _ (by simp)).1).symm
        rw [eb_4, eb_3, eb_5, eb_6] at ho
        have ho : ce9 (0, 0, 0) = some (.inr (0, [.ref (ad9 (0, 0, 1)), .int (nI (s_cn S)), .ref (ad9 (0, 0, 2)), .int (nI (s_pn S)), .ref (ad9 (0, 0, 3)), .int (nI (s_ln S)), .ref (ad9 (0, 0, 4)), .int (nI (s_on S))])) := (hf9 _ (by simp)).2.trans ho
        have hca := hca.tr (hf9 _ (by simp)).2
        have hpa := hpa.tr (hf9 _ (by simp)).2
        have hli := hli.tr (hf9 _ (by simp)).2
        have hlo := hlo.tr (hf9 _ (by simp)).2
        rw [eb_7, eb_8, eb_9, eb_10, eb_11] at hk
        have hk : ce9 (1, j, 0) = some (.inr (1, [.int (k_kd (s_car S j)), .long (k_sr (s_car S j)), .ref (ad9 (1, j, 1)), .ref (ad9 (1, j, 2)), .ref (ad9 (1, j, 3)), .ref (ad9 (1, j, 4)), .ref (ad9 (1, j, 5)), .int (nI (k_ps (s_car S j))), .int (nI (cnt (k_rd (s_car S j)) (k_np (s_car S j)))), .int (k_un (s_car S j)), .int (k_st (s_car S j)), .int (k_la (s_car S j))])) := (hf9 _ (by simp)).2.trans hk
        have hby := hby.tr (hf9 _ (by simp)).2
        have hdu := hdu.tr (hf9 _ (by simp)).2
        have hwo := hwo.tr (hf9 _ (by simp)).2
        have hrd := hrd.tr (hf9 _ (by simp)).2
        have hpt := hpt.tr (hf9 _ (by simp)).2
        rw [eb_0, eb_1, eb_2, eb_3]
        have hkN := hK9.1
        show AW X 5 (0 + 1 + 1) (0 + 1 + 12) ad9 ce9 87 [(4, .ref (ad9 (1, j, 0))), (0, .ref (ad9 (0, 0, 0))), (1, .int (nI j)), (2, .int a), (3, .int b)] [.ref (ad9 (2, s_pn S, 0)), .int (nI (s_pn S)), .ref (ad9 (0, 0, 2))]
        refine ar_aast C hpa rfl hkN rfl (j := (s_pn S)) (rfl) (by omega) (by omega) d_C_paper_87 ?_
        intro ce19 fw19 hpa
        have ho : ce19 (0, 0, 0) = some (.inr (0, [.ref (ad9 (0, 0, 1)), .int (nI (s_cn S)), .ref (ad9 (0, 0, 2)), .int (nI (s_pn S)), .ref (ad9 (0, 0, 3)), .int (nI (s_ln S)), .ref (ad9 (0, 0, 4)), .int (nI (s_on S))])) := (fw19 _ (by simp)).trans ho
        have hca := hca.tr (fw19 _ (by simp))
        have hli := hli.tr (fw19 _ (by simp))
        have hlo := hlo.tr (fw19 _ (by simp))
        have hk : ce19 (1, j, 0) = some (.inr (1, [.int (k_kd (s_car S j)), .long (k_sr (s_car S j)), .ref (ad9 (1, j, 1)), .ref (ad9 (1, j, 2)), .ref (ad9 (1, j, 3)), .ref (ad9 (1, j, 4)), .ref (ad9 (1, j, 5)), .int (nI (k_ps (s_car S j))), .int (nI (cnt (k_rd (s_car S j)) (k_np (s_car S j)))), .int (k_un (s_car S j)), .int (k_st (s_car S j)), .int (k_la (s_car S j))])) := (fw19 _ (by simp)).trans hk
        have hby := hby.tr (fw19 _ (by simp))
        have hdu := hdu.tr (fw19 _ (by simp))
        have hwo := hwo.tr (fw19 _ (by simp))
        have hrd := hrd.tr (fw19 _ (by simp))
        have hpt := hpt.tr (fw19 _ (by simp))
        have hkN : ce19 (2, s_pn S, 0) = some (.inr (2, [.ref (ad9 (2, s_pn S, 1))])) := (fw19 _ (by simp)).trans hkN
        refine aw_aload_n C d_C_paper_88 rfl (j := 1) rfl ?_
        refine aw_dup C d_C_paper_89 rfl ?_
        refine aw_get C F_C ho 3 (by decide) tw_22 rfl d_C_paper_90 ?_
        refine aw_iconst C (v := 1) d_C_paper_93 (by decide) ?_
        refine aw_iadd C d_C_paper_94 ?_
        refine aw_topi (v' := nI (s_pn S + 1)) (nI_1 _) ?_
        refine ob_put C F_C ho 3 (by decide) tw_22 rfl rfl rfl (Nat.le_of_ble_eq_true rfl) (fs' := [.ref (ad9 (0, 0, 1)), .int (nI (s_cn S)), .ref (ad9 (0, 0, 2)), .int (nI (s_pn S + 1)), .ref (ad9 (0, 0, 3)), .int (nI (s_ln S)), .ref (ad9 (0, 0, 4)), .int (nI (s_on S))]) rfl d_C_paper_95 ?_
        intro ce20 fw20 ho
        have hca := hca.tr (fw20 _ (by simp))
        have hpa := hpa.tr (fw20 _ (by simp))
        have hli := hli.tr (fw20 _ (by simp))
        have hlo := hlo.tr (fw20 _ (by simp))
        have hk : ce20 (1, j, 0) = some (.inr (1, [.int (k_kd (s_car S j)), .long (k_sr (s_car S j)), .ref (ad9 (1, j, 1)), .ref (ad9 (1, j, 2)), .ref (ad9 (1, j, 3)), .ref (ad9 (1, j, 4)), .ref (ad9 (1, j, 5)), .int (nI (k_ps (s_car S j))), .int (nI (cnt (k_rd (s_car S j)) (k_np (s_car S j)))), .int (k_un (s_car S j)), .int (k_st (s_car S j)), .int (k_la (s_car S j))])) := (fw20 _ (by simp)).trans hk
        have hby := hby.tr (fw20 _ (by simp))
        have hdu := hdu.tr (fw20 _ (by simp))
        have hwo := hwo.tr (fw20 _ (by simp))
        have hrd := hrd.tr (fw20 _ (by simp))
        have hpt := hpt.tr (fw20 _ (by simp))
        have hkN : ce20 (2, s_pn S, 0) = some (.inr (2, [.ref (ad9 (2, s_pn S, 1))])) := (fw20 _ (by simp)).trans hkN
        refine aw_aload_n C d_C_paper_98 rfl (j := 1) rfl ?_
        refine aw_get C F_C ho 3 (by decide) tw_22 rfl d_C_paper_99 ?_
        refine aw_iconst C (v := 1) d_C_paper_102 (by decide) ?_
        refine aw_isub C d_C_paper_103 ?_
        refine aw_topi (v' := nI (s_pn S)) (nI_pred _) ?_
        refine aw_iret C E (rfl) (by decide) (by decide) d_C_paper_104 ?_
        have fr9 : ∀ q : aw_Lb, q ≠ (0, 0, 2) → q ≠ (0, 0, 0) → ce20 q = ce9 q := fun q n0 n1 => by rw [fw20 q n1, fw19 q n0]
        have fa : ∀ q : aw_Lb, (q.1 ≠ 2 ∨ q.2.1 ≠ s_pn S) → ad9 q = ad q := fun q hq => (hf9 q hq).1.trans (ha18 q (fun e => by subst e; simp at hq))
        have fc : ∀ q : aw_Lb, (q.1 ≠ 2 ∨ q.2.1 ≠ s_pn S) → ce9 q = ce q := fun q hq => (hf9 q hq).2.trans (fw18 q (fun e => by subst e; simp at hq))
        rw [show f_paper S (nI j) a b = (nI (s_pn S), s_addP S (6 + k_ps (s_car S j), papF (nI j) (s_car S j) a b)) from by simp only [f_paper, ix_in hj (show s_cn S < 2 ^ 31 by omega), if_pos hc]]
        refine ⟨rfl, fun q hq => ⟨fa q (Or.inl (by omega)), (fr9 q (fun e => by subst e; simp at hq) (fun e => by subst e; simp at hq)).trans (fc q (Or.inl (by omega)))⟩, fa _ (Or.inl (by simp)), ho, hca.to (fun i hi => ?_), hpa.to (fun i hi => ?_), hli, hlo, fun i hi => (hcars i hi).tr (fun p => fa _ (Or.inl (by simp))) (fun p => (fr9 _ (by simp) (by simp)).trans (fc _ (Or.inl (by simp)))), fun i hi => ?_, fun i p hi => (fr9 _ (by simp) (by simp)).trans ((fc _ (Or.inl (by simp))).trans (hnoc i p hi)), fun i p hi => ?_, hb1, by show s_pn S + 1 ≤ 20; omega, hb3, hb4⟩
        · show (if i < s_cn S then some (ad (1, i, 0)) else none) = if i < s_cn S then some (ad9 (1, i, 0)) else none
          rw [fa (1, i, 0) (Or.inl (by simp))]
        · show va_up _ (s_pn S) _ i = if i < s_pn S + 1 then some (ad9 (2, i, 0)) else none
          by_cases e : i = s_pn S
          · subst e; rw [va_up_self, if_pos (by omega)]
          · rw [va_up_ne _ _ e]
            show (if i < s_pn S then some (ad (2, i, 0)) else none) = _
            by_cases h : i < s_pn S
            · rw [if_pos h, if_pos (by omega), fa (2, i, 0) (Or.inr e)]
            · rw [if_neg h, if_neg (by omega)]
        · show Pap ad9 ce20 i (va_up (s_pap S) (s_pn S) _ i)
          by_cases e : i = s_pn S
          · subst e
            rw [va_up_self]
            exact hK9.tr (fun _ => rfl) (fun p => fr9 _ (by simp) (by simp))
          · rw [va_up_ne _ _ e]
            have hi' : i < s_pn S + 1 := hi
            exact (hpaps i (by omega)).tr (fun p => fa _ (Or.inr e)) (fun p => (fr9 _ (by simp) (by simp)).trans (fc _ (Or.inr e)))
        · have hi' : s_pn S + 1 ≤ i := hi
          exact (fr9 _ (by simp) (by simp)).trans ((fc _ (Or.inr (by show i ≠ s_pn S; omega))).trans (hnop i p (by omega)))
      · refine aw_iconst C (v := (-1)) d_C_paper_51 (by decide) ?_
        refine aw_iret C E (rfl) (by decide) (by decide) d_C_paper_52 ?_
        exact hc.2.2.2.1.elim (fun q => absurd q h39) (fun q => absurd q h48)
  by_cases h1 : 0 ≤ a ∧ a ≤ 9
  · by_cases h2 : 0 ≤ b ∧ b ≤ 9
    · skip
      show AW X 5 0 0 ad ce 0 [(0, .ref (ad (0, 0, 0))), (1, .int (nI j)), (2, .int a), (3, .int b)] []
      refine aw_aload_n C d_C_paper_0 rfl (j := 0) rfl ?_
      refine aw_iload_n C d_C_paper_1 rfl (j := 1) rfl ?_
      refine aw_callV C I (k := (0, 0, 0)) (as := [.int (nI j)]) (rest := []) (c_findC_in l G ad ce S hL j hj) g_C_56 ho rfl rfl ⟨by decide, by decide⟩ ⟨by decide, by decide⟩ rfl (Nat.le_of_ble_eq_true rfl) d_C_paper_2 ?_
      rintro _ _ _ ⟨rfl, rfl, rfl⟩
      show AW X 5 0 0 ad ce 5 [(0, .ref (ad (0, 0, 0))), (1, .int (nI j)), (2, .int a), (3, .int b)] [.ref (ad (1, j, 0))]
      have hK := hcars j hj
      have hK0 := hK
      obtain ⟨hk, hby, hdu, hwo, hrd, hpt, ⟨hn1, hn2⟩, hps⟩ := hK0
      refine aw_astore C (lv' := [(4, .ref (ad (1, j, 0))), (0, .ref (ad (0, 0, 0))), (1, .int (nI j)), (2, .int a), (3, .int b)]) d_C_paper_5 (by decide) rfl ?_
      refine aw_aload C d_C_paper_7 (j := 0) rfl ?_
      refine aw_ifnull C d_C_paper_9 ?_
      refine aw_iload_n C d_C_paper_12 rfl (j := 3) rfl ?_
      refine aw_callS C I (as := [.int a]) (rest := []) (c_isPerson l G ad ce a) g_C_63 ⟨by decide, by decide⟩ ⟨by decide, by decide⟩ rfl (Nat.le_of_ble_eq_true rfl) d_C_paper_13 ?_
      rintro _ _ _ ⟨rfl, rfl, rfl⟩
      show AW X 5 0 0 ad ce 16 [(4, .ref (ad (1, j, 0))), (0, .ref (ad (0, 0, 0))), (1, .int (nI j)), (2, .int a), (3, .int b)] [.int (bI (decide (0 ≤ a ∧ a ≤ 9)))]
      refine aw_topi (v' := 1) ((bI_t h1).symm) ?_
      show AW X 5 0 0 ad ce 16 [(4, .ref (ad (1, j, 0))), (0, .ref (ad (0, 0, 0))), (1, .int (nI j)), (2, .int a), (3, .int b)] [.int 1]
      refine aw_if_eq C (tgt := 31) d_C_paper_16 (by decide) (fun h16 => absurd h16 (by decide)) (fun h16 => ?_)
      refine aw_iload_n C d_C_paper_19 rfl (j := 4) rfl ?_
      refine aw_callS C I (as := [.int b]) (rest := []) (c_isPerson l G ad ce b) g_C_63 ⟨by decide, by decide⟩ ⟨by decide, by decide⟩ rfl (Nat.le_of_ble_eq_true rfl) d_C_paper_20 ?_
      rintro _ _ _ ⟨rfl, rfl, rfl⟩
      show AW X 5 0 0 ad ce 23 [(4, .ref (ad (1, j, 0))), (0, .ref (ad (0, 0, 0))), (1, .int (nI j)), (2, .int a), (3, .int b)] [.int (bI (decide (0 ≤ b ∧ b ≤ 9)))]
      refine aw_topi (v' := 1) ((bI_t h2).symm) ?_
      show AW X 5 0 0 ad ce 23 [(4, .ref (ad (1, j, 0))), (0, .ref (ad (0, 0, 0))), (1, .int (nI j)), (2, .int a), (3, .int b)] [.int 1]
      refine aw_if_eq C (tgt := 31) d_C_paper_23 (by decide) (fun h23 => absurd h23 (by decide)) (fun h23 => ?_)
      refine aw_iload_n C d_C_paper_26 rfl (j := 3) rfl ?_
      refine aw_iload_n C d_C_paper_27 rfl (j := 4) rfl ?_
      refine aw_icmp_ne C (tgt := 33) d_C_paper_28 (by decide) (fun h28 => ?_) (fun h28 => ?_)
      · refine aw_aload C d_C_paper_33 (j := 0) rfl ?_
        refine aw_get C F_K hk 10 (by decide) tw_89 rfl d_C_paper_35 ?_
        refine aw_iconst C (v := 3) d_C_paper_38 (by decide) ?_
        refine aw_icmp_eq C (tgt := 53) d_C_paper_39 (by decide) (fun h39 => ?_) (fun h39 => ?_)
        · refine aw_aload_n C d_C_paper_53 rfl (j := 1) rfl ?_
          refine aw_get C F_C ho 3 (by decide) tw_22 rfl d_C_paper_54 ?_
          refine aw_aload_n C d_C_paper_57 rfl (j := 1) rfl ?_
          refine aw_get C F_C ho 2 (by decide) tw_21 rfl d_C_paper_58 ?_
          refine ar_lenQ C hpa rfl d_C_paper_61 ?_
          refine aw_icmp_lt C (tgt := 67) d_C_paper_62 (by decide) (fun h62 => ?_) (fun h62 => ?_)
          · exact absurd (by
              refine ⟨h1, h2, h28, ?_, ?_⟩
              · first | exact Or.inl h39 | exact Or.inr h48
              · rcases Nat.lt_or_ge (s_pn S) 20 with q | q
                · exact q
                · exact absurd h62 (nI_nlt (by omega) (by omega))) hc
          · refine aw_iconst C (v := (-1)) d_C_paper_65 (by decide) ?_
            refine aw_iret C E (rfl) (by decide) (by decide) d_C_paper_66 ?_
            rw [show f_paper S (nI j) a b = (-1, S) from by simp only [f_paper, ix_in hj (show s_cn S < 2 ^ 31 by omega), if_neg hc]]
            exact rC.of hL ⟨rfl, rfl, rfl⟩
        · refine aw_aload C d_C_paper_42 (j := 0) rfl ?_
          refine aw_get C F_K hk 10 (by decide) tw_89 rfl d_C_paper_44 ?_
          refine aw_iconst C (v := 5) d_C_paper_47 (by decide) ?_
          refine aw_icmp_eq C (tgt := 53) d_C_paper_48 (by decide) (fun h48 => ?_) (fun h48 => ?_)
          · refine aw_aload_n C d_C_paper_53 rfl (j := 1) rfl ?_
            refine aw_get C F_C ho 3 (by decide) tw_22 rfl d_C_paper_54 ?_
            refine aw_aload_n C d_C_paper_57 rfl (j := 1) rfl ?_
            refine aw_get C F_C ho 2 (by decide) tw_21 rfl d_C_paper_58 ?_
            refine ar_lenQ C hpa rfl d_C_paper_61 ?_
            refine aw_icmp_lt C (tgt := 67) d_C_paper_62 (by decide) (fun h62 => ?_) (fun h62 => ?_)
            · exact absurd (by
                refine ⟨h1, h2, h28, ?_, ?_⟩
                · first | exact Or.inl h39 | exact Or.inr h48
                · rcases Nat.lt_or_ge (s_pn S) 20 with q | q
                  · exact q
                  · exact absurd h62 (nI_nlt (by omega) (by omega))) hc
            · refine aw_iconst C (v := (-1)) d_C_paper_65 (by decide) ?_
              refine aw_iret C E (rfl) (by decide) (by decide) d_C_paper_66 ?_
              rw [show f_paper S (nI j) a b = (-1, S) from by simp only [f_paper, ix_in hj (show s_cn S < 2 ^ 31 by omega), if_neg hc]]
              exact rC.of hL ⟨rfl, rfl, rfl⟩
          · refine aw_iconst C (v := (-1)) d_C_paper_51 (by decide) ?_
            refine aw_iret C E (rfl) (by decide) (by decide) d_C_paper_52 ?_
            rw [show f_paper S (nI j) a b = (-1, S) from by simp only [f_paper, ix_in hj (show s_cn S < 2 ^ 31 by omega), if_neg hc]]
            exact rC.of hL ⟨rfl, rfl, rfl⟩
      · refine aw_iconst C (v := (-1)) d_C_paper_31 (by decide) ?_
        refine aw_iret C E (rfl) (by decide) (by decide) d_C_paper_32 ?_
        rw [show f_paper S (nI j) a b = (-1, S) from by simp only [f_paper, ix_in hj (show s_cn S < 2 ^ 31 by omega), if_neg hc]]
        exact rC.of hL ⟨rfl, rfl, rfl⟩
    · skip
      show AW X 5 0 0 ad ce 0 [(0, .ref (ad (0, 0, 0))), (1, .int (nI j)), (2, .int a), (3, .int b)] []
      refine aw_aload_n C d_C_paper_0 rfl (j := 0) rfl ?_
      refine aw_iload_n C d_C_paper_1 rfl (j := 1) rfl ?_
      refine aw_callV C I (k := (0, 0, 0)) (as := [.int (nI j)]) (rest := []) (c_findC_in l G ad ce S hL j hj) g_C_56 ho rfl rfl ⟨by decide, by decide⟩ ⟨by decide, by decide⟩ rfl (Nat.le_of_ble_eq_true rfl) d_C_paper_2 ?_
      rintro _ _ _ ⟨rfl, rfl, rfl⟩
      show AW X 5 0 0 ad ce 5 [(0, .ref (ad (0, 0, 0))), (1, .int (nI j)), (2, .int a), (3, .int b)] [.ref (ad (1, j, 0))]
      have hK := hcars j hj
      have hK0 := hK
      obtain ⟨hk, hby, hdu, hwo, hrd, hpt, ⟨hn1, hn2⟩, hps⟩ := hK0
      refine aw_astore C (lv' := [(4, .ref (ad (1, j, 0))), (0, .ref (ad (0, 0, 0))), (1, .int (nI j)), (2, .int a), (3, .int b)]) d_C_paper_5 (by decide) rfl ?_
      refine aw_aload C d_C_paper_7 (j := 0) rfl ?_
      refine aw_ifnull C d_C_paper_9 ?_
      refine aw_iload_n C d_C_paper_12 rfl (j := 3) rfl ?_
      refine aw_callS C I (as := [.int a]) (rest := []) (c_isPerson l G ad ce a) g_C_63 ⟨by decide, by decide⟩ ⟨by decide, by decide⟩ rfl (Nat.le_of_ble_eq_true rfl) d_C_paper_13 ?_
      rintro _ _ _ ⟨rfl, rfl, rfl⟩
      show AW X 5 0 0 ad ce 16 [(4, .ref (ad (1, j, 0))), (0, .ref (ad (0, 0, 0))), (1, .int (nI j)), (2, .int a), (3, .int b)] [.int (bI (decide (0 ≤ a ∧ a ≤ 9)))]
      refine aw_topi (v' := 1) ((bI_t h1).symm) ?_
      show AW X 5 0 0 ad ce 16 [(4, .ref (ad (1, j, 0))), (0, .ref (ad (0, 0, 0))), (1, .int (nI j)), (2, .int a), (3, .int b)] [.int 1]
      refine aw_if_eq C (tgt := 31) d_C_paper_16 (by decide) (fun h16 => absurd h16 (by decide)) (fun h16 => ?_)
      refine aw_iload_n C d_C_paper_19 rfl (j := 4) rfl ?_
      refine aw_callS C I (as := [.int b]) (rest := []) (c_isPerson l G ad ce b) g_C_63 ⟨by decide, by decide⟩ ⟨by decide, by decide⟩ rfl (Nat.le_of_ble_eq_true rfl) d_C_paper_20 ?_
      rintro _ _ _ ⟨rfl, rfl, rfl⟩
      show AW X 5 0 0 ad ce 23 [(4, .ref (ad (1, j, 0))), (0, .ref (ad (0, 0, 0))), (1, .int (nI j)), (2, .int a), (3, .int b)] [.int (bI (decide (0 ≤ b ∧ b ≤ 9)))]
      refine aw_topi (v' := 0) ((bI_f h2).symm) ?_
      show AW X 5 0 0 ad ce 23 [(4, .ref (ad (1, j, 0))), (0, .ref (ad (0, 0, 0))), (1, .int (nI j)), (2, .int a), (3, .int b)] [.int 0]
      refine aw_if_eq C (tgt := 31) d_C_paper_23 (by decide) (fun h23 => ?_) (fun h23 => absurd (rfl) h23)
      refine aw_iconst C (v := (-1)) d_C_paper_31 (by decide) ?_
      refine aw_iret C E (rfl) (by decide) (by decide) d_C_paper_32 ?_
      rw [show f_paper S (nI j) a b = (-1, S) from by simp only [f_paper, ix_in hj (show s_cn S < 2 ^ 31 by omega), if_neg hc]]
      exact rC.of hL ⟨rfl, rfl, rfl⟩
  · skip
    show AW X 5 0 0 ad ce 0 [(0, .ref (ad (0, 0, 0))), (1, .int (nI j)), (2, .int a), (3, .int b)] []
    refine aw_aload_n C d_C_paper_0 rfl (j := 0) rfl ?_
    refine aw_iload_n C d_C_paper_1 rfl (j := 1) rfl ?_
    refine aw_callV C I (k := (0, 0, 0)) (as := [.int (nI j)]) (rest := []) (c_findC_in l G ad ce S hL j hj) g_C_56 ho rfl rfl ⟨by decide, by decide⟩ ⟨by decide, by decide⟩ rfl (Nat.le_of_ble_eq_true rfl) d_C_paper_2 ?_
    rintro _ _ _ ⟨rfl, rfl, rfl⟩
    show AW X 5 0 0 ad ce 5 [(0, .ref (ad (0, 0, 0))), (1, .int (nI j)), (2, .int a), (3, .int b)] [.ref (ad (1, j, 0))]
    have hK := hcars j hj
    have hK0 := hK
    obtain ⟨hk, hby, hdu, hwo, hrd, hpt, ⟨hn1, hn2⟩, hps⟩ := hK0
    refine aw_astore C (lv' := [(4, .ref (ad (1, j, 0))), (0, .ref (ad (0, 0, 0))), (1, .int (nI j)), (2, .int a), (3, .int b)]) d_C_paper_5 (by decide) rfl ?_
    refine aw_aload C d_C_paper_7 (j := 0) rfl ?_
    refine aw_ifnull C d_C_paper_9 ?_
    refine aw_iload_n C d_C_paper_12 rfl (j := 3) rfl ?_
    refine aw_callS C I (as := [.int a]) (rest := []) (c_isPerson l G ad ce a) g_C_63 ⟨by decide, by decide⟩ ⟨by decide, by decide⟩ rfl (Nat.le_of_ble_eq_true rfl) d_C_paper_13 ?_
    rintro _ _ _ ⟨rfl, rfl, rfl⟩
    show AW X 5 0 0 ad ce 16 [(4, .ref (ad (1, j, 0))), (0, .ref (ad (0, 0, 0))), (1, .int (nI j)), (2, .int a), (3, .int b)] [.int (bI (decide (0 ≤ a ∧ a ≤ 9)))]
    refine aw_topi (v' := 0) ((bI_f h1).symm) ?_
    show AW X 5 0 0 ad ce 16 [(4, .ref (ad (1, j, 0))), (0, .ref (ad (0, 0, 0))), (1, .int (nI j)), (2, .int a), (3, .int b)] [.int 0]
    refine aw_if_eq C (tgt := 31) d_C_paper_16 (by decide) (fun h16 => ?_) (fun h16 => absurd (rfl) h16)
    refine aw_iconst C (v := (-1)) d_C_paper_31 (by decide) ?_
    refine aw_iret C E (rfl) (by decide) (by decide) d_C_paper_32 ?_
    rw [show f_paper S (nI j) a b = (-1, S) from by simp only [f_paper, ix_in hj (show s_cn S < 2 ^ 31 by omega), if_neg hc]]
    exact rC.of hL ⟨rfl, rfl, rfl⟩
set_option maxRecDepth 100000 in
set_option maxHeartbeats 4000000 in
theorem C_missing (l : Launch) (G : aw_G) (ad : aw_Ad) (ce : aw_He) (S : SysS) (hL : LayC S ad ce) (k : Int32) : CT l G M_C_missing 2 45 0 0 [.ref (ad (0, 0, 0)), .int k] ad ce (rN (some (.int (f_missing S k))) ad ce) := by
  refine CT.of (by decide) (Nat.le_of_ble_eq_true rfl) ?_
  intro X C I E
  have hL0 := hL
  obtain ⟨ho, hca, hpa, hli, hlo, hcars, hpaps, hnoc, hnop, hb1, hb2, hb3, hb4⟩ := hL0
  have loop : ∀ (m a : Nat) (s : Int32), a + m = s_ln S → kth (fun i => if hasC S (s_li S i) = true then 0 else 1) k m a s = f_missing S k → AW X 4 0 0 ad ce 4 [(3, .int (nI a)), (2, .int s), (0, .ref (ad (0, 0, 0))), (1, .int k)] [] := by
    intro m
    induction m with
    | zero =>
      intro a s ha hr
      refine aw_iload_n C d_C_missing_4 rfl (j := 0) rfl ?_
      refine aw_aload_n C d_C_missing_5 rfl (j := 2) rfl ?_
      refine aw_get C F_C ho 5 (by decide) tw_24 rfl d_C_missing_6 ?_
      refine aw_icmp_ge C (tgt := 50) d_C_missing_9 (by decide) (fun h9 => ?_) (fun h9 => absurd (nI_le (by omega) (by omega)) h9)
      refine aw_iconst C (v := (-1)) d_C_missing_50 (by decide) ?_
      refine aw_iret C E (rfl) (by decide) (by decide) d_C_missing_51 ?_
      exact ⟨sI hr, rfl, rfl⟩
    | succ m ih =>
      intro a s ha hr
      simp only [kth] at hr
      refine aw_iload_n C d_C_missing_4 rfl (j := 0) rfl ?_
      refine aw_aload_n C d_C_missing_5 rfl (j := 2) rfl ?_
      refine aw_get C F_C ho 5 (by decide) tw_24 rfl d_C_missing_6 ?_
      refine aw_icmp_ge C (tgt := 50) d_C_missing_9 (by decide) (fun h9 => absurd h9 (nI_ge (by omega) (by omega))) (fun h9 => ?_)
      refine aw_iload_n C d_C_missing_12 rfl (j := 0) rfl ?_
      refine aw_aload_n C d_C_missing_13 rfl (j := 2) rfl ?_
      refine aw_get C F_C ho 4 (by decide) tw_23 rfl d_C_missing_14 ?_
      refine ar_lenJ C hli d_C_missing_17 ?_
      refine aw_icmp_ge C (tgt := 50) d_C_missing_18 (by decide) (fun h18 => absurd h18 (nI_ge (by omega) (by omega))) (fun h18 => ?_)
      refine aw_aload_n C d_C_missing_21 rfl (j := 2) rfl ?_
      refine aw_aload_n C d_C_missing_22 rfl (j := 2) rfl ?_
      refine aw_get C F_C ho 4 (by decide) tw_23 rfl d_C_missing_23 ?_
      refine aw_iload_n C d_C_missing_26 rfl (j := 0) rfl ?_
      refine ar_lald C hli (j := a) (rfl) (by omega) (by omega) d_C_missing_27 ?_
      refine aw_callV C I (k := (0, 0, 0)) (as := [.long ((s_li S) a)]) (rest := []) (c_hasSerial l G ad ce S hL (s_li S a)) g_C_50 ho rfl rfl ⟨by decide, by decide⟩ ⟨by decide, by decide⟩ rfl (Nat.le_of_ble_eq_true rfl) d_C_missing_28 ?_
      rintro _ _ _ ⟨rfl, rfl, rfl⟩
      show AW X 4 0 0 ad ce 31 [(3, .int (nI a)), (2, .int s), (0, .ref (ad (0, 0, 0))), (1, .int k)] [.int (bI (hasC S (s_li S a)))]
      refine aw_if_ne C (tgt := 44) d_C_missing_31 (by decide) (fun h31 => ?_) (fun h31 => ?_)
      · refine aw_iinc C (v := nI (a + 1)) (lv' := [(3, .int (nI (a + 1))), (2, .int s), (0, .ref (ad (0, 0, 0))), (1, .int k)]) d_C_missing_44 (j := 0) rfl (nI_1 _) (by decide) rfl ?_
        refine aw_goto C (tgt := 4) d_C_missing_47 (by decide) ?_
        refine aw_sub (lv' := [(3, .int (nI (a + 1))), (2, .int s), (0, .ref (ad (0, 0, 0))), (1, .int k)]) (by simp) ?_
        rw [bI_ne] at h31
        rw [if_pos (by show (if _ = true then (0 : Int32) else 1) = 0; rw [if_pos h31])] at hr
        exact ih (a + 1) s (by omega) hr
      · refine aw_iload_n C d_C_missing_34 rfl (j := 1) rfl ?_
        refine aw_iload_n C d_C_missing_35 rfl (j := 3) rfl ?_
        refine aw_icmp_ne C (tgt := 41) d_C_missing_36 (by decide) (fun h36 => ?_) (fun h36 => ?_)
        · refine aw_iinc C (v := s + 1) (lv' := [(2, .int (s + 1)), (3, .int (nI a)), (0, .ref (ad (0, 0, 0))), (1, .int k)]) d_C_missing_41 (j := 1) rfl (rfl) (by decide) rfl ?_
          refine aw_iinc C (v := nI (a + 1)) (lv' := [(3, .int (nI (a + 1))), (2, .int (s + 1)), (0, .ref (ad (0, 0, 0))), (1, .int k)]) d_C_missing_44 (j := 1) rfl (nI_1 _) (by decide) rfl ?_
          refine aw_goto C (tgt := 4) d_C_missing_47 (by decide) ?_
          refine aw_sub (lv' := [(3, .int (nI (a + 1))), (2, .int (s + 1)), (0, .ref (ad (0, 0, 0))), (1, .int k)]) (by simp) ?_
          rw [bI_eq] at h31
          rw [if_neg (by show ¬ (if _ = true then (0 : Int32) else 1) = 0; rw [if_neg (by rw [h31]; decide)]; decide), if_neg h36] at hr
          exact ih (a + 1) (s + 1) (by omega) hr
        · refine aw_iload_n C d_C_missing_39 rfl (j := 0) rfl ?_
          refine aw_iret C E (rfl) (by decide) (by decide) d_C_missing_40 ?_
          rw [bI_eq] at h31
          rw [if_neg (by show ¬ (if _ = true then (0 : Int32) else 1) = 0; rw [if_neg (by rw [h31]; decide)]; decide), if_pos h36] at hr
          exact ⟨sI hr, rfl, rfl⟩
  show AW X 4 0 0 ad ce 0 [(0, .ref (ad (0, 0, 0))), (1, .int k)] []
  refine aw_iconst C (v := 0) d_C_missing_0 (by decide) ?_
  refine aw_istore_n C (lv' := [(2, .int 0), (0, .ref (ad (0, 0, 0))), (1, .int k)]) d_C_missing_1 rfl (by decide) rfl ?_
  refine aw_iconst C (v := 0) d_C_missing_2 (by decide) ?_
  refine aw_istore_n C (lv' := [(3, .int 0), (2, .int 0), (0, .ref (ad (0, 0, 0))), (1, .int k)]) d_C_missing_3 rfl (by decide) rfl ?_
  refine aw_lv (lv' := [(3, .int (nI 0)), (2, .int 0), (0, .ref (ad (0, 0, 0))), (1, .int k)]) (by simp only [nI_0]) ?_
  exact loop (s_ln S) 0 0 (by omega) rfl
set_option maxRecDepth 100000 in
set_option maxHeartbeats 4000000 in
theorem C_extra (l : Launch) (G : aw_G) (ad : aw_Ad) (ce : aw_He) (S : SysS) (hL : LayC S ad ce) (k : Int32) : CT l G M_C_extra 1 23 0 0 [.ref (ad (0, 0, 0)), .int k] ad ce (rN (some (.int (f_extra S k))) ad ce) := by
  refine CT.of (by decide) (Nat.le_of_ble_eq_true rfl) ?_
  intro X C I E
  have hL0 := hL
  obtain ⟨ho, hca, hpa, hli, hlo, hcars, hpaps, hnoc, hnop, hb1, hb2, hb3, hb4⟩ := hL0
  have loop : ∀ (m a : Nat) (s : Int32), a + m = s_cn S → kth (fun i => if hasL S (k_sr (s_car S i)) = true then 0 else 1) k m a s = f_extra S k → AW X 5 0 0 ad ce 4 [(3, .int (nI a)), (2, .int s), (0, .ref (ad (0, 0, 0))), (1, .int k)] [] := by
    intro m
    induction m with
    | zero =>
      intro a s ha hr
      refine aw_iload_n C d_C_extra_4 rfl (j := 0) rfl ?_
      refine aw_aload_n C d_C_extra_5 rfl (j := 2) rfl ?_
      refine aw_get C F_C ho 1 (by decide) tw_20 rfl d_C_extra_6 ?_
      refine aw_icmp_ge C (tgt := 52) d_C_extra_9 (by decide) (fun h9 => ?_) (fun h9 => absurd (nI_le (by omega) (by omega)) h9)
      refine aw_iconst C (v := (-1)) d_C_extra_52 (by decide) ?_
      refine aw_iret C E (rfl) (by decide) (by decide) d_C_extra_53 ?_
      exact ⟨sI hr, rfl, rfl⟩
    | succ m ih =>
      intro a s ha hr
      simp only [kth] at hr
      refine aw_iload_n C d_C_extra_4 rfl (j := 0) rfl ?_
      refine aw_aload_n C d_C_extra_5 rfl (j := 2) rfl ?_
      refine aw_get C F_C ho 1 (by decide) tw_20 rfl d_C_extra_6 ?_
      refine aw_icmp_ge C (tgt := 52) d_C_extra_9 (by decide) (fun h9 => absurd h9 (nI_ge (by omega) (by omega))) (fun h9 => ?_)
      refine aw_aload_n C d_C_extra_12 rfl (j := 2) rfl ?_
      refine aw_iload_n C d_C_extra_13 rfl (j := 0) rfl ?_
      refine aw_callV C I (k := (0, 0, 0)) (as := [.int (nI a)]) (rest := []) (c_findC_in l G ad ce S hL a (by omega)) g_C_56 ho rfl rfl ⟨by decide, by decide⟩ ⟨by decide, by decide⟩ rfl (Nat.le_of_ble_eq_true rfl) d_C_extra_14 ?_
      rintro _ _ _ ⟨rfl, rfl, rfl⟩
      show AW X 5 0 0 ad ce 17 [(3, .int (nI a)), (2, .int s), (0, .ref (ad (0, 0, 0))), (1, .int k)] [.ref (ad (1, a, 0))]
      have hka := (hcars a (by omega)).1
      refine aw_astore C (lv' := [(4, .ref (ad (1, a, 0))), (3, .int (nI a)), (2, .int s), (0, .ref (ad (0, 0, 0))), (1, .int k)]) d_C_extra_17 (by decide) rfl ?_
      refine aw_aload C d_C_extra_19 (j := 0) rfl ?_
      refine aw_ifnull C d_C_extra_21 ?_
      refine aw_aload_n C d_C_extra_24 rfl (j := 3) rfl ?_
      refine aw_aload C d_C_extra_25 (j := 0) rfl ?_
      refine aw_get C F_K hka 1 (by decide) tw_74 rfl d_C_extra_27 ?_
      refine aw_callV C I (k := (0, 0, 0)) (as := [.long (k_sr (s_car S a))]) (rest := []) (c_listHas l G ad ce S hL (k_sr (s_car S a))) g_C_136 ho rfl rfl ⟨by decide, by decide⟩ ⟨by decide, by decide⟩ rfl (Nat.le_of_ble_eq_true rfl) d_C_extra_30 ?_
      rintro _ _ _ ⟨rfl, rfl, rfl⟩
      show AW X 5 0 0 ad ce 33 [(4, .ref (ad (1, a, 0))), (3, .int (nI a)), (2, .int s), (0, .ref (ad (0, 0, 0))), (1, .int k)] [.int (bI (hasL S (k_sr (s_car S a))))]
      refine aw_if_ne C (tgt := 46) d_C_extra_33 (by decide) (fun h33 => ?_) (fun h33 => ?_)
      · refine aw_iinc C (v := nI (a + 1)) (lv' := [(3, .int (nI (a + 1))), (4, .ref (ad (1, a, 0))), (2, .int s), (0, .ref (ad (0, 0, 0))), (1, .int k)]) d_C_extra_46 (j := 1) rfl (nI_1 _) (by decide) rfl ?_
        refine aw_goto C (tgt := 4) d_C_extra_49 (by decide) ?_
        refine aw_sub (lv' := [(3, .int (nI (a + 1))), (2, .int s), (0, .ref (ad (0, 0, 0))), (1, .int k)]) (by simp) ?_
        rw [bI_ne] at h33
        rw [if_pos (by show (if _ = true then (0 : Int32) else 1) = 0; rw [if_pos h33])] at hr
        exact ih (a + 1) s (by omega) hr
      · refine aw_iload_n C d_C_extra_36 rfl (j := 2) rfl ?_
        refine aw_iload_n C d_C_extra_37 rfl (j := 4) rfl ?_
        refine aw_icmp_ne C (tgt := 43) d_C_extra_38 (by decide) (fun h38 => ?_) (fun h38 => ?_)
        · refine aw_iinc C (v := s + 1) (lv' := [(2, .int (s + 1)), (4, .ref (ad (1, a, 0))), (3, .int (nI a)), (0, .ref (ad (0, 0, 0))), (1, .int k)]) d_C_extra_43 (j := 2) rfl (rfl) (by decide) rfl ?_
          refine aw_iinc C (v := nI (a + 1)) (lv' := [(3, .int (nI (a + 1))), (2, .int (s + 1)), (4, .ref (ad (1, a, 0))), (0, .ref (ad (0, 0, 0))), (1, .int k)]) d_C_extra_46 (j := 2) rfl (nI_1 _) (by decide) rfl ?_
          refine aw_goto C (tgt := 4) d_C_extra_49 (by decide) ?_
          refine aw_sub (lv' := [(3, .int (nI (a + 1))), (2, .int (s + 1)), (0, .ref (ad (0, 0, 0))), (1, .int k)]) (by simp) ?_
          rw [bI_eq] at h33
          rw [if_neg (by show ¬ (if _ = true then (0 : Int32) else 1) = 0; rw [if_neg (by rw [h33]; decide)]; decide), if_neg h38] at hr
          exact ih (a + 1) (s + 1) (by omega) hr
        · refine aw_iload_n C d_C_extra_41 rfl (j := 1) rfl ?_
          refine aw_iret C E (rfl) (by decide) (by decide) d_C_extra_42 ?_
          rw [bI_eq] at h33
          rw [if_neg (by show ¬ (if _ = true then (0 : Int32) else 1) = 0; rw [if_neg (by rw [h33]; decide)]; decide), if_pos h38] at hr
          exact ⟨sI hr, rfl, rfl⟩
  show AW X 5 0 0 ad ce 0 [(0, .ref (ad (0, 0, 0))), (1, .int k)] []
  refine aw_iconst C (v := 0) d_C_extra_0 (by decide) ?_
  refine aw_istore_n C (lv' := [(2, .int 0), (0, .ref (ad (0, 0, 0))), (1, .int k)]) d_C_extra_1 rfl (by decide) rfl ?_
  refine aw_iconst C (v := 0) d_C_extra_2 (by decide) ?_
  refine aw_istore_n C (lv' := [(3, .int 0), (2, .int 0), (0, .ref (ad (0, 0, 0))), (1, .int k)]) d_C_extra_3 rfl (by decide) rfl ?_
  refine aw_lv (lv' := [(3, .int (nI 0)), (2, .int 0), (0, .ref (ad (0, 0, 0))), (1, .int k)]) (by simp only [nI_0]) ?_
  exact loop (s_cn S) 0 0 (by omega) rfl
end
section
/-! the reference's cells -/
def LRc (ad : aw_Ad) (ce : aw_He) (cn pn ln on : Nat) (kd : Nat → Int32) (sr : Nat → Int64) (np st la gby gdu gwo grd un ps gpt gff gfc : Nat → Int32) (li : Nat → Int64) (lo : Nat → Int32) : Prop :=
  ce (3, 0, 0) = some (.inr (3, [.int (nI cn), .ref (ad (3, 0, 1)), .ref (ad (3, 0, 2)), .ref (ad (3, 0, 3)), .ref (ad (3, 0, 4)), .ref (ad (3, 0, 5)), .ref (ad (3, 0, 6)), .ref (ad (3, 0, 7)), .ref (ad (3, 0, 8)), .ref (ad (3, 0, 9)), .ref (ad (3, 0, 10)), .ref (ad (3, 0, 11)), .ref (ad (3, 0, 12)), .int (nI pn), .ref (ad (3, 0, 14)), .ref (ad (3, 0, 15)), .int (nI ln), .ref (ad (3, 0, 17)), .int (nI on), .ref (ad (3, 0, 19))])) ∧
  arI ce (3, 0, 1) 0 10 kd ∧
  arJ ce (3, 0, 2) 10 sr ∧
  arI ce (3, 0, 3) 0 10 np ∧
  arI ce (3, 0, 4) 0 10 st ∧
  arI ce (3, 0, 5) 0 10 la ∧
  arI ce (3, 0, 6) 0 640 gby ∧
  arI ce (3, 0, 7) 0 640 gdu ∧
  arI ce (3, 0, 8) 1 640 gwo ∧
  arI ce (3, 0, 9) 1 640 grd ∧
  arI ce (3, 0, 10) 0 10 un ∧
  arI ce (3, 0, 11) 0 10 ps ∧
  arI ce (3, 0, 12) 0 60 gpt ∧
  arI ce (3, 0, 14) 0 240 gff ∧
  arI ce (3, 0, 15) 0 20 gfc ∧
  arJ ce (3, 0, 17) 20 li ∧
  arI ce (3, 0, 19) 0 10 lo
def frR (ce ce' : aw_He) : Prop := ∀ q : aw_Lb, q.1 ≠ 3 → ce' q = ce q
theorem fr3 {p : Nat} {ce ce' : aw_He} (h : ∀ q, q ≠ (3, 0, p) → ce' q = ce q) : frR ce ce' := fun q hq => h q (fun e => by subst e; simp at hq)
theorem frR.trans {a b c : aw_He} (h1 : frR a b) (h2 : frR b c) : frR a c := fun q hq => (h2 q hq).trans (h1 q hq)
theorem frR.rf {a : aw_He} : frR a a := fun _ _ => rfl
/-- how the reference's numbers stand to the system's -/
def Rel (S : SysS) (kd : Nat → Int32) (sr : Nat → Int64) (np st la gby gdu gwo grd un ps gpt gff gfc : Nat → Int32) : Prop :=
  (∀ i, i < 10 → kd i = k_kd (s_car S i) ∧ sr i = k_sr (s_car S i) ∧ np i = nI (k_np (s_car S i)) ∧ st i = k_st (s_car S i) ∧ la i = k_la (s_car S i) ∧ un i = k_un (s_car S i) ∧ ps i = nI (k_ps (s_car S i))) ∧
  (∀ i k, i < s_cn S → k < k_np (s_car S i) → gby (64 * i + k) = k_by (s_car S i) k ∧ gdu (64 * i + k) = k_du (s_car S i) k ∧ gwo (64 * i + k) = k_wo (s_car S i) k ∧ grd (64 * i + k) = k_rd (s_car S i) k) ∧
  (∀ i k, s_cn S ≤ i → i < 10 → k < 64 → gby (64 * i + k) = 0 ∧ gdu (64 * i + k) = 0 ∧ gwo (64 * i + k) = 0 ∧ grd (64 * i + k) = 0) ∧
  (∀ i k, i < s_cn S → k < k_ps (s_car S i) → gpt (6 * i + k) = k_pt (s_car S i) k) ∧
  (∀ p k, p < s_pn S → k < (s_pap S p).1 → gff (12 * p + k) = (s_pap S p).2 k) ∧ (∀ p, p < s_pn S → gfc p = nI (s_pap S p).1) ∧
  (∀ i, s_cn S ≤ i → s_car S i = k_zero)
/-- what every system that comes about keeps -/
def WFS (S : SysS) : Prop := (s_cn S ≤ 10 ∧ s_pn S ≤ 20 ∧ s_ln S ≤ 20 ∧ s_on S ≤ 10) ∧ (∀ i, i < s_cn S → (1 ≤ k_np (s_car S i) ∧ k_np (s_car S i) ≤ 64) ∧ k_ps (s_car S i) ≤ 6) ∧ (∀ p, p < s_pn S → 6 ≤ (s_pap S p).1 ∧ (s_pap S p).1 ≤ 12)
def LayR (S : SysS) (ad : aw_Ad) (ce : aw_He) : Prop := ∃ (kd : Nat → Int32) (sr : Nat → Int64) (np st la gby gdu gwo grd un ps gpt gff gfc : Nat → Int32), LRc ad ce (s_cn S) (s_pn S) (s_ln S) (s_on S) kd sr np st la gby gdu gwo grd un ps gpt gff gfc (s_li S) (s_lo S) ∧ Rel S kd sr np st la gby gdu gwo grd un ps gpt gff gfc ∧ WFS S
theorem k64 (i k : Nat) : 64 * nI i + nI k = nI (64 * i + k) := by
  rw [show (64 : Int32) = nI 64 from rfl, pk_mul, nI_add]
theorem k6 (i k : Nat) : 6 * nI i + nI k = nI (6 * i + k) := by
  rw [show (6 : Int32) = nI 6 from rfl, pk_mul, nI_add]
theorem k12 (i k : Nat) : 12 * nI i + nI k = nI (12 * i + k) := by
  rw [show (12 : Int32) = nI 12 from rfl, pk_mul, nI_add]
theorem in32 {v lo hi : Int32} {L H : Int64} (hL : L.toInt = lo.toInt) (hH : H.toInt = hi.toInt) : (L ≤ v.toInt64 ∧ v.toInt64 ≤ H) ↔ (lo ≤ v ∧ v ≤ hi) := by
  simp only [Int64.le_iff_toInt_le, Int32.le_iff_toInt_le, Int32.toInt_toInt64, hL, hH]
/-- an answer, the reference's cells hold S' now -/
def rR (v : Option Value) (S' : SysS) (ad : aw_Ad) (ce : aw_He) : Option Value → aw_Ad → aw_He → Prop := fun r ad' ce' => r = v ∧ ad = ad' ∧ frR ce ce' ∧ LayR S' ad ce'
set_option maxRecDepth 100000 in
set_option maxHeartbeats 4000000 in
theorem r_isIn (l : Launch) (G : aw_G) (ad : aw_Ad) (ce : aw_He) (x a b : Int64) : CT l G M_R_isIn 0 0 0 0 [.long x, .long a, .long b] ad ce (rN (some (.int (bI (decide (a ≤ x ∧ x ≤ b))))) ad ce) := by
  refine CT.of (by decide) (Nat.le_of_ble_eq_true rfl) ?_
  intro X C I E
  show AW X 6 0 0 ad ce 0 [(0, .long x), (2, .long a), (4, .long b)] []
  refine aw_lload_n C d_R_isIn_0 rfl (j := 0) rfl ?_
  refine aw_lload_n C d_R_isIn_1 rfl (j := 1) rfl ?_
  refine aw_lcmp C d_R_isIn_2 ?_
  refine aw_if_lt C (tgt := 17) d_R_isIn_3 (by decide) (fun h3 => ?_) (fun h3 => ?_)
  · refine aw_iconst C (v := 0) d_R_isIn_17 (by decide) ?_
    refine aw_iret C E (rfl) (by decide) (by decide) d_R_isIn_18 ?_
    exact ⟨sI (bI_f (by (try simp only [lg_cmp_lt, lg_cmp_gt, lg_cmp_ge, lg_cmp_le, Int64.le_iff_toInt_le, Int64.lt_iff_toInt_lt] at *); omega)), rfl, rfl⟩
  · refine aw_lload_n C d_R_isIn_6 rfl (j := 0) rfl ?_
    refine aw_lload C d_R_isIn_7 (j := 2) rfl ?_
    refine aw_lcmp C d_R_isIn_9 ?_
    refine aw_if_gt C (tgt := 17) d_R_isIn_10 (by decide) (fun h10 => ?_) (fun h10 => ?_)
    · refine aw_iconst C (v := 0) d_R_isIn_17 (by decide) ?_
      refine aw_iret C E (rfl) (by decide) (by decide) d_R_isIn_18 ?_
      exact ⟨sI (bI_f (by (try simp only [lg_cmp_lt, lg_cmp_gt, lg_cmp_ge, lg_cmp_le, Int64.le_iff_toInt_le, Int64.lt_iff_toInt_lt] at *); omega)), rfl, rfl⟩
    · refine aw_iconst C (v := 1) d_R_isIn_13 (by decide) ?_
      refine aw_goto C (tgt := 18) d_R_isIn_14 (by decide) ?_
      refine aw_iret C E (rfl) (by decide) (by decide) d_R_isIn_18 ?_
      exact ⟨sI (bI_t (by (try simp only [lg_cmp_lt, lg_cmp_gt, lg_cmp_ge, lg_cmp_le, Int64.le_iff_toInt_le, Int64.lt_iff_toInt_lt] at *); omega)), rfl, rfl⟩
set_option maxRecDepth 100000 in
set_option maxHeartbeats 4000000 in
theorem r_isCarrier (l : Launch) (G : aw_G) (ad : aw_Ad) (ce : aw_He) (cn pn ln on : Nat) (kd : Nat → Int32) (sr : Nat → Int64) (np st la gby gdu gwo grd un ps gpt gff gfc : Nat → Int32) (li : Nat → Int64) (lo : Nat → Int32) (hR : LRc ad ce cn pn ln on kd sr np st la gby gdu gwo grd un ps gpt gff gfc li lo) (x : Int32) : CT l G M_R_isCarrier 0 0 0 0 [.ref (ad (3, 0, 0)), .int x] ad ce (rN (some (.int (bI (decide (0 ≤ x ∧ x < nI cn))))) ad ce) := by
  refine CT.of (by decide) (Nat.le_of_ble_eq_true rfl) ?_
  intro X C I E
  obtain ⟨r0, r1, r2, r3, r4, r5, r6, r7, r8, r9, r10, r11, r12, r14, r15, r17, r19⟩ := hR
  show AW X 2 0 0 ad ce 0 [(0, .ref (ad (3, 0, 0))), (1, .int x)] []
  refine aw_iload_n C d_R_isCarrier_0 rfl (j := 1) rfl ?_
  refine aw_if_lt C (tgt := 16) d_R_isCarrier_1 (by decide) (fun h1 => ?_) (fun h1 => ?_)
  · refine aw_iconst C (v := 0) d_R_isCarrier_16 (by decide) ?_
    refine aw_iret C E (rfl) (by decide) (by decide) d_R_isCarrier_17 ?_
    exact ⟨sI (bI_f (by (try simp only [Int32.le_iff_toInt_le, Int32.lt_iff_toInt_lt] at *); omega)), rfl, rfl⟩
  · refine aw_iload_n C d_R_isCarrier_4 rfl (j := 1) rfl ?_
    refine aw_aload_n C d_R_isCarrier_5 rfl (j := 0) rfl ?_
    refine aw_get C F_R r0 0 (by decide) tw_299 rfl d_R_isCarrier_6 ?_
    refine aw_icmp_ge C (tgt := 16) d_R_isCarrier_9 (by decide) (fun h9 => ?_) (fun h9 => ?_)
    · refine aw_iconst C (v := 0) d_R_isCarrier_16 (by decide) ?_
      refine aw_iret C E (rfl) (by decide) (by decide) d_R_isCarrier_17 ?_
      exact ⟨sI (bI_f (by (try simp only [Int32.le_iff_toInt_le, Int32.lt_iff_toInt_lt] at *); omega)), rfl, rfl⟩
    · refine aw_iconst C (v := 1) d_R_isCarrier_12 (by decide) ?_
      refine aw_goto C (tgt := 17) d_R_isCarrier_13 (by decide) ?_
      refine aw_iret C E (rfl) (by decide) (by decide) d_R_isCarrier_17 ?_
      exact ⟨sI (bI_t (by (try simp only [Int32.le_iff_toInt_le, Int32.lt_iff_toInt_lt] at *); omega)), rfl, rfl⟩
set_option maxRecDepth 100000 in
set_option maxHeartbeats 4000000 in
theorem r_isPaper (l : Launch) (G : aw_G) (ad : aw_Ad) (ce : aw_He) (cn pn ln on : Nat) (kd : Nat → Int32) (sr : Nat → Int64) (np st la gby gdu gwo grd un ps gpt gff gfc : Nat → Int32) (li : Nat → Int64) (lo : Nat → Int32) (hR : LRc ad ce cn pn ln on kd sr np st la gby gdu gwo grd un ps gpt gff gfc li lo) (x : Int32) : CT l G M_R_isPaper 0 0 0 0 [.ref (ad (3, 0, 0)), .int x] ad ce (rN (some (.int (bI (decide (0 ≤ x ∧ x < nI pn))))) ad ce) := by
  refine CT.of (by decide) (Nat.le_of_ble_eq_true rfl) ?_
  intro X C I E
  obtain ⟨r0, r1, r2, r3, r4, r5, r6, r7, r8, r9, r10, r11, r12, r14, r15, r17, r19⟩ := hR
  show AW X 2 0 0 ad ce 0 [(0, .ref (ad (3, 0, 0))), (1, .int x)] []
  refine aw_iload_n C d_R_isPaper_0 rfl (j := 1) rfl ?_
  refine aw_if_lt C (tgt := 16) d_R_isPaper_1 (by decide) (fun h1 => ?_) (fun h1 => ?_)
  · refine aw_iconst C (v := 0) d_R_isPaper_16 (by decide) ?_
    refine aw_iret C E (rfl) (by decide) (by decide) d_R_isPaper_17 ?_
    exact ⟨sI (bI_f (by (try simp only [Int32.le_iff_toInt_le, Int32.lt_iff_toInt_lt] at *); omega)), rfl, rfl⟩
  · refine aw_iload_n C d_R_isPaper_4 rfl (j := 1) rfl ?_
    refine aw_aload_n C d_R_isPaper_5 rfl (j := 0) rfl ?_
    refine aw_get C F_R r0 13 (by decide) tw_312 rfl d_R_isPaper_6 ?_
    refine aw_icmp_ge C (tgt := 16) d_R_isPaper_9 (by decide) (fun h9 => ?_) (fun h9 => ?_)
    · refine aw_iconst C (v := 0) d_R_isPaper_16 (by decide) ?_
      refine aw_iret C E (rfl) (by decide) (by decide) d_R_isPaper_17 ?_
      exact ⟨sI (bI_f (by (try simp only [Int32.le_iff_toInt_le, Int32.lt_iff_toInt_lt] at *); omega)), rfl, rfl⟩
    · refine aw_iconst C (v := 1) d_R_isPaper_12 (by decide) ?_
      refine aw_goto C (tgt := 17) d_R_isPaper_13 (by decide) ?_
      refine aw_iret C E (rfl) (by decide) (by decide) d_R_isPaper_17 ?_
      exact ⟨sI (bI_t (by (try simp only [Int32.le_iff_toInt_le, Int32.lt_iff_toInt_lt] at *); omega)), rfl, rfl⟩
set_option maxRecDepth 100000 in
set_option maxHeartbeats 4000000 in
theorem r_isPlace_out (l : Launch) (G : aw_G) (ad : aw_Ad) (ce : aw_He) (cn pn ln on : Nat) (kd : Nat → Int32) (sr : Nat → Int64) (np st la gby gdu gwo grd un ps gpt gff gfc : Nat → Int32) (li : Nat → Int64) (lo : Nat → Int32) (hR : LRc ad ce cn pn ln on kd sr np st la gby gdu gwo grd un ps gpt gff gfc li lo) (x y : Int32) (hx : x < 0 ∨ nI cn ≤ x) : CT l G M_R_isPlace 1 21 0 0 [.ref (ad (3, 0, 0)), .int x, .int y] ad ce (rN (some (.int 0)) ad ce) := by
  refine CT.of (by decide) (Nat.le_of_ble_eq_true rfl) ?_
  intro X C I E
  have hR0 := hR
  obtain ⟨r0, r1, r2, r3, r4, r5, r6, r7, r8, r9, r10, r11, r12, r14, r15, r17, r19⟩ := hR0
  show AW X 3 0 0 ad ce 0 [(0, .ref (ad (3, 0, 0))), (1, .int x), (2, .int y)] []
  refine aw_aload_n C d_R_isPlace_0 rfl (j := 0) rfl ?_
  refine aw_iload_n C d_R_isPlace_1 rfl (j := 1) rfl ?_
  refine aw_callV C I (k := (3, 0, 0)) (as := [.int x]) (rest := []) (r_isCarrier l G ad ce cn pn ln on kd sr np st la gby gdu gwo grd un ps gpt gff gfc li lo hR x) g_R_64 r0 rfl rfl ⟨by decide, by decide⟩ ⟨by decide, by decide⟩ rfl (Nat.le_of_ble_eq_true rfl) d_R_isPlace_2 ?_
  rintro _ _ _ ⟨rfl, rfl, rfl⟩
  show AW X 3 0 0 ad ce 5 [(0, .ref (ad (3, 0, 0))), (1, .int x), (2, .int y)] [.int (bI (decide (0 ≤ x ∧ x < nI cn)))]
  refine aw_topi (v' := 0) ((bI_f (by (try simp only [Int32.le_iff_toInt_le, Int32.lt_iff_toInt_lt] at hx ⊢); omega)).symm) ?_
  show AW X 3 0 0 ad ce 5 [(0, .ref (ad (3, 0, 0))), (1, .int x), (2, .int y)] [.int 0]
  refine aw_if_eq C (tgt := 26) d_R_isPlace_5 (by decide) (fun h5 => ?_) (fun h5 => absurd (rfl) h5)
  refine aw_iconst C (v := 0) d_R_isPlace_26 (by decide) ?_
  refine aw_iret C E (rfl) (by decide) (by decide) d_R_isPlace_27 ?_
  exact ⟨rfl, rfl, rfl⟩
set_option maxRecDepth 100000 in
set_option maxHeartbeats 4000000 in
theorem r_isPlace (l : Launch) (G : aw_G) (ad : aw_Ad) (ce : aw_He) (cn pn ln on : Nat) (kd : Nat → Int32) (sr : Nat → Int64) (np st la gby gdu gwo grd un ps gpt gff gfc : Nat → Int32) (li : Nat → Int64) (lo : Nat → Int32) (hR : LRc ad ce cn pn ln on kd sr np st la gby gdu gwo grd un ps gpt gff gfc li lo) (j n : Nat) (hj : j < cn) (hc : cn ≤ 10) (hn : np j = nI n) (y : Int32) : CT l G M_R_isPlace 1 21 0 0 [.ref (ad (3, 0, 0)), .int (nI j), .int y] ad ce (rN (some (.int (bI (decide (0 ≤ y ∧ y < nI n))))) ad ce) := by
  refine CT.of (by decide) (Nat.le_of_ble_eq_true rfl) ?_
  intro X C I E
  have hR0 := hR
  obtain ⟨r0, r1, r2, r3, r4, r5, r6, r7, r8, r9, r10, r11, r12, r14, r15, r17, r19⟩ := hR0
  show AW X 3 0 0 ad ce 0 [(0, .ref (ad (3, 0, 0))), (1, .int (nI j)), (2, .int y)] []
  refine aw_aload_n C d_R_isPlace_0 rfl (j := 0) rfl ?_
  refine aw_iload_n C d_R_isPlace_1 rfl (j := 1) rfl ?_
  refine aw_callV C I (k := (3, 0, 0)) (as := [.int (nI j)]) (rest := []) (r_isCarrier l G ad ce cn pn ln on kd sr np st la gby gdu gwo grd un ps gpt gff gfc li lo hR (nI j)) g_R_64 r0 rfl rfl ⟨by decide, by decide⟩ ⟨by decide, by decide⟩ rfl (Nat.le_of_ble_eq_true rfl) d_R_isPlace_2 ?_
  rintro _ _ _ ⟨rfl, rfl, rfl⟩
  show AW X 3 0 0 ad ce 5 [(0, .ref (ad (3, 0, 0))), (1, .int (nI j)), (2, .int y)] [.int (bI (decide (0 ≤ (nI j) ∧ (nI j) < nI cn)))]
  refine aw_topi (v' := 1) ((bI_t ⟨nI_pos' (by omega), nI_lt (by omega) (by omega)⟩).symm) ?_
  show AW X 3 0 0 ad ce 5 [(0, .ref (ad (3, 0, 0))), (1, .int (nI j)), (2, .int y)] [.int 1]
  refine aw_if_eq C (tgt := 26) d_R_isPlace_5 (by decide) (fun h5 => absurd h5 (by decide)) (fun h5 => ?_)
  refine aw_iload_n C d_R_isPlace_8 rfl (j := 2) rfl ?_
  refine aw_if_lt C (tgt := 26) d_R_isPlace_9 (by decide) (fun h9 => ?_) (fun h9 => ?_)
  · refine aw_iconst C (v := 0) d_R_isPlace_26 (by decide) ?_
    refine aw_iret C E (rfl) (by decide) (by decide) d_R_isPlace_27 ?_
    exact ⟨sI (bI_f (by (try simp only [Int32.le_iff_toInt_le, Int32.lt_iff_toInt_lt] at *); omega)), rfl, rfl⟩
  · refine aw_iload_n C d_R_isPlace_12 rfl (j := 2) rfl ?_
    refine aw_aload_n C d_R_isPlace_13 rfl (j := 0) rfl ?_
    refine aw_get C F_R r0 3 (by decide) tw_302 rfl d_R_isPlace_14 ?_
    refine aw_iload_n C d_R_isPlace_17 rfl (j := 1) rfl ?_
    refine ar_iald C r3 (j := j) (rfl) (by omega) (by omega) d_R_isPlace_18 ?_
    refine aw_topi (v' := nI n) (hn) ?_
    refine aw_icmp_ge C (tgt := 26) d_R_isPlace_19 (by decide) (fun h19 => ?_) (fun h19 => ?_)
    · refine aw_iconst C (v := 0) d_R_isPlace_26 (by decide) ?_
      refine aw_iret C E (rfl) (by decide) (by decide) d_R_isPlace_27 ?_
      exact ⟨sI (bI_f (by (try simp only [Int32.le_iff_toInt_le, Int32.lt_iff_toInt_lt] at *); omega)), rfl, rfl⟩
    · refine aw_iconst C (v := 1) d_R_isPlace_22 (by decide) ?_
      refine aw_goto C (tgt := 27) d_R_isPlace_23 (by decide) ?_
      refine aw_iret C E (rfl) (by decide) (by decide) d_R_isPlace_27 ?_
      exact ⟨sI (bI_t (by (try simp only [Int32.le_iff_toInt_le, Int32.lt_iff_toInt_lt] at *); omega)), rfl, rfl⟩
set_option maxRecDepth 100000 in
set_option maxHeartbeats 4000000 in
theorem r_isGone (l : Launch) (G : aw_G) (ad : aw_Ad) (ce : aw_He) (cn pn ln on : Nat) (kd : Nat → Int32) (sr : Nat → Int64) (np st la gby gdu gwo grd un ps gpt gff gfc : Nat → Int32) (li : Nat → Int64) (lo : Nat → Int32) (hR : LRc ad ce cn pn ln on kd sr np st la gby gdu gwo grd un ps gpt gff gfc li lo) (j : Nat) (hj : j < 10) : CT l G M_R_isGone 0 0 0 0 [.ref (ad (3, 0, 0)), .int (nI j)] ad ce (rN (some (.int (bI (decide (st j = 5 ∨ st j = 6))))) ad ce) := by
  refine CT.of (by decide) (Nat.le_of_ble_eq_true rfl) ?_
  intro X C I E
  obtain ⟨r0, r1, r2, r3, r4, r5, r6, r7, r8, r9, r10, r11, r12, r14, r15, r17, r19⟩ := hR
  show AW X 2 0 0 ad ce 0 [(0, .ref (ad (3, 0, 0))), (1, .int (nI j))] []
  refine aw_aload_n C d_R_isGone_0 rfl (j := 0) rfl ?_
  refine aw_get C F_R r0 4 (by decide) tw_303 rfl d_R_isGone_1 ?_
  refine aw_iload_n C d_R_isGone_4 rfl (j := 1) rfl ?_
  refine ar_iald C r4 (j := j) (rfl) (by omega) (by omega) d_R_isGone_5 ?_
  refine aw_iconst C (v := 5) d_R_isGone_6 (by decide) ?_
  refine aw_icmp_eq C (tgt := 21) d_R_isGone_7 (by decide) (fun h7 => ?_) (fun h7 => ?_)
  · refine aw_iconst C (v := 1) d_R_isGone_21 (by decide) ?_
    refine aw_goto C (tgt := 26) d_R_isGone_22 (by decide) ?_
    refine aw_iret C E (rfl) (by decide) (by decide) d_R_isGone_26 ?_
    exact ⟨sI (bI_t (by simp [*])), rfl, rfl⟩
  · refine aw_aload_n C d_R_isGone_10 rfl (j := 0) rfl ?_
    refine aw_get C F_R r0 4 (by decide) tw_303 rfl d_R_isGone_11 ?_
    refine aw_iload_n C d_R_isGone_14 rfl (j := 1) rfl ?_
    refine ar_iald C r4 (j := j) (rfl) (by omega) (by omega) d_R_isGone_15 ?_
    refine aw_bipush C (v := 6) d_R_isGone_16 (by decide) ?_
    refine aw_icmp_ne C (tgt := 25) d_R_isGone_18 (by decide) (fun h18 => ?_) (fun h18 => ?_)
    · refine aw_iconst C (v := 0) d_R_isGone_25 (by decide) ?_
      refine aw_iret C E (rfl) (by decide) (by decide) d_R_isGone_26 ?_
      exact ⟨sI (bI_f (by simp [*])), rfl, rfl⟩
    · refine aw_iconst C (v := 1) d_R_isGone_21 (by decide) ?_
      refine aw_goto C (tgt := 26) d_R_isGone_22 (by decide) ?_
      refine aw_iret C E (rfl) (by decide) (by decide) d_R_isGone_26 ?_
      exact ⟨sI (bI_t (by simp [*])), rfl, rfl⟩
set_option maxRecDepth 100000 in
set_option maxHeartbeats 4000000 in
theorem r_leads (l : Launch) (G : aw_G) (ad : aw_Ad) (ce : aw_He) (x s : Int32) : CT l G M_R_leads 0 0 0 0 [.int x, .int s] ad ce (rN (some (.int (evTo x s))) ad ce) := by
  refine CT.of (by decide) (Nat.le_of_ble_eq_true rfl) ?_
  intro X C I E
  by_cases h0 : x = 0
  · subst h0
    show AW X 2 0 0 ad ce 0 [(0, .int 0), (1, .int s)] []
    refine aw_iload_n C d_R_leads_0 rfl (j := 0) rfl ?_
    refine aw_tableIn C (tgt := 36) d_R_leads_1 (by decide) (by decide) rfl (by decide) ?_
    refine aw_iload_n C d_R_leads_36 rfl (j := 1) rfl ?_
    refine aw_if_ne C (tgt := 44) d_R_leads_37 (by decide) (fun h37 => ?_) (fun h37 => ?_)
    · refine aw_iconst C (v := (-1)) d_R_leads_44 (by decide) ?_
      refine aw_iret C E (rfl) (by decide) (by decide) d_R_leads_45 ?_
      exact ⟨sI (by simp [evTo, h37]), rfl, rfl⟩
    · refine aw_iconst C (v := 1) d_R_leads_40 (by decide) ?_
      refine aw_goto C (tgt := 45) d_R_leads_41 (by decide) ?_
      refine aw_iret C E (rfl) (by decide) (by decide) d_R_leads_45 ?_
      exact ⟨sI (by simp [evTo, h37]), rfl, rfl⟩
  by_cases h1 : x = 1
  · subst h1
    show AW X 2 0 0 ad ce 0 [(0, .int 1), (1, .int s)] []
    refine aw_iload_n C d_R_leads_0 rfl (j := 0) rfl ?_
    refine aw_tableIn C (tgt := 46) d_R_leads_1 (by decide) (by decide) rfl (by decide) ?_
    refine aw_iload_n C d_R_leads_46 rfl (j := 1) rfl ?_
    refine aw_iconst C (v := 1) d_R_leads_47 (by decide) ?_
    refine aw_icmp_ne C (tgt := 55) d_R_leads_48 (by decide) (fun h48 => ?_) (fun h48 => ?_)
    · refine aw_iconst C (v := (-1)) d_R_leads_55 (by decide) ?_
      refine aw_iret C E (rfl) (by decide) (by decide) d_R_leads_56 ?_
      exact ⟨sI (by simp [evTo, h48]), rfl, rfl⟩
    · refine aw_iconst C (v := 0) d_R_leads_51 (by decide) ?_
      refine aw_goto C (tgt := 56) d_R_leads_52 (by decide) ?_
      refine aw_iret C E (rfl) (by decide) (by decide) d_R_leads_56 ?_
      exact ⟨sI (by simp [evTo, h48]), rfl, rfl⟩
  by_cases h2 : x = 2
  · subst h2
    show AW X 2 0 0 ad ce 0 [(0, .int 2), (1, .int s)] []
    refine aw_iload_n C d_R_leads_0 rfl (j := 0) rfl ?_
    refine aw_tableIn C (tgt := 57) d_R_leads_1 (by decide) (by decide) rfl (by decide) ?_
    refine aw_iload_n C d_R_leads_57 rfl (j := 1) rfl ?_
    refine aw_iconst C (v := 3) d_R_leads_58 (by decide) ?_
    refine aw_icmp_gt C (tgt := 66) d_R_leads_59 (by decide) (fun h59 => ?_) (fun h59 => ?_)
    · refine aw_iconst C (v := (-1)) d_R_leads_66 (by decide) ?_
      refine aw_iret C E (rfl) (by decide) (by decide) d_R_leads_67 ?_
      have hs : ¬ s ≤ 3 := by (try simp only [Int32.le_iff_toInt_le, Int32.lt_iff_toInt_lt] at h59 ⊢); omega
      exact ⟨sI (by simp [evTo, hs]), rfl, rfl⟩
    · refine aw_iconst C (v := 4) d_R_leads_62 (by decide) ?_
      refine aw_goto C (tgt := 67) d_R_leads_63 (by decide) ?_
      refine aw_iret C E (rfl) (by decide) (by decide) d_R_leads_67 ?_
      have hs : s ≤ 3 := by (try simp only [Int32.le_iff_toInt_le, Int32.lt_iff_toInt_lt] at h59 ⊢); omega
      exact ⟨sI (by simp [evTo, hs]), rfl, rfl⟩
  by_cases h3 : x = 3
  · subst h3
    show AW X 2 0 0 ad ce 0 [(0, .int 3), (1, .int s)] []
    refine aw_iload_n C d_R_leads_0 rfl (j := 0) rfl ?_
    refine aw_tableIn C (tgt := 68) d_R_leads_1 (by decide) (by decide) rfl (by decide) ?_
    refine aw_iload_n C d_R_leads_68 rfl (j := 1) rfl ?_
    refine aw_iconst C (v := 1) d_R_leads_69 (by decide) ?_
    refine aw_icmp_ne C (tgt := 77) d_R_leads_70 (by decide) (fun h70 => ?_) (fun h70 => ?_)
    · refine aw_iconst C (v := (-1)) d_R_leads_77 (by decide) ?_
      refine aw_iret C E (rfl) (by decide) (by decide) d_R_leads_78 ?_
      exact ⟨sI (by simp [evTo, h70]), rfl, rfl⟩
    · refine aw_iconst C (v := 2) d_R_leads_73 (by decide) ?_
      refine aw_goto C (tgt := 78) d_R_leads_74 (by decide) ?_
      refine aw_iret C E (rfl) (by decide) (by decide) d_R_leads_78 ?_
      exact ⟨sI (by simp [evTo, h70]), rfl, rfl⟩
  by_cases h4 : x = 4
  · subst h4
    show AW X 2 0 0 ad ce 0 [(0, .int 4), (1, .int s)] []
    refine aw_iload_n C d_R_leads_0 rfl (j := 0) rfl ?_
    refine aw_tableIn C (tgt := 79) d_R_leads_1 (by decide) (by decide) rfl (by decide) ?_
    refine aw_iload_n C d_R_leads_79 rfl (j := 1) rfl ?_
    refine aw_iconst C (v := 3) d_R_leads_80 (by decide) ?_
    refine aw_icmp_ne C (tgt := 88) d_R_leads_81 (by decide) (fun h81 => ?_) (fun h81 => ?_)
    · refine aw_iconst C (v := (-1)) d_R_leads_88 (by decide) ?_
      refine aw_iret C E (rfl) (by decide) (by decide) d_R_leads_89 ?_
      exact ⟨sI (by simp [evTo, h81]), rfl, rfl⟩
    · refine aw_iconst C (v := 1) d_R_leads_84 (by decide) ?_
      refine aw_goto C (tgt := 89) d_R_leads_85 (by decide) ?_
      refine aw_iret C E (rfl) (by decide) (by decide) d_R_leads_89 ?_
      exact ⟨sI (by simp [evTo, h81]), rfl, rfl⟩
  have hout := sw5 h0 h1 h2 h3 h4
  show AW X 2 0 0 ad ce 0 [(0, .int x), (1, .int s)] []
  refine aw_iload_n C d_R_leads_0 rfl (j := 0) rfl ?_
  refine aw_tableOut C (tgt := 90) d_R_leads_1 (hout) (by decide) ?_
  refine aw_iconst C (v := (-1)) d_R_leads_90 (by decide) ?_
  refine aw_iret C E (rfl) (by decide) (by decide) d_R_leads_91 ?_
  exact ⟨sI (by simp [evTo, h0, h1, h2, h3, h4]), rfl, rfl⟩
set_option maxRecDepth 100000 in
set_option maxHeartbeats 4000000 in
theorem r_hasSerial (l : Launch) (G : aw_G) (ad : aw_Ad) (ce : aw_He) (cn pn ln on : Nat) (kd : Nat → Int32) (sr : Nat → Int64) (np st la gby gdu gwo grd un ps gpt gff gfc : Nat → Int32) (li : Nat → Int64) (lo : Nat → Int32) (hR : LRc ad ce cn pn ln on kd sr np st la gby gdu gwo grd un ps gpt gff gfc li lo) (hn : cn ≤ 10) (x : Int64) : CT l G M_R_hasSerial 0 0 0 0 [.ref (ad (3, 0, 0)), .long x] ad ce (rN (some (.int (bI (anyF sr x cn 0)))) ad ce) := by
  refine CT.of (by decide) (Nat.le_of_ble_eq_true rfl) ?_
  intro X C I E
  obtain ⟨r0, r1, r2, r3, r4, r5, r6, r7, r8, r9, r10, r11, r12, r14, r15, r17, r19⟩ := hR
  have loop : ∀ (m a : Nat) (h : Bool), a + m = cn → (h || anyF sr x m a) = anyF sr x cn 0 → AW X 5 0 0 ad ce 5 [(4, .int (nI a)), (3, .int (bI h)), (0, .ref (ad (3, 0, 0))), (1, .long x)] [] := by
    intro m
    induction m with
    | zero =>
      intro a h ha hr
      refine aw_iload C d_R_hasSerial_5 (j := 0) rfl ?_
      refine aw_aload_n C d_R_hasSerial_7 rfl (j := 2) rfl ?_
      refine aw_get C F_R r0 0 (by decide) tw_299 rfl d_R_hasSerial_8 ?_
      refine aw_icmp_ge C (tgt := 42) d_R_hasSerial_11 (by decide) (fun h11 => ?_) (fun h11 => absurd (nI_le (by omega) (by omega)) h11)
      refine aw_iload_n C d_R_hasSerial_42 rfl (j := 1) rfl ?_
      refine aw_iret C E (nar_bI _) (by decide) (by decide) d_R_hasSerial_43 ?_
      exact ⟨sI (by rw [← hr]; simp [anyF]), rfl, rfl⟩
    | succ m ih =>
      intro a h ha hr
      refine aw_iload C d_R_hasSerial_5 (j := 0) rfl ?_
      refine aw_aload_n C d_R_hasSerial_7 rfl (j := 2) rfl ?_
      refine aw_get C F_R r0 0 (by decide) tw_299 rfl d_R_hasSerial_8 ?_
      refine aw_icmp_ge C (tgt := 42) d_R_hasSerial_11 (by decide) (fun h11 => absurd h11 (nI_ge (by omega) (by omega))) (fun h11 => ?_)
      refine aw_iload_n C d_R_hasSerial_14 rfl (j := 1) rfl ?_
      refine aw_if_ne C (tgt := 30) d_R_hasSerial_15 (by decide) (fun h15 => ?_) (fun h15 => ?_)
      · refine aw_iconst C (v := 1) d_R_hasSerial_30 (by decide) ?_
        refine aw_goto C (tgt := 35) d_R_hasSerial_31 (by decide) ?_
        refine aw_istore_n C (lv' := [(3, .int 1), (4, .int (nI a)), (0, .ref (ad (3, 0, 0))), (1, .long x)]) d_R_hasSerial_35 rfl (by decide) rfl ?_
        refine aw_iinc C (v := nI (a + 1)) (lv' := [(4, .int (nI (a + 1))), (3, .int 1), (0, .ref (ad (3, 0, 0))), (1, .long x)]) d_R_hasSerial_36 (j := 1) rfl (nI_1 _) (by decide) rfl ?_
        refine aw_goto C (tgt := 5) d_R_hasSerial_39 (by decide) ?_
        refine aw_lv (lv' := [(4, .int (nI (a + 1))), (3, .int (bI true)), (0, .ref (ad (3, 0, 0))), (1, .long x)]) rfl ?_
        exact ih (a + 1) true (by omega) (by rw [← hr]; rw [bI_ne] at h15; subst h15; simp [anyF])
      · refine aw_aload_n C d_R_hasSerial_18 rfl (j := 2) rfl ?_
        refine aw_get C F_R r0 2 (by decide) tw_301 rfl d_R_hasSerial_19 ?_
        refine aw_iload C d_R_hasSerial_22 (j := 0) rfl ?_
        refine ar_lald C r2 (j := a) (rfl) (by omega) (by omega) d_R_hasSerial_24 ?_
        refine aw_lload_n C d_R_hasSerial_25 rfl (j := 3) rfl ?_
        refine aw_lcmp C d_R_hasSerial_26 ?_
        refine aw_if_ne C (tgt := 34) d_R_hasSerial_27 (by decide) (fun h27 => ?_) (fun h27 => ?_)
        · refine aw_iconst C (v := 0) d_R_hasSerial_34 (by decide) ?_
          refine aw_istore_n C (lv' := [(3, .int 0), (4, .int (nI a)), (0, .ref (ad (3, 0, 0))), (1, .long x)]) d_R_hasSerial_35 rfl (by decide) rfl ?_
          refine aw_iinc C (v := nI (a + 1)) (lv' := [(4, .int (nI (a + 1))), (3, .int 0), (0, .ref (ad (3, 0, 0))), (1, .long x)]) d_R_hasSerial_36 (j := 1) rfl (nI_1 _) (by decide) rfl ?_
          refine aw_goto C (tgt := 5) d_R_hasSerial_39 (by decide) ?_
          refine aw_lv (lv' := [(4, .int (nI (a + 1))), (3, .int (bI false)), (0, .ref (ad (3, 0, 0))), (1, .long x)]) rfl ?_
          exact ih (a + 1) false (by omega) (by rw [← hr]; rw [bI_eq] at h15; subst h15; rw [lg_cmp_eq] at h27; simp [anyF, h27])
        · refine aw_iconst C (v := 1) d_R_hasSerial_30 (by decide) ?_
          refine aw_goto C (tgt := 35) d_R_hasSerial_31 (by decide) ?_
          refine aw_istore_n C (lv' := [(3, .int 1), (4, .int (nI a)), (0, .ref (ad (3, 0, 0))), (1, .long x)]) d_R_hasSerial_35 rfl (by decide) rfl ?_
          refine aw_iinc C (v := nI (a + 1)) (lv' := [(4, .int (nI (a + 1))), (3, .int 1), (0, .ref (ad (3, 0, 0))), (1, .long x)]) d_R_hasSerial_36 (j := 1) rfl (nI_1 _) (by decide) rfl ?_
          refine aw_goto C (tgt := 5) d_R_hasSerial_39 (by decide) ?_
          refine aw_lv (lv' := [(4, .int (nI (a + 1))), (3, .int (bI true)), (0, .ref (ad (3, 0, 0))), (1, .long x)]) rfl ?_
          exact ih (a + 1) true (by omega) (by rw [← hr]; rw [bI_eq] at h15; subst h15; rw [lg_cmp_eq] at h27; simp [anyF, h27])
  show AW X 5 0 0 ad ce 0 [(0, .ref (ad (3, 0, 0))), (1, .long x)] []
  refine aw_iconst C (v := 0) d_R_hasSerial_0 (by decide) ?_
  refine aw_istore_n C (lv' := [(3, .int 0), (0, .ref (ad (3, 0, 0))), (1, .long x)]) d_R_hasSerial_1 rfl (by decide) rfl ?_
  refine aw_iconst C (v := 0) d_R_hasSerial_2 (by decide) ?_
  refine aw_istore C (lv' := [(4, .int 0), (3, .int 0), (0, .ref (ad (3, 0, 0))), (1, .long x)]) d_R_hasSerial_3 (by decide) rfl ?_
  refine aw_lv (lv' := [(4, .int (nI 0)), (3, .int (bI false)), (0, .ref (ad (3, 0, 0))), (1, .long x)]) (by simp only [nI_0]; rfl) ?_
  exact loop cn 0 false (by omega) (by simp)
set_option maxRecDepth 100000 in
set_option maxHeartbeats 4000000 in
theorem r_isListed (l : Launch) (G : aw_G) (ad : aw_Ad) (ce : aw_He) (cn pn ln on : Nat) (kd : Nat → Int32) (sr : Nat → Int64) (np st la gby gdu gwo grd un ps gpt gff gfc : Nat → Int32) (li : Nat → Int64) (lo : Nat → Int32) (hR : LRc ad ce cn pn ln on kd sr np st la gby gdu gwo grd un ps gpt gff gfc li lo) (hn : ln ≤ 20) (x : Int64) : CT l G M_R_isListed 0 0 0 0 [.ref (ad (3, 0, 0)), .long x] ad ce (rN (some (.int (bI (anyF li x ln 0)))) ad ce) := by
  refine CT.of (by decide) (Nat.le_of_ble_eq_true rfl) ?_
  intro X C I E
  obtain ⟨r0, r1, r2, r3, r4, r5, r6, r7, r8, r9, r10, r11, r12, r14, r15, r17, r19⟩ := hR
  have loop : ∀ (m a : Nat) (h : Bool), a + m = ln → (h || anyF li x m a) = anyF li x ln 0 → AW X 5 0 0 ad ce 5 [(4, .int (nI a)), (3, .int (bI h)), (0, .ref (ad (3, 0, 0))), (1, .long x)] [] := by
    intro m
    induction m with
    | zero =>
      intro a h ha hr
      refine aw_iload C d_R_isListed_5 (j := 0) rfl ?_
      refine aw_aload_n C d_R_isListed_7 rfl (j := 2) rfl ?_
      refine aw_get C F_R r0 16 (by decide) tw_315 rfl d_R_isListed_8 ?_
      refine aw_icmp_ge C (tgt := 42) d_R_isListed_11 (by decide) (fun h11 => ?_) (fun h11 => absurd (nI_le (by omega) (by omega)) h11)
      refine aw_iload_n C d_R_isListed_42 rfl (j := 1) rfl ?_
      refine aw_iret C E (nar_bI _) (by decide) (by decide) d_R_isListed_43 ?_
      exact ⟨sI (by rw [← hr]; simp [anyF]), rfl, rfl⟩
    | succ m ih =>
      intro a h ha hr
      refine aw_iload C d_R_isListed_5 (j := 0) rfl ?_
      refine aw_aload_n C d_R_isListed_7 rfl (j := 2) rfl ?_
      refine aw_get C F_R r0 16 (by decide) tw_315 rfl d_R_isListed_8 ?_
      refine aw_icmp_ge C (tgt := 42) d_R_isListed_11 (by decide) (fun h11 => absurd h11 (nI_ge (by omega) (by omega))) (fun h11 => ?_)
      refine aw_iload_n C d_R_isListed_14 rfl (j := 1) rfl ?_
      refine aw_if_ne C (tgt := 30) d_R_isListed_15 (by decide) (fun h15 => ?_) (fun h15 => ?_)
      · refine aw_iconst C (v := 1) d_R_isListed_30 (by decide) ?_
        refine aw_goto C (tgt := 35) d_R_isListed_31 (by decide) ?_
        refine aw_istore_n C (lv' := [(3, .int 1), (4, .int (nI a)), (0, .ref (ad (3, 0, 0))), (1, .long x)]) d_R_isListed_35 rfl (by decide) rfl ?_
        refine aw_iinc C (v := nI (a + 1)) (lv' := [(4, .int (nI (a + 1))), (3, .int 1), (0, .ref (ad (3, 0, 0))), (1, .long x)]) d_R_isListed_36 (j := 1) rfl (nI_1 _) (by decide) rfl ?_
        refine aw_goto C (tgt := 5) d_R_isListed_39 (by decide) ?_
        refine aw_lv (lv' := [(4, .int (nI (a + 1))), (3, .int (bI true)), (0, .ref (ad (3, 0, 0))), (1, .long x)]) rfl ?_
        exact ih (a + 1) true (by omega) (by rw [← hr]; rw [bI_ne] at h15; subst h15; simp [anyF])
      · refine aw_aload_n C d_R_isListed_18 rfl (j := 2) rfl ?_
        refine aw_get C F_R r0 17 (by decide) tw_316 rfl d_R_isListed_19 ?_
        refine aw_iload C d_R_isListed_22 (j := 0) rfl ?_
        refine ar_lald C r17 (j := a) (rfl) (by omega) (by omega) d_R_isListed_24 ?_
        refine aw_lload_n C d_R_isListed_25 rfl (j := 3) rfl ?_
        refine aw_lcmp C d_R_isListed_26 ?_
        refine aw_if_ne C (tgt := 34) d_R_isListed_27 (by decide) (fun h27 => ?_) (fun h27 => ?_)
        · refine aw_iconst C (v := 0) d_R_isListed_34 (by decide) ?_
          refine aw_istore_n C (lv' := [(3, .int 0), (4, .int (nI a)), (0, .ref (ad (3, 0, 0))), (1, .long x)]) d_R_isListed_35 rfl (by decide) rfl ?_
          refine aw_iinc C (v := nI (a + 1)) (lv' := [(4, .int (nI (a + 1))), (3, .int 0), (0, .ref (ad (3, 0, 0))), (1, .long x)]) d_R_isListed_36 (j := 1) rfl (nI_1 _) (by decide) rfl ?_
          refine aw_goto C (tgt := 5) d_R_isListed_39 (by decide) ?_
          refine aw_lv (lv' := [(4, .int (nI (a + 1))), (3, .int (bI false)), (0, .ref (ad (3, 0, 0))), (1, .long x)]) rfl ?_
          exact ih (a + 1) false (by omega) (by rw [← hr]; rw [bI_eq] at h15; subst h15; rw [lg_cmp_eq] at h27; simp [anyF, h27])
        · refine aw_iconst C (v := 1) d_R_isListed_30 (by decide) ?_
          refine aw_goto C (tgt := 35) d_R_isListed_31 (by decide) ?_
          refine aw_istore_n C (lv' := [(3, .int 1), (4, .int (nI a)), (0, .ref (ad (3, 0, 0))), (1, .long x)]) d_R_isListed_35 rfl (by decide) rfl ?_
          refine aw_iinc C (v := nI (a + 1)) (lv' := [(4, .int (nI (a + 1))), (3, .int 1), (0, .ref (ad (3, 0, 0))), (1, .long x)]) d_R_isListed_36 (j := 1) rfl (nI_1 _) (by decide) rfl ?_
          refine aw_goto C (tgt := 5) d_R_isListed_39 (by decide) ?_
          refine aw_lv (lv' := [(4, .int (nI (a + 1))), (3, .int (bI true)), (0, .ref (ad (3, 0, 0))), (1, .long x)]) rfl ?_
          exact ih (a + 1) true (by omega) (by rw [← hr]; rw [bI_eq] at h15; subst h15; rw [lg_cmp_eq] at h27; simp [anyF, h27])
  show AW X 5 0 0 ad ce 0 [(0, .ref (ad (3, 0, 0))), (1, .long x)] []
  refine aw_iconst C (v := 0) d_R_isListed_0 (by decide) ?_
  refine aw_istore_n C (lv' := [(3, .int 0), (0, .ref (ad (3, 0, 0))), (1, .long x)]) d_R_isListed_1 rfl (by decide) rfl ?_
  refine aw_iconst C (v := 0) d_R_isListed_2 (by decide) ?_
  refine aw_istore C (lv' := [(4, .int 0), (3, .int 0), (0, .ref (ad (3, 0, 0))), (1, .long x)]) d_R_isListed_3 (by decide) rfl ?_
  refine aw_lv (lv' := [(4, .int (nI 0)), (3, .int (bI false)), (0, .ref (ad (3, 0, 0))), (1, .long x)]) (by simp only [nI_0]; rfl) ?_
  exact loop ln 0 false (by omega) (by simp)
end
section
set_option maxRecDepth 100000 in
set_option maxHeartbeats 4000000 in
theorem r_forget (l : Launch) (G : aw_G) (ad : aw_Ad) (ce : aw_He) (cn pn ln on : Nat) (kd : Nat → Int32) (sr : Nat → Int64) (np st la gby gdu gwo grd un ps gpt gff gfc : Nat → Int32) (li : Nat → Int64) (lo : Nat → Int32) (hR : LRc ad ce cn pn ln on kd sr np st la gby gdu gwo grd un ps gpt gff gfc li lo) (j : Nat) (hj : j < 10) : CT l G M_R_forget 0 0 0 0 [.ref (ad (3, 0, 0)), .int (nI j)] ad ce (fun r ad' ce' => r = none ∧ ad = ad' ∧ frR ce ce' ∧ ∃ g : Nat → Int32, LRc ad ce' cn pn ln on kd sr np st la gby gdu gwo g (upd un j 0) ps gpt gff gfc li lo ∧ (∀ k, k < 64 → g (64 * j + k) = 0) ∧ ∀ q, (q < 64 * j ∨ 64 * j + 64 ≤ q) → g q = grd q) := by
  refine CT.of (by decide) (Nat.le_of_ble_eq_true rfl) ?_
  intro X C I E
  obtain ⟨r0, r1, r2, r3, r4, r5, r6, r7, r8, r9, r10, r11, r12, r14, r15, r17, r19⟩ := hR
  show AW X 3 0 0 ad ce 0 [(0, .ref (ad (3, 0, 0))), (1, .int (nI j))] []
  refine aw_aload_n C d_R_forget_0 rfl (j := 0) rfl ?_
  refine aw_get C F_R r0 10 (by decide) tw_309 rfl d_R_forget_1 ?_
  refine aw_iload_n C d_R_forget_4 rfl (j := 1) rfl ?_
  refine aw_iconst C (v := 0) d_R_forget_5 (by decide) ?_
  refine ar_iast C r10 (j := j) (rfl) (by omega) (by omega) d_R_forget_6 ?_
  intro ce2 fw2 r10
  have r0 : ce2 (3, 0, 0) = some (.inr (3, [.int (nI cn), .ref (ad (3, 0, 1)), .ref (ad (3, 0, 2)), .ref (ad (3, 0, 3)), .ref (ad (3, 0, 4)), .ref (ad (3, 0, 5)), .ref (ad (3, 0, 6)), .ref (ad (3, 0, 7)), .ref (ad (3, 0, 8)), .ref (ad (3, 0, 9)), .ref (ad (3, 0, 10)), .ref (ad (3, 0, 11)), .ref (ad (3, 0, 12)), .int (nI pn), .ref (ad (3, 0, 14)), .ref (ad (3, 0, 15)), .int (nI ln), .ref (ad (3, 0, 17)), .int (nI on), .ref (ad (3, 0, 19))])) := (fw2 _ (by simp)).trans r0
  have r1 := r1.tr (fw2 _ (by simp))
  have r2 := r2.tr (fw2 _ (by simp))
  have r3 := r3.tr (fw2 _ (by simp))
  have r4 := r4.tr (fw2 _ (by simp))
  have r5 := r5.tr (fw2 _ (by simp))
  have r6 := r6.tr (fw2 _ (by simp))
  have r7 := r7.tr (fw2 _ (by simp))
  have r8 := r8.tr (fw2 _ (by simp))
  have r9 := r9.tr (fw2 _ (by simp))
  have r11 := r11.tr (fw2 _ (by simp))
  have r12 := r12.tr (fw2 _ (by simp))
  have r14 := r14.tr (fw2 _ (by simp))
  have r15 := r15.tr (fw2 _ (by simp))
  have r17 := r17.tr (fw2 _ (by simp))
  have r19 := r19.tr (fw2 _ (by simp))
  refine aw_iconst C (v := 0) d_R_forget_7 (by decide) ?_
  refine aw_istore_n C (lv' := [(2, .int 0), (0, .ref (ad (3, 0, 0))), (1, .int (nI j))]) d_R_forget_8 rfl (by decide) rfl ?_
  have fwU := fw2
  have s1 := r1
  have s2 := r2
  have s3 := r3
  have s4 := r4
  have s5 := r5
  have s6 := r6
  have s7 := r7
  have s8 := r8
  have s9 := r9
  have s10 := r10
  have s11 := r11
  have s12 := r12
  have s14 := r14
  have s15 := r15
  have s17 := r17
  have s19 := r19
  have s0 := r0
  have loop : ∀ (m a : Nat) (ce1 : aw_He) (g : Nat → Int32), a + m = 64 → (∀ q, q ≠ (3, 0, 9) → ce1 q = ce2 q) → arI ce1 (3, 0, 9) 1 640 g → (∀ k, k < a → g (64 * j + k) = 0) → (∀ q, (q < 64 * j ∨ 64 * j + 64 ≤ q) → g q = grd q) → AW X 3 0 0 ad ce1 9 [(2, .int (nI a)), (0, .ref (ad (3, 0, 0))), (1, .int (nI j))] [] := by
    intro m
    induction m with
    | zero =>
      intro a ce1 g ha hf r9 hg hq
      have r0 : ce1 (3, 0, 0) = some (.inr (3, [.int (nI cn), .ref (ad (3, 0, 1)), .ref (ad (3, 0, 2)), .ref (ad (3, 0, 3)), .ref (ad (3, 0, 4)), .ref (ad (3, 0, 5)), .ref (ad (3, 0, 6)), .ref (ad (3, 0, 7)), .ref (ad (3, 0, 8)), .ref (ad (3, 0, 9)), .ref (ad (3, 0, 10)), .ref (ad (3, 0, 11)), .ref (ad (3, 0, 12)), .int (nI pn), .ref (ad (3, 0, 14)), .ref (ad (3, 0, 15)), .int (nI ln), .ref (ad (3, 0, 17)), .int (nI on), .ref (ad (3, 0, 19))])) := (hf _ (by simp)).trans s0
      refine aw_iload_n C d_R_forget_9 rfl (j := 0) rfl ?_
      refine aw_bipush C (v := 64) d_R_forget_10 (by decide) ?_
      refine aw_icmp_ge C (tgt := 33) d_R_forget_12 (by decide) (fun h12 => ?_) (fun h12 => absurd (nI_le (a := 64) (by omega) (by omega)) h12)
      refine aw_vret C E (by decide) (by decide) d_R_forget_33 ?_
      exact ⟨rfl, rfl, (fr3 fwU).trans (fr3 hf), g, ⟨(hf _ (by simp)).trans s0, s1.tr (hf _ (by simp)), s2.tr (hf _ (by simp)), s3.tr (hf _ (by simp)), s4.tr (hf _ (by simp)), s5.tr (hf _ (by simp)), s6.tr (hf _ (by simp)), s7.tr (hf _ (by simp)), s8.tr (hf _ (by simp)), r9, s10.tr (hf _ (by simp)), s11.tr (hf _ (by simp)), s12.tr (hf _ (by simp)), s14.tr (hf _ (by simp)), s15.tr (hf _ (by simp)), s17.tr (hf _ (by simp)), s19.tr (hf _ (by simp))⟩, fun k hk => hg k (by omega), hq⟩
    | succ m ih =>
      intro a ce1 g ha hf r9 hg hq
      have r0 : ce1 (3, 0, 0) = some (.inr (3, [.int (nI cn), .ref (ad (3, 0, 1)), .ref (ad (3, 0, 2)), .ref (ad (3, 0, 3)), .ref (ad (3, 0, 4)), .ref (ad (3, 0, 5)), .ref (ad (3, 0, 6)), .ref (ad (3, 0, 7)), .ref (ad (3, 0, 8)), .ref (ad (3, 0, 9)), .ref (ad (3, 0, 10)), .ref (ad (3, 0, 11)), .ref (ad (3, 0, 12)), .int (nI pn), .ref (ad (3, 0, 14)), .ref (ad (3, 0, 15)), .int (nI ln), .ref (ad (3, 0, 17)), .int (nI on), .ref (ad (3, 0, 19))])) := (hf _ (by simp)).trans s0
      refine aw_iload_n C d_R_forget_9 rfl (j := 0) rfl ?_
      refine aw_bipush C (v := 64) d_R_forget_10 (by decide) ?_
      refine aw_icmp_ge C (tgt := 33) d_R_forget_12 (by decide) (fun h12 => absurd h12 (nI_ge (b := 64) (by omega) (by omega))) (fun h12 => ?_)
      refine aw_aload_n C d_R_forget_15 rfl (j := 1) rfl ?_
      refine aw_get C F_R r0 9 (by decide) tw_308 rfl d_R_forget_16 ?_
      refine aw_bipush C (v := 64) d_R_forget_19 (by decide) ?_
      refine aw_iload_n C d_R_forget_21 rfl (j := 2) rfl ?_
      refine aw_imul C d_R_forget_22 ?_
      refine aw_iload_n C d_R_forget_23 rfl (j := 0) rfl ?_
      refine aw_iadd C d_R_forget_24 ?_
      refine aw_topi (v' := nI (64 * j + a)) (k64 _ _) ?_
      refine aw_iconst C (v := 0) d_R_forget_25 (by decide) ?_
      refine ar_zast C (v := 0) r9 (j := (64 * j + a)) (rfl) (by omega) (by omega) rfl d_R_forget_26 ?_
      intro ce1 fw1 r9
      have r0 : ce1 (3, 0, 0) = some (.inr (3, [.int (nI cn), .ref (ad (3, 0, 1)), .ref (ad (3, 0, 2)), .ref (ad (3, 0, 3)), .ref (ad (3, 0, 4)), .ref (ad (3, 0, 5)), .ref (ad (3, 0, 6)), .ref (ad (3, 0, 7)), .ref (ad (3, 0, 8)), .ref (ad (3, 0, 9)), .ref (ad (3, 0, 10)), .ref (ad (3, 0, 11)), .ref (ad (3, 0, 12)), .int (nI pn), .ref (ad (3, 0, 14)), .ref (ad (3, 0, 15)), .int (nI ln), .ref (ad (3, 0, 17)), .int (nI on), .ref (ad (3, 0, 19))])) := (fw1 _ (by simp)).trans r0
      refine aw_iinc C (v := nI (a + 1)) (lv' := [(2, .int (nI (a + 1))), (0, .ref (ad (3, 0, 0))), (1, .int (nI j))]) d_R_forget_27 (j := 0) rfl (nI_1 _) (by decide) rfl ?_
      refine aw_goto C (tgt := 9) d_R_forget_30 (by decide) ?_
      refine ih (a + 1) ce1 (upd g (64 * j + a) 0) (by omega) (fun q hq => (fw1 q hq).trans (hf q hq)) r9 ?_ ?_
      · intro k hk
        by_cases e : k = a
        · subst e; simp [upd]
        · have e2 : ¬ 64 * j + k = 64 * j + a := by omega
          simp only [upd, if_neg e2]; exact hg k (by omega)
      · intro q hqq
        have e2 : ¬ q = 64 * j + a := by omega
        simp only [upd, if_neg e2]; exact hq q hqq
  refine aw_lv (lv' := [(2, .int (nI 0)), (0, .ref (ad (3, 0, 0))), (1, .int (nI j))]) (by simp only [nI_0]) ?_
  exact loop 64 0 ce2 grd (by omega) (fun _ _ => rfl) r9 (fun k hk => absurd hk (by omega)) (fun _ _ => rfl)
set_option maxRecDepth 100000 in
set_option maxHeartbeats 4000000 in
theorem r_markOf (l : Launch) (G : aw_G) (ad : aw_Ad) (ce : aw_He) (cn pn ln on : Nat) (kd : Nat → Int32) (sr : Nat → Int64) (np st la gby gdu gwo grd un ps gpt gff gfc : Nat → Int32) (li : Nat → Int64) (lo : Nat → Int32) (hR : LRc ad ce cn pn ln on kd sr np st la gby gdu gwo grd un ps gpt gff gfc li lo) (j : Nat) (hj : j < 20) (p : PapS) (hp : p.1 ≤ 12) (hfc : gfc j = nI p.1) (hff : ∀ k, k < p.1 → gff (12 * j + k) = p.2 k) (key : Int64) : CT l G M_R_markOf 0 0 0 0 [.ref (ad (3, 0, 0)), .int (nI j), .long key] ad ce (rN (some (.long (fldM mkS p.2 p.1 0 key))) ad ce) := by
  refine CT.of (by decide) (Nat.le_of_ble_eq_true rfl) ?_
  intro X C I E
  obtain ⟨r0, r1, r2, r3, r4, r5, r6, r7, r8, r9, r10, r11, r12, r14, r15, r17, r19⟩ := hR
  have loop : ∀ (m a : Nat) (x : Int64), a + m = p.1 → fldM mkS p.2 m a x = fldM mkS p.2 p.1 0 key → AW X 7 0 0 ad ce 6 [(6, .int (nI a)), (4, .long x), (0, .ref (ad (3, 0, 0))), (1, .int (nI j)), (2, .long key)] [] := by
    intro m
    induction m with
    | zero =>
      intro a x ha hr
      refine aw_iload C d_R_markOf_6 (j := 0) rfl ?_
      refine aw_aload_n C d_R_markOf_8 rfl (j := 2) rfl ?_
      refine aw_get C F_R r0 15 (by decide) tw_314 rfl d_R_markOf_9 ?_
      refine aw_iload_n C d_R_markOf_12 rfl (j := 3) rfl ?_
      refine ar_iald C r15 (j := j) (rfl) (by omega) (by omega) d_R_markOf_13 ?_
      refine aw_topi (v' := nI p.1) (hfc) ?_
      refine aw_icmp_ge C (tgt := 57) d_R_markOf_14 (by decide) (fun h14 => ?_) (fun h14 => absurd (nI_le (by omega) (by omega)) h14)
      refine aw_lload C d_R_markOf_57 (j := 1) rfl ?_
      refine aw_lret C E (by decide) (by decide) d_R_markOf_59 ?_
      rw [fldM_0] at hr
      exact ⟨by rw [hr], rfl, rfl⟩
    | succ m ih =>
      intro a x ha hr
      refine aw_iload C d_R_markOf_6 (j := 0) rfl ?_
      refine aw_aload_n C d_R_markOf_8 rfl (j := 2) rfl ?_
      refine aw_get C F_R r0 15 (by decide) tw_314 rfl d_R_markOf_9 ?_
      refine aw_iload_n C d_R_markOf_12 rfl (j := 3) rfl ?_
      refine ar_iald C r15 (j := j) (rfl) (by omega) (by omega) d_R_markOf_13 ?_
      refine aw_topi (v' := nI p.1) (hfc) ?_
      refine aw_icmp_ge C (tgt := 57) d_R_markOf_14 (by decide) (fun h14 => absurd h14 (nI_ge (by omega) (by omega))) (fun h14 => ?_)
      refine aw_lload C d_R_markOf_17 (j := 1) rfl ?_
      refine aw_aload_n C d_R_markOf_19 rfl (j := 2) rfl ?_
      refine aw_get C F_R r0 14 (by decide) tw_313 rfl d_R_markOf_20 ?_
      refine aw_bipush C (v := 12) d_R_markOf_23 (by decide) ?_
      refine aw_iload_n C d_R_markOf_25 rfl (j := 3) rfl ?_
      refine aw_imul C d_R_markOf_26 ?_
      refine aw_iload C d_R_markOf_27 (j := 0) rfl ?_
      refine aw_iadd C d_R_markOf_29 ?_
      refine aw_topi (v' := nI (12 * j + a)) (k12 _ _) ?_
      refine ar_iald C r14 (j := (12 * j + a)) (rfl) (by omega) (by omega) d_R_markOf_30 ?_
      refine aw_topi (v' := p.2 a) (hff a (by omega)) ?_
      refine aw_i2l C d_R_markOf_31 ?_
      refine aw_ladd C d_R_markOf_32 ?_
      refine aw_lconst C (v := 1) d_R_markOf_33 (by decide) ?_
      refine aw_ladd C d_R_markOf_34 ?_
      refine aw_ldc2 C tw_467 d_R_markOf_35 ?_
      refine aw_lmul C d_R_markOf_38 ?_
      obtain ⟨y, hy⟩ : ∃ y : Int64, ((x + (Int32.toInt64 (p.2 a))) + 1) * 6364136223846793005 = y := ⟨_, rfl⟩
      refine aw_topl (v' := y) (hy) ?_
      refine aw_lstore C (lv' := [(4, .long y), (6, .int (nI a)), (0, .ref (ad (3, 0, 0))), (1, .int (nI j)), (2, .long key)]) d_R_markOf_39 (by decide) rfl ?_
      refine aw_lload C d_R_markOf_41 (j := 0) rfl ?_
      refine aw_lload C d_R_markOf_43 (j := 0) rfl ?_
      refine aw_bipush C (v := 32) d_R_markOf_45 (by decide) ?_
      refine aw_lushr C d_R_markOf_47 ?_
      refine aw_lxor C d_R_markOf_48 ?_
      refine aw_topl (v' := mkS x (p.2 a)) (by simp only [mkS, hy]) ?_
      refine aw_lstore C (lv' := [(4, .long (mkS x (p.2 a))), (6, .int (nI a)), (0, .ref (ad (3, 0, 0))), (1, .int (nI j)), (2, .long key)]) d_R_markOf_49 (by decide) rfl ?_
      refine aw_iinc C (v := nI (a + 1)) (lv' := [(6, .int (nI (a + 1))), (4, .long (mkS x (p.2 a))), (0, .ref (ad (3, 0, 0))), (1, .int (nI j)), (2, .long key)]) d_R_markOf_51 (j := 1) rfl (nI_1 _) (by decide) rfl ?_
      refine aw_goto C (tgt := 6) d_R_markOf_54 (by decide) ?_
      rw [fldM_s] at hr
      exact ih (a + 1) _ (by omega) hr
  show AW X 7 0 0 ad ce 0 [(0, .ref (ad (3, 0, 0))), (1, .int (nI j)), (2, .long key)] []
  refine aw_lload_n C d_R_markOf_0 rfl (j := 2) rfl ?_
  refine aw_lstore C (lv' := [(4, .long key), (0, .ref (ad (3, 0, 0))), (1, .int (nI j)), (2, .long key)]) d_R_markOf_1 (by decide) rfl ?_
  refine aw_iconst C (v := 0) d_R_markOf_3 (by decide) ?_
  refine aw_istore C (lv' := [(6, .int 0), (4, .long key), (0, .ref (ad (3, 0, 0))), (1, .int (nI j)), (2, .long key)]) d_R_markOf_4 (by decide) rfl ?_
  refine aw_lv (lv' := [(6, .int (nI 0)), (4, .long key), (0, .ref (ad (3, 0, 0))), (1, .int (nI j)), (2, .long key)]) (by simp only [nI_0]) ?_
  exact loop p.1 0 key (by omega) rfl
set_option maxRecDepth 100000 in
set_option maxHeartbeats 4000000 in
theorem R_state (l : Launch) (G : aw_G) (ad : aw_Ad) (ce : aw_He) (S : SysS) (hS : LayR S ad ce) (x : Int32) : CT l G M_R_state 1 21 0 0 [.ref (ad (3, 0, 0)), .int x] ad ce (rN (some (.int (f_state S x))) ad ce) := by
  refine CT.of (by decide) (Nat.le_of_ble_eq_true rfl) ?_
  intro X C I E
  obtain ⟨kd, sr, np, st, la, gby, gdu, gwo, grd, un, ps, gpt, gff, gfc, hR, hE, hW⟩ := hS
  have hE0 := hE
  obtain ⟨hE1, hE2, hE3, hE4, hE5, hE6, hE7⟩ := hE0
  have hW0 := hW
  obtain ⟨⟨hb1, hb2, hb3, hb4⟩, hW2, hW3⟩ := hW0
  have hR0 := hR
  obtain ⟨r0, r1, r2, r3, r4, r5, r6, r7, r8, r9, r10, r11, r12, r14, r15, r17, r19⟩ := hR0
  rcases ix_cases x (n := s_cn S) (by omega) with hx | ⟨j, hj, rfl⟩
  · skip
    show AW X 2 0 0 ad ce 0 [(0, .ref (ad (3, 0, 0))), (1, .int x)] []
    refine aw_aload_n C d_R_state_0 rfl (j := 0) rfl ?_
    refine aw_iload_n C d_R_state_1 rfl (j := 1) rfl ?_
    refine aw_callV C I (k := (3, 0, 0)) (as := [.int x]) (rest := []) (r_isCarrier l G ad ce (s_cn S) (s_pn S) (s_ln S) (s_on S) kd sr np st la gby gdu gwo grd un ps gpt gff gfc (s_li S) (s_lo S) hR x) g_R_64 r0 rfl rfl ⟨by decide, by decide⟩ ⟨by decide, by decide⟩ rfl (Nat.le_of_ble_eq_true rfl) d_R_state_2 ?_
    rintro _ _ _ ⟨rfl, rfl, rfl⟩
    show AW X 2 0 0 ad ce 5 [(0, .ref (ad (3, 0, 0))), (1, .int x)] [.int (bI (decide (0 ≤ x ∧ x < nI (s_cn S))))]
    refine aw_topi (v' := 0) ((bI_f (by (try simp only [Int32.le_iff_toInt_le, Int32.lt_iff_toInt_lt] at hx ⊢); omega)).symm) ?_
    show AW X 2 0 0 ad ce 5 [(0, .ref (ad (3, 0, 0))), (1, .int x)] [.int 0]
    refine aw_if_eq C (tgt := 17) d_R_state_5 (by decide) (fun h5 => ?_) (fun h5 => absurd (rfl) h5)
    refine aw_iconst C (v := (-1)) d_R_state_17 (by decide) ?_
    refine aw_iret C E (rfl) (by decide) (by decide) d_R_state_18 ?_
    exact ⟨sI (by simp only [f_state, ix_out hx]), rfl, rfl⟩
  · skip
    obtain ⟨e_kd, e_sr, e_np, e_st, e_la, e_un, e_ps⟩ := hE1 j (by omega)
    obtain ⟨⟨hn1, hn2⟩, hps⟩ := hW2 j hj
    show AW X 2 0 0 ad ce 0 [(0, .ref (ad (3, 0, 0))), (1, .int (nI j))] []
    refine aw_aload_n C d_R_state_0 rfl (j := 0) rfl ?_
    refine aw_iload_n C d_R_state_1 rfl (j := 1) rfl ?_
    refine aw_callV C I (k := (3, 0, 0)) (as := [.int (nI j)]) (rest := []) (r_isCarrier l G ad ce (s_cn S) (s_pn S) (s_ln S) (s_on S) kd sr np st la gby gdu gwo grd un ps gpt gff gfc (s_li S) (s_lo S) hR (nI j)) g_R_64 r0 rfl rfl ⟨by decide, by decide⟩ ⟨by decide, by decide⟩ rfl (Nat.le_of_ble_eq_true rfl) d_R_state_2 ?_
    rintro _ _ _ ⟨rfl, rfl, rfl⟩
    show AW X 2 0 0 ad ce 5 [(0, .ref (ad (3, 0, 0))), (1, .int (nI j))] [.int (bI (decide (0 ≤ nI j ∧ nI j < nI (s_cn S))))]
    refine aw_topi (v' := 1) ((bI_t ⟨nI_pos' (by omega), nI_lt (by omega) (by omega)⟩).symm) ?_
    show AW X 2 0 0 ad ce 5 [(0, .ref (ad (3, 0, 0))), (1, .int (nI j))] [.int 1]
    refine aw_if_eq C (tgt := 17) d_R_state_5 (by decide) (fun h5 => absurd h5 (by decide)) (fun h5 => ?_)
    refine aw_aload_n C d_R_state_8 rfl (j := 0) rfl ?_
    refine aw_get C F_R r0 4 (by decide) tw_303 rfl d_R_state_9 ?_
    refine aw_iload_n C d_R_state_12 rfl (j := 1) rfl ?_
    refine ar_iald C r4 (j := j) (rfl) (by omega) (by omega) d_R_state_13 ?_
    refine aw_goto C (tgt := 18) d_R_state_14 (by decide) ?_
    refine aw_iret C E (rfl) (by decide) (by decide) d_R_state_18 ?_
    exact ⟨sI (by simp only [f_state, ix_in hj (show s_cn S < 2 ^ 31 by omega), e_st]), rfl, rfl⟩
set_option maxRecDepth 100000 in
set_option maxHeartbeats 4000000 in
theorem R_last (l : Launch) (G : aw_G) (ad : aw_Ad) (ce : aw_He) (S : SysS) (hS : LayR S ad ce) (x : Int32) : CT l G M_R_last 1 21 0 0 [.ref (ad (3, 0, 0)), .int x] ad ce (rN (some (.int (f_last S x))) ad ce) := by
  refine CT.of (by decide) (Nat.le_of_ble_eq_true rfl) ?_
  intro X C I E
  obtain ⟨kd, sr, np, st, la, gby, gdu, gwo, grd, un, ps, gpt, gff, gfc, hR, hE, hW⟩ := hS
  have hE0 := hE
  obtain ⟨hE1, hE2, hE3, hE4, hE5, hE6, hE7⟩ := hE0
  have hW0 := hW
  obtain ⟨⟨hb1, hb2, hb3, hb4⟩, hW2, hW3⟩ := hW0
  have hR0 := hR
  obtain ⟨r0, r1, r2, r3, r4, r5, r6, r7, r8, r9, r10, r11, r12, r14, r15, r17, r19⟩ := hR0
  rcases ix_cases x (n := s_cn S) (by omega) with hx | ⟨j, hj, rfl⟩
  · skip
    show AW X 2 0 0 ad ce 0 [(0, .ref (ad (3, 0, 0))), (1, .int x)] []
    refine aw_aload_n C d_R_last_0 rfl (j := 0) rfl ?_
    refine aw_iload_n C d_R_last_1 rfl (j := 1) rfl ?_
    refine aw_callV C I (k := (3, 0, 0)) (as := [.int x]) (rest := []) (r_isCarrier l G ad ce (s_cn S) (s_pn S) (s_ln S) (s_on S) kd sr np st la gby gdu gwo grd un ps gpt gff gfc (s_li S) (s_lo S) hR x) g_R_64 r0 rfl rfl ⟨by decide, by decide⟩ ⟨by decide, by decide⟩ rfl (Nat.le_of_ble_eq_true rfl) d_R_last_2 ?_
    rintro _ _ _ ⟨rfl, rfl, rfl⟩
    show AW X 2 0 0 ad ce 5 [(0, .ref (ad (3, 0, 0))), (1, .int x)] [.int (bI (decide (0 ≤ x ∧ x < nI (s_cn S))))]
    refine aw_topi (v' := 0) ((bI_f (by (try simp only [Int32.le_iff_toInt_le, Int32.lt_iff_toInt_lt] at hx ⊢); omega)).symm) ?_
    show AW X 2 0 0 ad ce 5 [(0, .ref (ad (3, 0, 0))), (1, .int x)] [.int 0]
    refine aw_if_eq C (tgt := 17) d_R_last_5 (by decide) (fun h5 => ?_) (fun h5 => absurd (rfl) h5)
    refine aw_iconst C (v := (-1)) d_R_last_17 (by decide) ?_
    refine aw_iret C E (rfl) (by decide) (by decide) d_R_last_18 ?_
    exact ⟨sI (by simp only [f_last, ix_out hx]), rfl, rfl⟩
  · skip
    obtain ⟨e_kd, e_sr, e_np, e_st, e_la, e_un, e_ps⟩ := hE1 j (by omega)
    obtain ⟨⟨hn1, hn2⟩, hps⟩ := hW2 j hj
    show AW X 2 0 0 ad ce 0 [(0, .ref (ad (3, 0, 0))), (1, .int (nI j))] []
    refine aw_aload_n C d_R_last_0 rfl (j := 0) rfl ?_
    refine aw_iload_n C d_R_last_1 rfl (j := 1) rfl ?_
    refine aw_callV C I (k := (3, 0, 0)) (as := [.int (nI j)]) (rest := []) (r_isCarrier l G ad ce (s_cn S) (s_pn S) (s_ln S) (s_on S) kd sr np st la gby gdu gwo grd un ps gpt gff gfc (s_li S) (s_lo S) hR (nI j)) g_R_64 r0 rfl rfl ⟨by decide, by decide⟩ ⟨by decide, by decide⟩ rfl (Nat.le_of_ble_eq_true rfl) d_R_last_2 ?_
    rintro _ _ _ ⟨rfl, rfl, rfl⟩
    show AW X 2 0 0 ad ce 5 [(0, .ref (ad (3, 0, 0))), (1, .int (nI j))] [.int (bI (decide (0 ≤ nI j ∧ nI j < nI (s_cn S))))]
    refine aw_topi (v' := 1) ((bI_t ⟨nI_pos' (by omega), nI_lt (by omega) (by omega)⟩).symm) ?_
    show AW X 2 0 0 ad ce 5 [(0, .ref (ad (3, 0, 0))), (1, .int (nI j))] [.int 1]
    refine aw_if_eq C (tgt := 17) d_R_last_5 (by decide) (fun h5 => absurd h5 (by decide)) (fun h5 => ?_)
    refine aw_aload_n C d_R_last_8 rfl (j := 0) rfl ?_
    refine aw_get C F_R r0 5 (by decide) tw_304 rfl d_R_last_9 ?_
    refine aw_iload_n C d_R_last_12 rfl (j := 1) rfl ?_
    refine ar_iald C r5 (j := j) (rfl) (by omega) (by omega) d_R_last_13 ?_
    refine aw_goto C (tgt := 18) d_R_last_14 (by decide) ?_
    refine aw_iret C E (rfl) (by decide) (by decide) d_R_last_18 ?_
    exact ⟨sI (by simp only [f_last, ix_in hj (show s_cn S < 2 ^ 31 by omega), e_la]), rfl, rfl⟩
set_option maxRecDepth 100000 in
set_option maxHeartbeats 4000000 in
theorem R_unlike (l : Launch) (G : aw_G) (ad : aw_Ad) (ce : aw_He) (S : SysS) (hS : LayR S ad ce) (x : Int32) : CT l G M_R_unlike 1 21 0 0 [.ref (ad (3, 0, 0)), .int x] ad ce (rN (some (.int (f_unlike S x))) ad ce) := by
  refine CT.of (by decide) (Nat.le_of_ble_eq_true rfl) ?_
  intro X C I E
  obtain ⟨kd, sr, np, st, la, gby, gdu, gwo, grd, un, ps, gpt, gff, gfc, hR, hE, hW⟩ := hS
  have hE0 := hE
  obtain ⟨hE1, hE2, hE3, hE4, hE5, hE6, hE7⟩ := hE0
  have hW0 := hW
  obtain ⟨⟨hb1, hb2, hb3, hb4⟩, hW2, hW3⟩ := hW0
  have hR0 := hR
  obtain ⟨r0, r1, r2, r3, r4, r5, r6, r7, r8, r9, r10, r11, r12, r14, r15, r17, r19⟩ := hR0
  rcases ix_cases x (n := s_cn S) (by omega) with hx | ⟨j, hj, rfl⟩
  · skip
    show AW X 2 0 0 ad ce 0 [(0, .ref (ad (3, 0, 0))), (1, .int x)] []
    refine aw_aload_n C d_R_unlike_0 rfl (j := 0) rfl ?_
    refine aw_iload_n C d_R_unlike_1 rfl (j := 1) rfl ?_
    refine aw_callV C I (k := (3, 0, 0)) (as := [.int x]) (rest := []) (r_isCarrier l G ad ce (s_cn S) (s_pn S) (s_ln S) (s_on S) kd sr np st la gby gdu gwo grd un ps gpt gff gfc (s_li S) (s_lo S) hR x) g_R_64 r0 rfl rfl ⟨by decide, by decide⟩ ⟨by decide, by decide⟩ rfl (Nat.le_of_ble_eq_true rfl) d_R_unlike_2 ?_
    rintro _ _ _ ⟨rfl, rfl, rfl⟩
    show AW X 2 0 0 ad ce 5 [(0, .ref (ad (3, 0, 0))), (1, .int x)] [.int (bI (decide (0 ≤ x ∧ x < nI (s_cn S))))]
    refine aw_topi (v' := 0) ((bI_f (by (try simp only [Int32.le_iff_toInt_le, Int32.lt_iff_toInt_lt] at hx ⊢); omega)).symm) ?_
    show AW X 2 0 0 ad ce 5 [(0, .ref (ad (3, 0, 0))), (1, .int x)] [.int 0]
    refine aw_if_eq C (tgt := 17) d_R_unlike_5 (by decide) (fun h5 => ?_) (fun h5 => absurd (rfl) h5)
    refine aw_iconst C (v := (-1)) d_R_unlike_17 (by decide) ?_
    refine aw_iret C E (rfl) (by decide) (by decide) d_R_unlike_18 ?_
    exact ⟨sI (by simp only [f_unlike, ix_out hx]), rfl, rfl⟩
  · skip
    obtain ⟨e_kd, e_sr, e_np, e_st, e_la, e_un, e_ps⟩ := hE1 j (by omega)
    obtain ⟨⟨hn1, hn2⟩, hps⟩ := hW2 j hj
    show AW X 2 0 0 ad ce 0 [(0, .ref (ad (3, 0, 0))), (1, .int (nI j))] []
    refine aw_aload_n C d_R_unlike_0 rfl (j := 0) rfl ?_
    refine aw_iload_n C d_R_unlike_1 rfl (j := 1) rfl ?_
    refine aw_callV C I (k := (3, 0, 0)) (as := [.int (nI j)]) (rest := []) (r_isCarrier l G ad ce (s_cn S) (s_pn S) (s_ln S) (s_on S) kd sr np st la gby gdu gwo grd un ps gpt gff gfc (s_li S) (s_lo S) hR (nI j)) g_R_64 r0 rfl rfl ⟨by decide, by decide⟩ ⟨by decide, by decide⟩ rfl (Nat.le_of_ble_eq_true rfl) d_R_unlike_2 ?_
    rintro _ _ _ ⟨rfl, rfl, rfl⟩
    show AW X 2 0 0 ad ce 5 [(0, .ref (ad (3, 0, 0))), (1, .int (nI j))] [.int (bI (decide (0 ≤ nI j ∧ nI j < nI (s_cn S))))]
    refine aw_topi (v' := 1) ((bI_t ⟨nI_pos' (by omega), nI_lt (by omega) (by omega)⟩).symm) ?_
    show AW X 2 0 0 ad ce 5 [(0, .ref (ad (3, 0, 0))), (1, .int (nI j))] [.int 1]
    refine aw_if_eq C (tgt := 17) d_R_unlike_5 (by decide) (fun h5 => absurd h5 (by decide)) (fun h5 => ?_)
    refine aw_aload_n C d_R_unlike_8 rfl (j := 0) rfl ?_
    refine aw_get C F_R r0 10 (by decide) tw_309 rfl d_R_unlike_9 ?_
    refine aw_iload_n C d_R_unlike_12 rfl (j := 1) rfl ?_
    refine ar_iald C r10 (j := j) (rfl) (by omega) (by omega) d_R_unlike_13 ?_
    refine aw_goto C (tgt := 18) d_R_unlike_14 (by decide) ?_
    refine aw_iret C E (rfl) (by decide) (by decide) d_R_unlike_18 ?_
    exact ⟨sI (by simp only [f_unlike, ix_in hj (show s_cn S < 2 ^ 31 by omega), e_un]), rfl, rfl⟩
set_option maxRecDepth 100000 in
set_option maxHeartbeats 4000000 in
theorem R_byteAt (l : Launch) (G : aw_G) (ad : aw_Ad) (ce : aw_He) (S : SysS) (hS : LayR S ad ce) (x y : Int32) : CT l G M_R_byteAt 2 43 0 0 [.ref (ad (3, 0, 0)), .int x, .int y] ad ce (rN (some (.int (f_byteAt S x y))) ad ce) := by
  refine CT.of (by decide) (Nat.le_of_ble_eq_true rfl) ?_
  intro X C I E
  obtain ⟨kd, sr, np, st, la, gby, gdu, gwo, grd, un, ps, gpt, gff, gfc, hR, hE, hW⟩ := hS
  have hE0 := hE
  obtain ⟨hE1, hE2, hE3, hE4, hE5, hE6, hE7⟩ := hE0
  have hW0 := hW
  obtain ⟨⟨hb1, hb2, hb3, hb4⟩, hW2, hW3⟩ := hW0
  have hR0 := hR
  obtain ⟨r0, r1, r2, r3, r4, r5, r6, r7, r8, r9, r10, r11, r12, r14, r15, r17, r19⟩ := hR0
  rcases ix_cases x (n := s_cn S) (by omega) with hx | ⟨j, hj, rfl⟩
  · skip
    show AW X 3 0 0 ad ce 0 [(0, .ref (ad (3, 0, 0))), (1, .int x), (2, .int y)] []
    refine aw_aload_n C d_R_byteAt_0 rfl (j := 0) rfl ?_
    refine aw_iload_n C d_R_byteAt_1 rfl (j := 1) rfl ?_
    refine aw_iload_n C d_R_byteAt_2 rfl (j := 2) rfl ?_
    refine aw_callV C I (k := (3, 0, 0)) (as := [.int x, .int y]) (rest := []) (r_isPlace_out l G ad ce (s_cn S) (s_pn S) (s_ln S) (s_on S) kd sr np st la gby gdu gwo grd un ps gpt gff gfc (s_li S) (s_lo S) hR x y hx) g_R_92 r0 rfl rfl ⟨by decide, by decide⟩ ⟨by decide, by decide⟩ rfl (Nat.le_of_ble_eq_true rfl) d_R_byteAt_3 ?_
    rintro _ _ _ ⟨rfl, rfl, rfl⟩
    show AW X 3 0 0 ad ce 6 [(0, .ref (ad (3, 0, 0))), (1, .int x), (2, .int y)] [.int 0]
    refine aw_if_eq C (tgt := 31) d_R_byteAt_6 (by decide) (fun h6 => ?_) (fun h6 => absurd (rfl) h6)
    refine aw_iconst C (v := (-1)) d_R_byteAt_31 (by decide) ?_
    refine aw_iret C E (rfl) (by decide) (by decide) d_R_byteAt_32 ?_
    exact ⟨sI (by simp only [f_byteAt, ix_out hx]), rfl, rfl⟩
  · skip
    obtain ⟨e_kd, e_sr, e_np, e_st, e_la, e_un, e_ps⟩ := hE1 j (by omega)
    obtain ⟨⟨hn1, hn2⟩, hps⟩ := hW2 j hj
    rcases ix_cases y (n := k_np (s_car S j)) (by omega) with hy | ⟨p, hp0, rfl⟩
    · skip
      show AW X 3 0 0 ad ce 0 [(0, .ref (ad (3, 0, 0))), (1, .int (nI j)), (2, .int y)] []
      refine aw_aload_n C d_R_byteAt_0 rfl (j := 0) rfl ?_
      refine aw_iload_n C d_R_byteAt_1 rfl (j := 1) rfl ?_
      refine aw_iload_n C d_R_byteAt_2 rfl (j := 2) rfl ?_
      refine aw_callV C I (k := (3, 0, 0)) (as := [.int (nI j), .int y]) (rest := []) (r_isPlace l G ad ce (s_cn S) (s_pn S) (s_ln S) (s_on S) kd sr np st la gby gdu gwo grd un ps gpt gff gfc (s_li S) (s_lo S) hR j _ hj hb1 e_np y) g_R_92 r0 rfl rfl ⟨by decide, by decide⟩ ⟨by decide, by decide⟩ rfl (Nat.le_of_ble_eq_true rfl) d_R_byteAt_3 ?_
      rintro _ _ _ ⟨rfl, rfl, rfl⟩
      show AW X 3 0 0 ad ce 6 [(0, .ref (ad (3, 0, 0))), (1, .int (nI j)), (2, .int y)] [.int (bI (decide (0 ≤ y ∧ y < nI (k_np (s_car S j)))))]
      refine aw_topi (v' := 0) ((bI_f (by (try simp only [Int32.le_iff_toInt_le, Int32.lt_iff_toInt_lt] at hy ⊢); omega)).symm) ?_
      show AW X 3 0 0 ad ce 6 [(0, .ref (ad (3, 0, 0))), (1, .int (nI j)), (2, .int y)] [.int 0]
      refine aw_if_eq C (tgt := 31) d_R_byteAt_6 (by decide) (fun h6 => ?_) (fun h6 => absurd (rfl) h6)
      refine aw_iconst C (v := (-1)) d_R_byteAt_31 (by decide) ?_
      refine aw_iret C E (rfl) (by decide) (by decide) d_R_byteAt_32 ?_
      exact ⟨sI (by simp only [f_byteAt, ix_in hj (show s_cn S < 2 ^ 31 by omega), ix_out hy, ite_self]), rfl, rfl⟩
    · by_cases hg : k_st (s_car S j) = 5 ∨ k_st (s_car S j) = 6
      · skip
        show AW X 3 0 0 ad ce 0 [(0, .ref (ad (3, 0, 0))), (1, .int (nI j)), (2, .int (nI p))] []
        refine aw_aload_n C d_R_byteAt_0 rfl (j := 0) rfl ?_
        refine aw_iload_n C d_R_byteAt_1 rfl (j := 1) rfl ?_
        refine aw_iload_n C d_R_byteAt_2 rfl (j := 2) rfl ?_
        refine aw_callV C I (k := (3, 0, 0)) (as := [.int (nI j), .int (nI p)]) (rest := []) (r_isPlace l G ad ce (s_cn S) (s_pn S) (s_ln S) (s_on S) kd sr np st la gby gdu gwo grd un ps gpt gff gfc (s_li S) (s_lo S) hR j _ hj hb1 e_np (nI p)) g_R_92 r0 rfl rfl ⟨by decide, by decide⟩ ⟨by decide, by decide⟩ rfl (Nat.le_of_ble_eq_true rfl) d_R_byteAt_3 ?_
        rintro _ _ _ ⟨rfl, rfl, rfl⟩
        show AW X 3 0 0 ad ce 6 [(0, .ref (ad (3, 0, 0))), (1, .int (nI j)), (2, .int (nI p))] [.int (bI (decide (0 ≤ nI p ∧ nI p < nI (k_np (s_car S j)))))]
        refine aw_topi (v' := 1) ((bI_t ⟨nI_pos' (by omega), nI_lt (by omega) (by omega)⟩).symm) ?_
        show AW X 3 0 0 ad ce 6 [(0, .ref (ad (3, 0, 0))), (1, .int (nI j)), (2, .int (nI p))] [.int 1]
        refine aw_if_eq C (tgt := 31) d_R_byteAt_6 (by decide) (fun h6 => absurd h6 (by decide)) (fun h6 => ?_)
        refine aw_aload_n C d_R_byteAt_9 rfl (j := 0) rfl ?_
        refine aw_iload_n C d_R_byteAt_10 rfl (j := 1) rfl ?_
        refine aw_callV C I (k := (3, 0, 0)) (as := [.int (nI j)]) (rest := []) (r_isGone l G ad ce (s_cn S) (s_pn S) (s_ln S) (s_on S) kd sr np st la gby gdu gwo grd un ps gpt gff gfc (s_li S) (s_lo S) hR j (by omega)) g_R_96 r0 rfl rfl ⟨by decide, by decide⟩ ⟨by decide, by decide⟩ rfl (Nat.le_of_ble_eq_true rfl) d_R_byteAt_11 ?_
        rintro _ _ _ ⟨rfl, rfl, rfl⟩
        show AW X 3 0 0 ad ce 14 [(0, .ref (ad (3, 0, 0))), (1, .int (nI j)), (2, .int (nI p))] [.int (bI (decide (st j = 5 ∨ st j = 6)))]
        refine aw_topi (v' := 1) ((bI_t (by rw [e_st]; exact hg)).symm) ?_
        show AW X 3 0 0 ad ce 14 [(0, .ref (ad (3, 0, 0))), (1, .int (nI j)), (2, .int (nI p))] [.int 1]
        refine aw_if_ne C (tgt := 31) d_R_byteAt_14 (by decide) (fun h14 => ?_) (fun h14 => absurd h14 (by decide))
        refine aw_iconst C (v := (-1)) d_R_byteAt_31 (by decide) ?_
        refine aw_iret C E (rfl) (by decide) (by decide) d_R_byteAt_32 ?_
        exact ⟨sI (by simp only [f_byteAt, ix_in hj (show s_cn S < 2 ^ 31 by omega), if_pos hg]), rfl, rfl⟩
      · skip
        show AW X 3 0 0 ad ce 0 [(0, .ref (ad (3, 0, 0))), (1, .int (nI j)), (2, .int (nI p))] []
        refine aw_aload_n C d_R_byteAt_0 rfl (j := 0) rfl ?_
        refine aw_iload_n C d_R_byteAt_1 rfl (j := 1) rfl ?_
        refine aw_iload_n C d_R_byteAt_2 rfl (j := 2) rfl ?_
        refine aw_callV C I (k := (3, 0, 0)) (as := [.int (nI j), .int (nI p)]) (rest := []) (r_isPlace l G ad ce (s_cn S) (s_pn S) (s_ln S) (s_on S) kd sr np st la gby gdu gwo grd un ps gpt gff gfc (s_li S) (s_lo S) hR j _ hj hb1 e_np (nI p)) g_R_92 r0 rfl rfl ⟨by decide, by decide⟩ ⟨by decide, by decide⟩ rfl (Nat.le_of_ble_eq_true rfl) d_R_byteAt_3 ?_
        rintro _ _ _ ⟨rfl, rfl, rfl⟩
        show AW X 3 0 0 ad ce 6 [(0, .ref (ad (3, 0, 0))), (1, .int (nI j)), (2, .int (nI p))] [.int (bI (decide (0 ≤ nI p ∧ nI p < nI (k_np (s_car S j)))))]
        refine aw_topi (v' := 1) ((bI_t ⟨nI_pos' (by omega), nI_lt (by omega) (by omega)⟩).symm) ?_
        show AW X 3 0 0 ad ce 6 [(0, .ref (ad (3, 0, 0))), (1, .int (nI j)), (2, .int (nI p))] [.int 1]
        refine aw_if_eq C (tgt := 31) d_R_byteAt_6 (by decide) (fun h6 => absurd h6 (by decide)) (fun h6 => ?_)
        refine aw_aload_n C d_R_byteAt_9 rfl (j := 0) rfl ?_
        refine aw_iload_n C d_R_byteAt_10 rfl (j := 1) rfl ?_
        refine aw_callV C I (k := (3, 0, 0)) (as := [.int (nI j)]) (rest := []) (r_isGone l G ad ce (s_cn S) (s_pn S) (s_ln S) (s_on S) kd sr np st la gby gdu gwo grd un ps gpt gff gfc (s_li S) (s_lo S) hR j (by omega)) g_R_96 r0 rfl rfl ⟨by decide, by decide⟩ ⟨by decide, by decide⟩ rfl (Nat.le_of_ble_eq_true rfl) d_R_byteAt_11 ?_
        rintro _ _ _ ⟨rfl, rfl, rfl⟩
        show AW X 3 0 0 ad ce 14 [(0, .ref (ad (3, 0, 0))), (1, .int (nI j)), (2, .int (nI p))] [.int (bI (decide (st j = 5 ∨ st j = 6)))]
        refine aw_topi (v' := 0) ((bI_f (by rw [e_st]; exact hg)).symm) ?_
        show AW X 3 0 0 ad ce 14 [(0, .ref (ad (3, 0, 0))), (1, .int (nI j)), (2, .int (nI p))] [.int 0]
        refine aw_if_ne C (tgt := 31) d_R_byteAt_14 (by decide) (fun h14 => absurd h14 (by decide)) (fun h14 => ?_)
        refine aw_aload_n C d_R_byteAt_17 rfl (j := 0) rfl ?_
        refine aw_get C F_R r0 6 (by decide) tw_305 rfl d_R_byteAt_18 ?_
        refine aw_bipush C (v := 64) d_R_byteAt_21 (by decide) ?_
        refine aw_iload_n C d_R_byteAt_23 rfl (j := 1) rfl ?_
        refine aw_imul C d_R_byteAt_24 ?_
        refine aw_iload_n C d_R_byteAt_25 rfl (j := 2) rfl ?_
        refine aw_iadd C d_R_byteAt_26 ?_
        refine aw_topi (v' := nI (64 * j + p)) (k64 _ _) ?_
        refine ar_iald C r6 (j := (64 * j + p)) (rfl) (by omega) (by omega) d_R_byteAt_27 ?_
        refine aw_goto C (tgt := 32) d_R_byteAt_28 (by decide) ?_
        refine aw_iret C E (rfl) (by decide) (by decide) d_R_byteAt_32 ?_
        exact ⟨sI (by simp only [f_byteAt, ix_in hj (show s_cn S < 2 ^ 31 by omega), if_neg hg, ix_in hp0 (show k_np (s_car S j) < 2 ^ 31 by omega)]; exact (hE2 j p hj hp0).1), rfl, rfl⟩
set_option maxRecDepth 100000 in
set_option maxHeartbeats 4000000 in
theorem R_told (l : Launch) (G : aw_G) (ad : aw_Ad) (ce : aw_He) (S : SysS) (hS : LayR S ad ce) (x : Int32) : CT l G M_R_told 0 0 0 0 [.ref (ad (3, 0, 0)), .int x] ad ce (rN (some (.int (f_told S x))) ad ce) := by
  refine CT.of (by decide) (Nat.le_of_ble_eq_true rfl) ?_
  intro X C I E
  obtain ⟨kd, sr, np, st, la, gby, gdu, gwo, grd, un, ps, gpt, gff, gfc, hR, hE, hW⟩ := hS
  have hE0 := hE
  obtain ⟨hE1, hE2, hE3, hE4, hE5, hE6, hE7⟩ := hE0
  have hW0 := hW
  obtain ⟨⟨hb1, hb2, hb3, hb4⟩, hW2, hW3⟩ := hW0
  have hR0 := hR
  obtain ⟨r0, r1, r2, r3, r4, r5, r6, r7, r8, r9, r10, r11, r12, r14, r15, r17, r19⟩ := hR0
  rcases ix_cases x (n := s_on S) (by omega) with hx | ⟨j, hj, rfl⟩
  · skip
    show AW X 2 0 0 ad ce 0 [(0, .ref (ad (3, 0, 0))), (1, .int x)] []
    refine aw_iload_n C d_R_told_0 rfl (j := 1) rfl ?_
    refine aw_if_lt C (tgt := 21) d_R_told_1 (by decide) (fun h1 => ?_) (fun h1 => ?_)
    · refine aw_iconst C (v := (-1)) d_R_told_21 (by decide) ?_
      refine aw_iret C E (rfl) (by decide) (by decide) d_R_told_22 ?_
      exact ⟨sI (by simp only [f_told, ix_out hx]), rfl, rfl⟩
    · refine aw_iload_n C d_R_told_4 rfl (j := 1) rfl ?_
      refine aw_aload_n C d_R_told_5 rfl (j := 0) rfl ?_
      refine aw_get C F_R r0 18 (by decide) tw_317 rfl d_R_told_6 ?_
      refine aw_icmp_ge C (tgt := 21) d_R_told_9 (by decide) (fun h9 => ?_) (fun h9 => ?_)
      · refine aw_iconst C (v := (-1)) d_R_told_21 (by decide) ?_
        refine aw_iret C E (rfl) (by decide) (by decide) d_R_told_22 ?_
        exact ⟨sI (by simp only [f_told, ix_out hx]), rfl, rfl⟩
      · exact absurd hx (by simp [h1, h9])
  · skip
    show AW X 2 0 0 ad ce 0 [(0, .ref (ad (3, 0, 0))), (1, .int (nI j))] []
    refine aw_iload_n C d_R_told_0 rfl (j := 1) rfl ?_
    refine aw_if_lt C (tgt := 21) d_R_told_1 (by decide) (fun h1 => absurd h1 (nI_pos (by omega))) (fun h1 => ?_)
    refine aw_iload_n C d_R_told_4 rfl (j := 1) rfl ?_
    refine aw_aload_n C d_R_told_5 rfl (j := 0) rfl ?_
    refine aw_get C F_R r0 18 (by decide) tw_317 rfl d_R_told_6 ?_
    refine aw_icmp_ge C (tgt := 21) d_R_told_9 (by decide) (fun h9 => absurd h9 (nI_ge (by omega) (by omega))) (fun h9 => ?_)
    refine aw_aload_n C d_R_told_12 rfl (j := 0) rfl ?_
    refine aw_get C F_R r0 19 (by decide) tw_318 rfl d_R_told_13 ?_
    refine aw_iload_n C d_R_told_16 rfl (j := 1) rfl ?_
    refine ar_iald C r19 (j := j) (rfl) (by omega) (by omega) d_R_told_17 ?_
    refine aw_goto C (tgt := 22) d_R_told_18 (by decide) ?_
    refine aw_iret C E (rfl) (by decide) (by decide) d_R_told_22 ?_
    exact ⟨sI (by simp only [f_told, ix_in hj (show s_on S < 2 ^ 31 by omega)]), rfl, rfl⟩
set_option maxRecDepth 100000 in
set_option maxHeartbeats 4000000 in
theorem R_at (l : Launch) (G : aw_G) (ad : aw_Ad) (ce : aw_He) (S : SysS) (hS : LayR S ad ce) (x y : Int32) : CT l G M_R_at 1 21 0 0 [.ref (ad (3, 0, 0)), .int x, .int y] ad ce (rN (some (.int (f_at S x y))) ad ce) := by
  refine CT.of (by decide) (Nat.le_of_ble_eq_true rfl) ?_
  intro X C I E
  obtain ⟨kd, sr, np, st, la, gby, gdu, gwo, grd, un, ps, gpt, gff, gfc, hR, hE, hW⟩ := hS
  have hE0 := hE
  obtain ⟨hE1, hE2, hE3, hE4, hE5, hE6, hE7⟩ := hE0
  have hW0 := hW
  obtain ⟨⟨hb1, hb2, hb3, hb4⟩, hW2, hW3⟩ := hW0
  have hR0 := hR
  obtain ⟨r0, r1, r2, r3, r4, r5, r6, r7, r8, r9, r10, r11, r12, r14, r15, r17, r19⟩ := hR0
  rcases ix_cases x (n := s_pn S) (by omega) with hx | ⟨j, hj, rfl⟩
  · skip
    show AW X 3 0 0 ad ce 0 [(0, .ref (ad (3, 0, 0))), (1, .int x), (2, .int y)] []
    refine aw_aload_n C d_R_at_0 rfl (j := 0) rfl ?_
    refine aw_iload_n C d_R_at_1 rfl (j := 1) rfl ?_
    refine aw_callV C I (k := (3, 0, 0)) (as := [.int x]) (rest := []) (r_isPaper l G ad ce (s_cn S) (s_pn S) (s_ln S) (s_on S) kd sr np st la gby gdu gwo grd un ps gpt gff gfc (s_li S) (s_lo S) hR x) g_R_116 r0 rfl rfl ⟨by decide, by decide⟩ ⟨by decide, by decide⟩ rfl (Nat.le_of_ble_eq_true rfl) d_R_at_2 ?_
    rintro _ _ _ ⟨rfl, rfl, rfl⟩
    show AW X 3 0 0 ad ce 5 [(0, .ref (ad (3, 0, 0))), (1, .int x), (2, .int y)] [.int (bI (decide (0 ≤ x ∧ x < nI (s_pn S))))]
    refine aw_topi (v' := 0) ((bI_f (by (try simp only [Int32.le_iff_toInt_le, Int32.lt_iff_toInt_lt] at hx ⊢); omega)).symm) ?_
    show AW X 3 0 0 ad ce 5 [(0, .ref (ad (3, 0, 0))), (1, .int x), (2, .int y)] [.int 0]
    refine aw_if_eq C (tgt := 36) d_R_at_5 (by decide) (fun h5 => ?_) (fun h5 => absurd (rfl) h5)
    refine aw_iconst C (v := (-1)) d_R_at_36 (by decide) ?_
    refine aw_iret C E (rfl) (by decide) (by decide) d_R_at_37 ?_
    exact ⟨sI (by simp only [f_at, ix_out hx]), rfl, rfl⟩
  · obtain ⟨h6, h12⟩ := hW3 j hj
    have hfc := hE6 j hj
    rcases ix_cases y (n := (s_pap S j).1) (by omega) with hy | ⟨p, hp0, rfl⟩
    · skip
      show AW X 3 0 0 ad ce 0 [(0, .ref (ad (3, 0, 0))), (1, .int (nI j)), (2, .int y)] []
      refine aw_aload_n C d_R_at_0 rfl (j := 0) rfl ?_
      refine aw_iload_n C d_R_at_1 rfl (j := 1) rfl ?_
      refine aw_callV C I (k := (3, 0, 0)) (as := [.int (nI j)]) (rest := []) (r_isPaper l G ad ce (s_cn S) (s_pn S) (s_ln S) (s_on S) kd sr np st la gby gdu gwo grd un ps gpt gff gfc (s_li S) (s_lo S) hR (nI j)) g_R_116 r0 rfl rfl ⟨by decide, by decide⟩ ⟨by decide, by decide⟩ rfl (Nat.le_of_ble_eq_true rfl) d_R_at_2 ?_
      rintro _ _ _ ⟨rfl, rfl, rfl⟩
      show AW X 3 0 0 ad ce 5 [(0, .ref (ad (3, 0, 0))), (1, .int (nI j)), (2, .int y)] [.int (bI (decide (0 ≤ nI j ∧ nI j < nI (s_pn S))))]
      refine aw_topi (v' := 1) ((bI_t ⟨nI_pos' (by omega), nI_lt (by omega) (by omega)⟩).symm) ?_
      show AW X 3 0 0 ad ce 5 [(0, .ref (ad (3, 0, 0))), (1, .int (nI j)), (2, .int y)] [.int 1]
      refine aw_if_eq C (tgt := 36) d_R_at_5 (by decide) (fun h5 => absurd h5 (by decide)) (fun h5 => ?_)
      refine aw_iload_n C d_R_at_8 rfl (j := 2) rfl ?_
      refine aw_if_lt C (tgt := 36) d_R_at_9 (by decide) (fun h9 => ?_) (fun h9 => ?_)
      · refine aw_iconst C (v := (-1)) d_R_at_36 (by decide) ?_
        refine aw_iret C E (rfl) (by decide) (by decide) d_R_at_37 ?_
        exact ⟨sI (by simp only [f_at, ix_in hj (show s_pn S < 2 ^ 31 by omega), ix_out hy]), rfl, rfl⟩
      · refine aw_iload_n C d_R_at_12 rfl (j := 2) rfl ?_
        refine aw_aload_n C d_R_at_13 rfl (j := 0) rfl ?_
        refine aw_get C F_R r0 15 (by decide) tw_314 rfl d_R_at_14 ?_
        refine aw_iload_n C d_R_at_17 rfl (j := 1) rfl ?_
        refine ar_iald C r15 (j := j) (rfl) (by omega) (by omega) d_R_at_18 ?_
        refine aw_topi (v' := nI (s_pap S j).1) (hfc) ?_
        refine aw_icmp_ge C (tgt := 36) d_R_at_19 (by decide) (fun h19 => ?_) (fun h19 => ?_)
        · refine aw_iconst C (v := (-1)) d_R_at_36 (by decide) ?_
          refine aw_iret C E (rfl) (by decide) (by decide) d_R_at_37 ?_
          exact ⟨sI (by simp only [f_at, ix_in hj (show s_pn S < 2 ^ 31 by omega), ix_out hy]), rfl, rfl⟩
        · exact absurd hy (by simp [h9, h19])
    · skip
      show AW X 3 0 0 ad ce 0 [(0, .ref (ad (3, 0, 0))), (1, .int (nI j)), (2, .int (nI p))] []
      refine aw_aload_n C d_R_at_0 rfl (j := 0) rfl ?_
      refine aw_iload_n C d_R_at_1 rfl (j := 1) rfl ?_
      refine aw_callV C I (k := (3, 0, 0)) (as := [.int (nI j)]) (rest := []) (r_isPaper l G ad ce (s_cn S) (s_pn S) (s_ln S) (s_on S) kd sr np st la gby gdu gwo grd un ps gpt gff gfc (s_li S) (s_lo S) hR (nI j)) g_R_116 r0 rfl rfl ⟨by decide, by decide⟩ ⟨by decide, by decide⟩ rfl (Nat.le_of_ble_eq_true rfl) d_R_at_2 ?_
      rintro _ _ _ ⟨rfl, rfl, rfl⟩
      show AW X 3 0 0 ad ce 5 [(0, .ref (ad (3, 0, 0))), (1, .int (nI j)), (2, .int (nI p))] [.int (bI (decide (0 ≤ nI j ∧ nI j < nI (s_pn S))))]
      refine aw_topi (v' := 1) ((bI_t ⟨nI_pos' (by omega), nI_lt (by omega) (by omega)⟩).symm) ?_
      show AW X 3 0 0 ad ce 5 [(0, .ref (ad (3, 0, 0))), (1, .int (nI j)), (2, .int (nI p))] [.int 1]
      refine aw_if_eq C (tgt := 36) d_R_at_5 (by decide) (fun h5 => absurd h5 (by decide)) (fun h5 => ?_)
      refine aw_iload_n C d_R_at_8 rfl (j := 2) rfl ?_
      refine aw_if_lt C (tgt := 36) d_R_at_9 (by decide) (fun h9 => absurd h9 (nI_pos (by omega))) (fun h9 => ?_)
      refine aw_iload_n C d_R_at_12 rfl (j := 2) rfl ?_
      refine aw_aload_n C d_R_at_13 rfl (j := 0) rfl ?_
      refine aw_get C F_R r0 15 (by decide) tw_314 rfl d_R_at_14 ?_
      refine aw_iload_n C d_R_at_17 rfl (j := 1) rfl ?_
      refine ar_iald C r15 (j := j) (rfl) (by omega) (by omega) d_R_at_18 ?_
      refine aw_topi (v' := nI (s_pap S j).1) (hfc) ?_
      refine aw_icmp_ge C (tgt := 36) d_R_at_19 (by decide) (fun h19 => absurd h19 (nI_ge (by omega) (by omega))) (fun h19 => ?_)
      refine aw_aload_n C d_R_at_22 rfl (j := 0) rfl ?_
      refine aw_get C F_R r0 14 (by decide) tw_313 rfl d_R_at_23 ?_
      refine aw_bipush C (v := 12) d_R_at_26 (by decide) ?_
      refine aw_iload_n C d_R_at_28 rfl (j := 1) rfl ?_
      refine aw_imul C d_R_at_29 ?_
      refine aw_iload_n C d_R_at_30 rfl (j := 2) rfl ?_
      refine aw_iadd C d_R_at_31 ?_
      refine aw_topi (v' := nI (12 * j + p)) (k12 _ _) ?_
      refine ar_iald C r14 (j := (12 * j + p)) (rfl) (by omega) (by omega) d_R_at_32 ?_
      refine aw_goto C (tgt := 37) d_R_at_33 (by decide) ?_
      refine aw_iret C E (rfl) (by decide) (by decide) d_R_at_37 ?_
      exact ⟨sI (by simp only [f_at, ix_in hj (show s_pn S < 2 ^ 31 by omega), ix_in hp0 (show (s_pap S j).1 < 2 ^ 31 by omega)]; exact hE5 j p hj hp0), rfl, rfl⟩
set_option maxRecDepth 100000 in
set_option maxHeartbeats 4000000 in
theorem R_mark (l : Launch) (G : aw_G) (ad : aw_Ad) (ce : aw_He) (S : SysS) (hS : LayR S ad ce) (x : Int32) (key : Int64) (i : Int32) : CT l G M_R_mark 1 26 0 0 [.ref (ad (3, 0, 0)), .int x, .long key, .int i] ad ce (rN (some (.int (f_mark S x key i))) ad ce) := by
  refine CT.of (by decide) (Nat.le_of_ble_eq_true rfl) ?_
  intro X C I E
  obtain ⟨kd, sr, np, st, la, gby, gdu, gwo, grd, un, ps, gpt, gff, gfc, hR, hE, hW⟩ := hS
  have hE0 := hE
  obtain ⟨hE1, hE2, hE3, hE4, hE5, hE6, hE7⟩ := hE0
  have hW0 := hW
  obtain ⟨⟨hb1, hb2, hb3, hb4⟩, hW2, hW3⟩ := hW0
  have hR0 := hR
  obtain ⟨r0, r1, r2, r3, r4, r5, r6, r7, r8, r9, r10, r11, r12, r14, r15, r17, r19⟩ := hR0
  rcases ix_cases x (n := s_pn S) (by omega) with hx | ⟨j, hj, rfl⟩
  · skip
    show AW X 5 0 0 ad ce 0 [(0, .ref (ad (3, 0, 0))), (1, .int x), (2, .long key), (4, .int i)] []
    refine aw_aload_n C d_R_mark_0 rfl (j := 0) rfl ?_
    refine aw_iload_n C d_R_mark_1 rfl (j := 1) rfl ?_
    refine aw_callV C I (k := (3, 0, 0)) (as := [.int x]) (rest := []) (r_isPaper l G ad ce (s_cn S) (s_pn S) (s_ln S) (s_on S) kd sr np st la gby gdu gwo grd un ps gpt gff gfc (s_li S) (s_lo S) hR x) g_R_116 r0 rfl rfl ⟨by decide, by decide⟩ ⟨by decide, by decide⟩ rfl (Nat.le_of_ble_eq_true rfl) d_R_mark_2 ?_
    rintro _ _ _ ⟨rfl, rfl, rfl⟩
    show AW X 5 0 0 ad ce 5 [(0, .ref (ad (3, 0, 0))), (1, .int x), (2, .long key), (4, .int i)] [.int (bI (decide (0 ≤ x ∧ x < nI (s_pn S))))]
    refine aw_topi (v' := 0) ((bI_f (by (try simp only [Int32.le_iff_toInt_le, Int32.lt_iff_toInt_lt] at hx ⊢); omega)).symm) ?_
    show AW X 5 0 0 ad ce 5 [(0, .ref (ad (3, 0, 0))), (1, .int x), (2, .long key), (4, .int i)] [.int 0]
    refine aw_if_eq C (tgt := 44) d_R_mark_5 (by decide) (fun h5 => ?_) (fun h5 => absurd (rfl) h5)
    refine aw_iconst C (v := (-1)) d_R_mark_44 (by decide) ?_
    refine aw_iret C E (rfl) (by decide) (by decide) d_R_mark_45 ?_
    exact ⟨sI (by simp only [f_mark, ix_out hx]), rfl, rfl⟩
  · obtain ⟨h6, h12⟩ := hW3 j hj
    by_cases hi : 0 ≤ i ∧ i ≤ 7
    · skip
      show AW X 5 0 0 ad ce 0 [(0, .ref (ad (3, 0, 0))), (1, .int (nI j)), (2, .long key), (4, .int i)] []
      refine aw_aload_n C d_R_mark_0 rfl (j := 0) rfl ?_
      refine aw_iload_n C d_R_mark_1 rfl (j := 1) rfl ?_
      refine aw_callV C I (k := (3, 0, 0)) (as := [.int (nI j)]) (rest := []) (r_isPaper l G ad ce (s_cn S) (s_pn S) (s_ln S) (s_on S) kd sr np st la gby gdu gwo grd un ps gpt gff gfc (s_li S) (s_lo S) hR (nI j)) g_R_116 r0 rfl rfl ⟨by decide, by decide⟩ ⟨by decide, by decide⟩ rfl (Nat.le_of_ble_eq_true rfl) d_R_mark_2 ?_
      rintro _ _ _ ⟨rfl, rfl, rfl⟩
      show AW X 5 0 0 ad ce 5 [(0, .ref (ad (3, 0, 0))), (1, .int (nI j)), (2, .long key), (4, .int i)] [.int (bI (decide (0 ≤ nI j ∧ nI j < nI (s_pn S))))]
      refine aw_topi (v' := 1) ((bI_t ⟨nI_pos' (by omega), nI_lt (by omega) (by omega)⟩).symm) ?_
      show AW X 5 0 0 ad ce 5 [(0, .ref (ad (3, 0, 0))), (1, .int (nI j)), (2, .long key), (4, .int i)] [.int 1]
      refine aw_if_eq C (tgt := 44) d_R_mark_5 (by decide) (fun h5 => absurd h5 (by decide)) (fun h5 => ?_)
      refine aw_iload C d_R_mark_8 (j := 3) rfl ?_
      refine aw_i2l C d_R_mark_10 ?_
      refine aw_lconst C (v := 0) d_R_mark_11 (by decide) ?_
      refine aw_ldc2 C tw_462 d_R_mark_12 ?_
      refine aw_callS C I (as := [.long (Int32.toInt64 i), .long 0, .long 7]) (rest := []) (r_isIn l G ad ce (Int32.toInt64 i) 0 7) g_R_70 ⟨by decide, by decide⟩ ⟨by decide, by decide⟩ rfl (Nat.le_of_ble_eq_true rfl) d_R_mark_15 ?_
      rintro _ _ _ ⟨rfl, rfl, rfl⟩
      show AW X 5 0 0 ad ce 18 [(0, .ref (ad (3, 0, 0))), (1, .int (nI j)), (2, .long key), (4, .int i)] [.int (bI (decide (0 ≤ Int32.toInt64 i ∧ Int32.toInt64 i ≤ 7)))]
      refine aw_topi (v' := 1) ((bI_t ((in32 rfl rfl).mpr hi)).symm) ?_
      show AW X 5 0 0 ad ce 18 [(0, .ref (ad (3, 0, 0))), (1, .int (nI j)), (2, .long key), (4, .int i)] [.int 1]
      refine aw_if_eq C (tgt := 44) d_R_mark_18 (by decide) (fun h18 => absurd h18 (by decide)) (fun h18 => ?_)
      refine aw_aload_n C d_R_mark_21 rfl (j := 0) rfl ?_
      refine aw_iload_n C d_R_mark_22 rfl (j := 1) rfl ?_
      refine aw_lload_n C d_R_mark_23 rfl (j := 2) rfl ?_
      refine aw_callV C I (k := (3, 0, 0)) (as := [.int (nI j), .long key]) (rest := []) (r_markOf l G ad ce (s_cn S) (s_pn S) (s_ln S) (s_on S) kd sr np st la gby gdu gwo grd un ps gpt gff gfc (s_li S) (s_lo S) hR j (by omega) (s_pap S j) h12 (hE6 j hj) (fun k hk => hE5 j k hj hk) key) g_R_123 r0 rfl rfl ⟨by decide, by decide⟩ ⟨by decide, by decide⟩ rfl (Nat.le_of_ble_eq_true rfl) d_R_mark_24 ?_
      rintro _ _ _ ⟨rfl, rfl, rfl⟩
      show AW X 5 0 0 ad ce 27 [(0, .ref (ad (3, 0, 0))), (1, .int (nI j)), (2, .long key), (4, .int i)] [.long (fldM mkS (s_pap S j).2 (s_pap S j).1 0 key)]
      refine aw_bipush C (v := 56) d_R_mark_27 (by decide) ?_
      refine aw_bipush C (v := 8) d_R_mark_29 (by decide) ?_
      refine aw_iload C d_R_mark_31 (j := 3) rfl ?_
      refine aw_imul C d_R_mark_33 ?_
      refine aw_isub C d_R_mark_34 ?_
      refine aw_lushr C d_R_mark_35 ?_
      refine aw_ldc2 C tw_427 d_R_mark_36 ?_
      refine aw_land C d_R_mark_39 ?_
      refine aw_l2i C d_R_mark_40 ?_
      refine aw_topi (v' := mkB (mkOf (s_pap S j) key) (56 - 8 * i)) (by simp only [mkB, mkOf]) ?_
      refine aw_goto C (tgt := 45) d_R_mark_41 (by decide) ?_
      refine aw_iret C E (rfl) (by decide) (by decide) d_R_mark_45 ?_
      exact ⟨sI (by simp only [f_mark, ix_in hj (show s_pn S < 2 ^ 31 by omega), if_pos hi]), rfl, rfl⟩
    · skip
      show AW X 5 0 0 ad ce 0 [(0, .ref (ad (3, 0, 0))), (1, .int (nI j)), (2, .long key), (4, .int i)] []
      refine aw_aload_n C d_R_mark_0 rfl (j := 0) rfl ?_
      refine aw_iload_n C d_R_mark_1 rfl (j := 1) rfl ?_
      refine aw_callV C I (k := (3, 0, 0)) (as := [.int (nI j)]) (rest := []) (r_isPaper l G ad ce (s_cn S) (s_pn S) (s_ln S) (s_on S) kd sr np st la gby gdu gwo grd un ps gpt gff gfc (s_li S) (s_lo S) hR (nI j)) g_R_116 r0 rfl rfl ⟨by decide, by decide⟩ ⟨by decide, by decide⟩ rfl (Nat.le_of_ble_eq_true rfl) d_R_mark_2 ?_
      rintro _ _ _ ⟨rfl, rfl, rfl⟩
      show AW X 5 0 0 ad ce 5 [(0, .ref (ad (3, 0, 0))), (1, .int (nI j)), (2, .long key), (4, .int i)] [.int (bI (decide (0 ≤ nI j ∧ nI j < nI (s_pn S))))]
      refine aw_topi (v' := 1) ((bI_t ⟨nI_pos' (by omega), nI_lt (by omega) (by omega)⟩).symm) ?_
      show AW X 5 0 0 ad ce 5 [(0, .ref (ad (3, 0, 0))), (1, .int (nI j)), (2, .long key), (4, .int i)] [.int 1]
      refine aw_if_eq C (tgt := 44) d_R_mark_5 (by decide) (fun h5 => absurd h5 (by decide)) (fun h5 => ?_)
      refine aw_iload C d_R_mark_8 (j := 3) rfl ?_
      refine aw_i2l C d_R_mark_10 ?_
      refine aw_lconst C (v := 0) d_R_mark_11 (by decide) ?_
      refine aw_ldc2 C tw_462 d_R_mark_12 ?_
      refine aw_callS C I (as := [.long (Int32.toInt64 i), .long 0, .long 7]) (rest := []) (r_isIn l G ad ce (Int32.toInt64 i) 0 7) g_R_70 ⟨by decide, by decide⟩ ⟨by decide, by decide⟩ rfl (Nat.le_of_ble_eq_true rfl) d_R_mark_15 ?_
      rintro _ _ _ ⟨rfl, rfl, rfl⟩
      show AW X 5 0 0 ad ce 18 [(0, .ref (ad (3, 0, 0))), (1, .int (nI j)), (2, .long key), (4, .int i)] [.int (bI (decide (0 ≤ Int32.toInt64 i ∧ Int32.toInt64 i ≤ 7)))]
      refine aw_topi (v' := 0) ((bI_f (fun q => hi ((in32 rfl rfl).mp q))).symm) ?_
      show AW X 5 0 0 ad ce 18 [(0, .ref (ad (3, 0, 0))), (1, .int (nI j)), (2, .long key), (4, .int i)] [.int 0]
      refine aw_if_eq C (tgt := 44) d_R_mark_18 (by decide) (fun h18 => ?_) (fun h18 => absurd (rfl) h18)
      refine aw_iconst C (v := (-1)) d_R_mark_44 (by decide) ?_
      refine aw_iret C E (rfl) (by decide) (by decide) d_R_mark_45 ?_
      exact ⟨sI (by simp only [f_mark, ix_in hj (show s_pn S < 2 ^ 31 by omega), if_neg hi]), rfl, rfl⟩
end
section
theorem s_set_cn (S : SysS) (j : Nat) (c : CarS) : s_cn (s_set S j c) = s_cn S := rfl
theorem s_set_car (S : SysS) (j : Nat) (c : CarS) : s_car (s_set S j c) = va_up (s_car S) j c := rfl
theorem WFS.set {S : SysS} (h : WFS S) {j : Nat} {c : CarS} (hn : 1 ≤ k_np c ∧ k_np c ≤ 64) (hp : k_ps c ≤ 6) : WFS (s_set S j c) := by
  obtain ⟨h1, h2, h3⟩ := h
  refine ⟨h1, fun i hi => ?_, h3⟩
  rw [s_set_car]
  by_cases e : i = j
  · subst e; rw [va_up_self]; exact ⟨hn, hp⟩
  · rw [va_up_ne _ _ e]; exact h2 i hi
theorem Rel.set {S : SysS} {kd : Nat → Int32} {sr : Nat → Int64} {np st la gby gdu gwo grd un ps gpt gff gfc st' la' gby' gdu' gwo' grd' un' ps' gpt' : Nat → Int32} (h : Rel S kd sr np st la gby gdu gwo grd un ps gpt gff gfc) (hW : WFS S) {j : Nat} (hj : j < s_cn S) (c : CarS)
    (e_kd : k_kd c = k_kd (s_car S j)) (e_sr : k_sr c = k_sr (s_car S j)) (e_np : k_np c = k_np (s_car S j))
    (hst : ∀ i, i < 10 → st' i = if i = j then k_st c else st i) (hla : ∀ i, i < 10 → la' i = if i = j then k_la c else la i) (hun : ∀ i, i < 10 → un' i = if i = j then k_un c else un i) (hps : ∀ i, i < 10 → ps' i = if i = j then nI (k_ps c) else ps i)
    (hby : (∀ k, k < k_np c → gby' (64 * j + k) = k_by c k) ∧ ∀ q, (q < 64 * j ∨ 64 * j + 64 ≤ q) → gby' q = gby q) (hdu : (∀ k, k < k_np c → gdu' (64 * j + k) = k_du c k) ∧ ∀ q, (q < 64 * j ∨ 64 * j + 64 ≤ q) → gdu' q = gdu q)
    (hwo : (∀ k, k < k_np c → gwo' (64 * j + k) = k_wo c k) ∧ ∀ q, (q < 64 * j ∨ 64 * j + 64 ≤ q) → gwo' q = gwo q) (hrd : (∀ k, k < k_np c → grd' (64 * j + k) = k_rd c k) ∧ ∀ q, (q < 64 * j ∨ 64 * j + 64 ≤ q) → grd' q = grd q)
    (hpt : (∀ k, k < k_ps c → gpt' (6 * j + k) = k_pt c k) ∧ ∀ q, (q < 6 * j ∨ 6 * j + 6 ≤ q) → gpt' q = gpt q) :
    Rel (s_set S j c) kd sr np st' la' gby' gdu' gwo' grd' un' ps' gpt' gff gfc := by
  obtain ⟨h1, h2, h3, h4, h5, h6, h7⟩ := h
  obtain ⟨⟨w1, -⟩, w2, -⟩ := hW
  refine ⟨fun i hi => ?_, fun i k hi hk => ?_, fun i k hi hi2 hk => ?_, fun i k hi hk => ?_, h5, h6, fun i hi => ?_⟩
  · rw [s_set_car]
    by_cases e : i = j
    · subst e
      rw [va_up_self, hst i hi, hla i hi, hun i hi, hps i hi, if_pos rfl, if_pos rfl, if_pos rfl, if_pos rfl, e_kd, e_sr, e_np]
      obtain ⟨a1, a2, a3, -⟩ := h1 i hi
      exact ⟨a1, a2, a3, rfl, rfl, rfl, rfl⟩
    · rw [va_up_ne _ _ e, hst i hi, hla i hi, hun i hi, hps i hi, if_neg e, if_neg e, if_neg e, if_neg e]
      exact h1 i hi
  · rw [s_set_car] at hk ⊢
    by_cases e : i = j
    · subst e
      rw [va_up_self] at hk ⊢
      exact ⟨hby.1 k hk, hdu.1 k hk, hwo.1 k hk, hrd.1 k hk⟩
    · rw [va_up_ne _ _ e] at hk ⊢
      have hi' : i < s_cn S := hi
      have hq : 64 * i + k < 64 * j ∨ 64 * j + 64 ≤ 64 * i + k := by
        have := (w2 i hi').1.2
        omega
      rw [hby.2 _ hq, hdu.2 _ hq, hwo.2 _ hq, hrd.2 _ hq]
      exact h2 i k hi' hk
  · have hi' : s_cn S ≤ i := hi
    have hq : 64 * i + k < 64 * j ∨ 64 * j + 64 ≤ 64 * i + k := by omega
    rw [hby.2 _ hq, hdu.2 _ hq, hwo.2 _ hq, hrd.2 _ hq]
    exact h3 i k hi' hi2 hk
  · rw [s_set_car] at hk ⊢
    by_cases e : i = j
    · subst e
      rw [va_up_self] at hk ⊢
      exact hpt.1 k hk
    · rw [va_up_ne _ _ e] at hk ⊢
      have hi' : i < s_cn S := hi
      have := (w2 i hi').2
      rw [hpt.2 _ (by omega)]
      exact h4 i k hi' hk
  · rw [s_set_car]
    have hi' : s_cn S ≤ i := hi
    rw [va_up_ne _ _ (by omega)]
    exact h7 i hi'
/-- a place that stays -/
theorem ifs {f : Nat → Int32} {j i : Nat} {v : Int32} (h : f j = v) : f i = if i = j then v else f i := by
  by_cases e : i = j
  · subst e; rw [if_pos rfl, h]
  · rw [if_neg e]
theorem ifu {f : Nat → Int32} {j i : Nat} {v w : Int32} (h : w = v) : upd f j w i = if i = j then v else f i := by
  subst h; rfl
theorem updn {f : Nat → Int32} {j i : Nat} {w : Int32} (h : ¬ i = j) : upd f j w i = f i := if_neg h
end
section
set_option maxRecDepth 100000 in
set_option maxHeartbeats 4000000 in
theorem R_fail (l : Launch) (G : aw_G) (ad : aw_Ad) (ce : aw_He) (S : SysS) (hS : LayR S ad ce) (x y : Int32) : CT l G M_R_fail 2 43 0 0 [.ref (ad (3, 0, 0)), .int x, .int y] ad ce (rR (some (.int (f_fail S x y).1)) (f_fail S x y).2 ad ce) := by
  refine CT.of (by decide) (Nat.le_of_ble_eq_true rfl) ?_
  intro X C I E
  obtain ⟨kd, sr, np, st, la, gby, gdu, gwo, grd, un, ps, gpt, gff, gfc, hR, hE, hW⟩ := hS
  have hE0 := hE
  obtain ⟨hE1, hE2, hE3, hE4, hE5, hE6, hE7⟩ := hE0
  have hW0 := hW
  obtain ⟨⟨hb1, hb2, hb3, hb4⟩, hW2, hW3⟩ := hW0
  have hR0 := hR
  obtain ⟨r0, r1, r2, r3, r4, r5, r6, r7, r8, r9, r10, r11, r12, r14, r15, r17, r19⟩ := hR0
  rcases ix_cases x (n := s_cn S) (by omega) with hx | ⟨j, hj, rfl⟩
  · skip
    show AW X 3 0 0 ad ce 0 [(0, .ref (ad (3, 0, 0))), (1, .int x), (2, .int y)] []
    refine aw_aload_n C d_R_fail_0 rfl (j := 0) rfl ?_
    refine aw_iload_n C d_R_fail_1 rfl (j := 1) rfl ?_
    refine aw_iload_n C d_R_fail_2 rfl (j := 2) rfl ?_
    refine aw_callV C I (k := (3, 0, 0)) (as := [.int x, .int y]) (rest := []) (r_isPlace_out l G ad ce (s_cn S) (s_pn S) (s_ln S) (s_on S) kd sr np st la gby gdu gwo grd un ps gpt gff gfc (s_li S) (s_lo S) hR x y hx) g_R_92 r0 rfl rfl ⟨by decide, by decide⟩ ⟨by decide, by decide⟩ rfl (Nat.le_of_ble_eq_true rfl) d_R_fail_3 ?_
    rintro _ _ _ ⟨rfl, rfl, rfl⟩
    show AW X 3 0 0 ad ce 6 [(0, .ref (ad (3, 0, 0))), (1, .int x), (2, .int y)] [.int 0]
    refine aw_if_eq C (tgt := 31) d_R_fail_6 (by decide) (fun h6 => ?_) (fun h6 => absurd (rfl) h6)
    refine aw_iconst C (v := 0) d_R_fail_31 (by decide) ?_
    refine aw_iret C E (rfl) (by decide) (by decide) d_R_fail_32 ?_
    rw [show f_fail S x y = (0, S) from by simp only [f_fail, ix_out hx]]
    exact ⟨rfl, rfl, frR.rf, ⟨kd, sr, np, st, la, gby, gdu, gwo, grd, un, ps, gpt, gff, gfc, hR, hE, hW⟩⟩
  · skip
    obtain ⟨e_kd, e_sr, e_np, e_st, e_la, e_un, e_ps⟩ := hE1 j (by omega)
    obtain ⟨⟨hn1, hn2⟩, hps⟩ := hW2 j hj
    rcases ix_cases y (n := k_np (s_car S j)) (by omega) with hy | ⟨p, hp0, rfl⟩
    · skip
      show AW X 3 0 0 ad ce 0 [(0, .ref (ad (3, 0, 0))), (1, .int (nI j)), (2, .int y)] []
      refine aw_aload_n C d_R_fail_0 rfl (j := 0) rfl ?_
      refine aw_iload_n C d_R_fail_1 rfl (j := 1) rfl ?_
      refine aw_iload_n C d_R_fail_2 rfl (j := 2) rfl ?_
      refine aw_callV C I (k := (3, 0, 0)) (as := [.int (nI j), .int y]) (rest := []) (r_isPlace l G ad ce (s_cn S) (s_pn S) (s_ln S) (s_on S) kd sr np st la gby gdu gwo grd un ps gpt gff gfc (s_li S) (s_lo S) hR j _ hj hb1 e_np y) g_R_92 r0 rfl rfl ⟨by decide, by decide⟩ ⟨by decide, by decide⟩ rfl (Nat.le_of_ble_eq_true rfl) d_R_fail_3 ?_
      rintro _ _ _ ⟨rfl, rfl, rfl⟩
      show AW X 3 0 0 ad ce 6 [(0, .ref (ad (3, 0, 0))), (1, .int (nI j)), (2, .int y)] [.int (bI (decide (0 ≤ y ∧ y < nI (k_np (s_car S j)))))]
      refine aw_topi (v' := 0) ((bI_f (by (try simp only [Int32.le_iff_toInt_le, Int32.lt_iff_toInt_lt] at hy ⊢); omega)).symm) ?_
      show AW X 3 0 0 ad ce 6 [(0, .ref (ad (3, 0, 0))), (1, .int (nI j)), (2, .int y)] [.int 0]
      refine aw_if_eq C (tgt := 31) d_R_fail_6 (by decide) (fun h6 => ?_) (fun h6 => absurd (rfl) h6)
      refine aw_iconst C (v := 0) d_R_fail_31 (by decide) ?_
      refine aw_iret C E (rfl) (by decide) (by decide) d_R_fail_32 ?_
      rw [show f_fail S (nI j) y = (0, S) from by simp only [f_fail, ix_in hj (show s_cn S < 2 ^ 31 by omega), ix_out hy, ite_self]]
      exact ⟨rfl, rfl, frR.rf, ⟨kd, sr, np, st, la, gby, gdu, gwo, grd, un, ps, gpt, gff, gfc, hR, hE, hW⟩⟩
    by_cases hw : k_wo (s_car S j) p = 0
    · by_cases hg : k_st (s_car S j) = 5 ∨ k_st (s_car S j) = 6
      · skip
        show AW X 3 0 0 ad ce 0 [(0, .ref (ad (3, 0, 0))), (1, .int (nI j)), (2, .int (nI p))] []
        refine aw_aload_n C d_R_fail_0 rfl (j := 0) rfl ?_
        refine aw_iload_n C d_R_fail_1 rfl (j := 1) rfl ?_
        refine aw_iload_n C d_R_fail_2 rfl (j := 2) rfl ?_
        refine aw_callV C I (k := (3, 0, 0)) (as := [.int (nI j), .int (nI p)]) (rest := []) (r_isPlace l G ad ce (s_cn S) (s_pn S) (s_ln S) (s_on S) kd sr np st la gby gdu gwo grd un ps gpt gff gfc (s_li S) (s_lo S) hR j _ hj hb1 e_np (nI p)) g_R_92 r0 rfl rfl ⟨by decide, by decide⟩ ⟨by decide, by decide⟩ rfl (Nat.le_of_ble_eq_true rfl) d_R_fail_3 ?_
        rintro _ _ _ ⟨rfl, rfl, rfl⟩
        show AW X 3 0 0 ad ce 6 [(0, .ref (ad (3, 0, 0))), (1, .int (nI j)), (2, .int (nI p))] [.int (bI (decide (0 ≤ nI p ∧ nI p < nI (k_np (s_car S j)))))]
        refine aw_topi (v' := 1) ((bI_t ⟨nI_pos' (by omega), nI_lt (by omega) (by omega)⟩).symm) ?_
        show AW X 3 0 0 ad ce 6 [(0, .ref (ad (3, 0, 0))), (1, .int (nI j)), (2, .int (nI p))] [.int 1]
        refine aw_if_eq C (tgt := 31) d_R_fail_6 (by decide) (fun h6 => absurd h6 (by decide)) (fun h6 => ?_)
        refine aw_aload_n C d_R_fail_9 rfl (j := 0) rfl ?_
        refine aw_get C F_R r0 8 (by decide) tw_307 rfl d_R_fail_10 ?_
        refine aw_bipush C (v := 64) d_R_fail_13 (by decide) ?_
        refine aw_iload_n C d_R_fail_15 rfl (j := 1) rfl ?_
        refine aw_imul C d_R_fail_16 ?_
        refine aw_iload_n C d_R_fail_17 rfl (j := 2) rfl ?_
        refine aw_iadd C d_R_fail_18 ?_
        refine aw_topi (v' := nI (64 * j + p)) (k64 _ _) ?_
        refine ar_zald C r8 (j := (64 * j + p)) (rfl) (by omega) (by omega) d_R_fail_19 ?_
        refine aw_topi (v' := k_wo (s_car S j) p) ((hE2 j p hj hp0).2.2.1) ?_
        refine aw_if_ne C (tgt := 31) d_R_fail_20 (by decide) (fun h20 => absurd h20 (fun q => q hw)) (fun h20 => ?_)
        refine aw_aload_n C d_R_fail_23 rfl (j := 0) rfl ?_
        refine aw_iload_n C d_R_fail_24 rfl (j := 1) rfl ?_
        refine aw_callV C I (k := (3, 0, 0)) (as := [.int (nI j)]) (rest := []) (r_isGone l G ad ce (s_cn S) (s_pn S) (s_ln S) (s_on S) kd sr np st la gby gdu gwo grd un ps gpt gff gfc (s_li S) (s_lo S) hR j (by omega)) g_R_96 r0 rfl rfl ⟨by decide, by decide⟩ ⟨by decide, by decide⟩ rfl (Nat.le_of_ble_eq_true rfl) d_R_fail_25 ?_
        rintro _ _ _ ⟨rfl, rfl, rfl⟩
        show AW X 3 0 0 ad ce 28 [(0, .ref (ad (3, 0, 0))), (1, .int (nI j)), (2, .int (nI p))] [.int (bI (decide (st j = 5 ∨ st j = 6)))]
        refine aw_topi (v' := 1) ((bI_t (by rw [e_st]; exact hg)).symm) ?_
        show AW X 3 0 0 ad ce 28 [(0, .ref (ad (3, 0, 0))), (1, .int (nI j)), (2, .int (nI p))] [.int 1]
        refine aw_if_eq C (tgt := 33) d_R_fail_28 (by decide) (fun h28 => absurd h28 (by decide)) (fun h28 => ?_)
        refine aw_iconst C (v := 0) d_R_fail_31 (by decide) ?_
        refine aw_iret C E (rfl) (by decide) (by decide) d_R_fail_32 ?_
        rw [show f_fail S (nI j) (nI p) = (0, S) from by simp only [f_fail, ix_in hj (show s_cn S < 2 ^ 31 by omega), if_pos hg]]
        exact ⟨rfl, rfl, frR.rf, ⟨kd, sr, np, st, la, gby, gdu, gwo, grd, un, ps, gpt, gff, gfc, hR, hE, hW⟩⟩
      · skip
        show AW X 3 0 0 ad ce 0 [(0, .ref (ad (3, 0, 0))), (1, .int (nI j)), (2, .int (nI p))] []
        refine aw_aload_n C d_R_fail_0 rfl (j := 0) rfl ?_
        refine aw_iload_n C d_R_fail_1 rfl (j := 1) rfl ?_
        refine aw_iload_n C d_R_fail_2 rfl (j := 2) rfl ?_
        refine aw_callV C I (k := (3, 0, 0)) (as := [.int (nI j), .int (nI p)]) (rest := []) (r_isPlace l G ad ce (s_cn S) (s_pn S) (s_ln S) (s_on S) kd sr np st la gby gdu gwo grd un ps gpt gff gfc (s_li S) (s_lo S) hR j _ hj hb1 e_np (nI p)) g_R_92 r0 rfl rfl ⟨by decide, by decide⟩ ⟨by decide, by decide⟩ rfl (Nat.le_of_ble_eq_true rfl) d_R_fail_3 ?_
        rintro _ _ _ ⟨rfl, rfl, rfl⟩
        show AW X 3 0 0 ad ce 6 [(0, .ref (ad (3, 0, 0))), (1, .int (nI j)), (2, .int (nI p))] [.int (bI (decide (0 ≤ nI p ∧ nI p < nI (k_np (s_car S j)))))]
        refine aw_topi (v' := 1) ((bI_t ⟨nI_pos' (by omega), nI_lt (by omega) (by omega)⟩).symm) ?_
        show AW X 3 0 0 ad ce 6 [(0, .ref (ad (3, 0, 0))), (1, .int (nI j)), (2, .int (nI p))] [.int 1]
        refine aw_if_eq C (tgt := 31) d_R_fail_6 (by decide) (fun h6 => absurd h6 (by decide)) (fun h6 => ?_)
        refine aw_aload_n C d_R_fail_9 rfl (j := 0) rfl ?_
        refine aw_get C F_R r0 8 (by decide) tw_307 rfl d_R_fail_10 ?_
        refine aw_bipush C (v := 64) d_R_fail_13 (by decide) ?_
        refine aw_iload_n C d_R_fail_15 rfl (j := 1) rfl ?_
        refine aw_imul C d_R_fail_16 ?_
        refine aw_iload_n C d_R_fail_17 rfl (j := 2) rfl ?_
        refine aw_iadd C d_R_fail_18 ?_
        refine aw_topi (v' := nI (64 * j + p)) (k64 _ _) ?_
        refine ar_zald C r8 (j := (64 * j + p)) (rfl) (by omega) (by omega) d_R_fail_19 ?_
        refine aw_topi (v' := k_wo (s_car S j) p) ((hE2 j p hj hp0).2.2.1) ?_
        refine aw_if_ne C (tgt := 31) d_R_fail_20 (by decide) (fun h20 => absurd h20 (fun q => q hw)) (fun h20 => ?_)
        refine aw_aload_n C d_R_fail_23 rfl (j := 0) rfl ?_
        refine aw_iload_n C d_R_fail_24 rfl (j := 1) rfl ?_
        refine aw_callV C I (k := (3, 0, 0)) (as := [.int (nI j)]) (rest := []) (r_isGone l G ad ce (s_cn S) (s_pn S) (s_ln S) (s_on S) kd sr np st la gby gdu gwo grd un ps gpt gff gfc (s_li S) (s_lo S) hR j (by omega)) g_R_96 r0 rfl rfl ⟨by decide, by decide⟩ ⟨by decide, by decide⟩ rfl (Nat.le_of_ble_eq_true rfl) d_R_fail_25 ?_
        rintro _ _ _ ⟨rfl, rfl, rfl⟩
        show AW X 3 0 0 ad ce 28 [(0, .ref (ad (3, 0, 0))), (1, .int (nI j)), (2, .int (nI p))] [.int (bI (decide (st j = 5 ∨ st j = 6)))]
        refine aw_topi (v' := 0) ((bI_f (by rw [e_st]; exact hg)).symm) ?_
        show AW X 3 0 0 ad ce 28 [(0, .ref (ad (3, 0, 0))), (1, .int (nI j)), (2, .int (nI p))] [.int 0]
        refine aw_if_eq C (tgt := 33) d_R_fail_28 (by decide) (fun h28 => ?_) (fun h28 => absurd (rfl) h28)
        refine aw_aload_n C d_R_fail_33 rfl (j := 0) rfl ?_
        refine aw_get C F_R r0 8 (by decide) tw_307 rfl d_R_fail_34 ?_
        refine aw_bipush C (v := 64) d_R_fail_37 (by decide) ?_
        refine aw_iload_n C d_R_fail_39 rfl (j := 1) rfl ?_
        refine aw_imul C d_R_fail_40 ?_
        refine aw_iload_n C d_R_fail_41 rfl (j := 2) rfl ?_
        refine aw_iadd C d_R_fail_42 ?_
        refine aw_topi (v' := nI (64 * j + p)) (k64 _ _) ?_
        refine aw_iconst C (v := 1) d_R_fail_43 (by decide) ?_
        refine ar_zast C (v := 1) r8 (j := (64 * j + p)) (rfl) (by omega) (by omega) rfl d_R_fail_44 ?_
        intro ce3 fw3 r8
        have r0 : ce3 (3, 0, 0) = some (.inr (3, [.int (nI (s_cn S)), .ref (ad (3, 0, 1)), .ref (ad (3, 0, 2)), .ref (ad (3, 0, 3)), .ref (ad (3, 0, 4)), .ref (ad (3, 0, 5)), .ref (ad (3, 0, 6)), .ref (ad (3, 0, 7)), .ref (ad (3, 0, 8)), .ref (ad (3, 0, 9)), .ref (ad (3, 0, 10)), .ref (ad (3, 0, 11)), .ref (ad (3, 0, 12)), .int (nI (s_pn S)), .ref (ad (3, 0, 14)), .ref (ad (3, 0, 15)), .int (nI (s_ln S)), .ref (ad (3, 0, 17)), .int (nI (s_on S)), .ref (ad (3, 0, 19))])) := (fw3 _ (by simp)).trans r0
        have r1 := r1.tr (fw3 _ (by simp))
        have r2 := r2.tr (fw3 _ (by simp))
        have r3 := r3.tr (fw3 _ (by simp))
        have r4 := r4.tr (fw3 _ (by simp))
        have r5 := r5.tr (fw3 _ (by simp))
        have r6 := r6.tr (fw3 _ (by simp))
        have r7 := r7.tr (fw3 _ (by simp))
        have r9 := r9.tr (fw3 _ (by simp))
        have r10 := r10.tr (fw3 _ (by simp))
        have r11 := r11.tr (fw3 _ (by simp))
        have r12 := r12.tr (fw3 _ (by simp))
        have r14 := r14.tr (fw3 _ (by simp))
        have r15 := r15.tr (fw3 _ (by simp))
        have r17 := r17.tr (fw3 _ (by simp))
        have r19 := r19.tr (fw3 _ (by simp))
        refine aw_iconst C (v := 1) d_R_fail_45 (by decide) ?_
        refine aw_iret C E (rfl) (by decide) (by decide) d_R_fail_46 ?_
        rw [show f_fail S (nI j) (nI p) = (1, s_set S j (k_sWo (s_car S j) (upd (k_wo (s_car S j)) p 1))) from by simp only [f_fail, ix_in hj (show s_cn S < 2 ^ 31 by omega), if_neg hg, ix_in hp0 (show k_np (s_car S j) < 2 ^ 31 by omega), if_pos hw]]
        have HWO : (∀ k, k < k_np (s_car S j) → upd gwo (64 * j + p) 1 (64 * j + k) = upd (k_wo (s_car S j)) p 1 k) ∧ ∀ q, (q < 64 * j ∨ 64 * j + 64 ≤ q) → upd gwo (64 * j + p) 1 q = gwo q := by
          refine ⟨fun k hk => ?_, fun q hq => updn (by omega)⟩
          by_cases e : k = p
          · subst e; simp [upd]
          · rw [updn (by omega), updn e]; exact (hE2 j k hj hk).2.2.1
        exact ⟨rfl, rfl, fr3 fw3, _, _, _, _, _, _, _, _, _, _, _, _, _, _, ⟨r0, r1, r2, r3, r4, r5, r6, r7, r8, r9, r10, r11, r12, r14, r15, r17, r19⟩, hE.set hW hj (k_sWo (s_car S j) (upd (k_wo (s_car S j)) p 1)) rfl rfl rfl (fun i _ => ifs e_st) (fun i _ => ifs e_la) (fun i _ => ifs e_un) (fun i _ => ifs e_ps) ⟨fun k hk => (hE2 j k hj hk).1, fun _ _ => rfl⟩ ⟨fun k hk => (hE2 j k hj hk).2.1, fun _ _ => rfl⟩ (HWO) ⟨fun k hk => (hE2 j k hj hk).2.2.2, fun _ _ => rfl⟩ ⟨fun k hk => hE4 j k hj hk, fun _ _ => rfl⟩, hW.set ⟨hn1, hn2⟩ hps⟩
    · skip
      show AW X 3 0 0 ad ce 0 [(0, .ref (ad (3, 0, 0))), (1, .int (nI j)), (2, .int (nI p))] []
      refine aw_aload_n C d_R_fail_0 rfl (j := 0) rfl ?_
      refine aw_iload_n C d_R_fail_1 rfl (j := 1) rfl ?_
      refine aw_iload_n C d_R_fail_2 rfl (j := 2) rfl ?_
      refine aw_callV C I (k := (3, 0, 0)) (as := [.int (nI j), .int (nI p)]) (rest := []) (r_isPlace l G ad ce (s_cn S) (s_pn S) (s_ln S) (s_on S) kd sr np st la gby gdu gwo grd un ps gpt gff gfc (s_li S) (s_lo S) hR j _ hj hb1 e_np (nI p)) g_R_92 r0 rfl rfl ⟨by decide, by decide⟩ ⟨by decide, by decide⟩ rfl (Nat.le_of_ble_eq_true rfl) d_R_fail_3 ?_
      rintro _ _ _ ⟨rfl, rfl, rfl⟩
      show AW X 3 0 0 ad ce 6 [(0, .ref (ad (3, 0, 0))), (1, .int (nI j)), (2, .int (nI p))] [.int (bI (decide (0 ≤ nI p ∧ nI p < nI (k_np (s_car S j)))))]
      refine aw_topi (v' := 1) ((bI_t ⟨nI_pos' (by omega), nI_lt (by omega) (by omega)⟩).symm) ?_
      show AW X 3 0 0 ad ce 6 [(0, .ref (ad (3, 0, 0))), (1, .int (nI j)), (2, .int (nI p))] [.int 1]
      refine aw_if_eq C (tgt := 31) d_R_fail_6 (by decide) (fun h6 => absurd h6 (by decide)) (fun h6 => ?_)
      refine aw_aload_n C d_R_fail_9 rfl (j := 0) rfl ?_
      refine aw_get C F_R r0 8 (by decide) tw_307 rfl d_R_fail_10 ?_
      refine aw_bipush C (v := 64) d_R_fail_13 (by decide) ?_
      refine aw_iload_n C d_R_fail_15 rfl (j := 1) rfl ?_
      refine aw_imul C d_R_fail_16 ?_
      refine aw_iload_n C d_R_fail_17 rfl (j := 2) rfl ?_
      refine aw_iadd C d_R_fail_18 ?_
      refine aw_topi (v' := nI (64 * j + p)) (k64 _ _) ?_
      refine ar_zald C r8 (j := (64 * j + p)) (rfl) (by omega) (by omega) d_R_fail_19 ?_
      refine aw_topi (v' := k_wo (s_car S j) p) ((hE2 j p hj hp0).2.2.1) ?_
      refine aw_if_ne C (tgt := 31) d_R_fail_20 (by decide) (fun h20 => ?_) (fun h20 => absurd h20 (hw))
      refine aw_iconst C (v := 0) d_R_fail_31 (by decide) ?_
      refine aw_iret C E (rfl) (by decide) (by decide) d_R_fail_32 ?_
      rw [show f_fail S (nI j) (nI p) = (0, S) from by simp only [f_fail, ix_in hj (show s_cn S < 2 ^ 31 by omega), ix_in hp0 (show k_np (s_car S j) < 2 ^ 31 by omega), if_neg hw, ite_self]]
      exact ⟨rfl, rfl, frR.rf, ⟨kd, sr, np, st, la, gby, gdu, gwo, grd, un, ps, gpt, gff, gfc, hR, hE, hW⟩⟩
set_option maxRecDepth 100000 in
set_option maxHeartbeats 4000000 in
theorem R_shred (l : Launch) (G : aw_G) (ad : aw_Ad) (ce : aw_He) (S : SysS) (hS : LayR S ad ce) (x m : Int32) : CT l G M_R_shred 1 25 0 0 [.ref (ad (3, 0, 0)), .int x, .int m] ad ce (rR (some (.int (f_shred S x m).1)) (f_shred S x m).2 ad ce) := by
  refine CT.of (by decide) (Nat.le_of_ble_eq_true rfl) ?_
  intro X C I E
  obtain ⟨kd, sr, np, st, la, gby, gdu, gwo, grd, un, ps, gpt, gff, gfc, hR, hE, hW⟩ := hS
  have hE0 := hE
  obtain ⟨hE1, hE2, hE3, hE4, hE5, hE6, hE7⟩ := hE0
  have hW0 := hW
  obtain ⟨⟨hb1, hb2, hb3, hb4⟩, hW2, hW3⟩ := hW0
  have hR0 := hR
  obtain ⟨r0, r1, r2, r3, r4, r5, r6, r7, r8, r9, r10, r11, r12, r14, r15, r17, r19⟩ := hR0
  rcases ix_cases x (n := s_cn S) (by omega) with hx | ⟨j, hj, rfl⟩
  · skip
    show AW X 3 0 0 ad ce 0 [(0, .ref (ad (3, 0, 0))), (1, .int x), (2, .int m)] []
    refine aw_aload_n C d_R_shred_0 rfl (j := 0) rfl ?_
    refine aw_iload_n C d_R_shred_1 rfl (j := 1) rfl ?_
    refine aw_callV C I (k := (3, 0, 0)) (as := [.int x]) (rest := []) (r_isCarrier l G ad ce (s_cn S) (s_pn S) (s_ln S) (s_on S) kd sr np st la gby gdu gwo grd un ps gpt gff gfc (s_li S) (s_lo S) hR x) g_R_64 r0 rfl rfl ⟨by decide, by decide⟩ ⟨by decide, by decide⟩ rfl (Nat.le_of_ble_eq_true rfl) d_R_shred_2 ?_
    rintro _ _ _ ⟨rfl, rfl, rfl⟩
    show AW X 3 0 0 ad ce 5 [(0, .ref (ad (3, 0, 0))), (1, .int x), (2, .int m)] [.int (bI (decide (0 ≤ x ∧ x < nI (s_cn S))))]
    refine aw_topi (v' := 0) ((bI_f (by (try simp only [Int32.le_iff_toInt_le, Int32.lt_iff_toInt_lt] at hx ⊢); omega)).symm) ?_
    show AW X 3 0 0 ad ce 5 [(0, .ref (ad (3, 0, 0))), (1, .int x), (2, .int m)] [.int 0]
    refine aw_if_eq C (tgt := 55) d_R_shred_5 (by decide) (fun h5 => ?_) (fun h5 => absurd (rfl) h5)
    refine aw_iconst C (v := 0) d_R_shred_55 (by decide) ?_
    refine aw_iret C E (rfl) (by decide) (by decide) d_R_shred_56 ?_
    rw [show f_shred S x m = (0, S) from by simp only [f_shred, ix_out hx]]
    exact ⟨rfl, rfl, frR.rf, ⟨kd, sr, np, st, la, gby, gdu, gwo, grd, un, ps, gpt, gff, gfc, hR, hE, hW⟩⟩
  · skip
    obtain ⟨e_kd, e_sr, e_np, e_st, e_la, e_un, e_ps⟩ := hE1 j (by omega)
    obtain ⟨⟨hn1, hn2⟩, hps⟩ := hW2 j hj
    by_cases h1 : 1 ≤ m ∧ m ≤ 100
    · skip
      show AW X 3 0 0 ad ce 0 [(0, .ref (ad (3, 0, 0))), (1, .int (nI j)), (2, .int m)] []
      refine aw_aload_n C d_R_shred_0 rfl (j := 0) rfl ?_
      refine aw_iload_n C d_R_shred_1 rfl (j := 1) rfl ?_
      refine aw_callV C I (k := (3, 0, 0)) (as := [.int (nI j)]) (rest := []) (r_isCarrier l G ad ce (s_cn S) (s_pn S) (s_ln S) (s_on S) kd sr np st la gby gdu gwo grd un ps gpt gff gfc (s_li S) (s_lo S) hR (nI j)) g_R_64 r0 rfl rfl ⟨by decide, by decide⟩ ⟨by decide, by decide⟩ rfl (Nat.le_of_ble_eq_true rfl) d_R_shred_2 ?_
      rintro _ _ _ ⟨rfl, rfl, rfl⟩
      show AW X 3 0 0 ad ce 5 [(0, .ref (ad (3, 0, 0))), (1, .int (nI j)), (2, .int m)] [.int (bI (decide (0 ≤ nI j ∧ nI j < nI (s_cn S))))]
      refine aw_topi (v' := 1) ((bI_t ⟨nI_pos' (by omega), nI_lt (by omega) (by omega)⟩).symm) ?_
      show AW X 3 0 0 ad ce 5 [(0, .ref (ad (3, 0, 0))), (1, .int (nI j)), (2, .int m)] [.int 1]
      refine aw_if_eq C (tgt := 55) d_R_shred_5 (by decide) (fun h5 => absurd h5 (by decide)) (fun h5 => ?_)
      refine aw_iload_n C d_R_shred_8 rfl (j := 2) rfl ?_
      refine aw_i2l C d_R_shred_9 ?_
      refine aw_lconst C (v := 1) d_R_shred_10 (by decide) ?_
      refine aw_ldc2 C tw_445 d_R_shred_11 ?_
      refine aw_callS C I (as := [.long (Int32.toInt64 m), .long 1, .long 100]) (rest := []) (r_isIn l G ad ce (Int32.toInt64 m) 1 100) g_R_70 ⟨by decide, by decide⟩ ⟨by decide, by decide⟩ rfl (Nat.le_of_ble_eq_true rfl) d_R_shred_14 ?_
      rintro _ _ _ ⟨rfl, rfl, rfl⟩
      show AW X 3 0 0 ad ce 17 [(0, .ref (ad (3, 0, 0))), (1, .int (nI j)), (2, .int m)] [.int (bI (decide (1 ≤ Int32.toInt64 m ∧ Int32.toInt64 m ≤ 100)))]
      refine aw_topi (v' := 1) ((bI_t ((in32 rfl rfl).mpr h1)).symm) ?_
      show AW X 3 0 0 ad ce 17 [(0, .ref (ad (3, 0, 0))), (1, .int (nI j)), (2, .int m)] [.int 1]
      refine aw_if_eq C (tgt := 55) d_R_shred_17 (by decide) (fun h17 => absurd h17 (by decide)) (fun h17 => ?_)
      refine aw_aload_n C d_R_shred_20 rfl (j := 0) rfl ?_
      refine aw_get C F_R r0 4 (by decide) tw_303 rfl d_R_shred_21 ?_
      refine aw_iload_n C d_R_shred_24 rfl (j := 1) rfl ?_
      refine ar_iald C r4 (j := j) (rfl) (by omega) (by omega) d_R_shred_25 ?_
      refine aw_topi (v' := k_st (s_car S j)) (e_st) ?_
      refine aw_iconst C (v := 3) d_R_shred_26 (by decide) ?_
      refine aw_icmp_eq C (tgt := 40) d_R_shred_27 (by decide) (fun h27 => ?_) (fun h27 => ?_)
      · refine aw_iload_n C d_R_shred_40 rfl (j := 2) rfl ?_
        refine aw_iconst C (v := 2) d_R_shred_41 (by decide) ?_
        refine aw_bipush C (v := 6) d_R_shred_42 (by decide) ?_
        refine aw_aload_n C d_R_shred_44 rfl (j := 0) rfl ?_
        refine aw_get C F_R r0 1 (by decide) tw_300 rfl d_R_shred_45 ?_
        refine aw_iload_n C d_R_shred_48 rfl (j := 1) rfl ?_
        refine ar_iald C r1 (j := j) (rfl) (by omega) (by omega) d_R_shred_49 ?_
        refine aw_topi (v' := k_kd (s_car S j)) (e_kd) ?_
        refine aw_imul C d_R_shred_50 ?_
        refine aw_iadd C d_R_shred_51 ?_
        refine aw_icmp_le C (tgt := 57) d_R_shred_52 (by decide) (fun h52 => ?_) (fun h52 => ?_)
        · refine aw_aload_n C d_R_shred_57 rfl (j := 0) rfl ?_
          refine aw_get C F_R r0 4 (by decide) tw_303 rfl d_R_shred_58 ?_
          refine aw_iload_n C d_R_shred_61 rfl (j := 1) rfl ?_
          refine aw_iconst C (v := 5) d_R_shred_62 (by decide) ?_
          refine ar_iast C r4 (j := j) (rfl) (by omega) (by omega) d_R_shred_63 ?_
          intro ce4 fw4 r4
          have r0 : ce4 (3, 0, 0) = some (.inr (3, [.int (nI (s_cn S)), .ref (ad (3, 0, 1)), .ref (ad (3, 0, 2)), .ref (ad (3, 0, 3)), .ref (ad (3, 0, 4)), .ref (ad (3, 0, 5)), .ref (ad (3, 0, 6)), .ref (ad (3, 0, 7)), .ref (ad (3, 0, 8)), .ref (ad (3, 0, 9)), .ref (ad (3, 0, 10)), .ref (ad (3, 0, 11)), .ref (ad (3, 0, 12)), .int (nI (s_pn S)), .ref (ad (3, 0, 14)), .ref (ad (3, 0, 15)), .int (nI (s_ln S)), .ref (ad (3, 0, 17)), .int (nI (s_on S)), .ref (ad (3, 0, 19))])) := (fw4 _ (by simp)).trans r0
          have r1 := r1.tr (fw4 _ (by simp))
          have r2 := r2.tr (fw4 _ (by simp))
          have r3 := r3.tr (fw4 _ (by simp))
          have r5 := r5.tr (fw4 _ (by simp))
          have r6 := r6.tr (fw4 _ (by simp))
          have r7 := r7.tr (fw4 _ (by simp))
          have r8 := r8.tr (fw4 _ (by simp))
          have r9 := r9.tr (fw4 _ (by simp))
          have r10 := r10.tr (fw4 _ (by simp))
          have r11 := r11.tr (fw4 _ (by simp))
          have r12 := r12.tr (fw4 _ (by simp))
          have r14 := r14.tr (fw4 _ (by simp))
          have r15 := r15.tr (fw4 _ (by simp))
          have r17 := r17.tr (fw4 _ (by simp))
          have r19 := r19.tr (fw4 _ (by simp))
          refine aw_iconst C (v := 1) d_R_shred_64 (by decide) ?_
          refine aw_iret C E (rfl) (by decide) (by decide) d_R_shred_65 ?_
          have hcn : (1 ≤ m ∧ m ≤ 100) ∧ (k_st (s_car S j) = 3 ∨ k_st (s_car S j) = 4) ∧ ¬ 2 + 6 * k_kd (s_car S j) < m := ⟨h1, by first | exact Or.inl h27 | exact Or.inr h37, fun q => absurd h52 (by (try simp only [Int32.le_iff_toInt_le, Int32.lt_iff_toInt_lt] at q ⊢); omega)⟩
          rw [show f_shred S (nI j) m = (1, s_set S j (k_sSt (s_car S j) 5)) from by simp only [f_shred, ix_in hj (show s_cn S < 2 ^ 31 by omega), if_pos hcn]]
          exact ⟨rfl, rfl, fr3 fw4, _, _, _, _, _, _, _, _, _, _, _, _, _, _, ⟨r0, r1, r2, r3, r4, r5, r6, r7, r8, r9, r10, r11, r12, r14, r15, r17, r19⟩, hE.set hW hj (k_sSt (s_car S j) 5) rfl rfl rfl (fun i _ => ifu rfl) (fun i _ => ifs e_la) (fun i _ => ifs e_un) (fun i _ => ifs e_ps) ⟨fun k hk => (hE2 j k hj hk).1, fun _ _ => rfl⟩ ⟨fun k hk => (hE2 j k hj hk).2.1, fun _ _ => rfl⟩ ⟨fun k hk => (hE2 j k hj hk).2.2.1, fun _ _ => rfl⟩ ⟨fun k hk => (hE2 j k hj hk).2.2.2, fun _ _ => rfl⟩ ⟨fun k hk => hE4 j k hj hk, fun _ _ => rfl⟩, hW.set ⟨hn1, hn2⟩ hps⟩
        · refine aw_iconst C (v := 0) d_R_shred_55 (by decide) ?_
          refine aw_iret C E (rfl) (by decide) (by decide) d_R_shred_56 ?_
          have hcn : ¬ ((1 ≤ m ∧ m ≤ 100) ∧ (k_st (s_car S j) = 3 ∨ k_st (s_car S j) = 4) ∧ ¬ 2 + 6 * k_kd (s_car S j) < m) := fun q => q.2.2 (by (try simp only [Int32.le_iff_toInt_le, Int32.lt_iff_toInt_lt] at h52 ⊢); omega)
          rw [show f_shred S (nI j) m = (0, S) from by simp only [f_shred, ix_in hj (show s_cn S < 2 ^ 31 by omega), if_neg hcn]]
          exact ⟨rfl, rfl, frR.rf, ⟨kd, sr, np, st, la, gby, gdu, gwo, grd, un, ps, gpt, gff, gfc, hR, hE, hW⟩⟩
      · refine aw_aload_n C d_R_shred_30 rfl (j := 0) rfl ?_
        refine aw_get C F_R r0 4 (by decide) tw_303 rfl d_R_shred_31 ?_
        refine aw_iload_n C d_R_shred_34 rfl (j := 1) rfl ?_
        refine ar_iald C r4 (j := j) (rfl) (by omega) (by omega) d_R_shred_35 ?_
        refine aw_topi (v' := k_st (s_car S j)) (e_st) ?_
        refine aw_iconst C (v := 4) d_R_shred_36 (by decide) ?_
        refine aw_icmp_ne C (tgt := 55) d_R_shred_37 (by decide) (fun h37 => ?_) (fun h37 => ?_)
        · refine aw_iconst C (v := 0) d_R_shred_55 (by decide) ?_
          refine aw_iret C E (rfl) (by decide) (by decide) d_R_shred_56 ?_
          have hcn : ¬ ((1 ≤ m ∧ m ≤ 100) ∧ (k_st (s_car S j) = 3 ∨ k_st (s_car S j) = 4) ∧ ¬ 2 + 6 * k_kd (s_car S j) < m) := fun q => q.2.1.elim h27 h37
          rw [show f_shred S (nI j) m = (0, S) from by simp only [f_shred, ix_in hj (show s_cn S < 2 ^ 31 by omega), if_neg hcn]]
          exact ⟨rfl, rfl, frR.rf, ⟨kd, sr, np, st, la, gby, gdu, gwo, grd, un, ps, gpt, gff, gfc, hR, hE, hW⟩⟩
        · refine aw_iload_n C d_R_shred_40 rfl (j := 2) rfl ?_
          refine aw_iconst C (v := 2) d_R_shred_41 (by decide) ?_
          refine aw_bipush C (v := 6) d_R_shred_42 (by decide) ?_
          refine aw_aload_n C d_R_shred_44 rfl (j := 0) rfl ?_
          refine aw_get C F_R r0 1 (by decide) tw_300 rfl d_R_shred_45 ?_
          refine aw_iload_n C d_R_shred_48 rfl (j := 1) rfl ?_
          refine ar_iald C r1 (j := j) (rfl) (by omega) (by omega) d_R_shred_49 ?_
          refine aw_topi (v' := k_kd (s_car S j)) (e_kd) ?_
          refine aw_imul C d_R_shred_50 ?_
          refine aw_iadd C d_R_shred_51 ?_
          refine aw_icmp_le C (tgt := 57) d_R_shred_52 (by decide) (fun h52 => ?_) (fun h52 => ?_)
          · refine aw_aload_n C d_R_shred_57 rfl (j := 0) rfl ?_
            refine aw_get C F_R r0 4 (by decide) tw_303 rfl d_R_shred_58 ?_
            refine aw_iload_n C d_R_shred_61 rfl (j := 1) rfl ?_
            refine aw_iconst C (v := 5) d_R_shred_62 (by decide) ?_
            refine ar_iast C r4 (j := j) (rfl) (by omega) (by omega) d_R_shred_63 ?_
            intro ce5 fw5 r4
            have r0 : ce5 (3, 0, 0) = some (.inr (3, [.int (nI (s_cn S)), .ref (ad (3, 0, 1)), .ref (ad (3, 0, 2)), .ref (ad (3, 0, 3)), .ref (ad (3, 0, 4)), .ref (ad (3, 0, 5)), .ref (ad (3, 0, 6)), .ref (ad (3, 0, 7)), .ref (ad (3, 0, 8)), .ref (ad (3, 0, 9)), .ref (ad (3, 0, 10)), .ref (ad (3, 0, 11)), .ref (ad (3, 0, 12)), .int (nI (s_pn S)), .ref (ad (3, 0, 14)), .ref (ad (3, 0, 15)), .int (nI (s_ln S)), .ref (ad (3, 0, 17)), .int (nI (s_on S)), .ref (ad (3, 0, 19))])) := (fw5 _ (by simp)).trans r0
            have r1 := r1.tr (fw5 _ (by simp))
            have r2 := r2.tr (fw5 _ (by simp))
            have r3 := r3.tr (fw5 _ (by simp))
            have r5 := r5.tr (fw5 _ (by simp))
            have r6 := r6.tr (fw5 _ (by simp))
            have r7 := r7.tr (fw5 _ (by simp))
            have r8 := r8.tr (fw5 _ (by simp))
            have r9 := r9.tr (fw5 _ (by simp))
            have r10 := r10.tr (fw5 _ (by simp))
            have r11 := r11.tr (fw5 _ (by simp))
            have r12 := r12.tr (fw5 _ (by simp))
            have r14 := r14.tr (fw5 _ (by simp))
            have r15 := r15.tr (fw5 _ (by simp))
            have r17 := r17.tr (fw5 _ (by simp))
            have r19 := r19.tr (fw5 _ (by simp))
            refine aw_iconst C (v := 1) d_R_shred_64 (by decide) ?_
            refine aw_iret C E (rfl) (by decide) (by decide) d_R_shred_65 ?_
            have hcn : (1 ≤ m ∧ m ≤ 100) ∧ (k_st (s_car S j) = 3 ∨ k_st (s_car S j) = 4) ∧ ¬ 2 + 6 * k_kd (s_car S j) < m := ⟨h1, by first | exact Or.inl h27 | exact Or.inr h37, fun q => absurd h52 (by (try simp only [Int32.le_iff_toInt_le, Int32.lt_iff_toInt_lt] at q ⊢); omega)⟩
            rw [show f_shred S (nI j) m = (1, s_set S j (k_sSt (s_car S j) 5)) from by simp only [f_shred, ix_in hj (show s_cn S < 2 ^ 31 by omega), if_pos hcn]]
            exact ⟨rfl, rfl, fr3 fw5, _, _, _, _, _, _, _, _, _, _, _, _, _, _, ⟨r0, r1, r2, r3, r4, r5, r6, r7, r8, r9, r10, r11, r12, r14, r15, r17, r19⟩, hE.set hW hj (k_sSt (s_car S j) 5) rfl rfl rfl (fun i _ => ifu rfl) (fun i _ => ifs e_la) (fun i _ => ifs e_un) (fun i _ => ifs e_ps) ⟨fun k hk => (hE2 j k hj hk).1, fun _ _ => rfl⟩ ⟨fun k hk => (hE2 j k hj hk).2.1, fun _ _ => rfl⟩ ⟨fun k hk => (hE2 j k hj hk).2.2.1, fun _ _ => rfl⟩ ⟨fun k hk => (hE2 j k hj hk).2.2.2, fun _ _ => rfl⟩ ⟨fun k hk => hE4 j k hj hk, fun _ _ => rfl⟩, hW.set ⟨hn1, hn2⟩ hps⟩
          · refine aw_iconst C (v := 0) d_R_shred_55 (by decide) ?_
            refine aw_iret C E (rfl) (by decide) (by decide) d_R_shred_56 ?_
            have hcn : ¬ ((1 ≤ m ∧ m ≤ 100) ∧ (k_st (s_car S j) = 3 ∨ k_st (s_car S j) = 4) ∧ ¬ 2 + 6 * k_kd (s_car S j) < m) := fun q => q.2.2 (by (try simp only [Int32.le_iff_toInt_le, Int32.lt_iff_toInt_lt] at h52 ⊢); omega)
            rw [show f_shred S (nI j) m = (0, S) from by simp only [f_shred, ix_in hj (show s_cn S < 2 ^ 31 by omega), if_neg hcn]]
            exact ⟨rfl, rfl, frR.rf, ⟨kd, sr, np, st, la, gby, gdu, gwo, grd, un, ps, gpt, gff, gfc, hR, hE, hW⟩⟩
    · skip
      show AW X 3 0 0 ad ce 0 [(0, .ref (ad (3, 0, 0))), (1, .int (nI j)), (2, .int m)] []
      refine aw_aload_n C d_R_shred_0 rfl (j := 0) rfl ?_
      refine aw_iload_n C d_R_shred_1 rfl (j := 1) rfl ?_
      refine aw_callV C I (k := (3, 0, 0)) (as := [.int (nI j)]) (rest := []) (r_isCarrier l G ad ce (s_cn S) (s_pn S) (s_ln S) (s_on S) kd sr np st la gby gdu gwo grd un ps gpt gff gfc (s_li S) (s_lo S) hR (nI j)) g_R_64 r0 rfl rfl ⟨by decide, by decide⟩ ⟨by decide, by decide⟩ rfl (Nat.le_of_ble_eq_true rfl) d_R_shred_2 ?_
      rintro _ _ _ ⟨rfl, rfl, rfl⟩
      show AW X 3 0 0 ad ce 5 [(0, .ref (ad (3, 0, 0))), (1, .int (nI j)), (2, .int m)] [.int (bI (decide (0 ≤ nI j ∧ nI j < nI (s_cn S))))]
      refine aw_topi (v' := 1) ((bI_t ⟨nI_pos' (by omega), nI_lt (by omega) (by omega)⟩).symm) ?_
      show AW X 3 0 0 ad ce 5 [(0, .ref (ad (3, 0, 0))), (1, .int (nI j)), (2, .int m)] [.int 1]
      refine aw_if_eq C (tgt := 55) d_R_shred_5 (by decide) (fun h5 => absurd h5 (by decide)) (fun h5 => ?_)
      refine aw_iload_n C d_R_shred_8 rfl (j := 2) rfl ?_
      refine aw_i2l C d_R_shred_9 ?_
      refine aw_lconst C (v := 1) d_R_shred_10 (by decide) ?_
      refine aw_ldc2 C tw_445 d_R_shred_11 ?_
      refine aw_callS C I (as := [.long (Int32.toInt64 m), .long 1, .long 100]) (rest := []) (r_isIn l G ad ce (Int32.toInt64 m) 1 100) g_R_70 ⟨by decide, by decide⟩ ⟨by decide, by decide⟩ rfl (Nat.le_of_ble_eq_true rfl) d_R_shred_14 ?_
      rintro _ _ _ ⟨rfl, rfl, rfl⟩
      show AW X 3 0 0 ad ce 17 [(0, .ref (ad (3, 0, 0))), (1, .int (nI j)), (2, .int m)] [.int (bI (decide (1 ≤ Int32.toInt64 m ∧ Int32.toInt64 m ≤ 100)))]
      refine aw_topi (v' := 0) ((bI_f (fun q => h1 ((in32 rfl rfl).mp q))).symm) ?_
      show AW X 3 0 0 ad ce 17 [(0, .ref (ad (3, 0, 0))), (1, .int (nI j)), (2, .int m)] [.int 0]
      refine aw_if_eq C (tgt := 55) d_R_shred_17 (by decide) (fun h17 => ?_) (fun h17 => absurd (rfl) h17)
      refine aw_iconst C (v := 0) d_R_shred_55 (by decide) ?_
      refine aw_iret C E (rfl) (by decide) (by decide) d_R_shred_56 ?_
      have hcn : ¬ ((1 ≤ m ∧ m ≤ 100) ∧ (k_st (s_car S j) = 3 ∨ k_st (s_car S j) = 4) ∧ ¬ 2 + 6 * k_kd (s_car S j) < m) := fun q => h1 q.1
      rw [show f_shred S (nI j) m = (0, S) from by simp only [f_shred, ix_in hj (show s_cn S < 2 ^ 31 by omega), if_neg hcn]]
      exact ⟨rfl, rfl, frR.rf, ⟨kd, sr, np, st, la, gby, gdu, gwo, grd, un, ps, gpt, gff, gfc, hR, hE, hW⟩⟩
set_option maxRecDepth 100000 in
set_option maxHeartbeats 4000000 in
theorem R_lost (l : Launch) (G : aw_G) (ad : aw_Ad) (ce : aw_He) (S : SysS) (hS : LayR S ad ce) (hO : ∀ j, j < s_cn S → ¬ (k_st (s_car S j) = 5 ∨ k_st (s_car S j) = 6) → s_on S < 10) (x : Int32) : CT l G M_R_lost 1 21 0 0 [.ref (ad (3, 0, 0)), .int x] ad ce (rR (some (.int (f_lost S x).1)) (f_lost S x).2 ad ce) := by
  refine CT.of (by decide) (Nat.le_of_ble_eq_true rfl) ?_
  intro X C I E
  obtain ⟨kd, sr, np, st, la, gby, gdu, gwo, grd, un, ps, gpt, gff, gfc, hR, hE, hW⟩ := hS
  have hE0 := hE
  obtain ⟨hE1, hE2, hE3, hE4, hE5, hE6, hE7⟩ := hE0
  have hW0 := hW
  obtain ⟨⟨hb1, hb2, hb3, hb4⟩, hW2, hW3⟩ := hW0
  have hR0 := hR
  obtain ⟨r0, r1, r2, r3, r4, r5, r6, r7, r8, r9, r10, r11, r12, r14, r15, r17, r19⟩ := hR0
  rcases ix_cases x (n := s_cn S) (by omega) with hx | ⟨j, hj, rfl⟩
  · skip
    show AW X 2 0 0 ad ce 0 [(0, .ref (ad (3, 0, 0))), (1, .int x)] []
    refine aw_aload_n C d_R_lost_0 rfl (j := 0) rfl ?_
    refine aw_iload_n C d_R_lost_1 rfl (j := 1) rfl ?_
    refine aw_callV C I (k := (3, 0, 0)) (as := [.int x]) (rest := []) (r_isCarrier l G ad ce (s_cn S) (s_pn S) (s_ln S) (s_on S) kd sr np st la gby gdu gwo grd un ps gpt gff gfc (s_li S) (s_lo S) hR x) g_R_64 r0 rfl rfl ⟨by decide, by decide⟩ ⟨by decide, by decide⟩ rfl (Nat.le_of_ble_eq_true rfl) d_R_lost_2 ?_
    rintro _ _ _ ⟨rfl, rfl, rfl⟩
    show AW X 2 0 0 ad ce 5 [(0, .ref (ad (3, 0, 0))), (1, .int x)] [.int (bI (decide (0 ≤ x ∧ x < nI (s_cn S))))]
    refine aw_topi (v' := 0) ((bI_f (by (try simp only [Int32.le_iff_toInt_le, Int32.lt_iff_toInt_lt] at hx ⊢); omega)).symm) ?_
    show AW X 2 0 0 ad ce 5 [(0, .ref (ad (3, 0, 0))), (1, .int x)] [.int 0]
    refine aw_if_eq C (tgt := 16) d_R_lost_5 (by decide) (fun h5 => ?_) (fun h5 => absurd (rfl) h5)
    refine aw_iconst C (v := (-1)) d_R_lost_16 (by decide) ?_
    refine aw_iret C E (rfl) (by decide) (by decide) d_R_lost_17 ?_
    rw [show f_lost S x = (-1, S) from by simp only [f_lost, ix_out hx]]
    exact ⟨rfl, rfl, frR.rf, ⟨kd, sr, np, st, la, gby, gdu, gwo, grd, un, ps, gpt, gff, gfc, hR, hE, hW⟩⟩
  · skip
    obtain ⟨e_kd, e_sr, e_np, e_st, e_la, e_un, e_ps⟩ := hE1 j (by omega)
    obtain ⟨⟨hn1, hn2⟩, hps⟩ := hW2 j hj
    by_cases hg : k_st (s_car S j) = 5 ∨ k_st (s_car S j) = 6
    · skip
      show AW X 2 0 0 ad ce 0 [(0, .ref (ad (3, 0, 0))), (1, .int (nI j))] []
      refine aw_aload_n C d_R_lost_0 rfl (j := 0) rfl ?_
      refine aw_iload_n C d_R_lost_1 rfl (j := 1) rfl ?_
      refine aw_callV C I (k := (3, 0, 0)) (as := [.int (nI j)]) (rest := []) (r_isCarrier l G ad ce (s_cn S) (s_pn S) (s_ln S) (s_on S) kd sr np st la gby gdu gwo grd un ps gpt gff gfc (s_li S) (s_lo S) hR (nI j)) g_R_64 r0 rfl rfl ⟨by decide, by decide⟩ ⟨by decide, by decide⟩ rfl (Nat.le_of_ble_eq_true rfl) d_R_lost_2 ?_
      rintro _ _ _ ⟨rfl, rfl, rfl⟩
      show AW X 2 0 0 ad ce 5 [(0, .ref (ad (3, 0, 0))), (1, .int (nI j))] [.int (bI (decide (0 ≤ nI j ∧ nI j < nI (s_cn S))))]
      refine aw_topi (v' := 1) ((bI_t ⟨nI_pos' (by omega), nI_lt (by omega) (by omega)⟩).symm) ?_
      show AW X 2 0 0 ad ce 5 [(0, .ref (ad (3, 0, 0))), (1, .int (nI j))] [.int 1]
      refine aw_if_eq C (tgt := 16) d_R_lost_5 (by decide) (fun h5 => absurd h5 (by decide)) (fun h5 => ?_)
      refine aw_aload_n C d_R_lost_8 rfl (j := 0) rfl ?_
      refine aw_iload_n C d_R_lost_9 rfl (j := 1) rfl ?_
      refine aw_callV C I (k := (3, 0, 0)) (as := [.int (nI j)]) (rest := []) (r_isGone l G ad ce (s_cn S) (s_pn S) (s_ln S) (s_on S) kd sr np st la gby gdu gwo grd un ps gpt gff gfc (s_li S) (s_lo S) hR j (by omega)) g_R_96 r0 rfl rfl ⟨by decide, by decide⟩ ⟨by decide, by decide⟩ rfl (Nat.le_of_ble_eq_true rfl) d_R_lost_10 ?_
      rintro _ _ _ ⟨rfl, rfl, rfl⟩
      show AW X 2 0 0 ad ce 13 [(0, .ref (ad (3, 0, 0))), (1, .int (nI j))] [.int (bI (decide (st j = 5 ∨ st j = 6)))]
      refine aw_topi (v' := 1) ((bI_t (by rw [e_st]; exact hg)).symm) ?_
      show AW X 2 0 0 ad ce 13 [(0, .ref (ad (3, 0, 0))), (1, .int (nI j))] [.int 1]
      refine aw_if_eq C (tgt := 18) d_R_lost_13 (by decide) (fun h13 => absurd h13 (by decide)) (fun h13 => ?_)
      refine aw_iconst C (v := (-1)) d_R_lost_16 (by decide) ?_
      refine aw_iret C E (rfl) (by decide) (by decide) d_R_lost_17 ?_
      rw [show f_lost S (nI j) = (-1, S) from by simp only [f_lost, ix_in hj (show s_cn S < 2 ^ 31 by omega), if_pos hg]]
      exact ⟨rfl, rfl, frR.rf, ⟨kd, sr, np, st, la, gby, gdu, gwo, grd, un, ps, gpt, gff, gfc, hR, hE, hW⟩⟩
    · have hon := hO j hj hg
      show AW X 2 0 0 ad ce 0 [(0, .ref (ad (3, 0, 0))), (1, .int (nI j))] []
      refine aw_aload_n C d_R_lost_0 rfl (j := 0) rfl ?_
      refine aw_iload_n C d_R_lost_1 rfl (j := 1) rfl ?_
      refine aw_callV C I (k := (3, 0, 0)) (as := [.int (nI j)]) (rest := []) (r_isCarrier l G ad ce (s_cn S) (s_pn S) (s_ln S) (s_on S) kd sr np st la gby gdu gwo grd un ps gpt gff gfc (s_li S) (s_lo S) hR (nI j)) g_R_64 r0 rfl rfl ⟨by decide, by decide⟩ ⟨by decide, by decide⟩ rfl (Nat.le_of_ble_eq_true rfl) d_R_lost_2 ?_
      rintro _ _ _ ⟨rfl, rfl, rfl⟩
      show AW X 2 0 0 ad ce 5 [(0, .ref (ad (3, 0, 0))), (1, .int (nI j))] [.int (bI (decide (0 ≤ nI j ∧ nI j < nI (s_cn S))))]
      refine aw_topi (v' := 1) ((bI_t ⟨nI_pos' (by omega), nI_lt (by omega) (by omega)⟩).symm) ?_
      show AW X 2 0 0 ad ce 5 [(0, .ref (ad (3, 0, 0))), (1, .int (nI j))] [.int 1]
      refine aw_if_eq C (tgt := 16) d_R_lost_5 (by decide) (fun h5 => absurd h5 (by decide)) (fun h5 => ?_)
      refine aw_aload_n C d_R_lost_8 rfl (j := 0) rfl ?_
      refine aw_iload_n C d_R_lost_9 rfl (j := 1) rfl ?_
      refine aw_callV C I (k := (3, 0, 0)) (as := [.int (nI j)]) (rest := []) (r_isGone l G ad ce (s_cn S) (s_pn S) (s_ln S) (s_on S) kd sr np st la gby gdu gwo grd un ps gpt gff gfc (s_li S) (s_lo S) hR j (by omega)) g_R_96 r0 rfl rfl ⟨by decide, by decide⟩ ⟨by decide, by decide⟩ rfl (Nat.le_of_ble_eq_true rfl) d_R_lost_10 ?_
      rintro _ _ _ ⟨rfl, rfl, rfl⟩
      show AW X 2 0 0 ad ce 13 [(0, .ref (ad (3, 0, 0))), (1, .int (nI j))] [.int (bI (decide (st j = 5 ∨ st j = 6)))]
      refine aw_topi (v' := 0) ((bI_f (by rw [e_st]; exact hg)).symm) ?_
      show AW X 2 0 0 ad ce 13 [(0, .ref (ad (3, 0, 0))), (1, .int (nI j))] [.int 0]
      refine aw_if_eq C (tgt := 18) d_R_lost_13 (by decide) (fun h13 => ?_) (fun h13 => absurd (rfl) h13)
      refine aw_aload_n C d_R_lost_18 rfl (j := 0) rfl ?_
      refine aw_get C F_R r0 4 (by decide) tw_303 rfl d_R_lost_19 ?_
      refine aw_iload_n C d_R_lost_22 rfl (j := 1) rfl ?_
      refine aw_bipush C (v := 6) d_R_lost_23 (by decide) ?_
      refine ar_iast C r4 (j := j) (rfl) (by omega) (by omega) d_R_lost_25 ?_
      intro ce6 fw6 r4
      have r0 : ce6 (3, 0, 0) = some (.inr (3, [.int (nI (s_cn S)), .ref (ad (3, 0, 1)), .ref (ad (3, 0, 2)), .ref (ad (3, 0, 3)), .ref (ad (3, 0, 4)), .ref (ad (3, 0, 5)), .ref (ad (3, 0, 6)), .ref (ad (3, 0, 7)), .ref (ad (3, 0, 8)), .ref (ad (3, 0, 9)), .ref (ad (3, 0, 10)), .ref (ad (3, 0, 11)), .ref (ad (3, 0, 12)), .int (nI (s_pn S)), .ref (ad (3, 0, 14)), .ref (ad (3, 0, 15)), .int (nI (s_ln S)), .ref (ad (3, 0, 17)), .int (nI (s_on S)), .ref (ad (3, 0, 19))])) := (fw6 _ (by simp)).trans r0
      have r1 := r1.tr (fw6 _ (by simp))
      have r2 := r2.tr (fw6 _ (by simp))
      have r3 := r3.tr (fw6 _ (by simp))
      have r5 := r5.tr (fw6 _ (by simp))
      have r6 := r6.tr (fw6 _ (by simp))
      have r7 := r7.tr (fw6 _ (by simp))
      have r8 := r8.tr (fw6 _ (by simp))
      have r9 := r9.tr (fw6 _ (by simp))
      have r10 := r10.tr (fw6 _ (by simp))
      have r11 := r11.tr (fw6 _ (by simp))
      have r12 := r12.tr (fw6 _ (by simp))
      have r14 := r14.tr (fw6 _ (by simp))
      have r15 := r15.tr (fw6 _ (by simp))
      have r17 := r17.tr (fw6 _ (by simp))
      have r19 := r19.tr (fw6 _ (by simp))
      refine aw_aload_n C d_R_lost_26 rfl (j := 0) rfl ?_
      refine aw_get C F_R r0 19 (by decide) tw_318 rfl d_R_lost_27 ?_
      refine aw_aload_n C d_R_lost_30 rfl (j := 0) rfl ?_
      refine aw_get C F_R r0 18 (by decide) tw_317 rfl d_R_lost_31 ?_
      refine aw_iload_n C d_R_lost_34 rfl (j := 1) rfl ?_
      refine ar_iast C r19 (j := (s_on S)) (rfl) (by omega) (by omega) d_R_lost_35 ?_
      intro ce7 fw7 r19
      have r0 : ce7 (3, 0, 0) = some (.inr (3, [.int (nI (s_cn S)), .ref (ad (3, 0, 1)), .ref (ad (3, 0, 2)), .ref (ad (3, 0, 3)), .ref (ad (3, 0, 4)), .ref (ad (3, 0, 5)), .ref (ad (3, 0, 6)), .ref (ad (3, 0, 7)), .ref (ad (3, 0, 8)), .ref (ad (3, 0, 9)), .ref (ad (3, 0, 10)), .ref (ad (3, 0, 11)), .ref (ad (3, 0, 12)), .int (nI (s_pn S)), .ref (ad (3, 0, 14)), .ref (ad (3, 0, 15)), .int (nI (s_ln S)), .ref (ad (3, 0, 17)), .int (nI (s_on S)), .ref (ad (3, 0, 19))])) := (fw7 _ (by simp)).trans r0
      have r1 := r1.tr (fw7 _ (by simp))
      have r2 := r2.tr (fw7 _ (by simp))
      have r3 := r3.tr (fw7 _ (by simp))
      have r4 := r4.tr (fw7 _ (by simp))
      have r5 := r5.tr (fw7 _ (by simp))
      have r6 := r6.tr (fw7 _ (by simp))
      have r7 := r7.tr (fw7 _ (by simp))
      have r8 := r8.tr (fw7 _ (by simp))
      have r9 := r9.tr (fw7 _ (by simp))
      have r10 := r10.tr (fw7 _ (by simp))
      have r11 := r11.tr (fw7 _ (by simp))
      have r12 := r12.tr (fw7 _ (by simp))
      have r14 := r14.tr (fw7 _ (by simp))
      have r15 := r15.tr (fw7 _ (by simp))
      have r17 := r17.tr (fw7 _ (by simp))
      refine aw_aload_n C d_R_lost_36 rfl (j := 0) rfl ?_
      refine aw_dup C d_R_lost_37 rfl ?_
      refine aw_get C F_R r0 18 (by decide) tw_317 rfl d_R_lost_38 ?_
      refine aw_iconst C (v := 1) d_R_lost_41 (by decide) ?_
      refine aw_iadd C d_R_lost_42 ?_
      refine aw_topi (v' := nI (s_on S + 1)) (nI_1 _) ?_
      refine ob_put C F_R r0 18 (by decide) tw_317 rfl rfl rfl (Nat.le_of_ble_eq_true rfl) (fs' := [.int (nI (s_cn S)), .ref (ad (3, 0, 1)), .ref (ad (3, 0, 2)), .ref (ad (3, 0, 3)), .ref (ad (3, 0, 4)), .ref (ad (3, 0, 5)), .ref (ad (3, 0, 6)), .ref (ad (3, 0, 7)), .ref (ad (3, 0, 8)), .ref (ad (3, 0, 9)), .ref (ad (3, 0, 10)), .ref (ad (3, 0, 11)), .ref (ad (3, 0, 12)), .int (nI (s_pn S)), .ref (ad (3, 0, 14)), .ref (ad (3, 0, 15)), .int (nI (s_ln S)), .ref (ad (3, 0, 17)), .int (nI (s_on S + 1)), .ref (ad (3, 0, 19))]) rfl d_R_lost_43 ?_
      intro ce8 fw8 r0
      have r1 := r1.tr (fw8 _ (by simp))
      have r2 := r2.tr (fw8 _ (by simp))
      have r3 := r3.tr (fw8 _ (by simp))
      have r4 := r4.tr (fw8 _ (by simp))
      have r5 := r5.tr (fw8 _ (by simp))
      have r6 := r6.tr (fw8 _ (by simp))
      have r7 := r7.tr (fw8 _ (by simp))
      have r8 := r8.tr (fw8 _ (by simp))
      have r9 := r9.tr (fw8 _ (by simp))
      have r10 := r10.tr (fw8 _ (by simp))
      have r11 := r11.tr (fw8 _ (by simp))
      have r12 := r12.tr (fw8 _ (by simp))
      have r14 := r14.tr (fw8 _ (by simp))
      have r15 := r15.tr (fw8 _ (by simp))
      have r17 := r17.tr (fw8 _ (by simp))
      have r19 := r19.tr (fw8 _ (by simp))
      refine aw_aload_n C d_R_lost_46 rfl (j := 0) rfl ?_
      refine aw_get C F_R r0 18 (by decide) tw_317 rfl d_R_lost_47 ?_
      refine aw_iret C E (rfl) (by decide) (by decide) d_R_lost_50 ?_
      rw [show f_lost S (nI j) = (nI (s_on S + 1), s_lost S j) from by simp only [f_lost, ix_in hj (show s_cn S < 2 ^ 31 by omega), if_neg hg]]
      have hrel := hE.set hW hj (k_sSt (s_car S j) 6) rfl rfl rfl (fun i _ => ifu (f := st) (w := 6) rfl) (fun i _ => ifs e_la) (fun i _ => ifs e_un) (fun i _ => ifs e_ps) ⟨fun k hk => (hE2 j k hj hk).1, fun _ _ => rfl⟩ ⟨fun k hk => (hE2 j k hj hk).2.1, fun _ _ => rfl⟩ ⟨fun k hk => (hE2 j k hj hk).2.2.1, fun _ _ => rfl⟩ ⟨fun k hk => (hE2 j k hj hk).2.2.2, fun _ _ => rfl⟩ ⟨fun k hk => hE4 j k hj hk, fun _ _ => rfl⟩
      have hwf := (hW.set (j := j) (c := k_sSt (s_car S j) 6) ⟨hn1, hn2⟩ hps)
      exact ⟨rfl, rfl, ((fr3 fw6).trans (fr3 fw7)).trans (fr3 fw8), _, _, _, _, _, _, _, _, _, _, _, _, _, _, ⟨r0, r1, r2, r3, r4, r5, r6, r7, r8, r9, r10, r11, r12, r14, r15, r17, r19⟩, hrel, ⟨⟨hb1, hb2, hb3, by show s_on S + 1 ≤ 10; omega⟩, hwf.2.1, hwf.2.2⟩⟩
set_option maxRecDepth 100000 in
set_option maxHeartbeats 4000000 in
theorem R_listed (l : Launch) (G : aw_G) (ad : aw_Ad) (ce : aw_He) (S : SysS) (hS : LayR S ad ce) (x : Int64) : CT l G M_R_listed 1 25 0 0 [.ref (ad (3, 0, 0)), .long x] ad ce (rR (some (.int (f_listed S x).1)) (f_listed S x).2 ad ce) := by
  refine CT.of (by decide) (Nat.le_of_ble_eq_true rfl) ?_
  intro X C I E
  obtain ⟨kd, sr, np, st, la, gby, gdu, gwo, grd, un, ps, gpt, gff, gfc, hR, hE, hW⟩ := hS
  have hE0 := hE
  obtain ⟨hE1, hE2, hE3, hE4, hE5, hE6, hE7⟩ := hE0
  have hW0 := hW
  obtain ⟨⟨hb1, hb2, hb3, hb4⟩, hW2, hW3⟩ := hW0
  have hR0 := hR
  obtain ⟨r0, r1, r2, r3, r4, r5, r6, r7, r8, r9, r10, r11, r12, r14, r15, r17, r19⟩ := hR0
  by_cases hc : (0 ≤ x ∧ x ≤ 1000000000000) ∧ hasL S x = false ∧ s_ln S < 20
  · have hln := hc.2.2
    show AW X 3 0 0 ad ce 0 [(0, .ref (ad (3, 0, 0))), (1, .long x)] []
    refine aw_aload_n C d_R_listed_0 rfl (j := 0) rfl ?_
    refine aw_get C F_R r0 16 (by decide) tw_315 rfl d_R_listed_1 ?_
    refine aw_bipush C (v := 20) d_R_listed_4 (by decide) ?_
    refine aw_icmp_eq C (tgt := 28) d_R_listed_6 (by decide) (fun h6 => absurd h6 (fun q => absurd ((nI_eq (b := 20) (by omega) (by omega)).mp q) (by omega))) (fun h6 => ?_)
    refine aw_lload_n C d_R_listed_9 rfl (j := 1) rfl ?_
    refine aw_lconst C (v := 0) d_R_listed_10 (by decide) ?_
    refine aw_ldc2 C tw_368 d_R_listed_11 ?_
    refine aw_callS C I (as := [.long x, .long 0, .long 1000000000000]) (rest := []) (r_isIn l G ad ce x 0 1000000000000) g_R_70 ⟨by decide, by decide⟩ ⟨by decide, by decide⟩ rfl (Nat.le_of_ble_eq_true rfl) d_R_listed_14 ?_
    rintro _ _ _ ⟨rfl, rfl, rfl⟩
    show AW X 3 0 0 ad ce 17 [(0, .ref (ad (3, 0, 0))), (1, .long x)] [.int (bI (decide (0 ≤ x ∧ x ≤ 1000000000000)))]
    refine aw_topi (v' := 1) ((bI_t hc.1).symm) ?_
    show AW X 3 0 0 ad ce 17 [(0, .ref (ad (3, 0, 0))), (1, .long x)] [.int 1]
    refine aw_if_eq C (tgt := 28) d_R_listed_17 (by decide) (fun h17 => absurd h17 (by decide)) (fun h17 => ?_)
    refine aw_aload_n C d_R_listed_20 rfl (j := 0) rfl ?_
    refine aw_lload_n C d_R_listed_21 rfl (j := 1) rfl ?_
    refine aw_callV C I (k := (3, 0, 0)) (as := [.long x]) (rest := []) (r_isListed l G ad ce (s_cn S) (s_pn S) (s_ln S) (s_on S) kd sr np st la gby gdu gwo grd un ps gpt gff gfc (s_li S) (s_lo S) hR hb3 x) g_R_134 r0 rfl rfl ⟨by decide, by decide⟩ ⟨by decide, by decide⟩ rfl (Nat.le_of_ble_eq_true rfl) d_R_listed_22 ?_
    rintro _ _ _ ⟨rfl, rfl, rfl⟩
    show AW X 3 0 0 ad ce 25 [(0, .ref (ad (3, 0, 0))), (1, .long x)] [.int (bI (anyF (s_li S) x (s_ln S) 0))]
    refine aw_topi (v' := 0) (by have := hc.2.1; unfold hasL at this; rw [this]; rfl) ?_
    show AW X 3 0 0 ad ce 25 [(0, .ref (ad (3, 0, 0))), (1, .long x)] [.int 0]
    refine aw_if_eq C (tgt := 30) d_R_listed_25 (by decide) (fun h25 => ?_) (fun h25 => absurd (rfl) h25)
    refine aw_aload_n C d_R_listed_30 rfl (j := 0) rfl ?_
    refine aw_get C F_R r0 17 (by decide) tw_316 rfl d_R_listed_31 ?_
    refine aw_aload_n C d_R_listed_34 rfl (j := 0) rfl ?_
    refine aw_get C F_R r0 16 (by decide) tw_315 rfl d_R_listed_35 ?_
    refine aw_lload_n C d_R_listed_38 rfl (j := 1) rfl ?_
    refine ar_last C r17 (j := (s_ln S)) (rfl) (by omega) (by omega) d_R_listed_39 ?_
    intro ce9 fw9 r17
    have r0 : ce9 (3, 0, 0) = some (.inr (3, [.int (nI (s_cn S)), .ref (ad (3, 0, 1)), .ref (ad (3, 0, 2)), .ref (ad (3, 0, 3)), .ref (ad (3, 0, 4)), .ref (ad (3, 0, 5)), .ref (ad (3, 0, 6)), .ref (ad (3, 0, 7)), .ref (ad (3, 0, 8)), .ref (ad (3, 0, 9)), .ref (ad (3, 0, 10)), .ref (ad (3, 0, 11)), .ref (ad (3, 0, 12)), .int (nI (s_pn S)), .ref (ad (3, 0, 14)), .ref (ad (3, 0, 15)), .int (nI (s_ln S)), .ref (ad (3, 0, 17)), .int (nI (s_on S)), .ref (ad (3, 0, 19))])) := (fw9 _ (by simp)).trans r0
    have r1 := r1.tr (fw9 _ (by simp))
    have r2 := r2.tr (fw9 _ (by simp))
    have r3 := r3.tr (fw9 _ (by simp))
    have r4 := r4.tr (fw9 _ (by simp))
    have r5 := r5.tr (fw9 _ (by simp))
    have r6 := r6.tr (fw9 _ (by simp))
    have r7 := r7.tr (fw9 _ (by simp))
    have r8 := r8.tr (fw9 _ (by simp))
    have r9 := r9.tr (fw9 _ (by simp))
    have r10 := r10.tr (fw9 _ (by simp))
    have r11 := r11.tr (fw9 _ (by simp))
    have r12 := r12.tr (fw9 _ (by simp))
    have r14 := r14.tr (fw9 _ (by simp))
    have r15 := r15.tr (fw9 _ (by simp))
    have r19 := r19.tr (fw9 _ (by simp))
    refine aw_aload_n C d_R_listed_40 rfl (j := 0) rfl ?_
    refine aw_dup C d_R_listed_41 rfl ?_
    refine aw_get C F_R r0 16 (by decide) tw_315 rfl d_R_listed_42 ?_
    refine aw_iconst C (v := 1) d_R_listed_45 (by decide) ?_
    refine aw_iadd C d_R_listed_46 ?_
    refine aw_topi (v' := nI (s_ln S + 1)) (nI_1 _) ?_
    refine ob_put C F_R r0 16 (by decide) tw_315 rfl rfl rfl (Nat.le_of_ble_eq_true rfl) (fs' := [.int (nI (s_cn S)), .ref (ad (3, 0, 1)), .ref (ad (3, 0, 2)), .ref (ad (3, 0, 3)), .ref (ad (3, 0, 4)), .ref (ad (3, 0, 5)), .ref (ad (3, 0, 6)), .ref (ad (3, 0, 7)), .ref (ad (3, 0, 8)), .ref (ad (3, 0, 9)), .ref (ad (3, 0, 10)), .ref (ad (3, 0, 11)), .ref (ad (3, 0, 12)), .int (nI (s_pn S)), .ref (ad (3, 0, 14)), .ref (ad (3, 0, 15)), .int (nI (s_ln S + 1)), .ref (ad (3, 0, 17)), .int (nI (s_on S)), .ref (ad (3, 0, 19))]) rfl d_R_listed_47 ?_
    intro ce10 fw10 r0
    have r1 := r1.tr (fw10 _ (by simp))
    have r2 := r2.tr (fw10 _ (by simp))
    have r3 := r3.tr (fw10 _ (by simp))
    have r4 := r4.tr (fw10 _ (by simp))
    have r5 := r5.tr (fw10 _ (by simp))
    have r6 := r6.tr (fw10 _ (by simp))
    have r7 := r7.tr (fw10 _ (by simp))
    have r8 := r8.tr (fw10 _ (by simp))
    have r9 := r9.tr (fw10 _ (by simp))
    have r10 := r10.tr (fw10 _ (by simp))
    have r11 := r11.tr (fw10 _ (by simp))
    have r12 := r12.tr (fw10 _ (by simp))
    have r14 := r14.tr (fw10 _ (by simp))
    have r15 := r15.tr (fw10 _ (by simp))
    have r17 := r17.tr (fw10 _ (by simp))
    have r19 := r19.tr (fw10 _ (by simp))
    refine aw_aload_n C d_R_listed_50 rfl (j := 0) rfl ?_
    refine aw_get C F_R r0 16 (by decide) tw_315 rfl d_R_listed_51 ?_
    refine aw_iret C E (rfl) (by decide) (by decide) d_R_listed_54 ?_
    rw [show f_listed S x = (nI (s_ln S + 1), s_addL S x) from if_pos hc]
    exact ⟨rfl, rfl, (fr3 fw9).trans (fr3 fw10), _, _, _, _, _, _, _, _, _, _, _, _, _, _, ⟨r0, r1, r2, r3, r4, r5, r6, r7, r8, r9, r10, r11, r12, r14, r15, r17, r19⟩, hE, ⟨⟨hb1, hb2, by show s_ln S + 1 ≤ 20; omega, hb4⟩, hW2, hW3⟩⟩
  by_cases h0 : s_ln S = 20
  · skip
    show AW X 3 0 0 ad ce 0 [(0, .ref (ad (3, 0, 0))), (1, .long x)] []
    refine aw_aload_n C d_R_listed_0 rfl (j := 0) rfl ?_
    refine aw_get C F_R r0 16 (by decide) tw_315 rfl d_R_listed_1 ?_
    refine aw_bipush C (v := 20) d_R_listed_4 (by decide) ?_
    refine aw_icmp_eq C (tgt := 28) d_R_listed_6 (by decide) (fun h6 => ?_) (fun h6 => absurd (by rw [h0]; rfl) h6)
    refine aw_iconst C (v := (-1)) d_R_listed_28 (by decide) ?_
    refine aw_iret C E (rfl) (by decide) (by decide) d_R_listed_29 ?_
    rw [show f_listed S x = (-1, S) from if_neg hc]
    exact ⟨rfl, rfl, frR.rf, ⟨kd, sr, np, st, la, gby, gdu, gwo, grd, un, ps, gpt, gff, gfc, hR, hE, hW⟩⟩
  by_cases h1 : 0 ≤ x ∧ x ≤ 1000000000000
  · have h2 : hasL S x = true := by
      cases h : hasL S x
      · exact absurd ⟨h1, h, by omega⟩ hc
      · rfl
    show AW X 3 0 0 ad ce 0 [(0, .ref (ad (3, 0, 0))), (1, .long x)] []
    refine aw_aload_n C d_R_listed_0 rfl (j := 0) rfl ?_
    refine aw_get C F_R r0 16 (by decide) tw_315 rfl d_R_listed_1 ?_
    refine aw_bipush C (v := 20) d_R_listed_4 (by decide) ?_
    refine aw_icmp_eq C (tgt := 28) d_R_listed_6 (by decide) (fun h6 => absurd h6 (fun q => absurd ((nI_eq (b := 20) (by omega) (by omega)).mp q) (by omega))) (fun h6 => ?_)
    refine aw_lload_n C d_R_listed_9 rfl (j := 1) rfl ?_
    refine aw_lconst C (v := 0) d_R_listed_10 (by decide) ?_
    refine aw_ldc2 C tw_368 d_R_listed_11 ?_
    refine aw_callS C I (as := [.long x, .long 0, .long 1000000000000]) (rest := []) (r_isIn l G ad ce x 0 1000000000000) g_R_70 ⟨by decide, by decide⟩ ⟨by decide, by decide⟩ rfl (Nat.le_of_ble_eq_true rfl) d_R_listed_14 ?_
    rintro _ _ _ ⟨rfl, rfl, rfl⟩
    show AW X 3 0 0 ad ce 17 [(0, .ref (ad (3, 0, 0))), (1, .long x)] [.int (bI (decide (0 ≤ x ∧ x ≤ 1000000000000)))]
    refine aw_topi (v' := 1) ((bI_t h1).symm) ?_
    show AW X 3 0 0 ad ce 17 [(0, .ref (ad (3, 0, 0))), (1, .long x)] [.int 1]
    refine aw_if_eq C (tgt := 28) d_R_listed_17 (by decide) (fun h17 => absurd h17 (by decide)) (fun h17 => ?_)
    refine aw_aload_n C d_R_listed_20 rfl (j := 0) rfl ?_
    refine aw_lload_n C d_R_listed_21 rfl (j := 1) rfl ?_
    refine aw_callV C I (k := (3, 0, 0)) (as := [.long x]) (rest := []) (r_isListed l G ad ce (s_cn S) (s_pn S) (s_ln S) (s_on S) kd sr np st la gby gdu gwo grd un ps gpt gff gfc (s_li S) (s_lo S) hR hb3 x) g_R_134 r0 rfl rfl ⟨by decide, by decide⟩ ⟨by decide, by decide⟩ rfl (Nat.le_of_ble_eq_true rfl) d_R_listed_22 ?_
    rintro _ _ _ ⟨rfl, rfl, rfl⟩
    show AW X 3 0 0 ad ce 25 [(0, .ref (ad (3, 0, 0))), (1, .long x)] [.int (bI (anyF (s_li S) x (s_ln S) 0))]
    refine aw_topi (v' := 1) (by unfold hasL at h2; rw [h2]; rfl) ?_
    show AW X 3 0 0 ad ce 25 [(0, .ref (ad (3, 0, 0))), (1, .long x)] [.int 1]
    refine aw_if_eq C (tgt := 30) d_R_listed_25 (by decide) (fun h25 => absurd h25 (by decide)) (fun h25 => ?_)
    refine aw_iconst C (v := (-1)) d_R_listed_28 (by decide) ?_
    refine aw_iret C E (rfl) (by decide) (by decide) d_R_listed_29 ?_
    rw [show f_listed S x = (-1, S) from if_neg hc]
    exact ⟨rfl, rfl, frR.rf, ⟨kd, sr, np, st, la, gby, gdu, gwo, grd, un, ps, gpt, gff, gfc, hR, hE, hW⟩⟩
  · skip
    show AW X 3 0 0 ad ce 0 [(0, .ref (ad (3, 0, 0))), (1, .long x)] []
    refine aw_aload_n C d_R_listed_0 rfl (j := 0) rfl ?_
    refine aw_get C F_R r0 16 (by decide) tw_315 rfl d_R_listed_1 ?_
    refine aw_bipush C (v := 20) d_R_listed_4 (by decide) ?_
    refine aw_icmp_eq C (tgt := 28) d_R_listed_6 (by decide) (fun h6 => absurd h6 (fun q => absurd ((nI_eq (b := 20) (by omega) (by omega)).mp q) (by omega))) (fun h6 => ?_)
    refine aw_lload_n C d_R_listed_9 rfl (j := 1) rfl ?_
    refine aw_lconst C (v := 0) d_R_listed_10 (by decide) ?_
    refine aw_ldc2 C tw_368 d_R_listed_11 ?_
    refine aw_callS C I (as := [.long x, .long 0, .long 1000000000000]) (rest := []) (r_isIn l G ad ce x 0 1000000000000) g_R_70 ⟨by decide, by decide⟩ ⟨by decide, by decide⟩ rfl (Nat.le_of_ble_eq_true rfl) d_R_listed_14 ?_
    rintro _ _ _ ⟨rfl, rfl, rfl⟩
    show AW X 3 0 0 ad ce 17 [(0, .ref (ad (3, 0, 0))), (1, .long x)] [.int (bI (decide (0 ≤ x ∧ x ≤ 1000000000000)))]
    refine aw_topi (v' := 0) ((bI_f h1).symm) ?_
    show AW X 3 0 0 ad ce 17 [(0, .ref (ad (3, 0, 0))), (1, .long x)] [.int 0]
    refine aw_if_eq C (tgt := 28) d_R_listed_17 (by decide) (fun h17 => ?_) (fun h17 => absurd (rfl) h17)
    refine aw_iconst C (v := (-1)) d_R_listed_28 (by decide) ?_
    refine aw_iret C E (rfl) (by decide) (by decide) d_R_listed_29 ?_
    rw [show f_listed S x = (-1, S) from if_neg hc]
    exact ⟨rfl, rfl, frR.rf, ⟨kd, sr, np, st, la, gby, gdu, gwo, grd, un, ps, gpt, gff, gfc, hR, hE, hW⟩⟩
end
