theorem ofWF {l : Launch} {y : MethodName} {ws ws' : List Cond} {rm : Room} {Pc : Array Value → State → Prop} {Qc : Array Value → State → Outcome → State → Prop} {mc ms : Nat} {free : Addr → Prop} {cc : ByteArray} {maxL : Nat} {ret : Option FieldType}
    (hy : plainFor y = true) (hw : ws = Cond.code y cc maxL ret :: ws')
    (body : ∀ p e s m args below meth c s₁, BodyLoose p l y (headSpec ws rm) cc maxL ret e s m args below meth c s₁ → c.maxLocals = maxL → Pc args s →
      W p l e (headSpec ws rm).room s m args below meth c s.heap [] 0 0 (MQ below Qc args s mc ms free) (entryFrame m args maxL)) : Met l y ws rm Pc Qc mc ms free := by
  refine MetFree.of_bodySF (code := cc) (maxLocals := maxL) (ret := ret) hy ?_ ?_
  · intro args s m h hn
    obtain ⟨meth, c, h1, h2, h3, h4, h5, h6, -, -⟩ := Cond.code_spec hn (atoms_spec (ws := ws) h _ (by rw [hw]; exact List.mem_cons_self))
    exact ⟨meth, c, h1, h2, h3, h4, h5, h6⟩
  · intro p e s m args below meth c s₁ B hml hP _
    have hh0 : s₁.heap = s.heap := by rw [B.state]; rfl
    obtain ⟨t, a1, o, b1, b2, b3⟩ := body p e s m args below meth c s₁ B hml hP s₁ hh0 (Stand.of_body B)
    exact ⟨t, o, a1, b1, b2, ⟨b3.1, b3.2⟩⟩
theorem CT.ofF {l : Launch} {G : aw_G} {y : MethodName} {cc : ByteArray} {nL : Nat} {ret : Option FieldType} {d lo mc ms : Nat} {as : List Value} {ad : aw_Ad} {ce : aw_He} {P : Option Value → aw_Ad → aw_He → Prop} (hy : plainFor y = true) (hlen : (lg_sl as).length ≤ nL)
    (body : ∀ X : aw_X, aw_ok X cc nL y.cls → aw_in X l G (aw_rm d lo mc ms) → aw_me X y.name ret mc ms P → AW X nL 0 0 ad ce 0 (lv_args 0 as) []) : CT l G (y, cc, nL, ret) d lo mc ms as ad ce P := by
  refine ofWF (cc := cc) (maxL := nL) (ret := ret) hy rfl ?_
  intro p e s m args below meth c s₁ B hml hv
  obtain ⟨rfl, hH, hK, hbs⟩ := hv
  have hts := atoms_spec (ws := .code y cc nL ret :: aw_tb) B.pre
  have hown : s.vm.findClass y.cls = some m.cls := findClass_of_methodNamed B.named
  have h := body (p, l, e, aw_rm d lo mc ms, s, m, as.toArray, below, meth, c, MQ below (aw_Qc G P) as.toArray s mc ms (aw_A G), G) ⟨B.exec, B.bytes, hml, hown, fun w hw => hts w (List.mem_cons_of_mem _ hw), B.notSynchronized, hK, hbs⟩ ⟨rfl, rfl, rfl⟩ ⟨(name_of_methodNamed B.named B.method).1, B.returns, rfl⟩
  rw [lg_entry_eq]
  exact h s.heap [] _ hH va_S.rf (lv_entry as hlen)
set_option maxRecDepth 100000 in
set_option maxHeartbeats 4000000 in
theorem c_minI (l : Launch) (G : aw_G) (ad : aw_Ad) (ce : aw_He) (x y : Int32) : CT l G M_A_minI 0 0 0 0 [.int x, .int y] ad ce (rN (some (.int (if y < x then y else x))) ad ce) := by
  refine CT.ofF (by decide +kernel) (Nat.le_of_ble_eq_true rfl) ?_
  intro X C I E
  show AW X 2 0 0 ad ce 0 [(0, .int x), (1, .int y)] []
  refine aw_iload_n C d_A_minI_0 rfl (j := 0) rfl ?_
  refine aw_iload_n C d_A_minI_1 rfl (j := 1) rfl ?_
  refine aw_icmp_gt C (tgt := 9) d_A_minI_2 (by decide) (fun h2 => ?_) (fun h2 => ?_)
  · refine aw_iload_n C d_A_minI_9 rfl (j := 1) rfl ?_
    refine aw_iret C E (rfl) (by decide) (by decide) d_A_minI_10 ?_
    exact ⟨sI (by simp [h2]), rfl, rfl⟩
  · refine aw_iload_n C d_A_minI_5 rfl (j := 0) rfl ?_
    refine aw_goto C (tgt := 10) d_A_minI_6 (by decide) ?_
    refine aw_iret C E (rfl) (by decide) (by decide) d_A_minI_10 ?_
    exact ⟨sI (by simp [h2]), rfl, rfl⟩
set_option maxRecDepth 100000 in
set_option maxHeartbeats 4000000 in
theorem c_maxI (l : Launch) (G : aw_G) (ad : aw_Ad) (ce : aw_He) (x y : Int32) : CT l G M_A_maxI 0 0 0 0 [.int x, .int y] ad ce (rN (some (.int (if x < y then y else x))) ad ce) := by
  refine CT.ofF (by decide +kernel) (Nat.le_of_ble_eq_true rfl) ?_
  intro X C I E
  show AW X 2 0 0 ad ce 0 [(0, .int x), (1, .int y)] []
  refine aw_iload_n C d_A_maxI_0 rfl (j := 0) rfl ?_
  refine aw_iload_n C d_A_maxI_1 rfl (j := 1) rfl ?_
  refine aw_icmp_lt C (tgt := 9) d_A_maxI_2 (by decide) (fun h2 => ?_) (fun h2 => ?_)
  · refine aw_iload_n C d_A_maxI_9 rfl (j := 1) rfl ?_
    refine aw_iret C E (rfl) (by decide) (by decide) d_A_maxI_10 ?_
    exact ⟨sI (by simp [h2]), rfl, rfl⟩
  · refine aw_iload_n C d_A_maxI_5 rfl (j := 0) rfl ?_
    refine aw_goto C (tgt := 10) d_A_maxI_6 (by decide) ?_
    refine aw_iret C E (rfl) (by decide) (by decide) d_A_maxI_10 ?_
    exact ⟨sI (by simp [h2]), rfl, rfl⟩
set_option maxRecDepth 100000 in
set_option maxHeartbeats 4000000 in
theorem c_maxL (l : Launch) (G : aw_G) (ad : aw_Ad) (ce : aw_He) (x y : Int64) : CT l G M_A_maxL 0 0 0 0 [.long x, .long y] ad ce (rN (some (.long (if x < y then y else x))) ad ce) := by
  refine CT.ofF (by decide +kernel) (Nat.le_of_ble_eq_true rfl) ?_
  intro X C I E
  show AW X 4 0 0 ad ce 0 [(0, .long x), (2, .long y)] []
  refine aw_lload_n C d_A_maxL_0 rfl (j := 0) rfl ?_
  refine aw_lload_n C d_A_maxL_1 rfl (j := 1) rfl ?_
  refine aw_lcmp C d_A_maxL_2 ?_
  refine aw_if_lt C (tgt := 10) d_A_maxL_3 (by decide) (fun h3 => ?_) (fun h3 => ?_)
  · refine aw_lload_n C d_A_maxL_10 rfl (j := 1) rfl ?_
    refine aw_lret C E (by decide) (by decide) d_A_maxL_11 ?_
    exact ⟨by rw [lg_cmp_lt] at h3; simp [h3], rfl, rfl⟩
  · refine aw_lload_n C d_A_maxL_6 rfl (j := 0) rfl ?_
    refine aw_goto C (tgt := 11) d_A_maxL_7 (by decide) ?_
    refine aw_lret C E (by decide) (by decide) d_A_maxL_11 ?_
    exact ⟨by rw [lg_cmp_lt] at h3; simp [h3], rfl, rfl⟩
def k_zero : CarS := k_mk 0 0 0 (fun _ => 0) (fun _ => 0) (fun _ => 0) (fun _ => 0) (fun _ => 0) 0 0 0 0
def S_new : SysS := (0, fun _ => k_zero, 0, fun _ => (0, fun _ => 0), 0, fun _ => 0, 0, fun _ => 0)
set_option maxRecDepth 100000 in
set_option maxHeartbeats 4000000 in
theorem c_Cinit (l : Launch) (G : aw_G) (ad : aw_Ad) (ce : aw_He) (ho : ce (0, 0, 0) = some (.inr (0, [.null, .int 0, .null, .int 0, .null, .int 0, .null, .int 0]))) (hno : ∀ p, p ≠ 0 → ce (0, 0, p) = none) (hn1 : ∀ i p, ce (1, i, p) = none) (hn2 : ∀ i p, ce (2, i, p) = none) : CT l G M_C_init 1 20 4 60 [.ref (ad (0, 0, 0))] ad ce (fun r ad' ce' => r = none ∧ (∀ q : aw_Lb, q.1 ≠ 0 → ad' q = ad q ∧ ce' q = ce q) ∧ ad' (0, 0, 0) = ad (0, 0, 0) ∧ LayC S_new ad' ce') := by
  refine CT.of (by decide) (Nat.le_of_ble_eq_true rfl) ?_
  intro X C I E
  show AW X 1 0 0 ad ce 0 [(0, .ref (ad (0, 0, 0)))] []
  refine aw_aload_n C d_C_init_0 rfl (j := 0) rfl ?_
  refine aw_objInit C I tw_12 tw_13 tw_14 ⟨by decide, by decide⟩ (Nat.le_of_ble_eq_true rfl) d_C_init_1 ?_
  refine aw_aload_n C d_C_init_4 rfl (j := 0) rfl ?_
  refine aw_bipush C (v := 10) d_C_init_5 (by decide) ?_
  refine ar_newQ C I 3 rfl (0, 0, 1) (hno 1 (by decide)) tw_15 (by decide) (N' := 10) (by decide) (by omega) ⟨Nat.le_trans (m := 4) (by omega) (Nat.le_refl _), Nat.le_trans (m := 60) (by omega) (Nat.le_refl _)⟩ d_C_init_7 ?_
  intro ad1 ce1 ha1 fw1 hca
  have ea1_0 : ad (0, 0, 0) = ad1 (0, 0, 0) := (ha1 _ (by simp)).symm
  rw [ea1_0]
  have ho : ce1 (0, 0, 0) = some (.inr (0, [.null, .int 0, .null, .int 0, .null, .int 0, .null, .int 0])) := (fw1 _ (by simp)).trans ho
  refine ob_putF C E rfl F_C ho 0 (by decide) tw_19 rfl rfl rfl rfl (Nat.le_of_ble_eq_true rfl) (fs' := [.ref (ad1 (0, 0, 1)), .int 0, .null, .int 0, .null, .int 0, .null, .int 0]) rfl d_C_init_10 ?_
  intro ce2 fw2 ho
  have hca := hca.tr (fw2 _ (by simp))
  refine aw_aload_n C d_C_init_13 rfl (j := 0) rfl ?_
  refine aw_iconst C (v := 0) d_C_init_14 (by decide) ?_
  refine ob_put C F_C ho 1 (by decide) tw_20 rfl rfl rfl (Nat.le_of_ble_eq_true rfl) (fs' := [.ref (ad1 (0, 0, 1)), .int 0, .null, .int 0, .null, .int 0, .null, .int 0]) rfl d_C_init_15 ?_
  intro ce3 fw3 ho
  have hca := hca.tr (fw3 _ (by simp))
  refine aw_aload_n C d_C_init_18 rfl (j := 0) rfl ?_
  refine aw_bipush C (v := 20) d_C_init_19 (by decide) ?_
  refine ar_newQ C I 4 rfl (0, 0, 2) (by rw [fw3 _ (by simp), fw2 _ (by simp), fw1 _ (by simp)]; exact hno 2 (by decide)) tw_17 (by decide) (N' := 20) (by decide) (by omega) ⟨Nat.le_trans (m := 4) (by omega) (Nat.le_refl _), Nat.le_trans (m := 60) (by omega) (Nat.le_refl _)⟩ d_C_init_21 ?_
  intro ad4 ce4 ha4 fw4 hpa
  have ea4_0 : ad1 (0, 0, 0) = ad4 (0, 0, 0) := (ha4 _ (by simp)).symm
  have ea4_1 : ad1 (0, 0, 1) = ad4 (0, 0, 1) := (ha4 _ (by simp)).symm
  rw [ea4_0]
  rw [ea4_1] at ho
  have ho : ce4 (0, 0, 0) = some (.inr (0, [.ref (ad4 (0, 0, 1)), .int 0, .null, .int 0, .null, .int 0, .null, .int 0])) := (fw4 _ (by simp)).trans ho
  have hca := hca.tr (fw4 _ (by simp))
  refine ob_putF C E rfl F_C ho 2 (by decide) tw_21 rfl rfl rfl rfl (Nat.le_of_ble_eq_true rfl) (fs' := [.ref (ad4 (0, 0, 1)), .int 0, .ref (ad4 (0, 0, 2)), .int 0, .null, .int 0, .null, .int 0]) rfl d_C_init_24 ?_
  intro ce5 fw5 ho
  have hca := hca.tr (fw5 _ (by simp))
  have hpa := hpa.tr (fw5 _ (by simp))
  refine aw_aload_n C d_C_init_27 rfl (j := 0) rfl ?_
  refine aw_iconst C (v := 0) d_C_init_28 (by decide) ?_
  refine ob_put C F_C ho 3 (by decide) tw_22 rfl rfl rfl (Nat.le_of_ble_eq_true rfl) (fs' := [.ref (ad4 (0, 0, 1)), .int 0, .ref (ad4 (0, 0, 2)), .int 0, .null, .int 0, .null, .int 0]) rfl d_C_init_29 ?_
  intro ce6 fw6 ho
  have hca := hca.tr (fw6 _ (by simp))
  have hpa := hpa.tr (fw6 _ (by simp))
  refine aw_aload_n C d_C_init_32 rfl (j := 0) rfl ?_
  refine aw_bipush C (v := 20) d_C_init_33 (by decide) ?_
  refine ar_newJ C I (0, 0, 3) (by rw [fw6 _ (by simp), fw5 _ (by simp), fw4 _ (by simp), fw3 _ (by simp), fw2 _ (by simp), fw1 _ (by simp)]; exact hno 3 (by decide)) tw_44 (N' := 20) (by decide) (by omega) ⟨Nat.le_trans (m := 4) (by omega) (Nat.le_refl _), Nat.le_trans (m := 60) (by omega) (Nat.le_refl _)⟩ d_C_init_35 ?_
  intro ad7 ce7 ha7 fw7 hli
  have ea7_0 : ad4 (0, 0, 0) = ad7 (0, 0, 0) := (ha7 _ (by simp)).symm
  have ea7_1 : ad4 (0, 0, 1) = ad7 (0, 0, 1) := (ha7 _ (by simp)).symm
  have ea7_2 : ad4 (0, 0, 2) = ad7 (0, 0, 2) := (ha7 _ (by simp)).symm
  rw [ea7_0]
  rw [ea7_1, ea7_2] at ho
  have ho : ce7 (0, 0, 0) = some (.inr (0, [.ref (ad7 (0, 0, 1)), .int 0, .ref (ad7 (0, 0, 2)), .int 0, .null, .int 0, .null, .int 0])) := (fw7 _ (by simp)).trans ho
  have hca := hca.tr (fw7 _ (by simp))
  have hpa := hpa.tr (fw7 _ (by simp))
  refine ob_putF C E rfl F_C ho 4 (by decide) tw_23 rfl rfl rfl rfl (Nat.le_of_ble_eq_true rfl) (fs' := [.ref (ad7 (0, 0, 1)), .int 0, .ref (ad7 (0, 0, 2)), .int 0, .ref (ad7 (0, 0, 3)), .int 0, .null, .int 0]) rfl d_C_init_37 ?_
  intro ce8 fw8 ho
  have hca := hca.tr (fw8 _ (by simp))
  have hpa := hpa.tr (fw8 _ (by simp))
  have hli := hli.tr (fw8 _ (by simp))
  refine aw_aload_n C d_C_init_40 rfl (j := 0) rfl ?_
  refine aw_iconst C (v := 0) d_C_init_41 (by decide) ?_
  refine ob_put C F_C ho 5 (by decide) tw_24 rfl rfl rfl (Nat.le_of_ble_eq_true rfl) (fs' := [.ref (ad7 (0, 0, 1)), .int 0, .ref (ad7 (0, 0, 2)), .int 0, .ref (ad7 (0, 0, 3)), .int 0, .null, .int 0]) rfl d_C_init_42 ?_
  intro ce9 fw9 ho
  have hca := hca.tr (fw9 _ (by simp))
  have hpa := hpa.tr (fw9 _ (by simp))
  have hli := hli.tr (fw9 _ (by simp))
  refine aw_aload_n C d_C_init_45 rfl (j := 0) rfl ?_
  refine aw_bipush C (v := 10) d_C_init_46 (by decide) ?_
  refine ar_newI C I (0, 0, 4) (by rw [fw9 _ (by simp), fw8 _ (by simp), fw7 _ (by simp), fw6 _ (by simp), fw5 _ (by simp), fw4 _ (by simp), fw3 _ (by simp), fw2 _ (by simp), fw1 _ (by simp)]; exact hno 4 (by decide)) tw_45 (N' := 10) (by decide) (by omega) ⟨Nat.le_trans (m := 4) (by omega) (Nat.le_refl _), Nat.le_trans (m := 60) (by omega) (Nat.le_refl _)⟩ d_C_init_48 ?_
  intro ad10 ce10 ha10 fw10 hlo
  have ea10_0 : ad7 (0, 0, 0) = ad10 (0, 0, 0) := (ha10 _ (by simp)).symm
  have ea10_1 : ad7 (0, 0, 1) = ad10 (0, 0, 1) := (ha10 _ (by simp)).symm
  have ea10_2 : ad7 (0, 0, 2) = ad10 (0, 0, 2) := (ha10 _ (by simp)).symm
  have ea10_3 : ad7 (0, 0, 3) = ad10 (0, 0, 3) := (ha10 _ (by simp)).symm
  rw [ea10_0]
  rw [ea10_1, ea10_2, ea10_3] at ho
  have ho : ce10 (0, 0, 0) = some (.inr (0, [.ref (ad10 (0, 0, 1)), .int 0, .ref (ad10 (0, 0, 2)), .int 0, .ref (ad10 (0, 0, 3)), .int 0, .null, .int 0])) := (fw10 _ (by simp)).trans ho
  have hca := hca.tr (fw10 _ (by simp))
  have hpa := hpa.tr (fw10 _ (by simp))
  have hli := hli.tr (fw10 _ (by simp))
  refine ob_putF C E rfl F_C ho 6 (by decide) tw_25 rfl rfl rfl rfl (Nat.le_of_ble_eq_true rfl) (fs' := [.ref (ad10 (0, 0, 1)), .int 0, .ref (ad10 (0, 0, 2)), .int 0, .ref (ad10 (0, 0, 3)), .int 0, .ref (ad10 (0, 0, 4)), .int 0]) rfl d_C_init_50 ?_
  intro ce11 fw11 ho
  have hca := hca.tr (fw11 _ (by simp))
  have hpa := hpa.tr (fw11 _ (by simp))
  have hli := hli.tr (fw11 _ (by simp))
  have hlo := hlo.tr (fw11 _ (by simp))
  refine aw_aload_n C d_C_init_53 rfl (j := 0) rfl ?_
  refine aw_iconst C (v := 0) d_C_init_54 (by decide) ?_
  refine ob_put C F_C ho 7 (by decide) tw_26 rfl rfl rfl (Nat.le_of_ble_eq_true rfl) (fs' := [.ref (ad10 (0, 0, 1)), .int 0, .ref (ad10 (0, 0, 2)), .int 0, .ref (ad10 (0, 0, 3)), .int 0, .ref (ad10 (0, 0, 4)), .int 0]) rfl d_C_init_55 ?_
  intro ce12 fw12 ho
  have hca := hca.tr (fw12 _ (by simp))
  have hpa := hpa.tr (fw12 _ (by simp))
  have hli := hli.tr (fw12 _ (by simp))
  have hlo := hlo.tr (fw12 _ (by simp))
  refine aw_vret C E (by decide) (by decide) d_C_init_58 ?_
  exact ⟨rfl, fun q hq => ⟨by rw [ha10 q (fun e => by subst e; simp at hq), ha7 q (fun e => by subst e; simp at hq), ha4 q (fun e => by subst e; simp at hq), ha1 q (fun e => by subst e; simp at hq)], by rw [fw12 q (fun e => by subst e; simp at hq), fw11 q (fun e => by subst e; simp at hq), fw10 q (fun e => by subst e; simp at hq), fw9 q (fun e => by subst e; simp at hq), fw8 q (fun e => by subst e; simp at hq), fw7 q (fun e => by subst e; simp at hq), fw6 q (fun e => by subst e; simp at hq), fw5 q (fun e => by subst e; simp at hq), fw4 q (fun e => by subst e; simp at hq), fw3 q (fun e => by subst e; simp at hq), fw2 q (fun e => by subst e; simp at hq), fw1 q (fun e => by subst e; simp at hq)]⟩, by rw [ha10 _ (by simp), ha7 _ (by simp), ha4 _ (by simp), ha1 _ (by simp)], ho, hca, hpa, hli, hlo, fun i hi => absurd hi (Nat.not_lt_zero _), fun i hi => absurd hi (Nat.not_lt_zero _), fun i p _ => (show ce12 (1, i, p) = ce (1, i, p) by rw [fw12 _ (by simp), fw11 _ (by simp), fw10 _ (by simp), fw9 _ (by simp), fw8 _ (by simp), fw7 _ (by simp), fw6 _ (by simp), fw5 _ (by simp), fw4 _ (by simp), fw3 _ (by simp), fw2 _ (by simp), fw1 _ (by simp)]).trans (hn1 i p), fun i p _ => (show ce12 (2, i, p) = ce (2, i, p) by rw [fw12 _ (by simp), fw11 _ (by simp), fw10 _ (by simp), fw9 _ (by simp), fw8 _ (by simp), fw7 _ (by simp), fw6 _ (by simp), fw5 _ (by simp), fw4 _ (by simp), fw3 _ (by simp), fw2 _ (by simp), fw1 _ (by simp)]).trans (hn2 i p), by decide⟩
def papF (num : Int32) (c : CarS) (a b : Int32) : Nat → Int32 := fun k => if k = 0 then num else if k = 1 then k_kd c else if k = 2 then a else if k = 3 then b else if k = 4 then k_st c else if k = 5 then nI (k_ps c) else k_pt c (k - 6)
theorem max0 {n : Nat} (h : n < 2 ^ 31) : (if (0 : Int32) < nI n then nI n else 0) = nI n := by
  by_cases h0 : n = 0
  · subst h0; decide
  · rw [if_pos]
    rw [← nI_0]; exact nI_lt (by omega) h
set_option maxRecDepth 100000 in
set_option maxHeartbeats 4000000 in
theorem c_Pinit (l : Launch) (G : aw_G) (ad : aw_Ad) (ce : aw_He) (i : Nat) (c : CarS) (hK : Car ad ce i c) (j : Nat) (num pa pb : Int32) (hp : ce (2, j, 0) = some (.inr (2, [.null]))) (hno : ce (2, j, 1) = none) : CT l G M_P_init 1 21 1 12 [.ref (ad (2, j, 0)), .int num, .ref (ad (1, i, 0)), .int pa, .int pb] ad ce (fun r ad' ce' => r = none ∧ (∀ q : aw_Lb, (q.1 ≠ 2 ∨ q.2.1 ≠ j) → ad' q = ad q ∧ ce' q = ce q) ∧ ad' (2, j, 0) = ad (2, j, 0) ∧ Pap ad' ce' j (6 + k_ps c, papF num c pa pb)) := by
  refine CT.of (by decide) (Nat.le_of_ble_eq_true rfl) ?_
  intro X C I E
  obtain ⟨hk, hby, hdu, hwo, hrd, hpt, ⟨hn1, hn2⟩, hps⟩ := hK
  show AW X 7 0 0 ad ce 0 [(0, .ref (ad (2, j, 0))), (1, .int num), (2, .ref (ad (1, i, 0))), (3, .int pa), (4, .int pb)] []
  refine aw_aload_n C d_P_init_0 rfl (j := 0) rfl ?_
  refine aw_objInit C I tw_225 tw_13 tw_14 ⟨by decide, by decide⟩ (Nat.le_of_ble_eq_true rfl) d_P_init_1 ?_
  refine aw_iconst C (v := 0) d_P_init_4 (by decide) ?_
  refine aw_aload_n C d_P_init_5 rfl (j := 2) rfl ?_
  refine aw_get C F_K hk 7 (by decide) tw_82 rfl d_P_init_6 ?_
  refine aw_aload_n C d_P_init_9 rfl (j := 2) rfl ?_
  refine aw_get C F_K hk 6 (by decide) tw_80 rfl d_P_init_10 ?_
  refine ar_len C hpt (tt := .int) rfl d_P_init_13 ?_
  refine aw_callS C I (as := [.int (nI (k_ps c)), .int (nI 6)]) (rest := [.int 0]) (c_minI l G ad ce (nI (k_ps c)) (nI 6)) g_P_19 ⟨by decide, by decide⟩ ⟨by decide, by decide⟩ rfl (Nat.le_of_ble_eq_true rfl) d_P_init_14 ?_
  rintro _ _ _ ⟨rfl, rfl, rfl⟩
  show AW X 7 0 0 ad ce 17 [(0, .ref (ad (2, j, 0))), (1, .int num), (2, .ref (ad (1, i, 0))), (3, .int pa), (4, .int pb)] [.int (if nI 6 < nI (k_ps c) then nI 6 else nI (k_ps c)), .int 0]
  refine aw_topi (v' := nI (k_ps c)) (if_neg (nI_nlt (by omega) (by omega))) ?_
  refine aw_callS C I (as := [.int 0, .int (nI (k_ps c))]) (rest := []) (c_maxI l G ad ce 0 (nI (k_ps c))) g_P_25 ⟨by decide, by decide⟩ ⟨by decide, by decide⟩ rfl (Nat.le_of_ble_eq_true rfl) d_P_init_17 ?_
  rintro _ _ _ ⟨rfl, rfl, rfl⟩
  show AW X 7 0 0 ad ce 20 [(0, .ref (ad (2, j, 0))), (1, .int num), (2, .ref (ad (1, i, 0))), (3, .int pa), (4, .int pb)] [.int (if (0 : Int32) < nI (k_ps c) then nI (k_ps c) else 0)]
  refine aw_topi (v' := nI (k_ps c)) (max0 (by omega)) ?_
  refine aw_istore C (lv' := [(5, .int (nI (k_ps c))), (0, .ref (ad (2, j, 0))), (1, .int num), (2, .ref (ad (1, i, 0))), (3, .int pa), (4, .int pb)]) d_P_init_20 (by decide) rfl ?_
  refine aw_aload_n C d_P_init_22 rfl (j := 1) rfl ?_
  refine aw_bipush C (v := 6) d_P_init_23 (by decide) ?_
  refine aw_iload C d_P_init_25 (j := 0) rfl ?_
  refine aw_iadd C d_P_init_27 ?_
  refine aw_topi (v' := nI (6 + k_ps c)) (nI_add 6 _) ?_
  refine ar_newI C I (2, j, 1) hno tw_45 (N' := (6 + k_ps c)) (rfl) (by omega) ⟨Nat.le_trans (m := 1) (by omega) (Nat.le_refl _), Nat.le_trans (m := 12) (by omega) (Nat.le_refl _)⟩ d_P_init_28 ?_
  intro ad13 ce13 ha13 fw13 hfl
  have ea13_0 : ad (2, j, 0) = ad13 (2, j, 0) := (ha13 _ (by simp)).symm
  have ea13_1 : ad (1, i, 0) = ad13 (1, i, 0) := (ha13 _ (by simp)).symm
  have ea13_2 : ad (1, i, 1) = ad13 (1, i, 1) := (ha13 _ (by simp)).symm
  have ea13_3 : ad (1, i, 2) = ad13 (1, i, 2) := (ha13 _ (by simp)).symm
  have ea13_4 : ad (1, i, 3) = ad13 (1, i, 3) := (ha13 _ (by simp)).symm
  have ea13_5 : ad (1, i, 4) = ad13 (1, i, 4) := (ha13 _ (by simp)).symm
  have ea13_6 : ad (1, i, 5) = ad13 (1, i, 5) := (ha13 _ (by simp)).symm
  rw [ea13_0, ea13_1]
  have hp : ce13 (2, j, 0) = some (.inr (2, [.null])) := (fw13 _ (by simp)).trans hp
  rw [ea13_2, ea13_3, ea13_4, ea13_5, ea13_6] at hk
  have hk : ce13 (1, i, 0) = some (.inr (1, [.int (k_kd c), .long (k_sr c), .ref (ad13 (1, i, 1)), .ref (ad13 (1, i, 2)), .ref (ad13 (1, i, 3)), .ref (ad13 (1, i, 4)), .ref (ad13 (1, i, 5)), .int (nI (k_ps c)), .int (nI (cnt (k_rd c) (k_np c))), .int (k_un c), .int (k_st c), .int (k_la c)])) := (fw13 _ (by simp)).trans hk
  have hpt := hpt.tr (fw13 _ (by simp))
  refine ob_putF C E rfl F_P hp 0 (by decide) tw_232 rfl rfl rfl rfl (Nat.le_of_ble_eq_true rfl) (fs' := [.ref (ad13 (2, j, 1))]) rfl d_P_init_30 ?_
  intro ce14 fw14 hp
  have hk : ce14 (1, i, 0) = some (.inr (1, [.int (k_kd c), .long (k_sr c), .ref (ad13 (1, i, 1)), .ref (ad13 (1, i, 2)), .ref (ad13 (1, i, 3)), .ref (ad13 (1, i, 4)), .ref (ad13 (1, i, 5)), .int (nI (k_ps c)), .int (nI (cnt (k_rd c) (k_np c))), .int (k_un c), .int (k_st c), .int (k_la c)])) := (fw14 _ (by simp)).trans hk
  have hpt := hpt.tr (fw14 _ (by simp))
  have hfl := hfl.tr (fw14 _ (by simp))
  refine aw_aload_n C d_P_init_33 rfl (j := 1) rfl ?_
  refine aw_get C F_P hp 0 (by decide) tw_232 rfl d_P_init_34 ?_
  refine aw_iconst C (v := 0) d_P_init_37 (by decide) ?_
  refine aw_iload_n C d_P_init_38 rfl (j := 2) rfl ?_
  refine ar_iast C hfl (j := 0) (by decide) (by omega) (by omega) d_P_init_39 ?_
  intro ce15 fw15 hfl
  have hp : ce15 (2, j, 0) = some (.inr (2, [.ref (ad13 (2, j, 1))])) := (fw15 _ (by simp)).trans hp
  have hk : ce15 (1, i, 0) = some (.inr (1, [.int (k_kd c), .long (k_sr c), .ref (ad13 (1, i, 1)), .ref (ad13 (1, i, 2)), .ref (ad13 (1, i, 3)), .ref (ad13 (1, i, 4)), .ref (ad13 (1, i, 5)), .int (nI (k_ps c)), .int (nI (cnt (k_rd c) (k_np c))), .int (k_un c), .int (k_st c), .int (k_la c)])) := (fw15 _ (by simp)).trans hk
  have hpt := hpt.tr (fw15 _ (by simp))
  refine aw_aload_n C d_P_init_40 rfl (j := 1) rfl ?_
  refine aw_get C F_P hp 0 (by decide) tw_232 rfl d_P_init_41 ?_
  refine aw_iconst C (v := 1) d_P_init_44 (by decide) ?_
  refine aw_aload_n C d_P_init_45 rfl (j := 3) rfl ?_
  refine aw_get C F_K hk 0 (by decide) tw_71 rfl d_P_init_46 ?_
  refine ar_iast C hfl (j := 1) (by decide) (by omega) (by omega) d_P_init_49 ?_
  intro ce16 fw16 hfl
  have hp : ce16 (2, j, 0) = some (.inr (2, [.ref (ad13 (2, j, 1))])) := (fw16 _ (by simp)).trans hp
  have hk : ce16 (1, i, 0) = some (.inr (1, [.int (k_kd c), .long (k_sr c), .ref (ad13 (1, i, 1)), .ref (ad13 (1, i, 2)), .ref (ad13 (1, i, 3)), .ref (ad13 (1, i, 4)), .ref (ad13 (1, i, 5)), .int (nI (k_ps c)), .int (nI (cnt (k_rd c) (k_np c))), .int (k_un c), .int (k_st c), .int (k_la c)])) := (fw16 _ (by simp)).trans hk
  have hpt := hpt.tr (fw16 _ (by simp))
  refine aw_aload_n C d_P_init_50 rfl (j := 1) rfl ?_
  refine aw_get C F_P hp 0 (by decide) tw_232 rfl d_P_init_51 ?_
  refine aw_iconst C (v := 2) d_P_init_54 (by decide) ?_
  refine aw_iload_n C d_P_init_55 rfl (j := 4) rfl ?_
  refine ar_iast C hfl (j := 2) (by decide) (by omega) (by omega) d_P_init_56 ?_
  intro ce17 fw17 hfl
  have hp : ce17 (2, j, 0) = some (.inr (2, [.ref (ad13 (2, j, 1))])) := (fw17 _ (by simp)).trans hp
  have hk : ce17 (1, i, 0) = some (.inr (1, [.int (k_kd c), .long (k_sr c), .ref (ad13 (1, i, 1)), .ref (ad13 (1, i, 2)), .ref (ad13 (1, i, 3)), .ref (ad13 (1, i, 4)), .ref (ad13 (1, i, 5)), .int (nI (k_ps c)), .int (nI (cnt (k_rd c) (k_np c))), .int (k_un c), .int (k_st c), .int (k_la c)])) := (fw17 _ (by simp)).trans hk
  have hpt := hpt.tr (fw17 _ (by simp))
  refine aw_aload_n C d_P_init_57 rfl (j := 1) rfl ?_
  refine aw_get C F_P hp 0 (by decide) tw_232 rfl d_P_init_58 ?_
  refine aw_iconst C (v := 3) d_P_init_61 (by decide) ?_
  refine aw_iload C d_P_init_62 (j := 5) rfl ?_
  refine ar_iast C hfl (j := 3) (by decide) (by omega) (by omega) d_P_init_64 ?_
  intro ce18 fw18 hfl
  have hp : ce18 (2, j, 0) = some (.inr (2, [.ref (ad13 (2, j, 1))])) := (fw18 _ (by simp)).trans hp
  have hk : ce18 (1, i, 0) = some (.inr (1, [.int (k_kd c), .long (k_sr c), .ref (ad13 (1, i, 1)), .ref (ad13 (1, i, 2)), .ref (ad13 (1, i, 3)), .ref (ad13 (1, i, 4)), .ref (ad13 (1, i, 5)), .int (nI (k_ps c)), .int (nI (cnt (k_rd c) (k_np c))), .int (k_un c), .int (k_st c), .int (k_la c)])) := (fw18 _ (by simp)).trans hk
  have hpt := hpt.tr (fw18 _ (by simp))
  refine aw_aload_n C d_P_init_65 rfl (j := 1) rfl ?_
  refine aw_get C F_P hp 0 (by decide) tw_232 rfl d_P_init_66 ?_
  refine aw_iconst C (v := 4) d_P_init_69 (by decide) ?_
  refine aw_aload_n C d_P_init_70 rfl (j := 3) rfl ?_
  refine aw_get C F_K hk 10 (by decide) tw_88 rfl d_P_init_71 ?_
  refine ar_iast C hfl (j := 4) (by decide) (by omega) (by omega) d_P_init_74 ?_
  intro ce19 fw19 hfl
  have hp : ce19 (2, j, 0) = some (.inr (2, [.ref (ad13 (2, j, 1))])) := (fw19 _ (by simp)).trans hp
  have hk : ce19 (1, i, 0) = some (.inr (1, [.int (k_kd c), .long (k_sr c), .ref (ad13 (1, i, 1)), .ref (ad13 (1, i, 2)), .ref (ad13 (1, i, 3)), .ref (ad13 (1, i, 4)), .ref (ad13 (1, i, 5)), .int (nI (k_ps c)), .int (nI (cnt (k_rd c) (k_np c))), .int (k_un c), .int (k_st c), .int (k_la c)])) := (fw19 _ (by simp)).trans hk
  have hpt := hpt.tr (fw19 _ (by simp))
  refine aw_aload_n C d_P_init_75 rfl (j := 1) rfl ?_
  refine aw_get C F_P hp 0 (by decide) tw_232 rfl d_P_init_76 ?_
  refine aw_iconst C (v := 5) d_P_init_79 (by decide) ?_
  refine aw_iload C d_P_init_80 (j := 0) rfl ?_
  refine ar_iast C hfl (j := 5) (by decide) (by omega) (by omega) d_P_init_82 ?_
  intro ce20 fw20 hfl
  have hp : ce20 (2, j, 0) = some (.inr (2, [.ref (ad13 (2, j, 1))])) := (fw20 _ (by simp)).trans hp
  have hk : ce20 (1, i, 0) = some (.inr (1, [.int (k_kd c), .long (k_sr c), .ref (ad13 (1, i, 1)), .ref (ad13 (1, i, 2)), .ref (ad13 (1, i, 3)), .ref (ad13 (1, i, 4)), .ref (ad13 (1, i, 5)), .int (nI (k_ps c)), .int (nI (cnt (k_rd c) (k_np c))), .int (k_un c), .int (k_st c), .int (k_la c)])) := (fw20 _ (by simp)).trans hk
  have hpt := hpt.tr (fw20 _ (by simp))
  refine aw_iconst C (v := 0) d_P_init_83 (by decide) ?_
  refine aw_istore C (lv' := [(6, .int 0), (5, .int (nI (k_ps c))), (0, .ref (ad13 (2, j, 0))), (1, .int num), (2, .ref (ad13 (1, i, 0))), (3, .int pa), (4, .int pb)]) d_P_init_84 (by decide) rfl ?_
  have loop : ∀ (m a : Nat) (cez : aw_He) (g : Nat → Int32), a + m = k_ps c → (∀ q, q ≠ (2, j, 1) → cez q = ce20 q) → arI cez (2, j, 1) 0 (6 + k_ps c) g → (∀ k, k < 6 + a → g k = papF num c pa pb k) → AW X 7 (0 + 1) (0 + (6 + k_ps c)) ad13 cez 86 [(6, .int (nI a)), (5, .int (nI (k_ps c))), (0, .ref (ad13 (2, j, 0))), (1, .int num), (2, .ref (ad13 (1, i, 0))), (3, .int pa), (4, .int pb)] [] := by
    intro m
    induction m with
    | zero =>
      intro a cez g ha hfz hfl hg
      have hp : cez (2, j, 0) = some (.inr (2, [.ref (ad13 (2, j, 1))])) := (hfz _ (by simp)).trans hp
      have hk : cez (1, i, 0) = some (.inr (1, [.int (k_kd c), .long (k_sr c), .ref (ad13 (1, i, 1)), .ref (ad13 (1, i, 2)), .ref (ad13 (1, i, 3)), .ref (ad13 (1, i, 4)), .ref (ad13 (1, i, 5)), .int (nI (k_ps c)), .int (nI (cnt (k_rd c) (k_np c))), .int (k_un c), .int (k_st c), .int (k_la c)])) := (hfz _ (by simp)).trans hk
      have hpt := hpt.tr (hfz _ (by simp))
      refine aw_iload C d_P_init_86 (j := 0) rfl ?_
      refine aw_iload C d_P_init_88 (j := 1) rfl ?_
      refine aw_icmp_ge C (tgt := 116) d_P_init_90 (by decide) (fun h90 => ?_) (fun h90 => absurd (nI_le (by omega) (by omega)) h90)
      refine aw_vret C E (by decide) (by omega) d_P_init_116 ?_
      exact ⟨rfl, fun q hq => ⟨by rw [ha13 q (fun e => by subst e; simp at hq)], by rw [hfz q (fun e => by subst e; simp at hq), fw20 q (fun e => by subst e; simp at hq), fw19 q (fun e => by subst e; simp at hq), fw18 q (fun e => by subst e; simp at hq), fw17 q (fun e => by subst e; simp at hq), fw16 q (fun e => by subst e; simp at hq), fw15 q (fun e => by subst e; simp at hq), fw14 q (fun e => by subst e; simp at hq), fw13 q (fun e => by subst e; simp at hq)]⟩, by rw [ha13 _ (by simp)], hp, hfl.to (fun k hk => hg k (by omega)), by show 6 ≤ 6 + k_ps c; omega, by show 6 + k_ps c ≤ 12; omega⟩
    | succ m ih =>
      intro a cez g ha hfz hfl hg
      have hp : cez (2, j, 0) = some (.inr (2, [.ref (ad13 (2, j, 1))])) := (hfz _ (by simp)).trans hp
      have hk : cez (1, i, 0) = some (.inr (1, [.int (k_kd c), .long (k_sr c), .ref (ad13 (1, i, 1)), .ref (ad13 (1, i, 2)), .ref (ad13 (1, i, 3)), .ref (ad13 (1, i, 4)), .ref (ad13 (1, i, 5)), .int (nI (k_ps c)), .int (nI (cnt (k_rd c) (k_np c))), .int (k_un c), .int (k_st c), .int (k_la c)])) := (hfz _ (by simp)).trans hk
      have hpt := hpt.tr (hfz _ (by simp))
      refine aw_iload C d_P_init_86 (j := 0) rfl ?_
      refine aw_iload C d_P_init_88 (j := 1) rfl ?_
      refine aw_icmp_ge C (tgt := 116) d_P_init_90 (by decide) (fun h90 => absurd h90 (nI_ge (by omega) (by omega))) (fun h90 => ?_)
      refine aw_aload_n C d_P_init_93 rfl (j := 2) rfl ?_
      refine aw_get C F_P hp 0 (by decide) tw_232 rfl d_P_init_94 ?_
      refine aw_bipush C (v := 6) d_P_init_97 (by decide) ?_
      refine aw_iload C d_P_init_99 (j := 0) rfl ?_
      refine aw_iadd C d_P_init_101 ?_
      refine aw_topi (v' := nI (6 + a)) (nI_add 6 _) ?_
      refine aw_aload_n C d_P_init_102 rfl (j := 4) rfl ?_
      refine aw_get C F_K hk 6 (by decide) tw_80 rfl d_P_init_103 ?_
      refine aw_iload C d_P_init_106 (j := 0) rfl ?_
      refine ar_iald C hpt (j := a) (rfl) (by omega) (by omega) d_P_init_108 ?_
      refine ar_iast C hfl (j := (6 + a)) (rfl) (by omega) (by omega) d_P_init_109 ?_
      intro ce21 fw21 hfl
      have hp : ce21 (2, j, 0) = some (.inr (2, [.ref (ad13 (2, j, 1))])) := (fw21 _ (by simp)).trans hp
      have hk : ce21 (1, i, 0) = some (.inr (1, [.int (k_kd c), .long (k_sr c), .ref (ad13 (1, i, 1)), .ref (ad13 (1, i, 2)), .ref (ad13 (1, i, 3)), .ref (ad13 (1, i, 4)), .ref (ad13 (1, i, 5)), .int (nI (k_ps c)), .int (nI (cnt (k_rd c) (k_np c))), .int (k_un c), .int (k_st c), .int (k_la c)])) := (fw21 _ (by simp)).trans hk
      have hpt := hpt.tr (fw21 _ (by simp))
      refine aw_iinc C (v := nI (a + 1)) (lv' := [(6, .int (nI (a + 1))), (5, .int (nI (k_ps c))), (0, .ref (ad13 (2, j, 0))), (1, .int num), (2, .ref (ad13 (1, i, 0))), (3, .int pa), (4, .int pb)]) d_P_init_110 (j := 0) rfl (nI_1 _) (by decide) rfl ?_
      refine aw_goto C (tgt := 86) d_P_init_113 (by decide) ?_
      refine ih (a + 1) ce21 (upd g (6 + a) ((k_pt c) a)) (by omega) (fun q hq => (fw21 q hq).trans (hfz q hq)) hfl ?_
      intro k hk
      by_cases e : k = 6 + a
      · subst e; simp [upd, papF]
        repeat rw [if_neg (by omega)]
      · simp [upd, e]; exact hg k (by omega)
  refine aw_lv (lv' := [(6, .int (nI 0)), (5, .int (nI (k_ps c))), (0, .ref (ad13 (2, j, 0))), (1, .int num), (2, .ref (ad13 (1, i, 0))), (3, .int pa), (4, .int pb)]) (by simp only [nI_0]) ?_
  exact loop (k_ps c) 0 ce20 (upd (upd (upd (upd (upd (upd (fun _ => 0) 0 num) 1 (k_kd c)) 2 pa) 3 pb) 4 (k_st c)) 5 (nI (k_ps c))) (by omega) (fun _ _ => rfl) hfl (fun k hk => by rcases (show k = 0 ∨ k = 1 ∨ k = 2 ∨ k = 3 ∨ k = 4 ∨ k = 5 by omega) with rfl | rfl | rfl | rfl | rfl | rfl <;> simp [upd, papF])
