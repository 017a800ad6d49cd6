set_option maxRecDepth 100000 in
set_option maxHeartbeats 4000000 in
theorem r_forget (l : Launch) (G : aw_G) (ad : aw_Ad) (ce : aw_He) (cn pn ln on : Nat) (kd : Nat → Int32) (sr : Nat → Int64) (np st la gby gdu gwo grd un ps gpt gff gfc : Nat → Int32) (li : Nat → Int64) (lo : Nat → Int32) (hR : LRc ad ce cn pn ln on kd sr np st la gby gdu gwo grd un ps gpt gff gfc li lo) (j : Nat) (hj : j < 10) : CT l G M_R_forget 0 0 0 0 [.ref (ad (3, 0, 0)), .int (nI j)] ad ce (fun r ad' ce' => r = none ∧ ad = ad' ∧ frR ce ce' ∧ ∃ g : Nat → Int32, LRc ad ce' cn pn ln on kd sr np st la gby gdu gwo g (upd un j 0) ps gpt gff gfc li lo ∧ (∀ k, k < 64 → g (64 * j + k) = 0) ∧ ∀ q, (q < 64 * j ∨ 64 * j + 64 ≤ q) → g q = grd q) := by
  refine CT.of (by decide) (Nat.le_of_ble_eq_true rfl) ?_
  intro X C I E
  obtain ⟨r0, r1, r2, r3, r4, r5, r6, r7, r8, r9, r10, r11, r12, r14, r15, r17, r19⟩ := hR
  show AW X 3 0 0 ad ce 0 [(0, .ref (ad (3, 0, 0))), (1, .int (nI j))] []
  refine aw_aload_n C d_R_forget_0 rfl (j := 0) rfl ?_
  refine aw_get C F_R r0 10 (by decide) tw_309 rfl d_R_forget_1 ?_
  refine aw_iload_n C d_R_forget_4 rfl (j := 1) rfl ?_
  refine aw_iconst C (v := 0) d_R_forget_5 (by decide) ?_
  refine ar_iast C r10 (j := j) (rfl) (by omega) (by omega) d_R_forget_6 ?_
  intro ce2 fw2 r10
  have r0 : ce2 (3, 0, 0) = some (.inr (3, [.int (nI cn), .ref (ad (3, 0, 1)), .ref (ad (3, 0, 2)), .ref (ad (3, 0, 3)), .ref (ad (3, 0, 4)), .ref (ad (3, 0, 5)), .ref (ad (3, 0, 6)), .ref (ad (3, 0, 7)), .ref (ad (3, 0, 8)), .ref (ad (3, 0, 9)), .ref (ad (3, 0, 10)), .ref (ad (3, 0, 11)), .ref (ad (3, 0, 12)), .int (nI pn), .ref (ad (3, 0, 14)), .ref (ad (3, 0, 15)), .int (nI ln), .ref (ad (3, 0, 17)), .int (nI on), .ref (ad (3, 0, 19))])) := (fw2 _ (by simp)).trans r0
  have r1 := r1.tr (fw2 _ (by simp))
  have r2 := r2.tr (fw2 _ (by simp))
  have r3 := r3.tr (fw2 _ (by simp))
  have r4 := r4.tr (fw2 _ (by simp))
  have r5 := r5.tr (fw2 _ (by simp))
  have r6 := r6.tr (fw2 _ (by simp))
  have r7 := r7.tr (fw2 _ (by simp))
  have r8 := r8.tr (fw2 _ (by simp))
  have r9 := r9.tr (fw2 _ (by simp))
  have r11 := r11.tr (fw2 _ (by simp))
  have r12 := r12.tr (fw2 _ (by simp))
  have r14 := r14.tr (fw2 _ (by simp))
  have r15 := r15.tr (fw2 _ (by simp))
  have r17 := r17.tr (fw2 _ (by simp))
  have r19 := r19.tr (fw2 _ (by simp))
  refine aw_iconst C (v := 0) d_R_forget_7 (by decide) ?_
  refine aw_istore_n C (lv' := [(2, .int 0), (0, .ref (ad (3, 0, 0))), (1, .int (nI j))]) d_R_forget_8 rfl (by decide) rfl ?_
  have fwU := fw2
  have s1 := r1
  have s2 := r2
  have s3 := r3
  have s4 := r4
  have s5 := r5
  have s6 := r6
  have s7 := r7
  have s8 := r8
  have s9 := r9
  have s10 := r10
  have s11 := r11
  have s12 := r12
  have s14 := r14
  have s15 := r15
  have s17 := r17
  have s19 := r19
  have s0 := r0
  have loop : ∀ (m a : Nat) (ce1 : aw_He) (g : Nat → Int32), a + m = 64 → (∀ q, q ≠ (3, 0, 9) → ce1 q = ce2 q) → arI ce1 (3, 0, 9) 1 640 g → (∀ k, k < a → g (64 * j + k) = 0) → (∀ q, (q < 64 * j ∨ 64 * j + 64 ≤ q) → g q = grd q) → AW X 3 0 0 ad ce1 9 [(2, .int (nI a)), (0, .ref (ad (3, 0, 0))), (1, .int (nI j))] [] := by
    intro m
    induction m with
    | zero =>
      intro a ce1 g ha hf r9 hg hq
      have r0 : ce1 (3, 0, 0) = some (.inr (3, [.int (nI cn), .ref (ad (3, 0, 1)), .ref (ad (3, 0, 2)), .ref (ad (3, 0, 3)), .ref (ad (3, 0, 4)), .ref (ad (3, 0, 5)), .ref (ad (3, 0, 6)), .ref (ad (3, 0, 7)), .ref (ad (3, 0, 8)), .ref (ad (3, 0, 9)), .ref (ad (3, 0, 10)), .ref (ad (3, 0, 11)), .ref (ad (3, 0, 12)), .int (nI pn), .ref (ad (3, 0, 14)), .ref (ad (3, 0, 15)), .int (nI ln), .ref (ad (3, 0, 17)), .int (nI on), .ref (ad (3, 0, 19))])) := (hf _ (by simp)).trans s0
      refine aw_iload_n C d_R_forget_9 rfl (j := 0) rfl ?_
      refine aw_bipush C (v := 64) d_R_forget_10 (by decide) ?_
      refine aw_icmp_ge C (tgt := 33) d_R_forget_12 (by decide) (fun h12 => ?_) (fun h12 => absurd (nI_le (a := 64) (by omega) (by omega)) h12)
      refine aw_vret C E (by decide) (by decide) d_R_forget_33 ?_
      exact ⟨rfl, rfl, (fr3 fwU).trans (fr3 hf), g, ⟨(hf _ (by simp)).trans s0, s1.tr (hf _ (by simp)), s2.tr (hf _ (by simp)), s3.tr (hf _ (by simp)), s4.tr (hf _ (by simp)), s5.tr (hf _ (by simp)), s6.tr (hf _ (by simp)), s7.tr (hf _ (by simp)), s8.tr (hf _ (by simp)), r9, s10.tr (hf _ (by simp)), s11.tr (hf _ (by simp)), s12.tr (hf _ (by simp)), s14.tr (hf _ (by simp)), s15.tr (hf _ (by simp)), s17.tr (hf _ (by simp)), s19.tr (hf _ (by simp))⟩, fun k hk => hg k (by omega), hq⟩
    | succ m ih =>
      intro a ce1 g ha hf r9 hg hq
      have r0 : ce1 (3, 0, 0) = some (.inr (3, [.int (nI cn), .ref (ad (3, 0, 1)), .ref (ad (3, 0, 2)), .ref (ad (3, 0, 3)), .ref (ad (3, 0, 4)), .ref (ad (3, 0, 5)), .ref (ad (3, 0, 6)), .ref (ad (3, 0, 7)), .ref (ad (3, 0, 8)), .ref (ad (3, 0, 9)), .ref (ad (3, 0, 10)), .ref (ad (3, 0, 11)), .ref (ad (3, 0, 12)), .int (nI pn), .ref (ad (3, 0, 14)), .ref (ad (3, 0, 15)), .int (nI ln), .ref (ad (3, 0, 17)), .int (nI on), .ref (ad (3, 0, 19))])) := (hf _ (by simp)).trans s0
      refine aw_iload_n C d_R_forget_9 rfl (j := 0) rfl ?_
      refine aw_bipush C (v := 64) d_R_forget_10 (by decide) ?_
      refine aw_icmp_ge C (tgt := 33) d_R_forget_12 (by decide) (fun h12 => absurd h12 (nI_ge (b := 64) (by omega) (by omega))) (fun h12 => ?_)
      refine aw_aload_n C d_R_forget_15 rfl (j := 1) rfl ?_
      refine aw_get C F_R r0 9 (by decide) tw_308 rfl d_R_forget_16 ?_
      refine aw_bipush C (v := 64) d_R_forget_19 (by decide) ?_
      refine aw_iload_n C d_R_forget_21 rfl (j := 2) rfl ?_
      refine aw_imul C d_R_forget_22 ?_
      refine aw_iload_n C d_R_forget_23 rfl (j := 0) rfl ?_
      refine aw_iadd C d_R_forget_24 ?_
      refine aw_topi (v' := nI (64 * j + a)) (k64 _ _) ?_
      refine aw_iconst C (v := 0) d_R_forget_25 (by decide) ?_
      refine ar_zast C (v := 0) r9 (j := (64 * j + a)) (rfl) (by omega) (by omega) rfl d_R_forget_26 ?_
      intro ce1 fw1 r9
      have r0 : ce1 (3, 0, 0) = some (.inr (3, [.int (nI cn), .ref (ad (3, 0, 1)), .ref (ad (3, 0, 2)), .ref (ad (3, 0, 3)), .ref (ad (3, 0, 4)), .ref (ad (3, 0, 5)), .ref (ad (3, 0, 6)), .ref (ad (3, 0, 7)), .ref (ad (3, 0, 8)), .ref (ad (3, 0, 9)), .ref (ad (3, 0, 10)), .ref (ad (3, 0, 11)), .ref (ad (3, 0, 12)), .int (nI pn), .ref (ad (3, 0, 14)), .ref (ad (3, 0, 15)), .int (nI ln), .ref (ad (3, 0, 17)), .int (nI on), .ref (ad (3, 0, 19))])) := (fw1 _ (by simp)).trans r0
      refine aw_iinc C (v := nI (a + 1)) (lv' := [(2, .int (nI (a + 1))), (0, .ref (ad (3, 0, 0))), (1, .int (nI j))]) d_R_forget_27 (j := 0) rfl (nI_1 _) (by decide) rfl ?_
      refine aw_goto C (tgt := 9) d_R_forget_30 (by decide) ?_
      refine ih (a + 1) ce1 (upd g (64 * j + a) 0) (by omega) (fun q hq => (fw1 q hq).trans (hf q hq)) r9 ?_ ?_
      · intro k hk
        by_cases e : k = a
        · subst e; simp [upd]
        · have e2 : ¬ 64 * j + k = 64 * j + a := by omega
          simp only [upd, if_neg e2]; exact hg k (by omega)
      · intro q hqq
        have e2 : ¬ q = 64 * j + a := by omega
        simp only [upd, if_neg e2]; exact hq q hqq
  refine aw_lv (lv' := [(2, .int (nI 0)), (0, .ref (ad (3, 0, 0))), (1, .int (nI j))]) (by simp only [nI_0]) ?_
  exact loop 64 0 ce2 grd (by omega) (fun _ _ => rfl) r9 (fun k hk => absurd hk (by omega)) (fun _ _ => rfl)
set_option maxRecDepth 100000 in
set_option maxHeartbeats 4000000 in
theorem r_markOf (l : Launch) (G : aw_G) (ad : aw_Ad) (ce : aw_He) (cn pn ln on : Nat) (kd : Nat → Int32) (sr : Nat → Int64) (np st la gby gdu gwo grd un ps gpt gff gfc : Nat → Int32) (li : Nat → Int64) (lo : Nat → Int32) (hR : LRc ad ce cn pn ln on kd sr np st la gby gdu gwo grd un ps gpt gff gfc li lo) (j : Nat) (hj : j < 20) (p : PapS) (hp : p.1 ≤ 12) (hfc : gfc j = nI p.1) (hff : ∀ k, k < p.1 → gff (12 * j + k) = p.2 k) (key : Int64) : CT l G M_R_markOf 0 0 0 0 [.ref (ad (3, 0, 0)), .int (nI j), .long key] ad ce (rN (some (.long (fldM mkS p.2 p.1 0 key))) ad ce) := by
  refine CT.of (by decide) (Nat.le_of_ble_eq_true rfl) ?_
  intro X C I E
  obtain ⟨r0, r1, r2, r3, r4, r5, r6, r7, r8, r9, r10, r11, r12, r14, r15, r17, r19⟩ := hR
  have loop : ∀ (m a : Nat) (x : Int64), a + m = p.1 → fldM mkS p.2 m a x = fldM mkS p.2 p.1 0 key → AW X 7 0 0 ad ce 6 [(6, .int (nI a)), (4, .long x), (0, .ref (ad (3, 0, 0))), (1, .int (nI j)), (2, .long key)] [] := by
    intro m
    induction m with
    | zero =>
      intro a x ha hr
      refine aw_iload C d_R_markOf_6 (j := 0) rfl ?_
      refine aw_aload_n C d_R_markOf_8 rfl (j := 2) rfl ?_
      refine aw_get C F_R r0 15 (by decide) tw_314 rfl d_R_markOf_9 ?_
      refine aw_iload_n C d_R_markOf_12 rfl (j := 3) rfl ?_
      refine ar_iald C r15 (j := j) (rfl) (by omega) (by omega) d_R_markOf_13 ?_
      refine aw_topi (v' := nI p.1) (hfc) ?_
      refine aw_icmp_ge C (tgt := 57) d_R_markOf_14 (by decide) (fun h14 => ?_) (fun h14 => absurd (nI_le (by omega) (by omega)) h14)
      refine aw_lload C d_R_markOf_57 (j := 1) rfl ?_
      refine aw_lret C E (by decide) (by decide) d_R_markOf_59 ?_
      rw [fldM_0] at hr
      exact ⟨by rw [hr], rfl, rfl⟩
    | succ m ih =>
      intro a x ha hr
      refine aw_iload C d_R_markOf_6 (j := 0) rfl ?_
      refine aw_aload_n C d_R_markOf_8 rfl (j := 2) rfl ?_
      refine aw_get C F_R r0 15 (by decide) tw_314 rfl d_R_markOf_9 ?_
      refine aw_iload_n C d_R_markOf_12 rfl (j := 3) rfl ?_
      refine ar_iald C r15 (j := j) (rfl) (by omega) (by omega) d_R_markOf_13 ?_
      refine aw_topi (v' := nI p.1) (hfc) ?_
      refine aw_icmp_ge C (tgt := 57) d_R_markOf_14 (by decide) (fun h14 => absurd h14 (nI_ge (by omega) (by omega))) (fun h14 => ?_)
      refine aw_lload C d_R_markOf_17 (j := 1) rfl ?_
      refine aw_aload_n C d_R_markOf_19 rfl (j := 2) rfl ?_
      refine aw_get C F_R r0 14 (by decide) tw_313 rfl d_R_markOf_20 ?_
      refine aw_bipush C (v := 12) d_R_markOf_23 (by decide) ?_
      refine aw_iload_n C d_R_markOf_25 rfl (j := 3) rfl ?_
      refine aw_imul C d_R_markOf_26 ?_
      refine aw_iload C d_R_markOf_27 (j := 0) rfl ?_
      refine aw_iadd C d_R_markOf_29 ?_
      refine aw_topi (v' := nI (12 * j + a)) (k12 _ _) ?_
      refine ar_iald C r14 (j := (12 * j + a)) (rfl) (by omega) (by omega) d_R_markOf_30 ?_
      refine aw_topi (v' := p.2 a) (hff a (by omega)) ?_
      refine aw_i2l C d_R_markOf_31 ?_
      refine aw_ladd C d_R_markOf_32 ?_
      refine aw_lconst C (v := 1) d_R_markOf_33 (by decide) ?_
      refine aw_ladd C d_R_markOf_34 ?_
      refine aw_ldc2 C tw_467 d_R_markOf_35 ?_
      refine aw_lmul C d_R_markOf_38 ?_
      obtain ⟨y, hy⟩ : ∃ y : Int64, ((x + (Int32.toInt64 (p.2 a))) + 1) * 6364136223846793005 = y := ⟨_, rfl⟩
      refine aw_topl (v' := y) (hy) ?_
      refine aw_lstore C (lv' := [(4, .long y), (6, .int (nI a)), (0, .ref (ad (3, 0, 0))), (1, .int (nI j)), (2, .long key)]) d_R_markOf_39 (by decide) rfl ?_
      refine aw_lload C d_R_markOf_41 (j := 0) rfl ?_
      refine aw_lload C d_R_markOf_43 (j := 0) rfl ?_
      refine aw_bipush C (v := 32) d_R_markOf_45 (by decide) ?_
      refine aw_lushr C d_R_markOf_47 ?_
      refine aw_lxor C d_R_markOf_48 ?_
      refine aw_topl (v' := mkS x (p.2 a)) (by simp only [mkS, hy]) ?_
      refine aw_lstore C (lv' := [(4, .long (mkS x (p.2 a))), (6, .int (nI a)), (0, .ref (ad (3, 0, 0))), (1, .int (nI j)), (2, .long key)]) d_R_markOf_49 (by decide) rfl ?_
      refine aw_iinc C (v := nI (a + 1)) (lv' := [(6, .int (nI (a + 1))), (4, .long (mkS x (p.2 a))), (0, .ref (ad (3, 0, 0))), (1, .int (nI j)), (2, .long key)]) d_R_markOf_51 (j := 1) rfl (nI_1 _) (by decide) rfl ?_
      refine aw_goto C (tgt := 6) d_R_markOf_54 (by decide) ?_
      rw [fldM_s] at hr
      exact ih (a + 1) _ (by omega) hr
  show AW X 7 0 0 ad ce 0 [(0, .ref (ad (3, 0, 0))), (1, .int (nI j)), (2, .long key)] []
  refine aw_lload_n C d_R_markOf_0 rfl (j := 2) rfl ?_
  refine aw_lstore C (lv' := [(4, .long key), (0, .ref (ad (3, 0, 0))), (1, .int (nI j)), (2, .long key)]) d_R_markOf_1 (by decide) rfl ?_
  refine aw_iconst C (v := 0) d_R_markOf_3 (by decide) ?_
  refine aw_istore C (lv' := [(6, .int 0), (4, .long key), (0, .ref (ad (3, 0, 0))), (1, .int (nI j)), (2, .long key)]) d_R_markOf_4 (by decide) rfl ?_
  refine aw_lv (lv' := [(6, .int (nI 0)), (4, .long key), (0, .ref (ad (3, 0, 0))), (1, .int (nI j)), (2, .long key)]) (by simp only [nI_0]) ?_
  exact loop p.1 0 key (by omega) rfl
set_option maxRecDepth 100000 in
set_option maxHeartbeats 4000000 in
theorem R_state (l : Launch) (G : aw_G) (ad : aw_Ad) (ce : aw_He) (S : SysS) (hS : LayR S ad ce) (x : Int32) : CT l G M_R_state 1 21 0 0 [.ref (ad (3, 0, 0)), .int x] ad ce (rN (some (.int (f_state S x))) ad ce) := by
  refine CT.of (by decide) (Nat.le_of_ble_eq_true rfl) ?_
  intro X C I E
  obtain ⟨kd, sr, np, st, la, gby, gdu, gwo, grd, un, ps, gpt, gff, gfc, hR, hE, hW⟩ := hS
  have hE0 := hE
  obtain ⟨hE1, hE2, hE3, hE4, hE5, hE6, hE7⟩ := hE0
  have hW0 := hW
  obtain ⟨⟨hb1, hb2, hb3, hb4⟩, hW2, hW3⟩ := hW0
  have hR0 := hR
  obtain ⟨r0, r1, r2, r3, r4, r5, r6, r7, r8, r9, r10, r11, r12, r14, r15, r17, r19⟩ := hR0
  rcases ix_cases x (n := s_cn S) (by omega) with hx | ⟨j, hj, rfl⟩
  · skip
    show AW X 2 0 0 ad ce 0 [(0, .ref (ad (3, 0, 0))), (1, .int x)] []
    refine aw_aload_n C d_R_state_0 rfl (j := 0) rfl ?_
    refine aw_iload_n C d_R_state_1 rfl (j := 1) rfl ?_
    refine aw_callV C I (k := (3, 0, 0)) (as := [.int x]) (rest := []) (r_isCarrier l G ad ce (s_cn S) (s_pn S) (s_ln S) (s_on S) kd sr np st la gby gdu gwo grd un ps gpt gff gfc (s_li S) (s_lo S) hR x) g_R_64 r0 rfl rfl ⟨by decide, by decide⟩ ⟨by decide, by decide⟩ rfl (Nat.le_of_ble_eq_true rfl) d_R_state_2 ?_
    rintro _ _ _ ⟨rfl, rfl, rfl⟩
    show AW X 2 0 0 ad ce 5 [(0, .ref (ad (3, 0, 0))), (1, .int x)] [.int (bI (decide (0 ≤ x ∧ x < nI (s_cn S))))]
    refine aw_topi (v' := 0) ((bI_f (by (try simp only [Int32.le_iff_toInt_le, Int32.lt_iff_toInt_lt] at hx ⊢); omega)).symm) ?_
    show AW X 2 0 0 ad ce 5 [(0, .ref (ad (3, 0, 0))), (1, .int x)] [.int 0]
    refine aw_if_eq C (tgt := 17) d_R_state_5 (by decide) (fun h5 => ?_) (fun h5 => absurd (rfl) h5)
    refine aw_iconst C (v := (-1)) d_R_state_17 (by decide) ?_
    refine aw_iret C E (rfl) (by decide) (by decide) d_R_state_18 ?_
    exact ⟨sI (by simp only [f_state, ix_out hx]), rfl, rfl⟩
  · skip
    obtain ⟨e_kd, e_sr, e_np, e_st, e_la, e_un, e_ps⟩ := hE1 j (by omega)
    obtain ⟨⟨hn1, hn2⟩, hps⟩ := hW2 j hj
    show AW X 2 0 0 ad ce 0 [(0, .ref (ad (3, 0, 0))), (1, .int (nI j))] []
    refine aw_aload_n C d_R_state_0 rfl (j := 0) rfl ?_
    refine aw_iload_n C d_R_state_1 rfl (j := 1) rfl ?_
    refine aw_callV C I (k := (3, 0, 0)) (as := [.int (nI j)]) (rest := []) (r_isCarrier l G ad ce (s_cn S) (s_pn S) (s_ln S) (s_on S) kd sr np st la gby gdu gwo grd un ps gpt gff gfc (s_li S) (s_lo S) hR (nI j)) g_R_64 r0 rfl rfl ⟨by decide, by decide⟩ ⟨by decide, by decide⟩ rfl (Nat.le_of_ble_eq_true rfl) d_R_state_2 ?_
    rintro _ _ _ ⟨rfl, rfl, rfl⟩
    show AW X 2 0 0 ad ce 5 [(0, .ref (ad (3, 0, 0))), (1, .int (nI j))] [.int (bI (decide (0 ≤ nI j ∧ nI j < nI (s_cn S))))]
    refine aw_topi (v' := 1) ((bI_t ⟨nI_pos' (by omega), nI_lt (by omega) (by omega)⟩).symm) ?_
    show AW X 2 0 0 ad ce 5 [(0, .ref (ad (3, 0, 0))), (1, .int (nI j))] [.int 1]
    refine aw_if_eq C (tgt := 17) d_R_state_5 (by decide) (fun h5 => absurd h5 (by decide)) (fun h5 => ?_)
    refine aw_aload_n C d_R_state_8 rfl (j := 0) rfl ?_
    refine aw_get C F_R r0 4 (by decide) tw_303 rfl d_R_state_9 ?_
    refine aw_iload_n C d_R_state_12 rfl (j := 1) rfl ?_
    refine ar_iald C r4 (j := j) (rfl) (by omega) (by omega) d_R_state_13 ?_
    refine aw_goto C (tgt := 18) d_R_state_14 (by decide) ?_
    refine aw_iret C E (rfl) (by decide) (by decide) d_R_state_18 ?_
    exact ⟨sI (by simp only [f_state, ix_in hj (show s_cn S < 2 ^ 31 by omega), e_st]), rfl, rfl⟩
set_option maxRecDepth 100000 in
set_option maxHeartbeats 4000000 in
theorem R_last (l : Launch) (G : aw_G) (ad : aw_Ad) (ce : aw_He) (S : SysS) (hS : LayR S ad ce) (x : Int32) : CT l G M_R_last 1 21 0 0 [.ref (ad (3, 0, 0)), .int x] ad ce (rN (some (.int (f_last S x))) ad ce) := by
  refine CT.of (by decide) (Nat.le_of_ble_eq_true rfl) ?_
  intro X C I E
  obtain ⟨kd, sr, np, st, la, gby, gdu, gwo, grd, un, ps, gpt, gff, gfc, hR, hE, hW⟩ := hS
  have hE0 := hE
  obtain ⟨hE1, hE2, hE3, hE4, hE5, hE6, hE7⟩ := hE0
  have hW0 := hW
  obtain ⟨⟨hb1, hb2, hb3, hb4⟩, hW2, hW3⟩ := hW0
  have hR0 := hR
  obtain ⟨r0, r1, r2, r3, r4, r5, r6, r7, r8, r9, r10, r11, r12, r14, r15, r17, r19⟩ := hR0
  rcases ix_cases x (n := s_cn S) (by omega) with hx | ⟨j, hj, rfl⟩
  · skip
    show AW X 2 0 0 ad ce 0 [(0, .ref (ad (3, 0, 0))), (1, .int x)] []
    refine aw_aload_n C d_R_last_0 rfl (j := 0) rfl ?_
    refine aw_iload_n C d_R_last_1 rfl (j := 1) rfl ?_
    refine aw_callV C I (k := (3, 0, 0)) (as := [.int x]) (rest := []) (r_isCarrier l G ad ce (s_cn S) (s_pn S) (s_ln S) (s_on S) kd sr np st la gby gdu gwo grd un ps gpt gff gfc (s_li S) (s_lo S) hR x) g_R_64 r0 rfl rfl ⟨by decide, by decide⟩ ⟨by decide, by decide⟩ rfl (Nat.le_of_ble_eq_true rfl) d_R_last_2 ?_
    rintro _ _ _ ⟨rfl, rfl, rfl⟩
    show AW X 2 0 0 ad ce 5 [(0, .ref (ad (3, 0, 0))), (1, .int x)] [.int (bI (decide (0 ≤ x ∧ x < nI (s_cn S))))]
    refine aw_topi (v' := 0) ((bI_f (by (try simp only [Int32.le_iff_toInt_le, Int32.lt_iff_toInt_lt] at hx ⊢); omega)).symm) ?_
    show AW X 2 0 0 ad ce 5 [(0, .ref (ad (3, 0, 0))), (1, .int x)] [.int 0]
    refine aw_if_eq C (tgt := 17) d_R_last_5 (by decide) (fun h5 => ?_) (fun h5 => absurd (rfl) h5)
    refine aw_iconst C (v := (-1)) d_R_last_17 (by decide) ?_
    refine aw_iret C E (rfl) (by decide) (by decide) d_R_last_18 ?_
    exact ⟨sI (by simp only [f_last, ix_out hx]), rfl, rfl⟩
  · skip
    obtain ⟨e_kd, e_sr, e_np, e_st, e_la, e_un, e_ps⟩ := hE1 j (by omega)
    obtain ⟨⟨hn1, hn2⟩, hps⟩ := hW2 j hj
    show AW X 2 0 0 ad ce 0 [(0, .ref (ad (3, 0, 0))), (1, .int (nI j))] []
    refine aw_aload_n C d_R_last_0 rfl (j := 0) rfl ?_
    refine aw_iload_n C d_R_last_1 rfl (j := 1) rfl ?_
    refine aw_callV C I (k := (3, 0, 0)) (as := [.int (nI j)]) (rest := []) (r_isCarrier l G ad ce (s_cn S) (s_pn S) (s_ln S) (s_on S) kd sr np st la gby gdu gwo grd un ps gpt gff gfc (s_li S) (s_lo S) hR (nI j)) g_R_64 r0 rfl rfl ⟨by decide, by decide⟩ ⟨by decide, by decide⟩ rfl (Nat.le_of_ble_eq_true rfl) d_R_last_2 ?_
    rintro _ _ _ ⟨rfl, rfl, rfl⟩
    show AW X 2 0 0 ad ce 5 [(0, .ref (ad (3, 0, 0))), (1, .int (nI j))] [.int (bI (decide (0 ≤ nI j ∧ nI j < nI (s_cn S))))]
    refine aw_topi (v' := 1) ((bI_t ⟨nI_pos' (by omega), nI_lt (by omega) (by omega)⟩).symm) ?_
    show AW X 2 0 0 ad ce 5 [(0, .ref (ad (3, 0, 0))), (1, .int (nI j))] [.int 1]
    refine aw_if_eq C (tgt := 17) d_R_last_5 (by decide) (fun h5 => absurd h5 (by decide)) (fun h5 => ?_)
    refine aw_aload_n C d_R_last_8 rfl (j := 0) rfl ?_
    refine aw_get C F_R r0 5 (by decide) tw_304 rfl d_R_last_9 ?_
    refine aw_iload_n C d_R_last_12 rfl (j := 1) rfl ?_
    refine ar_iald C r5 (j := j) (rfl) (by omega) (by omega) d_R_last_13 ?_
    refine aw_goto C (tgt := 18) d_R_last_14 (by decide) ?_
    refine aw_iret C E (rfl) (by decide) (by decide) d_R_last_18 ?_
    exact ⟨sI (by simp only [f_last, ix_in hj (show s_cn S < 2 ^ 31 by omega), e_la]), rfl, rfl⟩
set_option maxRecDepth 100000 in
set_option maxHeartbeats 4000000 in
theorem R_unlike (l : Launch) (G : aw_G) (ad : aw_Ad) (ce : aw_He) (S : SysS) (hS : LayR S ad ce) (x : Int32) : CT l G M_R_unlike 1 21 0 0 [.ref (ad (3, 0, 0)), .int x] ad ce (rN (some (.int (f_unlike S x))) ad ce) := by
  refine CT.of (by decide) (Nat.le_of_ble_eq_true rfl) ?_
  intro X C I E
  obtain ⟨kd, sr, np, st, la, gby, gdu, gwo, grd, un, ps, gpt, gff, gfc, hR, hE, hW⟩ := hS
  have hE0 := hE
  obtain ⟨hE1, hE2, hE3, hE4, hE5, hE6, hE7⟩ := hE0
  have hW0 := hW
  obtain ⟨⟨hb1, hb2, hb3, hb4⟩, hW2, hW3⟩ := hW0
  have hR0 := hR
  obtain ⟨r0, r1, r2, r3, r4, r5, r6, r7, r8, r9, r10, r11, r12, r14, r15, r17, r19⟩ := hR0
  rcases ix_cases x (n := s_cn S) (by omega) with hx | ⟨j, hj, rfl⟩
  · skip
    show AW X 2 0 0 ad ce 0 [(0, .ref (ad (3, 0, 0))), (1, .int x)] []
    refine aw_aload_n C d_R_unlike_0 rfl (j := 0) rfl ?_
    refine aw_iload_n C d_R_unlike_1 rfl (j := 1) rfl ?_
    refine aw_callV C I (k := (3, 0, 0)) (as := [.int x]) (rest := []) (r_isCarrier l G ad ce (s_cn S) (s_pn S) (s_ln S) (s_on S) kd sr np st la gby gdu gwo grd un ps gpt gff gfc (s_li S) (s_lo S) hR x) g_R_64 r0 rfl rfl ⟨by decide, by decide⟩ ⟨by decide, by decide⟩ rfl (Nat.le_of_ble_eq_true rfl) d_R_unlike_2 ?_
    rintro _ _ _ ⟨rfl, rfl, rfl⟩
    show AW X 2 0 0 ad ce 5 [(0, .ref (ad (3, 0, 0))), (1, .int x)] [.int (bI (decide (0 ≤ x ∧ x < nI (s_cn S))))]
    refine aw_topi (v' := 0) ((bI_f (by (try simp only [Int32.le_iff_toInt_le, Int32.lt_iff_toInt_lt] at hx ⊢); omega)).symm) ?_
    show AW X 2 0 0 ad ce 5 [(0, .ref (ad (3, 0, 0))), (1, .int x)] [.int 0]
    refine aw_if_eq C (tgt := 17) d_R_unlike_5 (by decide) (fun h5 => ?_) (fun h5 => absurd (rfl) h5)
    refine aw_iconst C (v := (-1)) d_R_unlike_17 (by decide) ?_
    refine aw_iret C E (rfl) (by decide) (by decide) d_R_unlike_18 ?_
    exact ⟨sI (by simp only [f_unlike, ix_out hx]), rfl, rfl⟩
  · skip
    obtain ⟨e_kd, e_sr, e_np, e_st, e_la, e_un, e_ps⟩ := hE1 j (by omega)
    obtain ⟨⟨hn1, hn2⟩, hps⟩ := hW2 j hj
    show AW X 2 0 0 ad ce 0 [(0, .ref (ad (3, 0, 0))), (1, .int (nI j))] []
    refine aw_aload_n C d_R_unlike_0 rfl (j := 0) rfl ?_
    refine aw_iload_n C d_R_unlike_1 rfl (j := 1) rfl ?_
    refine aw_callV C I (k := (3, 0, 0)) (as := [.int (nI j)]) (rest := []) (r_isCarrier l G ad ce (s_cn S) (s_pn S) (s_ln S) (s_on S) kd sr np st la gby gdu gwo grd un ps gpt gff gfc (s_li S) (s_lo S) hR (nI j)) g_R_64 r0 rfl rfl ⟨by decide, by decide⟩ ⟨by decide, by decide⟩ rfl (Nat.le_of_ble_eq_true rfl) d_R_unlike_2 ?_
    rintro _ _ _ ⟨rfl, rfl, rfl⟩
    show AW X 2 0 0 ad ce 5 [(0, .ref (ad (3, 0, 0))), (1, .int (nI j))] [.int (bI (decide (0 ≤ nI j ∧ nI j < nI (s_cn S))))]
    refine aw_topi (v' := 1) ((bI_t ⟨nI_pos' (by omega), nI_lt (by omega) (by omega)⟩).symm) ?_
    show AW X 2 0 0 ad ce 5 [(0, .ref (ad (3, 0, 0))), (1, .int (nI j))] [.int 1]
    refine aw_if_eq C (tgt := 17) d_R_unlike_5 (by decide) (fun h5 => absurd h5 (by decide)) (fun h5 => ?_)
    refine aw_aload_n C d_R_unlike_8 rfl (j := 0) rfl ?_
    refine aw_get C F_R r0 10 (by decide) tw_309 rfl d_R_unlike_9 ?_
    refine aw_iload_n C d_R_unlike_12 rfl (j := 1) rfl ?_
    refine ar_iald C r10 (j := j) (rfl) (by omega) (by omega) d_R_unlike_13 ?_
    refine aw_goto C (tgt := 18) d_R_unlike_14 (by decide) ?_
    refine aw_iret C E (rfl) (by decide) (by decide) d_R_unlike_18 ?_
    exact ⟨sI (by simp only [f_unlike, ix_in hj (show s_cn S < 2 ^ 31 by omega), e_un]), rfl, rfl⟩
set_option maxRecDepth 100000 in
set_option maxHeartbeats 4000000 in
theorem R_byteAt (l : Launch) (G : aw_G) (ad : aw_Ad) (ce : aw_He) (S : SysS) (hS : LayR S ad ce) (x y : Int32) : CT l G M_R_byteAt 2 43 0 0 [.ref (ad (3, 0, 0)), .int x, .int y] ad ce (rN (some (.int (f_byteAt S x y))) ad ce) := by
  refine CT.of (by decide) (Nat.le_of_ble_eq_true rfl) ?_
  intro X C I E
  obtain ⟨kd, sr, np, st, la, gby, gdu, gwo, grd, un, ps, gpt, gff, gfc, hR, hE, hW⟩ := hS
  have hE0 := hE
  obtain ⟨hE1, hE2, hE3, hE4, hE5, hE6, hE7⟩ := hE0
  have hW0 := hW
  obtain ⟨⟨hb1, hb2, hb3, hb4⟩, hW2, hW3⟩ := hW0
  have hR0 := hR
  obtain ⟨r0, r1, r2, r3, r4, r5, r6, r7, r8, r9, r10, r11, r12, r14, r15, r17, r19⟩ := hR0
  rcases ix_cases x (n := s_cn S) (by omega) with hx | ⟨j, hj, rfl⟩
  · skip
    show AW X 3 0 0 ad ce 0 [(0, .ref (ad (3, 0, 0))), (1, .int x), (2, .int y)] []
    refine aw_aload_n C d_R_byteAt_0 rfl (j := 0) rfl ?_
    refine aw_iload_n C d_R_byteAt_1 rfl (j := 1) rfl ?_
    refine aw_iload_n C d_R_byteAt_2 rfl (j := 2) rfl ?_
    refine aw_callV C I (k := (3, 0, 0)) (as := [.int x, .int y]) (rest := []) (r_isPlace_out l G ad ce (s_cn S) (s_pn S) (s_ln S) (s_on S) kd sr np st la gby gdu gwo grd un ps gpt gff gfc (s_li S) (s_lo S) hR x y hx) g_R_92 r0 rfl rfl ⟨by decide, by decide⟩ ⟨by decide, by decide⟩ rfl (Nat.le_of_ble_eq_true rfl) d_R_byteAt_3 ?_
    rintro _ _ _ ⟨rfl, rfl, rfl⟩
    show AW X 3 0 0 ad ce 6 [(0, .ref (ad (3, 0, 0))), (1, .int x), (2, .int y)] [.int 0]
    refine aw_if_eq C (tgt := 31) d_R_byteAt_6 (by decide) (fun h6 => ?_) (fun h6 => absurd (rfl) h6)
    refine aw_iconst C (v := (-1)) d_R_byteAt_31 (by decide) ?_
    refine aw_iret C E (rfl) (by decide) (by decide) d_R_byteAt_32 ?_
    exact ⟨sI (by simp only [f_byteAt, ix_out hx]), rfl, rfl⟩
  · skip
    obtain ⟨e_kd, e_sr, e_np, e_st, e_la, e_un, e_ps⟩ := hE1 j (by omega)
    obtain ⟨⟨hn1, hn2⟩, hps⟩ := hW2 j hj
    rcases ix_cases y (n := k_np (s_car S j)) (by omega) with hy | ⟨p, hp0, rfl⟩
    · skip
      show AW X 3 0 0 ad ce 0 [(0, .ref (ad (3, 0, 0))), (1, .int (nI j)), (2, .int y)] []
      refine aw_aload_n C d_R_byteAt_0 rfl (j := 0) rfl ?_
      refine aw_iload_n C d_R_byteAt_1 rfl (j := 1) rfl ?_
      refine aw_iload_n C d_R_byteAt_2 rfl (j := 2) rfl ?_
      refine aw_callV C I (k := (3, 0, 0)) (as := [.int (nI j), .int y]) (rest := []) (r_isPlace l G ad ce (s_cn S) (s_pn S) (s_ln S) (s_on S) kd sr np st la gby gdu gwo grd un ps gpt gff gfc (s_li S) (s_lo S) hR j _ hj hb1 e_np y) g_R_92 r0 rfl rfl ⟨by decide, by decide⟩ ⟨by decide, by decide⟩ rfl (Nat.le_of_ble_eq_true rfl) d_R_byteAt_3 ?_
      rintro _ _ _ ⟨rfl, rfl, rfl⟩
      show AW X 3 0 0 ad ce 6 [(0, .ref (ad (3, 0, 0))), (1, .int (nI j)), (2, .int y)] [.int (bI (decide (0 ≤ y ∧ y < nI (k_np (s_car S j)))))]
      refine aw_topi (v' := 0) ((bI_f (by (try simp only [Int32.le_iff_toInt_le, Int32.lt_iff_toInt_lt] at hy ⊢); omega)).symm) ?_
      show AW X 3 0 0 ad ce 6 [(0, .ref (ad (3, 0, 0))), (1, .int (nI j)), (2, .int y)] [.int 0]
      refine aw_if_eq C (tgt := 31) d_R_byteAt_6 (by decide) (fun h6 => ?_) (fun h6 => absurd (rfl) h6)
      refine aw_iconst C (v := (-1)) d_R_byteAt_31 (by decide) ?_
      refine aw_iret C E (rfl) (by decide) (by decide) d_R_byteAt_32 ?_
      exact ⟨sI (by simp only [f_byteAt, ix_in hj (show s_cn S < 2 ^ 31 by omega), ix_out hy, ite_self]), rfl, rfl⟩
    · by_cases hg : k_st (s_car S j) = 5 ∨ k_st (s_car S j) = 6
      · skip
        show AW X 3 0 0 ad ce 0 [(0, .ref (ad (3, 0, 0))), (1, .int (nI j)), (2, .int (nI p))] []
        refine aw_aload_n C d_R_byteAt_0 rfl (j := 0) rfl ?_
        refine aw_iload_n C d_R_byteAt_1 rfl (j := 1) rfl ?_
        refine aw_iload_n C d_R_byteAt_2 rfl (j := 2) rfl ?_
        refine aw_callV C I (k := (3, 0, 0)) (as := [.int (nI j), .int (nI p)]) (rest := []) (r_isPlace l G ad ce (s_cn S) (s_pn S) (s_ln S) (s_on S) kd sr np st la gby gdu gwo grd un ps gpt gff gfc (s_li S) (s_lo S) hR j _ hj hb1 e_np (nI p)) g_R_92 r0 rfl rfl ⟨by decide, by decide⟩ ⟨by decide, by decide⟩ rfl (Nat.le_of_ble_eq_true rfl) d_R_byteAt_3 ?_
        rintro _ _ _ ⟨rfl, rfl, rfl⟩
        show AW X 3 0 0 ad ce 6 [(0, .ref (ad (3, 0, 0))), (1, .int (nI j)), (2, .int (nI p))] [.int (bI (decide (0 ≤ nI p ∧ nI p < nI (k_np (s_car S j)))))]
        refine aw_topi (v' := 1) ((bI_t ⟨nI_pos' (by omega), nI_lt (by omega) (by omega)⟩).symm) ?_
        show AW X 3 0 0 ad ce 6 [(0, .ref (ad (3, 0, 0))), (1, .int (nI j)), (2, .int (nI p))] [.int 1]
        refine aw_if_eq C (tgt := 31) d_R_byteAt_6 (by decide) (fun h6 => absurd h6 (by decide)) (fun h6 => ?_)
        refine aw_aload_n C d_R_byteAt_9 rfl (j := 0) rfl ?_
        refine aw_iload_n C d_R_byteAt_10 rfl (j := 1) rfl ?_
        refine aw_callV C I (k := (3, 0, 0)) (as := [.int (nI j)]) (rest := []) (r_isGone l G ad ce (s_cn S) (s_pn S) (s_ln S) (s_on S) kd sr np st la gby gdu gwo grd un ps gpt gff gfc (s_li S) (s_lo S) hR j (by omega)) g_R_96 r0 rfl rfl ⟨by decide, by decide⟩ ⟨by decide, by decide⟩ rfl (Nat.le_of_ble_eq_true rfl) d_R_byteAt_11 ?_
        rintro _ _ _ ⟨rfl, rfl, rfl⟩
        show AW X 3 0 0 ad ce 14 [(0, .ref (ad (3, 0, 0))), (1, .int (nI j)), (2, .int (nI p))] [.int (bI (decide (st j = 5 ∨ st j = 6)))]
        refine aw_topi (v' := 1) ((bI_t (by rw [e_st]; exact hg)).symm) ?_
        show AW X 3 0 0 ad ce 14 [(0, .ref (ad (3, 0, 0))), (1, .int (nI j)), (2, .int (nI p))] [.int 1]
        refine aw_if_ne C (tgt := 31) d_R_byteAt_14 (by decide) (fun h14 => ?_) (fun h14 => absurd h14 (by decide))
        refine aw_iconst C (v := (-1)) d_R_byteAt_31 (by decide) ?_
        refine aw_iret C E (rfl) (by decide) (by decide) d_R_byteAt_32 ?_
        exact ⟨sI (by simp only [f_byteAt, ix_in hj (show s_cn S < 2 ^ 31 by omega), if_pos hg]), rfl, rfl⟩
      · skip
        show AW X 3 0 0 ad ce 0 [(0, .ref (ad (3, 0, 0))), (1, .int (nI j)), (2, .int (nI p))] []
        refine aw_aload_n C d_R_byteAt_0 rfl (j := 0) rfl ?_
        refine aw_iload_n C d_R_byteAt_1 rfl (j := 1) rfl ?_
        refine aw_iload_n C d_R_byteAt_2 rfl (j := 2) rfl ?_
        refine aw_callV C I (k := (3, 0, 0)) (as := [.int (nI j), .int (nI p)]) (rest := []) (r_isPlace l G ad ce (s_cn S) (s_pn S) (s_ln S) (s_on S) kd sr np st la gby gdu gwo grd un ps gpt gff gfc (s_li S) (s_lo S) hR j _ hj hb1 e_np (nI p)) g_R_92 r0 rfl rfl ⟨by decide, by decide⟩ ⟨by decide, by decide⟩ rfl (Nat.le_of_ble_eq_true rfl) d_R_byteAt_3 ?_
        rintro _ _ _ ⟨rfl, rfl, rfl⟩
        show AW X 3 0 0 ad ce 6 [(0, .ref (ad (3, 0, 0))), (1, .int (nI j)), (2, .int (nI p))] [.int (bI (decide (0 ≤ nI p ∧ nI p < nI (k_np (s_car S j)))))]
        refine aw_topi (v' := 1) ((bI_t ⟨nI_pos' (by omega), nI_lt (by omega) (by omega)⟩).symm) ?_
        show AW X 3 0 0 ad ce 6 [(0, .ref (ad (3, 0, 0))), (1, .int (nI j)), (2, .int (nI p))] [.int 1]
        refine aw_if_eq C (tgt := 31) d_R_byteAt_6 (by decide) (fun h6 => absurd h6 (by decide)) (fun h6 => ?_)
        refine aw_aload_n C d_R_byteAt_9 rfl (j := 0) rfl ?_
        refine aw_iload_n C d_R_byteAt_10 rfl (j := 1) rfl ?_
        refine aw_callV C I (k := (3, 0, 0)) (as := [.int (nI j)]) (rest := []) (r_isGone l G ad ce (s_cn S) (s_pn S) (s_ln S) (s_on S) kd sr np st la gby gdu gwo grd un ps gpt gff gfc (s_li S) (s_lo S) hR j (by omega)) g_R_96 r0 rfl rfl ⟨by decide, by decide⟩ ⟨by decide, by decide⟩ rfl (Nat.le_of_ble_eq_true rfl) d_R_byteAt_11 ?_
        rintro _ _ _ ⟨rfl, rfl, rfl⟩
        show AW X 3 0 0 ad ce 14 [(0, .ref (ad (3, 0, 0))), (1, .int (nI j)), (2, .int (nI p))] [.int (bI (decide (st j = 5 ∨ st j = 6)))]
        refine aw_topi (v' := 0) ((bI_f (by rw [e_st]; exact hg)).symm) ?_
        show AW X 3 0 0 ad ce 14 [(0, .ref (ad (3, 0, 0))), (1, .int (nI j)), (2, .int (nI p))] [.int 0]
        refine aw_if_ne C (tgt := 31) d_R_byteAt_14 (by decide) (fun h14 => absurd h14 (by decide)) (fun h14 => ?_)
        refine aw_aload_n C d_R_byteAt_17 rfl (j := 0) rfl ?_
        refine aw_get C F_R r0 6 (by decide) tw_305 rfl d_R_byteAt_18 ?_
        refine aw_bipush C (v := 64) d_R_byteAt_21 (by decide) ?_
        refine aw_iload_n C d_R_byteAt_23 rfl (j := 1) rfl ?_
        refine aw_imul C d_R_byteAt_24 ?_
        refine aw_iload_n C d_R_byteAt_25 rfl (j := 2) rfl ?_
        refine aw_iadd C d_R_byteAt_26 ?_
        refine aw_topi (v' := nI (64 * j + p)) (k64 _ _) ?_
        refine ar_iald C r6 (j := (64 * j + p)) (rfl) (by omega) (by omega) d_R_byteAt_27 ?_
        refine aw_goto C (tgt := 32) d_R_byteAt_28 (by decide) ?_
        refine aw_iret C E (rfl) (by decide) (by decide) d_R_byteAt_32 ?_
        exact ⟨sI (by simp only [f_byteAt, ix_in hj (show s_cn S < 2 ^ 31 by omega), if_neg hg, ix_in hp0 (show k_np (s_car S j) < 2 ^ 31 by omega)]; exact (hE2 j p hj hp0).1), rfl, rfl⟩
set_option maxRecDepth 100000 in
set_option maxHeartbeats 4000000 in
theorem R_told (l : Launch) (G : aw_G) (ad : aw_Ad) (ce : aw_He) (S : SysS) (hS : LayR S ad ce) (x : Int32) : CT l G M_R_told 0 0 0 0 [.ref (ad (3, 0, 0)), .int x] ad ce (rN (some (.int (f_told S x))) ad ce) := by
  refine CT.of (by decide) (Nat.le_of_ble_eq_true rfl) ?_
  intro X C I E
  obtain ⟨kd, sr, np, st, la, gby, gdu, gwo, grd, un, ps, gpt, gff, gfc, hR, hE, hW⟩ := hS
  have hE0 := hE
  obtain ⟨hE1, hE2, hE3, hE4, hE5, hE6, hE7⟩ := hE0
  have hW0 := hW
  obtain ⟨⟨hb1, hb2, hb3, hb4⟩, hW2, hW3⟩ := hW0
  have hR0 := hR
  obtain ⟨r0, r1, r2, r3, r4, r5, r6, r7, r8, r9, r10, r11, r12, r14, r15, r17, r19⟩ := hR0
  rcases ix_cases x (n := s_on S) (by omega) with hx | ⟨j, hj, rfl⟩
  · skip
    show AW X 2 0 0 ad ce 0 [(0, .ref (ad (3, 0, 0))), (1, .int x)] []
    refine aw_iload_n C d_R_told_0 rfl (j := 1) rfl ?_
    refine aw_if_lt C (tgt := 21) d_R_told_1 (by decide) (fun h1 => ?_) (fun h1 => ?_)
    · refine aw_iconst C (v := (-1)) d_R_told_21 (by decide) ?_
      refine aw_iret C E (rfl) (by decide) (by decide) d_R_told_22 ?_
      exact ⟨sI (by simp only [f_told, ix_out hx]), rfl, rfl⟩
    · refine aw_iload_n C d_R_told_4 rfl (j := 1) rfl ?_
      refine aw_aload_n C d_R_told_5 rfl (j := 0) rfl ?_
      refine aw_get C F_R r0 18 (by decide) tw_317 rfl d_R_told_6 ?_
      refine aw_icmp_ge C (tgt := 21) d_R_told_9 (by decide) (fun h9 => ?_) (fun h9 => ?_)
      · refine aw_iconst C (v := (-1)) d_R_told_21 (by decide) ?_
        refine aw_iret C E (rfl) (by decide) (by decide) d_R_told_22 ?_
        exact ⟨sI (by simp only [f_told, ix_out hx]), rfl, rfl⟩
      · exact absurd hx (by simp [h1, h9])
  · skip
    show AW X 2 0 0 ad ce 0 [(0, .ref (ad (3, 0, 0))), (1, .int (nI j))] []
    refine aw_iload_n C d_R_told_0 rfl (j := 1) rfl ?_
    refine aw_if_lt C (tgt := 21) d_R_told_1 (by decide) (fun h1 => absurd h1 (nI_pos (by omega))) (fun h1 => ?_)
    refine aw_iload_n C d_R_told_4 rfl (j := 1) rfl ?_
    refine aw_aload_n C d_R_told_5 rfl (j := 0) rfl ?_
    refine aw_get C F_R r0 18 (by decide) tw_317 rfl d_R_told_6 ?_
    refine aw_icmp_ge C (tgt := 21) d_R_told_9 (by decide) (fun h9 => absurd h9 (nI_ge (by omega) (by omega))) (fun h9 => ?_)
    refine aw_aload_n C d_R_told_12 rfl (j := 0) rfl ?_
    refine aw_get C F_R r0 19 (by decide) tw_318 rfl d_R_told_13 ?_
    refine aw_iload_n C d_R_told_16 rfl (j := 1) rfl ?_
    refine ar_iald C r19 (j := j) (rfl) (by omega) (by omega) d_R_told_17 ?_
    refine aw_goto C (tgt := 22) d_R_told_18 (by decide) ?_
    refine aw_iret C E (rfl) (by decide) (by decide) d_R_told_22 ?_
    exact ⟨sI (by simp only [f_told, ix_in hj (show s_on S < 2 ^ 31 by omega)]), rfl, rfl⟩
set_option maxRecDepth 100000 in
set_option maxHeartbeats 4000000 in
theorem R_at (l : Launch) (G : aw_G) (ad : aw_Ad) (ce : aw_He) (S : SysS) (hS : LayR S ad ce) (x y : Int32) : CT l G M_R_at 1 21 0 0 [.ref (ad (3, 0, 0)), .int x, .int y] ad ce (rN (some (.int (f_at S x y))) ad ce) := by
  refine CT.of (by decide) (Nat.le_of_ble_eq_true rfl) ?_
  intro X C I E
  obtain ⟨kd, sr, np, st, la, gby, gdu, gwo, grd, un, ps, gpt, gff, gfc, hR, hE, hW⟩ := hS
  have hE0 := hE
  obtain ⟨hE1, hE2, hE3, hE4, hE5, hE6, hE7⟩ := hE0
  have hW0 := hW
  obtain ⟨⟨hb1, hb2, hb3, hb4⟩, hW2, hW3⟩ := hW0
  have hR0 := hR
  obtain ⟨r0, r1, r2, r3, r4, r5, r6, r7, r8, r9, r10, r11, r12, r14, r15, r17, r19⟩ := hR0
  rcases ix_cases x (n := s_pn S) (by omega) with hx | ⟨j, hj, rfl⟩
  · skip
    show AW X 3 0 0 ad ce 0 [(0, .ref (ad (3, 0, 0))), (1, .int x), (2, .int y)] []
    refine aw_aload_n C d_R_at_0 rfl (j := 0) rfl ?_
    refine aw_iload_n C d_R_at_1 rfl (j := 1) rfl ?_
    refine aw_callV C I (k := (3, 0, 0)) (as := [.int x]) (rest := []) (r_isPaper l G ad ce (s_cn S) (s_pn S) (s_ln S) (s_on S) kd sr np st la gby gdu gwo grd un ps gpt gff gfc (s_li S) (s_lo S) hR x) g_R_116 r0 rfl rfl ⟨by decide, by decide⟩ ⟨by decide, by decide⟩ rfl (Nat.le_of_ble_eq_true rfl) d_R_at_2 ?_
    rintro _ _ _ ⟨rfl, rfl, rfl⟩
    show AW X 3 0 0 ad ce 5 [(0, .ref (ad (3, 0, 0))), (1, .int x), (2, .int y)] [.int (bI (decide (0 ≤ x ∧ x < nI (s_pn S))))]
    refine aw_topi (v' := 0) ((bI_f (by (try simp only [Int32.le_iff_toInt_le, Int32.lt_iff_toInt_lt] at hx ⊢); omega)).symm) ?_
    show AW X 3 0 0 ad ce 5 [(0, .ref (ad (3, 0, 0))), (1, .int x), (2, .int y)] [.int 0]
    refine aw_if_eq C (tgt := 36) d_R_at_5 (by decide) (fun h5 => ?_) (fun h5 => absurd (rfl) h5)
    refine aw_iconst C (v := (-1)) d_R_at_36 (by decide) ?_
    refine aw_iret C E (rfl) (by decide) (by decide) d_R_at_37 ?_
    exact ⟨sI (by simp only [f_at, ix_out hx]), rfl, rfl⟩
  · obtain ⟨h6, h12⟩ := hW3 j hj
    have hfc := hE6 j hj
    rcases ix_cases y (n := (s_pap S j).1) (by omega) with hy | ⟨p, hp0, rfl⟩
    · skip
      show AW X 3 0 0 ad ce 0 [(0, .ref (ad (3, 0, 0))), (1, .int (nI j)), (2, .int y)] []
      refine aw_aload_n C d_R_at_0 rfl (j := 0) rfl ?_
      refine aw_iload_n C d_R_at_1 rfl (j := 1) rfl ?_
      refine aw_callV C I (k := (3, 0, 0)) (as := [.int (nI j)]) (rest := []) (r_isPaper l G ad ce (s_cn S) (s_pn S) (s_ln S) (s_on S) kd sr np st la gby gdu gwo grd un ps gpt gff gfc (s_li S) (s_lo S) hR (nI j)) g_R_116 r0 rfl rfl ⟨by decide, by decide⟩ ⟨by decide, by decide⟩ rfl (Nat.le_of_ble_eq_true rfl) d_R_at_2 ?_
      rintro _ _ _ ⟨rfl, rfl, rfl⟩
      show AW X 3 0 0 ad ce 5 [(0, .ref (ad (3, 0, 0))), (1, .int (nI j)), (2, .int y)] [.int (bI (decide (0 ≤ nI j ∧ nI j < nI (s_pn S))))]
      refine aw_topi (v' := 1) ((bI_t ⟨nI_pos' (by omega), nI_lt (by omega) (by omega)⟩).symm) ?_
      show AW X 3 0 0 ad ce 5 [(0, .ref (ad (3, 0, 0))), (1, .int (nI j)), (2, .int y)] [.int 1]
      refine aw_if_eq C (tgt := 36) d_R_at_5 (by decide) (fun h5 => absurd h5 (by decide)) (fun h5 => ?_)
      refine aw_iload_n C d_R_at_8 rfl (j := 2) rfl ?_
      refine aw_if_lt C (tgt := 36) d_R_at_9 (by decide) (fun h9 => ?_) (fun h9 => ?_)
      · refine aw_iconst C (v := (-1)) d_R_at_36 (by decide) ?_
        refine aw_iret C E (rfl) (by decide) (by decide) d_R_at_37 ?_
        exact ⟨sI (by simp only [f_at, ix_in hj (show s_pn S < 2 ^ 31 by omega), ix_out hy]), rfl, rfl⟩
      · refine aw_iload_n C d_R_at_12 rfl (j := 2) rfl ?_
        refine aw_aload_n C d_R_at_13 rfl (j := 0) rfl ?_
        refine aw_get C F_R r0 15 (by decide) tw_314 rfl d_R_at_14 ?_
        refine aw_iload_n C d_R_at_17 rfl (j := 1) rfl ?_
        refine ar_iald C r15 (j := j) (rfl) (by omega) (by omega) d_R_at_18 ?_
        refine aw_topi (v' := nI (s_pap S j).1) (hfc) ?_
        refine aw_icmp_ge C (tgt := 36) d_R_at_19 (by decide) (fun h19 => ?_) (fun h19 => ?_)
        · refine aw_iconst C (v := (-1)) d_R_at_36 (by decide) ?_
          refine aw_iret C E (rfl) (by decide) (by decide) d_R_at_37 ?_
          exact ⟨sI (by simp only [f_at, ix_in hj (show s_pn S < 2 ^ 31 by omega), ix_out hy]), rfl, rfl⟩
        · exact absurd hy (by simp [h9, h19])
    · skip
      show AW X 3 0 0 ad ce 0 [(0, .ref (ad (3, 0, 0))), (1, .int (nI j)), (2, .int (nI p))] []
      refine aw_aload_n C d_R_at_0 rfl (j := 0) rfl ?_
      refine aw_iload_n C d_R_at_1 rfl (j := 1) rfl ?_
      refine aw_callV C I (k := (3, 0, 0)) (as := [.int (nI j)]) (rest := []) (r_isPaper l G ad ce (s_cn S) (s_pn S) (s_ln S) (s_on S) kd sr np st la gby gdu gwo grd un ps gpt gff gfc (s_li S) (s_lo S) hR (nI j)) g_R_116 r0 rfl rfl ⟨by decide, by decide⟩ ⟨by decide, by decide⟩ rfl (Nat.le_of_ble_eq_true rfl) d_R_at_2 ?_
      rintro _ _ _ ⟨rfl, rfl, rfl⟩
      show AW X 3 0 0 ad ce 5 [(0, .ref (ad (3, 0, 0))), (1, .int (nI j)), (2, .int (nI p))] [.int (bI (decide (0 ≤ nI j ∧ nI j < nI (s_pn S))))]
      refine aw_topi (v' := 1) ((bI_t ⟨nI_pos' (by omega), nI_lt (by omega) (by omega)⟩).symm) ?_
      show AW X 3 0 0 ad ce 5 [(0, .ref (ad (3, 0, 0))), (1, .int (nI j)), (2, .int (nI p))] [.int 1]
      refine aw_if_eq C (tgt := 36) d_R_at_5 (by decide) (fun h5 => absurd h5 (by decide)) (fun h5 => ?_)
      refine aw_iload_n C d_R_at_8 rfl (j := 2) rfl ?_
      refine aw_if_lt C (tgt := 36) d_R_at_9 (by decide) (fun h9 => absurd h9 (nI_pos (by omega))) (fun h9 => ?_)
      refine aw_iload_n C d_R_at_12 rfl (j := 2) rfl ?_
      refine aw_aload_n C d_R_at_13 rfl (j := 0) rfl ?_
      refine aw_get C F_R r0 15 (by decide) tw_314 rfl d_R_at_14 ?_
      refine aw_iload_n C d_R_at_17 rfl (j := 1) rfl ?_
      refine ar_iald C r15 (j := j) (rfl) (by omega) (by omega) d_R_at_18 ?_
      refine aw_topi (v' := nI (s_pap S j).1) (hfc) ?_
      refine aw_icmp_ge C (tgt := 36) d_R_at_19 (by decide) (fun h19 => absurd h19 (nI_ge (by omega) (by omega))) (fun h19 => ?_)
      refine aw_aload_n C d_R_at_22 rfl (j := 0) rfl ?_
      refine aw_get C F_R r0 14 (by decide) tw_313 rfl d_R_at_23 ?_
      refine aw_bipush C (v := 12) d_R_at_26 (by decide) ?_
      refine aw_iload_n C d_R_at_28 rfl (j := 1) rfl ?_
      refine aw_imul C d_R_at_29 ?_
      refine aw_iload_n C d_R_at_30 rfl (j := 2) rfl ?_
      refine aw_iadd C d_R_at_31 ?_
      refine aw_topi (v' := nI (12 * j + p)) (k12 _ _) ?_
      refine ar_iald C r14 (j := (12 * j + p)) (rfl) (by omega) (by omega) d_R_at_32 ?_
      refine aw_goto C (tgt := 37) d_R_at_33 (by decide) ?_
      refine aw_iret C E (rfl) (by decide) (by decide) d_R_at_37 ?_
      exact ⟨sI (by simp only [f_at, ix_in hj (show s_pn S < 2 ^ 31 by omega), ix_in hp0 (show (s_pap S j).1 < 2 ^ 31 by omega)]; exact hE5 j p hj hp0), rfl, rfl⟩
set_option maxRecDepth 100000 in
set_option maxHeartbeats 4000000 in
theorem R_mark (l : Launch) (G : aw_G) (ad : aw_Ad) (ce : aw_He) (S : SysS) (hS : LayR S ad ce) (x : Int32) (key : Int64) (i : Int32) : CT l G M_R_mark 1 26 0 0 [.ref (ad (3, 0, 0)), .int x, .long key, .int i] ad ce (rN (some (.int (f_mark S x key i))) ad ce) := by
  refine CT.of (by decide) (Nat.le_of_ble_eq_true rfl) ?_
  intro X C I E
  obtain ⟨kd, sr, np, st, la, gby, gdu, gwo, grd, un, ps, gpt, gff, gfc, hR, hE, hW⟩ := hS
  have hE0 := hE
  obtain ⟨hE1, hE2, hE3, hE4, hE5, hE6, hE7⟩ := hE0
  have hW0 := hW
  obtain ⟨⟨hb1, hb2, hb3, hb4⟩, hW2, hW3⟩ := hW0
  have hR0 := hR
  obtain ⟨r0, r1, r2, r3, r4, r5, r6, r7, r8, r9, r10, r11, r12, r14, r15, r17, r19⟩ := hR0
  rcases ix_cases x (n := s_pn S) (by omega) with hx | ⟨j, hj, rfl⟩
  · skip
    show AW X 5 0 0 ad ce 0 [(0, .ref (ad (3, 0, 0))), (1, .int x), (2, .long key), (4, .int i)] []
    refine aw_aload_n C d_R_mark_0 rfl (j := 0) rfl ?_
    refine aw_iload_n C d_R_mark_1 rfl (j := 1) rfl ?_
    refine aw_callV C I (k := (3, 0, 0)) (as := [.int x]) (rest := []) (r_isPaper l G ad ce (s_cn S) (s_pn S) (s_ln S) (s_on S) kd sr np st la gby gdu gwo grd un ps gpt gff gfc (s_li S) (s_lo S) hR x) g_R_116 r0 rfl rfl ⟨by decide, by decide⟩ ⟨by decide, by decide⟩ rfl (Nat.le_of_ble_eq_true rfl) d_R_mark_2 ?_
    rintro _ _ _ ⟨rfl, rfl, rfl⟩
    show AW X 5 0 0 ad ce 5 [(0, .ref (ad (3, 0, 0))), (1, .int x), (2, .long key), (4, .int i)] [.int (bI (decide (0 ≤ x ∧ x < nI (s_pn S))))]
    refine aw_topi (v' := 0) ((bI_f (by (try simp only [Int32.le_iff_toInt_le, Int32.lt_iff_toInt_lt] at hx ⊢); omega)).symm) ?_
    show AW X 5 0 0 ad ce 5 [(0, .ref (ad (3, 0, 0))), (1, .int x), (2, .long key), (4, .int i)] [.int 0]
    refine aw_if_eq C (tgt := 44) d_R_mark_5 (by decide) (fun h5 => ?_) (fun h5 => absurd (rfl) h5)
    refine aw_iconst C (v := (-1)) d_R_mark_44 (by decide) ?_
    refine aw_iret C E (rfl) (by decide) (by decide) d_R_mark_45 ?_
    exact ⟨sI (by simp only [f_mark, ix_out hx]), rfl, rfl⟩
  · obtain ⟨h6, h12⟩ := hW3 j hj
    by_cases hi : 0 ≤ i ∧ i ≤ 7
    · skip
      show AW X 5 0 0 ad ce 0 [(0, .ref (ad (3, 0, 0))), (1, .int (nI j)), (2, .long key), (4, .int i)] []
      refine aw_aload_n C d_R_mark_0 rfl (j := 0) rfl ?_
      refine aw_iload_n C d_R_mark_1 rfl (j := 1) rfl ?_
      refine aw_callV C I (k := (3, 0, 0)) (as := [.int (nI j)]) (rest := []) (r_isPaper l G ad ce (s_cn S) (s_pn S) (s_ln S) (s_on S) kd sr np st la gby gdu gwo grd un ps gpt gff gfc (s_li S) (s_lo S) hR (nI j)) g_R_116 r0 rfl rfl ⟨by decide, by decide⟩ ⟨by decide, by decide⟩ rfl (Nat.le_of_ble_eq_true rfl) d_R_mark_2 ?_
      rintro _ _ _ ⟨rfl, rfl, rfl⟩
      show AW X 5 0 0 ad ce 5 [(0, .ref (ad (3, 0, 0))), (1, .int (nI j)), (2, .long key), (4, .int i)] [.int (bI (decide (0 ≤ nI j ∧ nI j < nI (s_pn S))))]
      refine aw_topi (v' := 1) ((bI_t ⟨nI_pos' (by omega), nI_lt (by omega) (by omega)⟩).symm) ?_
      show AW X 5 0 0 ad ce 5 [(0, .ref (ad (3, 0, 0))), (1, .int (nI j)), (2, .long key), (4, .int i)] [.int 1]
      refine aw_if_eq C (tgt := 44) d_R_mark_5 (by decide) (fun h5 => absurd h5 (by decide)) (fun h5 => ?_)
      refine aw_iload C d_R_mark_8 (j := 3) rfl ?_
      refine aw_i2l C d_R_mark_10 ?_
      refine aw_lconst C (v := 0) d_R_mark_11 (by decide) ?_
      refine aw_ldc2 C tw_462 d_R_mark_12 ?_
      refine aw_callS C I (as := [.long (Int32.toInt64 i), .long 0, .long 7]) (rest := []) (r_isIn l G ad ce (Int32.toInt64 i) 0 7) g_R_70 ⟨by decide, by decide⟩ ⟨by decide, by decide⟩ rfl (Nat.le_of_ble_eq_true rfl) d_R_mark_15 ?_
      rintro _ _ _ ⟨rfl, rfl, rfl⟩
      show AW X 5 0 0 ad ce 18 [(0, .ref (ad (3, 0, 0))), (1, .int (nI j)), (2, .long key), (4, .int i)] [.int (bI (decide (0 ≤ Int32.toInt64 i ∧ Int32.toInt64 i ≤ 7)))]
      refine aw_topi (v' := 1) ((bI_t ((in32 rfl rfl).mpr hi)).symm) ?_
      show AW X 5 0 0 ad ce 18 [(0, .ref (ad (3, 0, 0))), (1, .int (nI j)), (2, .long key), (4, .int i)] [.int 1]
      refine aw_if_eq C (tgt := 44) d_R_mark_18 (by decide) (fun h18 => absurd h18 (by decide)) (fun h18 => ?_)
      refine aw_aload_n C d_R_mark_21 rfl (j := 0) rfl ?_
      refine aw_iload_n C d_R_mark_22 rfl (j := 1) rfl ?_
      refine aw_lload_n C d_R_mark_23 rfl (j := 2) rfl ?_
      refine aw_callV C I (k := (3, 0, 0)) (as := [.int (nI j), .long key]) (rest := []) (r_markOf l G ad ce (s_cn S) (s_pn S) (s_ln S) (s_on S) kd sr np st la gby gdu gwo grd un ps gpt gff gfc (s_li S) (s_lo S) hR j (by omega) (s_pap S j) h12 (hE6 j hj) (fun k hk => hE5 j k hj hk) key) g_R_123 r0 rfl rfl ⟨by decide, by decide⟩ ⟨by decide, by decide⟩ rfl (Nat.le_of_ble_eq_true rfl) d_R_mark_24 ?_
      rintro _ _ _ ⟨rfl, rfl, rfl⟩
      show AW X 5 0 0 ad ce 27 [(0, .ref (ad (3, 0, 0))), (1, .int (nI j)), (2, .long key), (4, .int i)] [.long (fldM mkS (s_pap S j).2 (s_pap S j).1 0 key)]
      refine aw_bipush C (v := 56) d_R_mark_27 (by decide) ?_
      refine aw_bipush C (v := 8) d_R_mark_29 (by decide) ?_
      refine aw_iload C d_R_mark_31 (j := 3) rfl ?_
      refine aw_imul C d_R_mark_33 ?_
      refine aw_isub C d_R_mark_34 ?_
      refine aw_lushr C d_R_mark_35 ?_
      refine aw_ldc2 C tw_427 d_R_mark_36 ?_
      refine aw_land C d_R_mark_39 ?_
      refine aw_l2i C d_R_mark_40 ?_
      refine aw_topi (v' := mkB (mkOf (s_pap S j) key) (56 - 8 * i)) (by simp only [mkB, mkOf]) ?_
      refine aw_goto C (tgt := 45) d_R_mark_41 (by decide) ?_
      refine aw_iret C E (rfl) (by decide) (by decide) d_R_mark_45 ?_
      exact ⟨sI (by simp only [f_mark, ix_in hj (show s_pn S < 2 ^ 31 by omega), if_pos hi]), rfl, rfl⟩
    · skip
      show AW X 5 0 0 ad ce 0 [(0, .ref (ad (3, 0, 0))), (1, .int (nI j)), (2, .long key), (4, .int i)] []
      refine aw_aload_n C d_R_mark_0 rfl (j := 0) rfl ?_
      refine aw_iload_n C d_R_mark_1 rfl (j := 1) rfl ?_
      refine aw_callV C I (k := (3, 0, 0)) (as := [.int (nI j)]) (rest := []) (r_isPaper l G ad ce (s_cn S) (s_pn S) (s_ln S) (s_on S) kd sr np st la gby gdu gwo grd un ps gpt gff gfc (s_li S) (s_lo S) hR (nI j)) g_R_116 r0 rfl rfl ⟨by decide, by decide⟩ ⟨by decide, by decide⟩ rfl (Nat.le_of_ble_eq_true rfl) d_R_mark_2 ?_
      rintro _ _ _ ⟨rfl, rfl, rfl⟩
      show AW X 5 0 0 ad ce 5 [(0, .ref (ad (3, 0, 0))), (1, .int (nI j)), (2, .long key), (4, .int i)] [.int (bI (decide (0 ≤ nI j ∧ nI j < nI (s_pn S))))]
      refine aw_topi (v' := 1) ((bI_t ⟨nI_pos' (by omega), nI_lt (by omega) (by omega)⟩).symm) ?_
      show AW X 5 0 0 ad ce 5 [(0, .ref (ad (3, 0, 0))), (1, .int (nI j)), (2, .long key), (4, .int i)] [.int 1]
      refine aw_if_eq C (tgt := 44) d_R_mark_5 (by decide) (fun h5 => absurd h5 (by decide)) (fun h5 => ?_)
      refine aw_iload C d_R_mark_8 (j := 3) rfl ?_
      refine aw_i2l C d_R_mark_10 ?_
      refine aw_lconst C (v := 0) d_R_mark_11 (by decide) ?_
      refine aw_ldc2 C tw_462 d_R_mark_12 ?_
      refine aw_callS C I (as := [.long (Int32.toInt64 i), .long 0, .long 7]) (rest := []) (r_isIn l G ad ce (Int32.toInt64 i) 0 7) g_R_70 ⟨by decide, by decide⟩ ⟨by decide, by decide⟩ rfl (Nat.le_of_ble_eq_true rfl) d_R_mark_15 ?_
      rintro _ _ _ ⟨rfl, rfl, rfl⟩
      show AW X 5 0 0 ad ce 18 [(0, .ref (ad (3, 0, 0))), (1, .int (nI j)), (2, .long key), (4, .int i)] [.int (bI (decide (0 ≤ Int32.toInt64 i ∧ Int32.toInt64 i ≤ 7)))]
      refine aw_topi (v' := 0) ((bI_f (fun q => hi ((in32 rfl rfl).mp q))).symm) ?_
      show AW X 5 0 0 ad ce 18 [(0, .ref (ad (3, 0, 0))), (1, .int (nI j)), (2, .long key), (4, .int i)] [.int 0]
      refine aw_if_eq C (tgt := 44) d_R_mark_18 (by decide) (fun h18 => ?_) (fun h18 => absurd (rfl) h18)
      refine aw_iconst C (v := (-1)) d_R_mark_44 (by decide) ?_
      refine aw_iret C E (rfl) (by decide) (by decide) d_R_mark_45 ?_
      exact ⟨sI (by simp only [f_mark, ix_in hj (show s_pn S < 2 ^ 31 by omega), if_neg hi]), rfl, rfl⟩
