set_option maxRecDepth 100000 in
set_option maxHeartbeats 4000000 in
theorem R_event (l : Launch) (G : aw_G) (ad : aw_Ad) (ce : aw_He) (S : SysS) (hS : LayR S ad ce) (x e p : Int32) : CT l G M_R_event 1 25 0 0 [.ref (ad (3, 0, 0)), .int x, .int e, .int p] ad ce (rR (some (.int (f_event S x e p).1)) (f_event S x e p).2 ad ce) := by
  refine CT.of (by decide) (Nat.le_of_ble_eq_true rfl) ?_
  intro X C I E
  obtain ⟨kd, sr, np, st, la, gby, gdu, gwo, grd, un, ps, gpt, gff, gfc, hR, hE, hW⟩ := hS
  have hE0 := hE
  obtain ⟨hE1, hE2, hE3, hE4, hE5, hE6, hE7⟩ := hE0
  have hW0 := hW
  obtain ⟨⟨hb1, hb2, hb3, hb4⟩, hW2, hW3⟩ := hW0
  have hR0 := hR
  obtain ⟨r0, r1, r2, r3, r4, r5, r6, r7, r8, r9, r10, r11, r12, r14, r15, r17, r19⟩ := hR0
  rcases ix_cases x (n := s_cn S) (by omega) with hx | ⟨j, hj, rfl⟩
  · skip
    show AW X 4 0 0 ad ce 0 [(0, .ref (ad (3, 0, 0))), (1, .int x), (2, .int e), (3, .int p)] []
    refine aw_aload_n C d_R_event_0 rfl (j := 0) rfl ?_
    refine aw_iload_n C d_R_event_1 rfl (j := 1) rfl ?_
    refine aw_callV C I (k := (3, 0, 0)) (as := [.int x]) (rest := []) (r_isCarrier l G ad ce (s_cn S) (s_pn S) (s_ln S) (s_on S) kd sr np st la gby gdu gwo grd un ps gpt gff gfc (s_li S) (s_lo S) hR x) g_R_64 r0 rfl rfl ⟨by decide, by decide⟩ ⟨by decide, by decide⟩ rfl (Nat.le_of_ble_eq_true rfl) d_R_event_2 ?_
    rintro _ _ _ ⟨rfl, rfl, rfl⟩
    show AW X 4 0 0 ad ce 5 [(0, .ref (ad (3, 0, 0))), (1, .int x), (2, .int e), (3, .int p)] [.int (bI (decide (0 ≤ x ∧ x < nI (s_cn S))))]
    refine aw_topi (v' := 0) ((bI_f (by (try simp only [Int32.le_iff_toInt_le, Int32.lt_iff_toInt_lt] at hx ⊢); omega)).symm) ?_
    show AW X 4 0 0 ad ce 5 [(0, .ref (ad (3, 0, 0))), (1, .int x), (2, .int e), (3, .int p)] [.int 0]
    refine aw_if_eq C (tgt := 33) d_R_event_5 (by decide) (fun h5 => ?_) (fun h5 => absurd (rfl) h5)
    refine aw_iconst C (v := 0) d_R_event_33 (by decide) ?_
    refine aw_iret C E (rfl) (by decide) (by decide) d_R_event_34 ?_
    rw [show f_event S x e p = (0, S) from by simp only [f_event, ix_out hx]]
    exact ⟨rfl, rfl, frR.rf, ⟨kd, sr, np, st, la, gby, gdu, gwo, grd, un, ps, gpt, gff, gfc, hR, hE, hW⟩⟩
  · skip
    obtain ⟨e_kd, e_sr, e_np, e_st, e_la, e_un, e_ps⟩ := hE1 j (by omega)
    obtain ⟨⟨hn1, hn2⟩, hps⟩ := hW2 j hj
    by_cases hc : (0 ≤ p ∧ p ≤ 9) ∧ 0 ≤ evTo e (k_st (s_car S j))
    · skip
      show AW X 4 0 0 ad ce 0 [(0, .ref (ad (3, 0, 0))), (1, .int (nI j)), (2, .int e), (3, .int p)] []
      refine aw_aload_n C d_R_event_0 rfl (j := 0) rfl ?_
      refine aw_iload_n C d_R_event_1 rfl (j := 1) rfl ?_
      refine aw_callV C I (k := (3, 0, 0)) (as := [.int (nI j)]) (rest := []) (r_isCarrier l G ad ce (s_cn S) (s_pn S) (s_ln S) (s_on S) kd sr np st la gby gdu gwo grd un ps gpt gff gfc (s_li S) (s_lo S) hR (nI j)) g_R_64 r0 rfl rfl ⟨by decide, by decide⟩ ⟨by decide, by decide⟩ rfl (Nat.le_of_ble_eq_true rfl) d_R_event_2 ?_
      rintro _ _ _ ⟨rfl, rfl, rfl⟩
      show AW X 4 0 0 ad ce 5 [(0, .ref (ad (3, 0, 0))), (1, .int (nI j)), (2, .int e), (3, .int p)] [.int (bI (decide (0 ≤ nI j ∧ nI j < nI (s_cn S))))]
      refine aw_topi (v' := 1) ((bI_t ⟨nI_pos' (by omega), nI_lt (by omega) (by omega)⟩).symm) ?_
      show AW X 4 0 0 ad ce 5 [(0, .ref (ad (3, 0, 0))), (1, .int (nI j)), (2, .int e), (3, .int p)] [.int 1]
      refine aw_if_eq C (tgt := 33) d_R_event_5 (by decide) (fun h5 => absurd h5 (by decide)) (fun h5 => ?_)
      refine aw_iload_n C d_R_event_8 rfl (j := 3) rfl ?_
      refine aw_i2l C d_R_event_9 ?_
      refine aw_lconst C (v := 0) d_R_event_10 (by decide) ?_
      refine aw_ldc2 C tw_386 d_R_event_11 ?_
      refine aw_callS C I (as := [.long (Int32.toInt64 p), .long 0, .long 9]) (rest := []) (r_isIn l G ad ce (Int32.toInt64 p) 0 9) g_R_70 ⟨by decide, by decide⟩ ⟨by decide, by decide⟩ rfl (Nat.le_of_ble_eq_true rfl) d_R_event_14 ?_
      rintro _ _ _ ⟨rfl, rfl, rfl⟩
      show AW X 4 0 0 ad ce 17 [(0, .ref (ad (3, 0, 0))), (1, .int (nI j)), (2, .int e), (3, .int p)] [.int (bI (decide (0 ≤ Int32.toInt64 p ∧ Int32.toInt64 p ≤ 9)))]
      refine aw_topi (v' := 1) ((bI_t ((in32 rfl rfl).mpr hc.1)).symm) ?_
      show AW X 4 0 0 ad ce 17 [(0, .ref (ad (3, 0, 0))), (1, .int (nI j)), (2, .int e), (3, .int p)] [.int 1]
      refine aw_if_eq C (tgt := 33) d_R_event_17 (by decide) (fun h17 => absurd h17 (by decide)) (fun h17 => ?_)
      refine aw_iload_n C d_R_event_20 rfl (j := 2) rfl ?_
      refine aw_aload_n C d_R_event_21 rfl (j := 0) rfl ?_
      refine aw_get C F_R r0 4 (by decide) tw_303 rfl d_R_event_22 ?_
      refine aw_iload_n C d_R_event_25 rfl (j := 1) rfl ?_
      refine ar_iald C r4 (j := j) (rfl) (by omega) (by omega) d_R_event_26 ?_
      refine aw_topi (v' := k_st (s_car S j)) (e_st) ?_
      refine aw_callS C I (as := [.int e, .int (k_st (s_car S j))]) (rest := []) (r_leads l G ad ce e (k_st (s_car S j))) g_R_84 ⟨by decide, by decide⟩ ⟨by decide, by decide⟩ rfl (Nat.le_of_ble_eq_true rfl) d_R_event_27 ?_
      rintro _ _ _ ⟨rfl, rfl, rfl⟩
      show AW X 4 0 0 ad ce 30 [(0, .ref (ad (3, 0, 0))), (1, .int (nI j)), (2, .int e), (3, .int p)] [.int (evTo e (k_st (s_car S j)))]
      refine aw_if_ge C (tgt := 35) d_R_event_30 (by decide) (fun h30 => ?_) (fun h30 => absurd (hc.2) h30)
      refine aw_aload_n C d_R_event_35 rfl (j := 0) rfl ?_
      refine aw_get C F_R r0 4 (by decide) tw_303 rfl d_R_event_36 ?_
      refine aw_iload_n C d_R_event_39 rfl (j := 1) rfl ?_
      refine aw_iload_n C d_R_event_40 rfl (j := 2) rfl ?_
      refine aw_aload_n C d_R_event_41 rfl (j := 0) rfl ?_
      refine aw_get C F_R r0 4 (by decide) tw_303 rfl d_R_event_42 ?_
      refine aw_iload_n C d_R_event_45 rfl (j := 1) rfl ?_
      refine ar_iald C r4 (j := j) (rfl) (by omega) (by omega) d_R_event_46 ?_
      refine aw_topi (v' := k_st (s_car S j)) (e_st) ?_
      refine aw_callS C I (as := [.int e, .int (k_st (s_car S j))]) (rest := [.int (nI j), .ref (ad (3, 0, 4))]) (r_leads l G ad ce e (k_st (s_car S j))) g_R_84 ⟨by decide, by decide⟩ ⟨by decide, by decide⟩ rfl (Nat.le_of_ble_eq_true rfl) d_R_event_47 ?_
      rintro _ _ _ ⟨rfl, rfl, rfl⟩
      show AW X 4 0 0 ad ce 50 [(0, .ref (ad (3, 0, 0))), (1, .int (nI j)), (2, .int e), (3, .int p)] [.int (evTo e (k_st (s_car S j))), .int (nI j), .ref (ad (3, 0, 4))]
      refine ar_iast C r4 (j := j) (rfl) (by omega) (by omega) d_R_event_50 ?_
      intro ce11 fw11 r4
      have r0 : ce11 (3, 0, 0) = some (.inr (3, [.int (nI (s_cn S)), .ref (ad (3, 0, 1)), .ref (ad (3, 0, 2)), .ref (ad (3, 0, 3)), .ref (ad (3, 0, 4)), .ref (ad (3, 0, 5)), .ref (ad (3, 0, 6)), .ref (ad (3, 0, 7)), .ref (ad (3, 0, 8)), .ref (ad (3, 0, 9)), .ref (ad (3, 0, 10)), .ref (ad (3, 0, 11)), .ref (ad (3, 0, 12)), .int (nI (s_pn S)), .ref (ad (3, 0, 14)), .ref (ad (3, 0, 15)), .int (nI (s_ln S)), .ref (ad (3, 0, 17)), .int (nI (s_on S)), .ref (ad (3, 0, 19))])) := (fw11 _ (by simp)).trans r0
      have r1 := r1.tr (fw11 _ (by simp))
      have r2 := r2.tr (fw11 _ (by simp))
      have r3 := r3.tr (fw11 _ (by simp))
      have r5 := r5.tr (fw11 _ (by simp))
      have r6 := r6.tr (fw11 _ (by simp))
      have r7 := r7.tr (fw11 _ (by simp))
      have r8 := r8.tr (fw11 _ (by simp))
      have r9 := r9.tr (fw11 _ (by simp))
      have r10 := r10.tr (fw11 _ (by simp))
      have r11 := r11.tr (fw11 _ (by simp))
      have r12 := r12.tr (fw11 _ (by simp))
      have r14 := r14.tr (fw11 _ (by simp))
      have r15 := r15.tr (fw11 _ (by simp))
      have r17 := r17.tr (fw11 _ (by simp))
      have r19 := r19.tr (fw11 _ (by simp))
      refine aw_aload_n C d_R_event_51 rfl (j := 0) rfl ?_
      refine aw_get C F_R r0 5 (by decide) tw_304 rfl d_R_event_52 ?_
      refine aw_iload_n C d_R_event_55 rfl (j := 1) rfl ?_
      refine aw_iload_n C d_R_event_56 rfl (j := 3) rfl ?_
      refine ar_iast C r5 (j := j) (rfl) (by omega) (by omega) d_R_event_57 ?_
      intro ce12 fw12 r5
      have r0 : ce12 (3, 0, 0) = some (.inr (3, [.int (nI (s_cn S)), .ref (ad (3, 0, 1)), .ref (ad (3, 0, 2)), .ref (ad (3, 0, 3)), .ref (ad (3, 0, 4)), .ref (ad (3, 0, 5)), .ref (ad (3, 0, 6)), .ref (ad (3, 0, 7)), .ref (ad (3, 0, 8)), .ref (ad (3, 0, 9)), .ref (ad (3, 0, 10)), .ref (ad (3, 0, 11)), .ref (ad (3, 0, 12)), .int (nI (s_pn S)), .ref (ad (3, 0, 14)), .ref (ad (3, 0, 15)), .int (nI (s_ln S)), .ref (ad (3, 0, 17)), .int (nI (s_on S)), .ref (ad (3, 0, 19))])) := (fw12 _ (by simp)).trans r0
      have r1 := r1.tr (fw12 _ (by simp))
      have r2 := r2.tr (fw12 _ (by simp))
      have r3 := r3.tr (fw12 _ (by simp))
      have r4 := r4.tr (fw12 _ (by simp))
      have r6 := r6.tr (fw12 _ (by simp))
      have r7 := r7.tr (fw12 _ (by simp))
      have r8 := r8.tr (fw12 _ (by simp))
      have r9 := r9.tr (fw12 _ (by simp))
      have r10 := r10.tr (fw12 _ (by simp))
      have r11 := r11.tr (fw12 _ (by simp))
      have r12 := r12.tr (fw12 _ (by simp))
      have r14 := r14.tr (fw12 _ (by simp))
      have r15 := r15.tr (fw12 _ (by simp))
      have r17 := r17.tr (fw12 _ (by simp))
      have r19 := r19.tr (fw12 _ (by simp))
      refine aw_iload_n C d_R_event_58 rfl (j := 2) rfl ?_
      refine aw_iconst C (v := 3) d_R_event_59 (by decide) ?_
      refine aw_icmp_ne C (tgt := 75) d_R_event_60 (by decide) (fun h60 => ?_) (fun h60 => ?_)
      · refine aw_iconst C (v := 1) d_R_event_75 (by decide) ?_
        refine aw_iret C E (rfl) (by decide) (by decide) d_R_event_76 ?_
        have ee : k_ev (s_car S j) e p = k_sLa (k_sSt (s_car S j) (evTo e (k_st (s_car S j)))) p := by simp [k_ev, h60]
        rw [show f_event S (nI j) e p = (1, s_set S j (k_sLa (k_sSt (s_car S j) (evTo e (k_st (s_car S j)))) p)) from by simp only [f_event, ix_in hj (show s_cn S < 2 ^ 31 by omega), if_pos hc, ee]]
        exact ⟨rfl, rfl, (fr3 fw11).trans (fr3 fw12), _, _, _, _, _, _, _, _, _, _, _, _, _, _, ⟨r0, r1, r2, r3, r4, r5, r6, r7, r8, r9, r10, r11, r12, r14, r15, r17, r19⟩, hE.set hW hj (k_sLa (k_sSt (s_car S j) (evTo e (k_st (s_car S j)))) p) rfl rfl rfl (fun i _ => ifu rfl) (fun i _ => ifu rfl) (fun i _ => ifs e_un) (fun i _ => ifs e_ps) ⟨fun k hk => (hE2 j k hj hk).1, fun _ _ => rfl⟩ ⟨fun k hk => (hE2 j k hj hk).2.1, fun _ _ => rfl⟩ ⟨fun k hk => (hE2 j k hj hk).2.2.1, fun _ _ => rfl⟩ ⟨fun k hk => (hE2 j k hj hk).2.2.2, fun _ _ => rfl⟩ ⟨fun k hk => hE4 j k hj hk, fun _ _ => rfl⟩, hW.set ⟨hn1, hn2⟩ hps⟩
      · refine aw_aload_n C d_R_event_63 rfl (j := 0) rfl ?_
        refine aw_get C F_R r0 11 (by decide) tw_310 rfl d_R_event_64 ?_
        refine aw_iload_n C d_R_event_67 rfl (j := 1) rfl ?_
        refine aw_iconst C (v := 0) d_R_event_68 (by decide) ?_
        refine ar_iast C r11 (j := j) (rfl) (by omega) (by omega) d_R_event_69 ?_
        intro ce13 fw13 r11
        have r0 : ce13 (3, 0, 0) = some (.inr (3, [.int (nI (s_cn S)), .ref (ad (3, 0, 1)), .ref (ad (3, 0, 2)), .ref (ad (3, 0, 3)), .ref (ad (3, 0, 4)), .ref (ad (3, 0, 5)), .ref (ad (3, 0, 6)), .ref (ad (3, 0, 7)), .ref (ad (3, 0, 8)), .ref (ad (3, 0, 9)), .ref (ad (3, 0, 10)), .ref (ad (3, 0, 11)), .ref (ad (3, 0, 12)), .int (nI (s_pn S)), .ref (ad (3, 0, 14)), .ref (ad (3, 0, 15)), .int (nI (s_ln S)), .ref (ad (3, 0, 17)), .int (nI (s_on S)), .ref (ad (3, 0, 19))])) := (fw13 _ (by simp)).trans r0
        have r1 := r1.tr (fw13 _ (by simp))
        have r2 := r2.tr (fw13 _ (by simp))
        have r3 := r3.tr (fw13 _ (by simp))
        have r4 := r4.tr (fw13 _ (by simp))
        have r5 := r5.tr (fw13 _ (by simp))
        have r6 := r6.tr (fw13 _ (by simp))
        have r7 := r7.tr (fw13 _ (by simp))
        have r8 := r8.tr (fw13 _ (by simp))
        have r9 := r9.tr (fw13 _ (by simp))
        have r10 := r10.tr (fw13 _ (by simp))
        have r12 := r12.tr (fw13 _ (by simp))
        have r14 := r14.tr (fw13 _ (by simp))
        have r15 := r15.tr (fw13 _ (by simp))
        have r17 := r17.tr (fw13 _ (by simp))
        have r19 := r19.tr (fw13 _ (by simp))
        refine aw_aload_n C d_R_event_70 rfl (j := 0) rfl ?_
        refine aw_iload_n C d_R_event_71 rfl (j := 1) rfl ?_
        refine aw_callV C I (k := (3, 0, 0)) (as := [.int (nI j)]) (rest := []) (r_forget l G ad ce13 (s_cn S) (s_pn S) (s_ln S) (s_on S) kd sr np (upd st j (evTo e (k_st (s_car S j)))) (upd la j p) gby gdu gwo grd un (upd ps j 0) gpt gff gfc (s_li S) (s_lo S) ⟨r0, r1, r2, r3, r4, r5, r6, r7, r8, r9, r10, r11, r12, r14, r15, r17, r19⟩ j (by omega)) g_R_88 r0 rfl rfl ⟨by decide, by decide⟩ ⟨by decide, by decide⟩ rfl (Nat.le_of_ble_eq_true rfl) d_R_event_72 ?_
        rintro _ _ ce9 ⟨rfl, rfl, hf9, g, ⟨r0, r1, r2, r3, r4, r5, r6, r7, r8, r9, r10, r11, r12, r14, r15, r17, r19⟩, hg0, hgq⟩
        have r0 : ce9 (3, 0, 0) = some (.inr (3, [.int (nI (s_cn S)), .ref (ad (3, 0, 1)), .ref (ad (3, 0, 2)), .ref (ad (3, 0, 3)), .ref (ad (3, 0, 4)), .ref (ad (3, 0, 5)), .ref (ad (3, 0, 6)), .ref (ad (3, 0, 7)), .ref (ad (3, 0, 8)), .ref (ad (3, 0, 9)), .ref (ad (3, 0, 10)), .ref (ad (3, 0, 11)), .ref (ad (3, 0, 12)), .int (nI (s_pn S)), .ref (ad (3, 0, 14)), .ref (ad (3, 0, 15)), .int (nI (s_ln S)), .ref (ad (3, 0, 17)), .int (nI (s_on S)), .ref (ad (3, 0, 19))])) := r0
        have r1 : arI ce9 (3, 0, 1) 0 10 kd := r1
        have r2 : arJ ce9 (3, 0, 2) 10 sr := r2
        have r3 : arI ce9 (3, 0, 3) 0 10 np := r3
        have r4 : arI ce9 (3, 0, 4) 0 10 (upd st j (evTo e (k_st (s_car S j)))) := r4
        have r5 : arI ce9 (3, 0, 5) 0 10 (upd la j p) := r5
        have r6 : arI ce9 (3, 0, 6) 0 640 gby := r6
        have r7 : arI ce9 (3, 0, 7) 0 640 gdu := r7
        have r8 : arI ce9 (3, 0, 8) 1 640 gwo := r8
        have r9 : arI ce9 (3, 0, 9) 1 640 g := r9
        have r10 : arI ce9 (3, 0, 10) 0 10 (upd un j 0) := r10
        have r11 : arI ce9 (3, 0, 11) 0 10 (upd ps j 0) := r11
        have r12 : arI ce9 (3, 0, 12) 0 60 gpt := r12
        have r14 : arI ce9 (3, 0, 14) 0 240 gff := r14
        have r15 : arI ce9 (3, 0, 15) 0 20 gfc := r15
        have r17 : arJ ce9 (3, 0, 17) 20 (s_li S) := r17
        have r19 : arI ce9 (3, 0, 19) 0 10 (s_lo S) := r19
        show AW X 4 0 0 ad ce9 75 [(0, .ref (ad (3, 0, 0))), (1, .int (nI j)), (2, .int e), (3, .int p)] []
        refine aw_iconst C (v := 1) d_R_event_75 (by decide) ?_
        refine aw_iret C E (rfl) (by decide) (by decide) d_R_event_76 ?_
        have ee : k_ev (s_car S j) e p = k_sLa (k_sSt (k_sNp (s_car S j)) (evTo e (k_st (s_car S j)))) p := by simp [k_ev, h60]
        rw [show f_event S (nI j) e p = (1, s_set S j (k_sLa (k_sSt (k_sNp (s_car S j)) (evTo e (k_st (s_car S j)))) p)) from by simp only [f_event, ix_in hj (show s_cn S < 2 ^ 31 by omega), if_pos hc, ee]]
        exact ⟨rfl, rfl, (((fr3 fw11).trans (fr3 fw12)).trans (fr3 fw13)).trans (hf9), _, _, _, _, _, _, _, _, _, _, _, _, _, _, ⟨r0, r1, r2, r3, r4, r5, r6, r7, r8, r9, r10, r11, r12, r14, r15, r17, r19⟩, hE.set hW hj (k_sLa (k_sSt (k_sNp (s_car S j)) (evTo e (k_st (s_car S j)))) p) rfl rfl rfl (fun i _ => ifu rfl) (fun i _ => ifu rfl) (fun i _ => ifu rfl) (fun i _ => ifu nI_0.symm) ⟨fun k hk => (hE2 j k hj hk).1, fun _ _ => rfl⟩ ⟨fun k hk => (hE2 j k hj hk).2.1, fun _ _ => rfl⟩ ⟨fun k hk => (hE2 j k hj hk).2.2.1, fun _ _ => rfl⟩ ⟨fun k hk => hg0 k (by have : k < k_np (s_car S j) := hk; omega), hgq⟩ ⟨fun k hk => absurd hk (Nat.not_lt_zero _), fun _ _ => rfl⟩, hW.set ⟨hn1, hn2⟩ (Nat.zero_le 6)⟩
    by_cases h1 : 0 ≤ p ∧ p ≤ 9
    · skip
      show AW X 4 0 0 ad ce 0 [(0, .ref (ad (3, 0, 0))), (1, .int (nI j)), (2, .int e), (3, .int p)] []
      refine aw_aload_n C d_R_event_0 rfl (j := 0) rfl ?_
      refine aw_iload_n C d_R_event_1 rfl (j := 1) rfl ?_
      refine aw_callV C I (k := (3, 0, 0)) (as := [.int (nI j)]) (rest := []) (r_isCarrier l G ad ce (s_cn S) (s_pn S) (s_ln S) (s_on S) kd sr np st la gby gdu gwo grd un ps gpt gff gfc (s_li S) (s_lo S) hR (nI j)) g_R_64 r0 rfl rfl ⟨by decide, by decide⟩ ⟨by decide, by decide⟩ rfl (Nat.le_of_ble_eq_true rfl) d_R_event_2 ?_
      rintro _ _ _ ⟨rfl, rfl, rfl⟩
      show AW X 4 0 0 ad ce 5 [(0, .ref (ad (3, 0, 0))), (1, .int (nI j)), (2, .int e), (3, .int p)] [.int (bI (decide (0 ≤ nI j ∧ nI j < nI (s_cn S))))]
      refine aw_topi (v' := 1) ((bI_t ⟨nI_pos' (by omega), nI_lt (by omega) (by omega)⟩).symm) ?_
      show AW X 4 0 0 ad ce 5 [(0, .ref (ad (3, 0, 0))), (1, .int (nI j)), (2, .int e), (3, .int p)] [.int 1]
      refine aw_if_eq C (tgt := 33) d_R_event_5 (by decide) (fun h5 => absurd h5 (by decide)) (fun h5 => ?_)
      refine aw_iload_n C d_R_event_8 rfl (j := 3) rfl ?_
      refine aw_i2l C d_R_event_9 ?_
      refine aw_lconst C (v := 0) d_R_event_10 (by decide) ?_
      refine aw_ldc2 C tw_386 d_R_event_11 ?_
      refine aw_callS C I (as := [.long (Int32.toInt64 p), .long 0, .long 9]) (rest := []) (r_isIn l G ad ce (Int32.toInt64 p) 0 9) g_R_70 ⟨by decide, by decide⟩ ⟨by decide, by decide⟩ rfl (Nat.le_of_ble_eq_true rfl) d_R_event_14 ?_
      rintro _ _ _ ⟨rfl, rfl, rfl⟩
      show AW X 4 0 0 ad ce 17 [(0, .ref (ad (3, 0, 0))), (1, .int (nI j)), (2, .int e), (3, .int p)] [.int (bI (decide (0 ≤ Int32.toInt64 p ∧ Int32.toInt64 p ≤ 9)))]
      refine aw_topi (v' := 1) ((bI_t ((in32 rfl rfl).mpr h1)).symm) ?_
      show AW X 4 0 0 ad ce 17 [(0, .ref (ad (3, 0, 0))), (1, .int (nI j)), (2, .int e), (3, .int p)] [.int 1]
      refine aw_if_eq C (tgt := 33) d_R_event_17 (by decide) (fun h17 => absurd h17 (by decide)) (fun h17 => ?_)
      refine aw_iload_n C d_R_event_20 rfl (j := 2) rfl ?_
      refine aw_aload_n C d_R_event_21 rfl (j := 0) rfl ?_
      refine aw_get C F_R r0 4 (by decide) tw_303 rfl d_R_event_22 ?_
      refine aw_iload_n C d_R_event_25 rfl (j := 1) rfl ?_
      refine ar_iald C r4 (j := j) (rfl) (by omega) (by omega) d_R_event_26 ?_
      refine aw_topi (v' := k_st (s_car S j)) (e_st) ?_
      refine aw_callS C I (as := [.int e, .int (k_st (s_car S j))]) (rest := []) (r_leads l G ad ce e (k_st (s_car S j))) g_R_84 ⟨by decide, by decide⟩ ⟨by decide, by decide⟩ rfl (Nat.le_of_ble_eq_true rfl) d_R_event_27 ?_
      rintro _ _ _ ⟨rfl, rfl, rfl⟩
      show AW X 4 0 0 ad ce 30 [(0, .ref (ad (3, 0, 0))), (1, .int (nI j)), (2, .int e), (3, .int p)] [.int (evTo e (k_st (s_car S j)))]
      refine aw_if_ge C (tgt := 35) d_R_event_30 (by decide) (fun h30 => absurd h30 (fun q => hc ⟨h1, q⟩)) (fun h30 => ?_)
      refine aw_iconst C (v := 0) d_R_event_33 (by decide) ?_
      refine aw_iret C E (rfl) (by decide) (by decide) d_R_event_34 ?_
      rw [show f_event S (nI j) e p = (0, S) from by simp only [f_event, ix_in hj (show s_cn S < 2 ^ 31 by omega), if_neg hc]]
      exact ⟨rfl, rfl, frR.rf, ⟨kd, sr, np, st, la, gby, gdu, gwo, grd, un, ps, gpt, gff, gfc, hR, hE, hW⟩⟩
    · skip
      show AW X 4 0 0 ad ce 0 [(0, .ref (ad (3, 0, 0))), (1, .int (nI j)), (2, .int e), (3, .int p)] []
      refine aw_aload_n C d_R_event_0 rfl (j := 0) rfl ?_
      refine aw_iload_n C d_R_event_1 rfl (j := 1) rfl ?_
      refine aw_callV C I (k := (3, 0, 0)) (as := [.int (nI j)]) (rest := []) (r_isCarrier l G ad ce (s_cn S) (s_pn S) (s_ln S) (s_on S) kd sr np st la gby gdu gwo grd un ps gpt gff gfc (s_li S) (s_lo S) hR (nI j)) g_R_64 r0 rfl rfl ⟨by decide, by decide⟩ ⟨by decide, by decide⟩ rfl (Nat.le_of_ble_eq_true rfl) d_R_event_2 ?_
      rintro _ _ _ ⟨rfl, rfl, rfl⟩
      show AW X 4 0 0 ad ce 5 [(0, .ref (ad (3, 0, 0))), (1, .int (nI j)), (2, .int e), (3, .int p)] [.int (bI (decide (0 ≤ nI j ∧ nI j < nI (s_cn S))))]
      refine aw_topi (v' := 1) ((bI_t ⟨nI_pos' (by omega), nI_lt (by omega) (by omega)⟩).symm) ?_
      show AW X 4 0 0 ad ce 5 [(0, .ref (ad (3, 0, 0))), (1, .int (nI j)), (2, .int e), (3, .int p)] [.int 1]
      refine aw_if_eq C (tgt := 33) d_R_event_5 (by decide) (fun h5 => absurd h5 (by decide)) (fun h5 => ?_)
      refine aw_iload_n C d_R_event_8 rfl (j := 3) rfl ?_
      refine aw_i2l C d_R_event_9 ?_
      refine aw_lconst C (v := 0) d_R_event_10 (by decide) ?_
      refine aw_ldc2 C tw_386 d_R_event_11 ?_
      refine aw_callS C I (as := [.long (Int32.toInt64 p), .long 0, .long 9]) (rest := []) (r_isIn l G ad ce (Int32.toInt64 p) 0 9) g_R_70 ⟨by decide, by decide⟩ ⟨by decide, by decide⟩ rfl (Nat.le_of_ble_eq_true rfl) d_R_event_14 ?_
      rintro _ _ _ ⟨rfl, rfl, rfl⟩
      show AW X 4 0 0 ad ce 17 [(0, .ref (ad (3, 0, 0))), (1, .int (nI j)), (2, .int e), (3, .int p)] [.int (bI (decide (0 ≤ Int32.toInt64 p ∧ Int32.toInt64 p ≤ 9)))]
      refine aw_topi (v' := 0) ((bI_f (fun q => h1 ((in32 rfl rfl).mp q))).symm) ?_
      show AW X 4 0 0 ad ce 17 [(0, .ref (ad (3, 0, 0))), (1, .int (nI j)), (2, .int e), (3, .int p)] [.int 0]
      refine aw_if_eq C (tgt := 33) d_R_event_17 (by decide) (fun h17 => ?_) (fun h17 => absurd (rfl) h17)
      refine aw_iconst C (v := 0) d_R_event_33 (by decide) ?_
      refine aw_iret C E (rfl) (by decide) (by decide) d_R_event_34 ?_
      rw [show f_event S (nI j) e p = (0, S) from by simp only [f_event, ix_in hj (show s_cn S < 2 ^ 31 by omega), if_neg hc]]
      exact ⟨rfl, rfl, frR.rf, ⟨kd, sr, np, st, la, gby, gdu, gwo, grd, un, ps, gpt, gff, gfc, hR, hE, hW⟩⟩
theorem m256 : ∀ n, n < 64 → (7 * nI n + 3) - (7 * nI n + 3) / 256 * 256 = (7 * nI n + 3) &&& (255 : Int32) := by decide +kernel
theorem x255 : ∀ n, n < 256 → (255 : Int32) - nI n = nI n ^^^ 255 := by decide +kernel
set_option maxRecDepth 100000 in
set_option maxHeartbeats 4000000 in
theorem R_pass (l : Launch) (G : aw_G) (ad : aw_Ad) (ce : aw_He) (S : SysS) (hS : LayR S ad ce) (hB : ∀ i k, i < s_cn S → k < k_np (s_car S i) → ∃ n : Nat, n < 256 ∧ k_by (s_car S i) k = nI n) (x p : Int32) : CT l G M_R_pass 1 25 0 0 [.ref (ad (3, 0, 0)), .int x, .int p] ad ce (rR (some (.int (f_pass S x p).1)) (f_pass S x p).2 ad ce) := by
  refine CT.of (by decide) (Nat.le_of_ble_eq_true rfl) ?_
  intro X C I E
  obtain ⟨kd, sr, np, st, la, gby, gdu, gwo, grd, un, ps, gpt, gff, gfc, hR, hE, hW⟩ := hS
  have hE0 := hE
  obtain ⟨hE1, hE2, hE3, hE4, hE5, hE6, hE7⟩ := hE0
  have hW0 := hW
  obtain ⟨⟨hb1, hb2, hb3, hb4⟩, hW2, hW3⟩ := hW0
  have hR0 := hR
  obtain ⟨r0, r1, r2, r3, r4, r5, r6, r7, r8, r9, r10, r11, r12, r14, r15, r17, r19⟩ := hR0
  rcases ix_cases x (n := s_cn S) (by omega) with hx | ⟨j, hj, rfl⟩
  · skip
    show AW X 5 0 0 ad ce 0 [(0, .ref (ad (3, 0, 0))), (1, .int x), (2, .int p)] []
    refine aw_aload_n C d_R_pass_0 rfl (j := 0) rfl ?_
    refine aw_iload_n C d_R_pass_1 rfl (j := 1) rfl ?_
    refine aw_callV C I (k := (3, 0, 0)) (as := [.int x]) (rest := []) (r_isCarrier l G ad ce (s_cn S) (s_pn S) (s_ln S) (s_on S) kd sr np st la gby gdu gwo grd un ps gpt gff gfc (s_li S) (s_lo S) hR x) g_R_64 r0 rfl rfl ⟨by decide, by decide⟩ ⟨by decide, by decide⟩ rfl (Nat.le_of_ble_eq_true rfl) d_R_pass_2 ?_
    rintro _ _ _ ⟨rfl, rfl, rfl⟩
    show AW X 5 0 0 ad ce 5 [(0, .ref (ad (3, 0, 0))), (1, .int x), (2, .int p)] [.int (bI (decide (0 ≤ x ∧ x < nI (s_cn S))))]
    refine aw_topi (v' := 0) ((bI_f (by (try simp only [Int32.le_iff_toInt_le, Int32.lt_iff_toInt_lt] at hx ⊢); omega)).symm) ?_
    show AW X 5 0 0 ad ce 5 [(0, .ref (ad (3, 0, 0))), (1, .int x), (2, .int p)] [.int 0]
    refine aw_if_eq C (tgt := 41) d_R_pass_5 (by decide) (fun h5 => ?_) (fun h5 => absurd (rfl) h5)
    refine aw_iconst C (v := (-1)) d_R_pass_41 (by decide) ?_
    refine aw_iret C E (rfl) (by decide) (by decide) d_R_pass_42 ?_
    rw [show f_pass S x p = (-1, S) from by simp only [f_pass, ix_out hx]]
    exact ⟨rfl, rfl, frR.rf, ⟨kd, sr, np, st, la, gby, gdu, gwo, grd, un, ps, gpt, gff, gfc, hR, hE, hW⟩⟩
  · skip
    obtain ⟨e_kd, e_sr, e_np, e_st, e_la, e_un, e_ps⟩ := hE1 j (by omega)
    obtain ⟨⟨hn1, hn2⟩, hps⟩ := hW2 j hj
    by_cases hc : (0 ≤ p ∧ p ≤ 257) ∧ k_st (s_car S j) = 2 ∧ k_ps (s_car S j) < 6
    · have hps6 := hc.2.2
      show AW X 5 0 0 ad ce 0 [(0, .ref (ad (3, 0, 0))), (1, .int (nI j)), (2, .int p)] []
      refine aw_aload_n C d_R_pass_0 rfl (j := 0) rfl ?_
      refine aw_iload_n C d_R_pass_1 rfl (j := 1) rfl ?_
      refine aw_callV C I (k := (3, 0, 0)) (as := [.int (nI j)]) (rest := []) (r_isCarrier l G ad ce (s_cn S) (s_pn S) (s_ln S) (s_on S) kd sr np st la gby gdu gwo grd un ps gpt gff gfc (s_li S) (s_lo S) hR (nI j)) g_R_64 r0 rfl rfl ⟨by decide, by decide⟩ ⟨by decide, by decide⟩ rfl (Nat.le_of_ble_eq_true rfl) d_R_pass_2 ?_
      rintro _ _ _ ⟨rfl, rfl, rfl⟩
      show AW X 5 0 0 ad ce 5 [(0, .ref (ad (3, 0, 0))), (1, .int (nI j)), (2, .int p)] [.int (bI (decide (0 ≤ nI j ∧ nI j < nI (s_cn S))))]
      refine aw_topi (v' := 1) ((bI_t ⟨nI_pos' (by omega), nI_lt (by omega) (by omega)⟩).symm) ?_
      show AW X 5 0 0 ad ce 5 [(0, .ref (ad (3, 0, 0))), (1, .int (nI j)), (2, .int p)] [.int 1]
      refine aw_if_eq C (tgt := 41) d_R_pass_5 (by decide) (fun h5 => absurd h5 (by decide)) (fun h5 => ?_)
      refine aw_iload_n C d_R_pass_8 rfl (j := 2) rfl ?_
      refine aw_i2l C d_R_pass_9 ?_
      refine aw_lconst C (v := 0) d_R_pass_10 (by decide) ?_
      refine aw_ldc2 C tw_418 d_R_pass_11 ?_
      refine aw_callS C I (as := [.long (Int32.toInt64 p), .long 0, .long 257]) (rest := []) (r_isIn l G ad ce (Int32.toInt64 p) 0 257) g_R_70 ⟨by decide, by decide⟩ ⟨by decide, by decide⟩ rfl (Nat.le_of_ble_eq_true rfl) d_R_pass_14 ?_
      rintro _ _ _ ⟨rfl, rfl, rfl⟩
      show AW X 5 0 0 ad ce 17 [(0, .ref (ad (3, 0, 0))), (1, .int (nI j)), (2, .int p)] [.int (bI (decide (0 ≤ Int32.toInt64 p ∧ Int32.toInt64 p ≤ 257)))]
      refine aw_topi (v' := 1) ((bI_t ((in32 rfl rfl).mpr hc.1)).symm) ?_
      show AW X 5 0 0 ad ce 17 [(0, .ref (ad (3, 0, 0))), (1, .int (nI j)), (2, .int p)] [.int 1]
      refine aw_if_eq C (tgt := 41) d_R_pass_17 (by decide) (fun h17 => absurd h17 (by decide)) (fun h17 => ?_)
      refine aw_aload_n C d_R_pass_20 rfl (j := 0) rfl ?_
      refine aw_get C F_R r0 4 (by decide) tw_303 rfl d_R_pass_21 ?_
      refine aw_iload_n C d_R_pass_24 rfl (j := 1) rfl ?_
      refine ar_iald C r4 (j := j) (rfl) (by omega) (by omega) d_R_pass_25 ?_
      refine aw_topi (v' := k_st (s_car S j)) (e_st) ?_
      refine aw_iconst C (v := 2) d_R_pass_26 (by decide) ?_
      refine aw_icmp_ne C (tgt := 41) d_R_pass_27 (by decide) (fun h27 => absurd h27 (fun q => q hc.2.1)) (fun h27 => ?_)
      refine aw_aload_n C d_R_pass_30 rfl (j := 0) rfl ?_
      refine aw_get C F_R r0 11 (by decide) tw_310 rfl d_R_pass_31 ?_
      refine aw_iload_n C d_R_pass_34 rfl (j := 1) rfl ?_
      refine ar_iald C r11 (j := j) (rfl) (by omega) (by omega) d_R_pass_35 ?_
      refine aw_topi (v' := nI (k_ps (s_car S j))) (e_ps) ?_
      refine aw_bipush C (v := 6) d_R_pass_36 (by decide) ?_
      refine aw_icmp_ne C (tgt := 43) d_R_pass_38 (by decide) (fun h38 => ?_) (fun h38 => absurd h38 (fun q => absurd ((nI_eq (b := 6) (by omega) (by omega)).mp q) (by omega)))
      refine aw_aload_n C d_R_pass_43 rfl (j := 0) rfl ?_
      refine aw_get C F_R r0 12 (by decide) tw_311 rfl d_R_pass_44 ?_
      refine aw_bipush C (v := 6) d_R_pass_47 (by decide) ?_
      refine aw_iload_n C d_R_pass_49 rfl (j := 1) rfl ?_
      refine aw_imul C d_R_pass_50 ?_
      refine aw_aload_n C d_R_pass_51 rfl (j := 0) rfl ?_
      refine aw_get C F_R r0 11 (by decide) tw_310 rfl d_R_pass_52 ?_
      refine aw_iload_n C d_R_pass_55 rfl (j := 1) rfl ?_
      refine ar_iald C r11 (j := j) (rfl) (by omega) (by omega) d_R_pass_56 ?_
      refine aw_topi (v' := nI (k_ps (s_car S j))) (e_ps) ?_
      refine aw_iadd C d_R_pass_57 ?_
      refine aw_topi (v' := nI (6 * j + k_ps (s_car S j))) (k6 _ _) ?_
      refine aw_iload_n C d_R_pass_58 rfl (j := 2) rfl ?_
      refine ar_iast C r12 (j := (6 * j + k_ps (s_car S j))) (rfl) (by omega) (by omega) d_R_pass_59 ?_
      intro ce14 fw14 r12
      have r0 : ce14 (3, 0, 0) = some (.inr (3, [.int (nI (s_cn S)), .ref (ad (3, 0, 1)), .ref (ad (3, 0, 2)), .ref (ad (3, 0, 3)), .ref (ad (3, 0, 4)), .ref (ad (3, 0, 5)), .ref (ad (3, 0, 6)), .ref (ad (3, 0, 7)), .ref (ad (3, 0, 8)), .ref (ad (3, 0, 9)), .ref (ad (3, 0, 10)), .ref (ad (3, 0, 11)), .ref (ad (3, 0, 12)), .int (nI (s_pn S)), .ref (ad (3, 0, 14)), .ref (ad (3, 0, 15)), .int (nI (s_ln S)), .ref (ad (3, 0, 17)), .int (nI (s_on S)), .ref (ad (3, 0, 19))])) := (fw14 _ (by simp)).trans r0
      have r1 := r1.tr (fw14 _ (by simp))
      have r2 := r2.tr (fw14 _ (by simp))
      have r3 := r3.tr (fw14 _ (by simp))
      have r4 := r4.tr (fw14 _ (by simp))
      have r5 := r5.tr (fw14 _ (by simp))
      have r6 := r6.tr (fw14 _ (by simp))
      have r7 := r7.tr (fw14 _ (by simp))
      have r8 := r8.tr (fw14 _ (by simp))
      have r9 := r9.tr (fw14 _ (by simp))
      have r10 := r10.tr (fw14 _ (by simp))
      have r11 := r11.tr (fw14 _ (by simp))
      have r14 := r14.tr (fw14 _ (by simp))
      have r15 := r15.tr (fw14 _ (by simp))
      have r17 := r17.tr (fw14 _ (by simp))
      have r19 := r19.tr (fw14 _ (by simp))
      refine aw_aload_n C d_R_pass_60 rfl (j := 0) rfl ?_
      refine aw_get C F_R r0 11 (by decide) tw_310 rfl d_R_pass_61 ?_
      refine aw_iload_n C d_R_pass_64 rfl (j := 1) rfl ?_
      refine aw_dup2_11 C d_R_pass_65 rfl rfl ?_
      refine ar_iald C r11 (j := j) (rfl) (by omega) (by omega) d_R_pass_66 ?_
      refine aw_topi (v' := nI (k_ps (s_car S j))) (e_ps) ?_
      refine aw_iconst C (v := 1) d_R_pass_67 (by decide) ?_
      refine aw_iadd C d_R_pass_68 ?_
      refine aw_topi (v' := nI (k_ps (s_car S j) + 1)) (nI_1 _) ?_
      refine ar_iast C r11 (j := j) (rfl) (by omega) (by omega) d_R_pass_69 ?_
      intro ce15 fw15 r11
      have r0 : ce15 (3, 0, 0) = some (.inr (3, [.int (nI (s_cn S)), .ref (ad (3, 0, 1)), .ref (ad (3, 0, 2)), .ref (ad (3, 0, 3)), .ref (ad (3, 0, 4)), .ref (ad (3, 0, 5)), .ref (ad (3, 0, 6)), .ref (ad (3, 0, 7)), .ref (ad (3, 0, 8)), .ref (ad (3, 0, 9)), .ref (ad (3, 0, 10)), .ref (ad (3, 0, 11)), .ref (ad (3, 0, 12)), .int (nI (s_pn S)), .ref (ad (3, 0, 14)), .ref (ad (3, 0, 15)), .int (nI (s_ln S)), .ref (ad (3, 0, 17)), .int (nI (s_on S)), .ref (ad (3, 0, 19))])) := (fw15 _ (by simp)).trans r0
      have r1 := r1.tr (fw15 _ (by simp))
      have r2 := r2.tr (fw15 _ (by simp))
      have r3 := r3.tr (fw15 _ (by simp))
      have r4 := r4.tr (fw15 _ (by simp))
      have r5 := r5.tr (fw15 _ (by simp))
      have r6 := r6.tr (fw15 _ (by simp))
      have r7 := r7.tr (fw15 _ (by simp))
      have r8 := r8.tr (fw15 _ (by simp))
      have r9 := r9.tr (fw15 _ (by simp))
      have r10 := r10.tr (fw15 _ (by simp))
      have r12 := r12.tr (fw15 _ (by simp))
      have r14 := r14.tr (fw15 _ (by simp))
      have r15 := r15.tr (fw15 _ (by simp))
      have r17 := r17.tr (fw15 _ (by simp))
      have r19 := r19.tr (fw15 _ (by simp))
      refine aw_aload_n C d_R_pass_70 rfl (j := 0) rfl ?_
      refine aw_iload_n C d_R_pass_71 rfl (j := 1) rfl ?_
      refine aw_callV C I (k := (3, 0, 0)) (as := [.int (nI j)]) (rest := []) (r_forget l G ad ce15 (s_cn S) (s_pn S) (s_ln S) (s_on S) kd sr np st la gby gdu gwo grd un (upd ps j (nI (k_ps (s_car S j) + 1))) (upd gpt (6 * j + k_ps (s_car S j)) p) gff gfc (s_li S) (s_lo S) ⟨r0, r1, r2, r3, r4, r5, r6, r7, r8, r9, r10, r11, r12, r14, r15, r17, r19⟩ j (by omega)) g_R_88 r0 rfl rfl ⟨by decide, by decide⟩ ⟨by decide, by decide⟩ rfl (Nat.le_of_ble_eq_true rfl) d_R_pass_72 ?_
      rintro _ _ ce9 ⟨rfl, rfl, hf9, g, ⟨r0, r1, r2, r3, r4, r5, r6, r7, r8, r9, r10, r11, r12, r14, r15, r17, r19⟩, hg0, hgq⟩
      have r0 : ce9 (3, 0, 0) = some (.inr (3, [.int (nI (s_cn S)), .ref (ad (3, 0, 1)), .ref (ad (3, 0, 2)), .ref (ad (3, 0, 3)), .ref (ad (3, 0, 4)), .ref (ad (3, 0, 5)), .ref (ad (3, 0, 6)), .ref (ad (3, 0, 7)), .ref (ad (3, 0, 8)), .ref (ad (3, 0, 9)), .ref (ad (3, 0, 10)), .ref (ad (3, 0, 11)), .ref (ad (3, 0, 12)), .int (nI (s_pn S)), .ref (ad (3, 0, 14)), .ref (ad (3, 0, 15)), .int (nI (s_ln S)), .ref (ad (3, 0, 17)), .int (nI (s_on S)), .ref (ad (3, 0, 19))])) := r0
      have r1 : arI ce9 (3, 0, 1) 0 10 kd := r1
      have r2 : arJ ce9 (3, 0, 2) 10 sr := r2
      have r3 : arI ce9 (3, 0, 3) 0 10 np := r3
      have r4 : arI ce9 (3, 0, 4) 0 10 st := r4
      have r5 : arI ce9 (3, 0, 5) 0 10 la := r5
      have r6 : arI ce9 (3, 0, 6) 0 640 gby := r6
      have r7 : arI ce9 (3, 0, 7) 0 640 gdu := r7
      have r8 : arI ce9 (3, 0, 8) 1 640 gwo := r8
      have r9 : arI ce9 (3, 0, 9) 1 640 g := r9
      have r10 : arI ce9 (3, 0, 10) 0 10 (upd un j 0) := r10
      have r11 : arI ce9 (3, 0, 11) 0 10 (upd ps j (nI (k_ps (s_car S j) + 1))) := r11
      have r12 : arI ce9 (3, 0, 12) 0 60 (upd gpt (6 * j + k_ps (s_car S j)) p) := r12
      have r14 : arI ce9 (3, 0, 14) 0 240 gff := r14
      have r15 : arI ce9 (3, 0, 15) 0 20 gfc := r15
      have r17 : arJ ce9 (3, 0, 17) 20 (s_li S) := r17
      have r19 : arI ce9 (3, 0, 19) 0 10 (s_lo S) := r19
      show AW X 5 0 0 ad ce9 75 [(0, .ref (ad (3, 0, 0))), (1, .int (nI j)), (2, .int p)] []
      refine aw_iconst C (v := 0) d_R_pass_75 (by decide) ?_
      refine aw_istore_n C (lv' := [(3, .int 0), (0, .ref (ad (3, 0, 0))), (1, .int (nI j)), (2, .int p)]) d_R_pass_76 rfl (by decide) rfl ?_
      have HPT : (∀ k, k < k_ps (s_car S j) + 1 → upd gpt (6 * j + k_ps (s_car S j)) p (6 * j + k) = upd (k_pt (s_car S j)) (k_ps (s_car S j)) p k) ∧ ∀ q, (q < 6 * j ∨ 6 * j + 6 ≤ q) → upd gpt (6 * j + k_ps (s_car S j)) p q = gpt q := by
        refine ⟨fun k hk => ?_, fun q hq => updn (by omega)⟩
        by_cases e : k = k_ps (s_car S j)
        · subst e; simp [upd]
        · rw [updn (by omega), updn e]; exact hE4 j k hj (by omega)
      have loop : ∀ (m a : Nat) (cez : aw_He) (gb gd : Nat → Int32), a + m = k_np (s_car S j) → (∀ q, q ≠ (3, 0, 6) → q ≠ (3, 0, 7) → cez q = ce9 q) → arI cez (3, 0, 6) 0 640 gb → arI cez (3, 0, 7) 0 640 gd → (∀ k, k < a → gd (64 * j + k) = pB p k (k_by (s_car S j) k)) → (∀ q, (q < 64 * j ∨ 64 * j + 64 ≤ q) → gd q = gdu q) → (∀ k, k < k_np (s_car S j) → gb (64 * j + k) = if k < a then (if k_wo (s_car S j) k = 0 then pB p k (k_by (s_car S j) k) else k_by (s_car S j) k) else k_by (s_car S j) k) → (∀ q, (q < 64 * j ∨ 64 * j + 64 ≤ q) → gb q = gby q) → AW X 5 0 0 ad cez 77 [(3, .int (nI a)), (0, .ref (ad (3, 0, 0))), (1, .int (nI j)), (2, .int p)] [] := by
        intro m
        induction m with
        | zero =>
          intro a cez gb gd ha hfz r6 r7 hgd hgd2 hgb hgb2
          have r0 : cez (3, 0, 0) = some (.inr (3, [.int (nI (s_cn S)), .ref (ad (3, 0, 1)), .ref (ad (3, 0, 2)), .ref (ad (3, 0, 3)), .ref (ad (3, 0, 4)), .ref (ad (3, 0, 5)), .ref (ad (3, 0, 6)), .ref (ad (3, 0, 7)), .ref (ad (3, 0, 8)), .ref (ad (3, 0, 9)), .ref (ad (3, 0, 10)), .ref (ad (3, 0, 11)), .ref (ad (3, 0, 12)), .int (nI (s_pn S)), .ref (ad (3, 0, 14)), .ref (ad (3, 0, 15)), .int (nI (s_ln S)), .ref (ad (3, 0, 17)), .int (nI (s_on S)), .ref (ad (3, 0, 19))])) := (hfz _ (by simp) (by simp)).trans r0
          have r1 := r1.tr (hfz _ (by simp) (by simp))
          have r2 := r2.tr (hfz _ (by simp) (by simp))
          have r3 := r3.tr (hfz _ (by simp) (by simp))
          have r4 := r4.tr (hfz _ (by simp) (by simp))
          have r5 := r5.tr (hfz _ (by simp) (by simp))
          have r8 := r8.tr (hfz _ (by simp) (by simp))
          have r9 := r9.tr (hfz _ (by simp) (by simp))
          have r10 := r10.tr (hfz _ (by simp) (by simp))
          have r11 := r11.tr (hfz _ (by simp) (by simp))
          have r12 := r12.tr (hfz _ (by simp) (by simp))
          have r14 := r14.tr (hfz _ (by simp) (by simp))
          have r15 := r15.tr (hfz _ (by simp) (by simp))
          have r17 := r17.tr (hfz _ (by simp) (by simp))
          have r19 := r19.tr (hfz _ (by simp) (by simp))
          refine aw_iload_n C d_R_pass_77 rfl (j := 0) rfl ?_
          refine aw_aload_n C d_R_pass_78 rfl (j := 1) rfl ?_
          refine aw_get C F_R r0 3 (by decide) tw_302 rfl d_R_pass_79 ?_
          refine aw_iload_n C d_R_pass_82 rfl (j := 2) rfl ?_
          refine ar_iald C r3 (j := j) (rfl) (by omega) (by omega) d_R_pass_83 ?_
          refine aw_topi (v' := nI (k_np (s_car S j))) (e_np) ?_
          refine aw_icmp_ge C (tgt := 184) d_R_pass_84 (by decide) (fun h84 => ?_) (fun h84 => absurd (nI_le (by omega) (by omega)) h84)
          refine aw_aload_n C d_R_pass_184 rfl (j := 1) rfl ?_
          refine aw_get C F_R r0 11 (by decide) tw_310 rfl d_R_pass_185 ?_
          refine aw_iload_n C d_R_pass_188 rfl (j := 2) rfl ?_
          refine ar_iald C r11 (j := j) (rfl) (by omega) (by omega) d_R_pass_189 ?_
          refine aw_topi (v' := nI (k_ps (s_car S j) + 1)) (by simp [upd]) ?_
          refine aw_iret C E (rfl) (by decide) (by decide) d_R_pass_190 ?_
          have hrel := hE.set hW hj (k_pass (s_car S j) p) rfl rfl rfl (fun i _ => ifs e_st) (fun i _ => ifs e_la) (fun i _ => ifu rfl) (fun i _ => ifu rfl) ⟨fun k hk => (hgb k hk).trans (if_pos (by have : k < k_np (s_car S j) := hk; omega)), hgb2⟩ ⟨fun k hk => hgd k (by have : k < k_np (s_car S j) := hk; omega), hgd2⟩ ⟨fun k hk => (hE2 j k hj hk).2.2.1, fun _ _ => rfl⟩ ⟨fun k hk => hg0 k (by have : k < k_np (s_car S j) := hk; omega), hgq⟩ (HPT)
          rw [show f_pass S (nI j) p = (nI (k_ps (s_car S j) + 1), s_set S j (k_pass (s_car S j) p)) from by simp only [f_pass, ix_in hj (show s_cn S < 2 ^ 31 by omega), if_pos hc]]
          exact ⟨rfl, rfl, (((fr3 fw14).trans (fr3 fw15)).trans (hf9)).trans (fun q hq => hfz q (fun e => by subst e; simp at hq) (fun e => by subst e; simp at hq)), _, _, _, _, _, _, _, _, _, _, _, _, _, _, ⟨r0, r1, r2, r3, r4, r5, r6, r7, r8, r9, r10, r11, r12, r14, r15, r17, r19⟩, hrel, hW.set ⟨hn1, hn2⟩ (show k_ps (s_car S j) + 1 ≤ 6 by omega)⟩
        | succ m ih =>
          intro a cez gb gd ha hfz r6 r7 hgd hgd2 hgb hgb2
          have r0 : cez (3, 0, 0) = some (.inr (3, [.int (nI (s_cn S)), .ref (ad (3, 0, 1)), .ref (ad (3, 0, 2)), .ref (ad (3, 0, 3)), .ref (ad (3, 0, 4)), .ref (ad (3, 0, 5)), .ref (ad (3, 0, 6)), .ref (ad (3, 0, 7)), .ref (ad (3, 0, 8)), .ref (ad (3, 0, 9)), .ref (ad (3, 0, 10)), .ref (ad (3, 0, 11)), .ref (ad (3, 0, 12)), .int (nI (s_pn S)), .ref (ad (3, 0, 14)), .ref (ad (3, 0, 15)), .int (nI (s_ln S)), .ref (ad (3, 0, 17)), .int (nI (s_on S)), .ref (ad (3, 0, 19))])) := (hfz _ (by simp) (by simp)).trans r0
          have r1 := r1.tr (hfz _ (by simp) (by simp))
          have r2 := r2.tr (hfz _ (by simp) (by simp))
          have r3 := r3.tr (hfz _ (by simp) (by simp))
          have r4 := r4.tr (hfz _ (by simp) (by simp))
          have r5 := r5.tr (hfz _ (by simp) (by simp))
          have r8 := r8.tr (hfz _ (by simp) (by simp))
          have r9 := r9.tr (hfz _ (by simp) (by simp))
          have r10 := r10.tr (hfz _ (by simp) (by simp))
          have r11 := r11.tr (hfz _ (by simp) (by simp))
          have r12 := r12.tr (hfz _ (by simp) (by simp))
          have r14 := r14.tr (hfz _ (by simp) (by simp))
          have r15 := r15.tr (hfz _ (by simp) (by simp))
          have r17 := r17.tr (hfz _ (by simp) (by simp))
          have r19 := r19.tr (hfz _ (by simp) (by simp))
          refine aw_iload_n C d_R_pass_77 rfl (j := 0) rfl ?_
          refine aw_aload_n C d_R_pass_78 rfl (j := 1) rfl ?_
          refine aw_get C F_R r0 3 (by decide) tw_302 rfl d_R_pass_79 ?_
          refine aw_iload_n C d_R_pass_82 rfl (j := 2) rfl ?_
          refine ar_iald C r3 (j := j) (rfl) (by omega) (by omega) d_R_pass_83 ?_
          refine aw_topi (v' := nI (k_np (s_car S j))) (e_np) ?_
          refine aw_icmp_ge C (tgt := 184) d_R_pass_84 (by decide) (fun h84 => absurd h84 (nI_ge (by omega) (by omega))) (fun h84 => ?_)
          refine aw_bipush C (v := 64) d_R_pass_87 (by decide) ?_
          refine aw_iload_n C d_R_pass_89 rfl (j := 2) rfl ?_
          refine aw_imul C d_R_pass_90 ?_
          refine aw_iload_n C d_R_pass_91 rfl (j := 0) rfl ?_
          refine aw_iadd C d_R_pass_92 ?_
          refine aw_topi (v' := nI (64 * j + a)) (k64 _ _) ?_
          refine aw_istore C (lv' := [(4, .int (nI (64 * j + a))), (3, .int (nI a)), (0, .ref (ad (3, 0, 0))), (1, .int (nI j)), (2, .int p)]) d_R_pass_93 (by decide) rfl ?_
          refine aw_aload_n C d_R_pass_95 rfl (j := 2) rfl ?_
          refine aw_get C F_R r0 7 (by decide) tw_306 rfl d_R_pass_96 ?_
          refine aw_iload C d_R_pass_99 (j := 0) rfl ?_
          refine aw_iload_n C d_R_pass_101 rfl (j := 4) rfl ?_
          refine aw_sipush C (v := 256) d_R_pass_102 (by decide) ?_
          refine aw_icmp_ge C (tgt := 112) d_R_pass_105 (by decide) (fun h105 => ?_) (fun h105 => ?_)
          · refine aw_iload_n C d_R_pass_112 rfl (j := 4) rfl ?_
            refine aw_sipush C (v := 256) d_R_pass_113 (by decide) ?_
            refine aw_icmp_ne C (tgt := 132) d_R_pass_116 (by decide) (fun h116 => ?_) (fun h116 => ?_)
            · refine aw_sipush C (v := 255) d_R_pass_132 (by decide) ?_
              refine aw_aload_n C d_R_pass_135 rfl (j := 2) rfl ?_
              refine aw_get C F_R r0 6 (by decide) tw_305 rfl d_R_pass_136 ?_
              refine aw_iload C d_R_pass_139 (j := 0) rfl ?_
              refine ar_iald C r6 (j := (64 * j + a)) (rfl) (by omega) (by omega) d_R_pass_141 ?_
              refine aw_isub C d_R_pass_142 ?_
              refine ar_iast C r7 (j := (64 * j + a)) (rfl) (by omega) (by omega) d_R_pass_143 ?_
              intro ce16 fw16 r7
              have r0 : ce16 (3, 0, 0) = some (.inr (3, [.int (nI (s_cn S)), .ref (ad (3, 0, 1)), .ref (ad (3, 0, 2)), .ref (ad (3, 0, 3)), .ref (ad (3, 0, 4)), .ref (ad (3, 0, 5)), .ref (ad (3, 0, 6)), .ref (ad (3, 0, 7)), .ref (ad (3, 0, 8)), .ref (ad (3, 0, 9)), .ref (ad (3, 0, 10)), .ref (ad (3, 0, 11)), .ref (ad (3, 0, 12)), .int (nI (s_pn S)), .ref (ad (3, 0, 14)), .ref (ad (3, 0, 15)), .int (nI (s_ln S)), .ref (ad (3, 0, 17)), .int (nI (s_on S)), .ref (ad (3, 0, 19))])) := (fw16 _ (by simp)).trans r0
              have r1 := r1.tr (fw16 _ (by simp))
              have r2 := r2.tr (fw16 _ (by simp))
              have r3 := r3.tr (fw16 _ (by simp))
              have r4 := r4.tr (fw16 _ (by simp))
              have r5 := r5.tr (fw16 _ (by simp))
              have r6 := r6.tr (fw16 _ (by simp))
              have r8 := r8.tr (fw16 _ (by simp))
              have r9 := r9.tr (fw16 _ (by simp))
              have r10 := r10.tr (fw16 _ (by simp))
              have r11 := r11.tr (fw16 _ (by simp))
              have r12 := r12.tr (fw16 _ (by simp))
              have r14 := r14.tr (fw16 _ (by simp))
              have r15 := r15.tr (fw16 _ (by simp))
              have r17 := r17.tr (fw16 _ (by simp))
              have r19 := r19.tr (fw16 _ (by simp))
              refine aw_aload_n C d_R_pass_144 rfl (j := 2) rfl ?_
              refine aw_get C F_R r0 6 (by decide) tw_305 rfl d_R_pass_145 ?_
              refine aw_iload C d_R_pass_148 (j := 0) rfl ?_
              refine aw_aload_n C d_R_pass_150 rfl (j := 2) rfl ?_
              refine aw_get C F_R r0 8 (by decide) tw_307 rfl d_R_pass_151 ?_
              refine aw_iload C d_R_pass_154 (j := 0) rfl ?_
              refine ar_zald C r8 (j := (64 * j + a)) (rfl) (by omega) (by omega) d_R_pass_156 ?_
              refine aw_if_eq C (tgt := 170) d_R_pass_157 (by decide) (fun h157 => ?_) (fun h157 => ?_)
              · refine aw_aload_n C d_R_pass_170 rfl (j := 2) rfl ?_
                refine aw_get C F_R r0 7 (by decide) tw_306 rfl d_R_pass_171 ?_
                refine aw_iload C d_R_pass_174 (j := 0) rfl ?_
                refine ar_iald C r7 (j := (64 * j + a)) (rfl) (by omega) (by omega) d_R_pass_176 ?_
                refine ar_iast C r6 (j := (64 * j + a)) (rfl) (by omega) (by omega) d_R_pass_177 ?_
                intro ce17 fw17 r6
                have r0 : ce17 (3, 0, 0) = some (.inr (3, [.int (nI (s_cn S)), .ref (ad (3, 0, 1)), .ref (ad (3, 0, 2)), .ref (ad (3, 0, 3)), .ref (ad (3, 0, 4)), .ref (ad (3, 0, 5)), .ref (ad (3, 0, 6)), .ref (ad (3, 0, 7)), .ref (ad (3, 0, 8)), .ref (ad (3, 0, 9)), .ref (ad (3, 0, 10)), .ref (ad (3, 0, 11)), .ref (ad (3, 0, 12)), .int (nI (s_pn S)), .ref (ad (3, 0, 14)), .ref (ad (3, 0, 15)), .int (nI (s_ln S)), .ref (ad (3, 0, 17)), .int (nI (s_on S)), .ref (ad (3, 0, 19))])) := (fw17 _ (by simp)).trans r0
                have r1 := r1.tr (fw17 _ (by simp))
                have r2 := r2.tr (fw17 _ (by simp))
                have r3 := r3.tr (fw17 _ (by simp))
                have r4 := r4.tr (fw17 _ (by simp))
                have r5 := r5.tr (fw17 _ (by simp))
                have r7 := r7.tr (fw17 _ (by simp))
                have r8 := r8.tr (fw17 _ (by simp))
                have r9 := r9.tr (fw17 _ (by simp))
                have r10 := r10.tr (fw17 _ (by simp))
                have r11 := r11.tr (fw17 _ (by simp))
                have r12 := r12.tr (fw17 _ (by simp))
                have r14 := r14.tr (fw17 _ (by simp))
                have r15 := r15.tr (fw17 _ (by simp))
                have r17 := r17.tr (fw17 _ (by simp))
                have r19 := r19.tr (fw17 _ (by simp))
                refine aw_iinc C (v := nI (a + 1)) (lv' := [(3, .int (nI (a + 1))), (4, .int (nI (64 * j + a))), (0, .ref (ad (3, 0, 0))), (1, .int (nI j)), (2, .int p)]) d_R_pass_178 (j := 1) rfl (nI_1 _) (by decide) rfl ?_
                refine aw_goto C (tgt := 77) d_R_pass_181 (by decide) ?_
                refine aw_sub (lv' := [(3, .int (nI (a + 1))), (0, .ref (ad (3, 0, 0))), (1, .int (nI j)), (2, .int p)]) (by simp) ?_
                have hgba : gb (64 * j + a) = k_by (s_car S j) a := (hgb a (by omega)).trans (if_neg (by omega))
                obtain ⟨nb, hnb, enb⟩ := hB j a hj (by omega)
                have hpv : 255 - gb (64 * j + a) = pB p a (k_by (s_car S j) a) := by
                  have q2 : p = 257 := by
                    have e1 := hc.1.2
                    have e256 : (256 : Int32).toInt = 256 := rfl
                    have e257 : (257 : Int32).toInt = 257 := rfl
                    have n1 := lv_neT (a := 256) h116 rfl
                    rw [Int32.le_iff_toInt_le] at e1 h105
                    exact Int32.toInt_inj.mp (by omega)
                  rw [hgba, enb, x255 nb hnb, pB, if_neg h116, if_pos q2]
                have hwoa := (hE2 j a hj (by omega)).2.2.1
                rw [hwoa] at h157
                refine ih (a + 1) ce17 (upd gb (64 * j + a) ((upd gd (64 * j + a) (255 - (gb (64 * j + a)))) (64 * j + a))) (upd gd (64 * j + a) (255 - (gb (64 * j + a)))) (by omega) (fun q h1 h2 => by rw [fw17 q h1, fw16 q h2]; exact hfz q h1 h2) r6 r7 ?_ ?_ ?_ ?_
                · intro k hk
                  by_cases e : k = a
                  · subst e; simp only [upd, if_pos]; exact hpv
                  · rw [updn (by omega)]; exact hgd k (by omega)
                · intro q hq; rw [updn (by omega)]; exact hgd2 q hq
                · intro k hk
                  by_cases e : k = a
                  · subst e; rw [if_pos (by omega), if_pos h157]; simp only [upd, if_pos]; exact hpv
                  · rw [updn (by omega), hgb k hk]
                    by_cases h9 : k < a
                    · rw [if_pos h9, if_pos (show k < a + 1 by omega)]
                    · rw [if_neg h9, if_neg (show ¬ k < a + 1 by omega)]
                · intro q hq; rw [updn (by omega)]; exact hgb2 q hq
              · refine aw_aload_n C d_R_pass_160 rfl (j := 2) rfl ?_
                refine aw_get C F_R r0 6 (by decide) tw_305 rfl d_R_pass_161 ?_
                refine aw_iload C d_R_pass_164 (j := 0) rfl ?_
                refine ar_iald C r6 (j := (64 * j + a)) (rfl) (by omega) (by omega) d_R_pass_166 ?_
                refine aw_goto C (tgt := 177) d_R_pass_167 (by decide) ?_
                refine ar_iast C r6 (j := (64 * j + a)) (rfl) (by omega) (by omega) d_R_pass_177 ?_
                intro ce18 fw18 r6
                have r0 : ce18 (3, 0, 0) = some (.inr (3, [.int (nI (s_cn S)), .ref (ad (3, 0, 1)), .ref (ad (3, 0, 2)), .ref (ad (3, 0, 3)), .ref (ad (3, 0, 4)), .ref (ad (3, 0, 5)), .ref (ad (3, 0, 6)), .ref (ad (3, 0, 7)), .ref (ad (3, 0, 8)), .ref (ad (3, 0, 9)), .ref (ad (3, 0, 10)), .ref (ad (3, 0, 11)), .ref (ad (3, 0, 12)), .int (nI (s_pn S)), .ref (ad (3, 0, 14)), .ref (ad (3, 0, 15)), .int (nI (s_ln S)), .ref (ad (3, 0, 17)), .int (nI (s_on S)), .ref (ad (3, 0, 19))])) := (fw18 _ (by simp)).trans r0
                have r1 := r1.tr (fw18 _ (by simp))
                have r2 := r2.tr (fw18 _ (by simp))
                have r3 := r3.tr (fw18 _ (by simp))
                have r4 := r4.tr (fw18 _ (by simp))
                have r5 := r5.tr (fw18 _ (by simp))
                have r7 := r7.tr (fw18 _ (by simp))
                have r8 := r8.tr (fw18 _ (by simp))
                have r9 := r9.tr (fw18 _ (by simp))
                have r10 := r10.tr (fw18 _ (by simp))
                have r11 := r11.tr (fw18 _ (by simp))
                have r12 := r12.tr (fw18 _ (by simp))
                have r14 := r14.tr (fw18 _ (by simp))
                have r15 := r15.tr (fw18 _ (by simp))
                have r17 := r17.tr (fw18 _ (by simp))
                have r19 := r19.tr (fw18 _ (by simp))
                refine aw_iinc C (v := nI (a + 1)) (lv' := [(3, .int (nI (a + 1))), (4, .int (nI (64 * j + a))), (0, .ref (ad (3, 0, 0))), (1, .int (nI j)), (2, .int p)]) d_R_pass_178 (j := 1) rfl (nI_1 _) (by decide) rfl ?_
                refine aw_goto C (tgt := 77) d_R_pass_181 (by decide) ?_
                refine aw_sub (lv' := [(3, .int (nI (a + 1))), (0, .ref (ad (3, 0, 0))), (1, .int (nI j)), (2, .int p)]) (by simp) ?_
                have hgba : gb (64 * j + a) = k_by (s_car S j) a := (hgb a (by omega)).trans (if_neg (by omega))
                obtain ⟨nb, hnb, enb⟩ := hB j a hj (by omega)
                have hpv : 255 - gb (64 * j + a) = pB p a (k_by (s_car S j) a) := by
                  have q2 : p = 257 := by
                    have e1 := hc.1.2
                    have e256 : (256 : Int32).toInt = 256 := rfl
                    have e257 : (257 : Int32).toInt = 257 := rfl
                    have n1 := lv_neT (a := 256) h116 rfl
                    rw [Int32.le_iff_toInt_le] at e1 h105
                    exact Int32.toInt_inj.mp (by omega)
                  rw [hgba, enb, x255 nb hnb, pB, if_neg h116, if_pos q2]
                have hwoa := (hE2 j a hj (by omega)).2.2.1
                rw [hwoa] at h157
                refine ih (a + 1) ce18 (upd gb (64 * j + a) (gb (64 * j + a))) (upd gd (64 * j + a) (255 - (gb (64 * j + a)))) (by omega) (fun q h1 h2 => by rw [fw18 q h1, fw16 q h2]; exact hfz q h1 h2) r6 r7 ?_ ?_ ?_ ?_
                · intro k hk
                  by_cases e : k = a
                  · subst e; simp only [upd, if_pos]; exact hpv
                  · rw [updn (by omega)]; exact hgd k (by omega)
                · intro q hq; rw [updn (by omega)]; exact hgd2 q hq
                · intro k hk
                  by_cases e : k = a
                  · subst e; rw [if_pos (by omega), if_neg h157]; simp only [upd, if_pos]; exact hgba
                  · rw [updn (by omega), hgb k hk]
                    by_cases h9 : k < a
                    · rw [if_pos h9, if_pos (show k < a + 1 by omega)]
                    · rw [if_neg h9, if_neg (show ¬ k < a + 1 by omega)]
                · intro q hq; rw [updn (by omega)]; exact hgb2 q hq
            · refine aw_bipush C (v := 7) d_R_pass_119 (by decide) ?_
              refine aw_iload_n C d_R_pass_121 rfl (j := 1) rfl ?_
              refine aw_imul C d_R_pass_122 ?_
              refine aw_iconst C (v := 3) d_R_pass_123 (by decide) ?_
              refine aw_iadd C d_R_pass_124 ?_
              refine aw_sipush C (v := 256) d_R_pass_125 (by decide) ?_
              refine aw_irem C d_R_pass_128 (by decide) ?_
              refine aw_goto C (tgt := 143) d_R_pass_129 (by decide) ?_
              refine ar_iast C r7 (j := (64 * j + a)) (rfl) (by omega) (by omega) d_R_pass_143 ?_
              intro ce19 fw19 r7
              have r0 : ce19 (3, 0, 0) = some (.inr (3, [.int (nI (s_cn S)), .ref (ad (3, 0, 1)), .ref (ad (3, 0, 2)), .ref (ad (3, 0, 3)), .ref (ad (3, 0, 4)), .ref (ad (3, 0, 5)), .ref (ad (3, 0, 6)), .ref (ad (3, 0, 7)), .ref (ad (3, 0, 8)), .ref (ad (3, 0, 9)), .ref (ad (3, 0, 10)), .ref (ad (3, 0, 11)), .ref (ad (3, 0, 12)), .int (nI (s_pn S)), .ref (ad (3, 0, 14)), .ref (ad (3, 0, 15)), .int (nI (s_ln S)), .ref (ad (3, 0, 17)), .int (nI (s_on S)), .ref (ad (3, 0, 19))])) := (fw19 _ (by simp)).trans r0
              have r1 := r1.tr (fw19 _ (by simp))
              have r2 := r2.tr (fw19 _ (by simp))
              have r3 := r3.tr (fw19 _ (by simp))
              have r4 := r4.tr (fw19 _ (by simp))
              have r5 := r5.tr (fw19 _ (by simp))
              have r6 := r6.tr (fw19 _ (by simp))
              have r8 := r8.tr (fw19 _ (by simp))
              have r9 := r9.tr (fw19 _ (by simp))
              have r10 := r10.tr (fw19 _ (by simp))
              have r11 := r11.tr (fw19 _ (by simp))
              have r12 := r12.tr (fw19 _ (by simp))
              have r14 := r14.tr (fw19 _ (by simp))
              have r15 := r15.tr (fw19 _ (by simp))
              have r17 := r17.tr (fw19 _ (by simp))
              have r19 := r19.tr (fw19 _ (by simp))
              refine aw_aload_n C d_R_pass_144 rfl (j := 2) rfl ?_
              refine aw_get C F_R r0 6 (by decide) tw_305 rfl d_R_pass_145 ?_
              refine aw_iload C d_R_pass_148 (j := 0) rfl ?_
              refine aw_aload_n C d_R_pass_150 rfl (j := 2) rfl ?_
              refine aw_get C F_R r0 8 (by decide) tw_307 rfl d_R_pass_151 ?_
              refine aw_iload C d_R_pass_154 (j := 0) rfl ?_
              refine ar_zald C r8 (j := (64 * j + a)) (rfl) (by omega) (by omega) d_R_pass_156 ?_
              refine aw_if_eq C (tgt := 170) d_R_pass_157 (by decide) (fun h157 => ?_) (fun h157 => ?_)
              · refine aw_aload_n C d_R_pass_170 rfl (j := 2) rfl ?_
                refine aw_get C F_R r0 7 (by decide) tw_306 rfl d_R_pass_171 ?_
                refine aw_iload C d_R_pass_174 (j := 0) rfl ?_
                refine ar_iald C r7 (j := (64 * j + a)) (rfl) (by omega) (by omega) d_R_pass_176 ?_
                refine ar_iast C r6 (j := (64 * j + a)) (rfl) (by omega) (by omega) d_R_pass_177 ?_
                intro ce20 fw20 r6
                have r0 : ce20 (3, 0, 0) = some (.inr (3, [.int (nI (s_cn S)), .ref (ad (3, 0, 1)), .ref (ad (3, 0, 2)), .ref (ad (3, 0, 3)), .ref (ad (3, 0, 4)), .ref (ad (3, 0, 5)), .ref (ad (3, 0, 6)), .ref (ad (3, 0, 7)), .ref (ad (3, 0, 8)), .ref (ad (3, 0, 9)), .ref (ad (3, 0, 10)), .ref (ad (3, 0, 11)), .ref (ad (3, 0, 12)), .int (nI (s_pn S)), .ref (ad (3, 0, 14)), .ref (ad (3, 0, 15)), .int (nI (s_ln S)), .ref (ad (3, 0, 17)), .int (nI (s_on S)), .ref (ad (3, 0, 19))])) := (fw20 _ (by simp)).trans r0
                have r1 := r1.tr (fw20 _ (by simp))
                have r2 := r2.tr (fw20 _ (by simp))
                have r3 := r3.tr (fw20 _ (by simp))
                have r4 := r4.tr (fw20 _ (by simp))
                have r5 := r5.tr (fw20 _ (by simp))
                have r7 := r7.tr (fw20 _ (by simp))
                have r8 := r8.tr (fw20 _ (by simp))
                have r9 := r9.tr (fw20 _ (by simp))
                have r10 := r10.tr (fw20 _ (by simp))
                have r11 := r11.tr (fw20 _ (by simp))
                have r12 := r12.tr (fw20 _ (by simp))
                have r14 := r14.tr (fw20 _ (by simp))
                have r15 := r15.tr (fw20 _ (by simp))
                have r17 := r17.tr (fw20 _ (by simp))
                have r19 := r19.tr (fw20 _ (by simp))
                refine aw_iinc C (v := nI (a + 1)) (lv' := [(3, .int (nI (a + 1))), (4, .int (nI (64 * j + a))), (0, .ref (ad (3, 0, 0))), (1, .int (nI j)), (2, .int p)]) d_R_pass_178 (j := 1) rfl (nI_1 _) (by decide) rfl ?_
                refine aw_goto C (tgt := 77) d_R_pass_181 (by decide) ?_
                refine aw_sub (lv' := [(3, .int (nI (a + 1))), (0, .ref (ad (3, 0, 0))), (1, .int (nI j)), (2, .int p)]) (by simp) ?_
                have hgba : gb (64 * j + a) = k_by (s_car S j) a := (hgb a (by omega)).trans (if_neg (by omega))
                obtain ⟨nb, hnb, enb⟩ := hB j a hj (by omega)
                have hpv : (7 * nI a + 3) - (7 * nI a + 3) / 256 * 256 = pB p a (k_by (s_car S j) a) := by
                  rw [m256 a (by omega)]; simp [pB, h116]
                have hwoa := (hE2 j a hj (by omega)).2.2.1
                rw [hwoa] at h157
                refine ih (a + 1) ce20 (upd gb (64 * j + a) ((upd gd (64 * j + a) (((7 * (nI a)) + 3) - ((7 * (nI a)) + 3) / 256 * 256)) (64 * j + a))) (upd gd (64 * j + a) (((7 * (nI a)) + 3) - ((7 * (nI a)) + 3) / 256 * 256)) (by omega) (fun q h1 h2 => by rw [fw20 q h1, fw19 q h2]; exact hfz q h1 h2) r6 r7 ?_ ?_ ?_ ?_
                · intro k hk
                  by_cases e : k = a
                  · subst e; simp only [upd, if_pos]; exact hpv
                  · rw [updn (by omega)]; exact hgd k (by omega)
                · intro q hq; rw [updn (by omega)]; exact hgd2 q hq
                · intro k hk
                  by_cases e : k = a
                  · subst e; rw [if_pos (by omega), if_pos h157]; simp only [upd, if_pos]; exact hpv
                  · rw [updn (by omega), hgb k hk]
                    by_cases h9 : k < a
                    · rw [if_pos h9, if_pos (show k < a + 1 by omega)]
                    · rw [if_neg h9, if_neg (show ¬ k < a + 1 by omega)]
                · intro q hq; rw [updn (by omega)]; exact hgb2 q hq
              · refine aw_aload_n C d_R_pass_160 rfl (j := 2) rfl ?_
                refine aw_get C F_R r0 6 (by decide) tw_305 rfl d_R_pass_161 ?_
                refine aw_iload C d_R_pass_164 (j := 0) rfl ?_
                refine ar_iald C r6 (j := (64 * j + a)) (rfl) (by omega) (by omega) d_R_pass_166 ?_
                refine aw_goto C (tgt := 177) d_R_pass_167 (by decide) ?_
                refine ar_iast C r6 (j := (64 * j + a)) (rfl) (by omega) (by omega) d_R_pass_177 ?_
                intro ce21 fw21 r6
                have r0 : ce21 (3, 0, 0) = some (.inr (3, [.int (nI (s_cn S)), .ref (ad (3, 0, 1)), .ref (ad (3, 0, 2)), .ref (ad (3, 0, 3)), .ref (ad (3, 0, 4)), .ref (ad (3, 0, 5)), .ref (ad (3, 0, 6)), .ref (ad (3, 0, 7)), .ref (ad (3, 0, 8)), .ref (ad (3, 0, 9)), .ref (ad (3, 0, 10)), .ref (ad (3, 0, 11)), .ref (ad (3, 0, 12)), .int (nI (s_pn S)), .ref (ad (3, 0, 14)), .ref (ad (3, 0, 15)), .int (nI (s_ln S)), .ref (ad (3, 0, 17)), .int (nI (s_on S)), .ref (ad (3, 0, 19))])) := (fw21 _ (by simp)).trans r0
                have r1 := r1.tr (fw21 _ (by simp))
                have r2 := r2.tr (fw21 _ (by simp))
                have r3 := r3.tr (fw21 _ (by simp))
                have r4 := r4.tr (fw21 _ (by simp))
                have r5 := r5.tr (fw21 _ (by simp))
                have r7 := r7.tr (fw21 _ (by simp))
                have r8 := r8.tr (fw21 _ (by simp))
                have r9 := r9.tr (fw21 _ (by simp))
                have r10 := r10.tr (fw21 _ (by simp))
                have r11 := r11.tr (fw21 _ (by simp))
                have r12 := r12.tr (fw21 _ (by simp))
                have r14 := r14.tr (fw21 _ (by simp))
                have r15 := r15.tr (fw21 _ (by simp))
                have r17 := r17.tr (fw21 _ (by simp))
                have r19 := r19.tr (fw21 _ (by simp))
                refine aw_iinc C (v := nI (a + 1)) (lv' := [(3, .int (nI (a + 1))), (4, .int (nI (64 * j + a))), (0, .ref (ad (3, 0, 0))), (1, .int (nI j)), (2, .int p)]) d_R_pass_178 (j := 1) rfl (nI_1 _) (by decide) rfl ?_
                refine aw_goto C (tgt := 77) d_R_pass_181 (by decide) ?_
                refine aw_sub (lv' := [(3, .int (nI (a + 1))), (0, .ref (ad (3, 0, 0))), (1, .int (nI j)), (2, .int p)]) (by simp) ?_
                have hgba : gb (64 * j + a) = k_by (s_car S j) a := (hgb a (by omega)).trans (if_neg (by omega))
                obtain ⟨nb, hnb, enb⟩ := hB j a hj (by omega)
                have hpv : (7 * nI a + 3) - (7 * nI a + 3) / 256 * 256 = pB p a (k_by (s_car S j) a) := by
                  rw [m256 a (by omega)]; simp [pB, h116]
                have hwoa := (hE2 j a hj (by omega)).2.2.1
                rw [hwoa] at h157
                refine ih (a + 1) ce21 (upd gb (64 * j + a) (gb (64 * j + a))) (upd gd (64 * j + a) (((7 * (nI a)) + 3) - ((7 * (nI a)) + 3) / 256 * 256)) (by omega) (fun q h1 h2 => by rw [fw21 q h1, fw19 q h2]; exact hfz q h1 h2) r6 r7 ?_ ?_ ?_ ?_
                · intro k hk
                  by_cases e : k = a
                  · subst e; simp only [upd, if_pos]; exact hpv
                  · rw [updn (by omega)]; exact hgd k (by omega)
                · intro q hq; rw [updn (by omega)]; exact hgd2 q hq
                · intro k hk
                  by_cases e : k = a
                  · subst e; rw [if_pos (by omega), if_neg h157]; simp only [upd, if_pos]; exact hgba
                  · rw [updn (by omega), hgb k hk]
                    by_cases h9 : k < a
                    · rw [if_pos h9, if_pos (show k < a + 1 by omega)]
                    · rw [if_neg h9, if_neg (show ¬ k < a + 1 by omega)]
                · intro q hq; rw [updn (by omega)]; exact hgb2 q hq
          · refine aw_iload_n C d_R_pass_108 rfl (j := 4) rfl ?_
            refine aw_goto C (tgt := 143) d_R_pass_109 (by decide) ?_
            refine ar_iast C r7 (j := (64 * j + a)) (rfl) (by omega) (by omega) d_R_pass_143 ?_
            intro ce22 fw22 r7
            have r0 : ce22 (3, 0, 0) = some (.inr (3, [.int (nI (s_cn S)), .ref (ad (3, 0, 1)), .ref (ad (3, 0, 2)), .ref (ad (3, 0, 3)), .ref (ad (3, 0, 4)), .ref (ad (3, 0, 5)), .ref (ad (3, 0, 6)), .ref (ad (3, 0, 7)), .ref (ad (3, 0, 8)), .ref (ad (3, 0, 9)), .ref (ad (3, 0, 10)), .ref (ad (3, 0, 11)), .ref (ad (3, 0, 12)), .int (nI (s_pn S)), .ref (ad (3, 0, 14)), .ref (ad (3, 0, 15)), .int (nI (s_ln S)), .ref (ad (3, 0, 17)), .int (nI (s_on S)), .ref (ad (3, 0, 19))])) := (fw22 _ (by simp)).trans r0
            have r1 := r1.tr (fw22 _ (by simp))
            have r2 := r2.tr (fw22 _ (by simp))
            have r3 := r3.tr (fw22 _ (by simp))
            have r4 := r4.tr (fw22 _ (by simp))
            have r5 := r5.tr (fw22 _ (by simp))
            have r6 := r6.tr (fw22 _ (by simp))
            have r8 := r8.tr (fw22 _ (by simp))
            have r9 := r9.tr (fw22 _ (by simp))
            have r10 := r10.tr (fw22 _ (by simp))
            have r11 := r11.tr (fw22 _ (by simp))
            have r12 := r12.tr (fw22 _ (by simp))
            have r14 := r14.tr (fw22 _ (by simp))
            have r15 := r15.tr (fw22 _ (by simp))
            have r17 := r17.tr (fw22 _ (by simp))
            have r19 := r19.tr (fw22 _ (by simp))
            refine aw_aload_n C d_R_pass_144 rfl (j := 2) rfl ?_
            refine aw_get C F_R r0 6 (by decide) tw_305 rfl d_R_pass_145 ?_
            refine aw_iload C d_R_pass_148 (j := 0) rfl ?_
            refine aw_aload_n C d_R_pass_150 rfl (j := 2) rfl ?_
            refine aw_get C F_R r0 8 (by decide) tw_307 rfl d_R_pass_151 ?_
            refine aw_iload C d_R_pass_154 (j := 0) rfl ?_
            refine ar_zald C r8 (j := (64 * j + a)) (rfl) (by omega) (by omega) d_R_pass_156 ?_
            refine aw_if_eq C (tgt := 170) d_R_pass_157 (by decide) (fun h157 => ?_) (fun h157 => ?_)
            · refine aw_aload_n C d_R_pass_170 rfl (j := 2) rfl ?_
              refine aw_get C F_R r0 7 (by decide) tw_306 rfl d_R_pass_171 ?_
              refine aw_iload C d_R_pass_174 (j := 0) rfl ?_
              refine ar_iald C r7 (j := (64 * j + a)) (rfl) (by omega) (by omega) d_R_pass_176 ?_
              refine ar_iast C r6 (j := (64 * j + a)) (rfl) (by omega) (by omega) d_R_pass_177 ?_
              intro ce23 fw23 r6
              have r0 : ce23 (3, 0, 0) = some (.inr (3, [.int (nI (s_cn S)), .ref (ad (3, 0, 1)), .ref (ad (3, 0, 2)), .ref (ad (3, 0, 3)), .ref (ad (3, 0, 4)), .ref (ad (3, 0, 5)), .ref (ad (3, 0, 6)), .ref (ad (3, 0, 7)), .ref (ad (3, 0, 8)), .ref (ad (3, 0, 9)), .ref (ad (3, 0, 10)), .ref (ad (3, 0, 11)), .ref (ad (3, 0, 12)), .int (nI (s_pn S)), .ref (ad (3, 0, 14)), .ref (ad (3, 0, 15)), .int (nI (s_ln S)), .ref (ad (3, 0, 17)), .int (nI (s_on S)), .ref (ad (3, 0, 19))])) := (fw23 _ (by simp)).trans r0
              have r1 := r1.tr (fw23 _ (by simp))
              have r2 := r2.tr (fw23 _ (by simp))
              have r3 := r3.tr (fw23 _ (by simp))
              have r4 := r4.tr (fw23 _ (by simp))
              have r5 := r5.tr (fw23 _ (by simp))
              have r7 := r7.tr (fw23 _ (by simp))
              have r8 := r8.tr (fw23 _ (by simp))
              have r9 := r9.tr (fw23 _ (by simp))
              have r10 := r10.tr (fw23 _ (by simp))
              have r11 := r11.tr (fw23 _ (by simp))
              have r12 := r12.tr (fw23 _ (by simp))
              have r14 := r14.tr (fw23 _ (by simp))
              have r15 := r15.tr (fw23 _ (by simp))
              have r17 := r17.tr (fw23 _ (by simp))
              have r19 := r19.tr (fw23 _ (by simp))
              refine aw_iinc C (v := nI (a + 1)) (lv' := [(3, .int (nI (a + 1))), (4, .int (nI (64 * j + a))), (0, .ref (ad (3, 0, 0))), (1, .int (nI j)), (2, .int p)]) d_R_pass_178 (j := 1) rfl (nI_1 _) (by decide) rfl ?_
              refine aw_goto C (tgt := 77) d_R_pass_181 (by decide) ?_
              refine aw_sub (lv' := [(3, .int (nI (a + 1))), (0, .ref (ad (3, 0, 0))), (1, .int (nI j)), (2, .int p)]) (by simp) ?_
              have hgba : gb (64 * j + a) = k_by (s_car S j) a := (hgb a (by omega)).trans (if_neg (by omega))
              obtain ⟨nb, hnb, enb⟩ := hB j a hj (by omega)
              have hpv : p = pB p a (k_by (s_car S j) a) := by
                have q1 : ¬ p = 256 := fun q => by subst q; exact absurd h105 (by decide)
                have q2 : ¬ p = 257 := fun q => by subst q; exact absurd h105 (by decide)
                simp [pB, q1, q2]
              have hwoa := (hE2 j a hj (by omega)).2.2.1
              rw [hwoa] at h157
              refine ih (a + 1) ce23 (upd gb (64 * j + a) ((upd gd (64 * j + a) p) (64 * j + a))) (upd gd (64 * j + a) p) (by omega) (fun q h1 h2 => by rw [fw23 q h1, fw22 q h2]; exact hfz q h1 h2) r6 r7 ?_ ?_ ?_ ?_
              · intro k hk
                by_cases e : k = a
                · subst e; simp only [upd, if_pos]; exact hpv
                · rw [updn (by omega)]; exact hgd k (by omega)
              · intro q hq; rw [updn (by omega)]; exact hgd2 q hq
              · intro k hk
                by_cases e : k = a
                · subst e; rw [if_pos (by omega), if_pos h157]; simp only [upd, if_pos]; exact hpv
                · rw [updn (by omega), hgb k hk]
                  by_cases h9 : k < a
                  · rw [if_pos h9, if_pos (show k < a + 1 by omega)]
                  · rw [if_neg h9, if_neg (show ¬ k < a + 1 by omega)]
              · intro q hq; rw [updn (by omega)]; exact hgb2 q hq
            · refine aw_aload_n C d_R_pass_160 rfl (j := 2) rfl ?_
              refine aw_get C F_R r0 6 (by decide) tw_305 rfl d_R_pass_161 ?_
              refine aw_iload C d_R_pass_164 (j := 0) rfl ?_
              refine ar_iald C r6 (j := (64 * j + a)) (rfl) (by omega) (by omega) d_R_pass_166 ?_
              refine aw_goto C (tgt := 177) d_R_pass_167 (by decide) ?_
              refine ar_iast C r6 (j := (64 * j + a)) (rfl) (by omega) (by omega) d_R_pass_177 ?_
              intro ce24 fw24 r6
              have r0 : ce24 (3, 0, 0) = some (.inr (3, [.int (nI (s_cn S)), .ref (ad (3, 0, 1)), .ref (ad (3, 0, 2)), .ref (ad (3, 0, 3)), .ref (ad (3, 0, 4)), .ref (ad (3, 0, 5)), .ref (ad (3, 0, 6)), .ref (ad (3, 0, 7)), .ref (ad (3, 0, 8)), .ref (ad (3, 0, 9)), .ref (ad (3, 0, 10)), .ref (ad (3, 0, 11)), .ref (ad (3, 0, 12)), .int (nI (s_pn S)), .ref (ad (3, 0, 14)), .ref (ad (3, 0, 15)), .int (nI (s_ln S)), .ref (ad (3, 0, 17)), .int (nI (s_on S)), .ref (ad (3, 0, 19))])) := (fw24 _ (by simp)).trans r0
              have r1 := r1.tr (fw24 _ (by simp))
              have r2 := r2.tr (fw24 _ (by simp))
              have r3 := r3.tr (fw24 _ (by simp))
              have r4 := r4.tr (fw24 _ (by simp))
              have r5 := r5.tr (fw24 _ (by simp))
              have r7 := r7.tr (fw24 _ (by simp))
              have r8 := r8.tr (fw24 _ (by simp))
              have r9 := r9.tr (fw24 _ (by simp))
              have r10 := r10.tr (fw24 _ (by simp))
              have r11 := r11.tr (fw24 _ (by simp))
              have r12 := r12.tr (fw24 _ (by simp))
              have r14 := r14.tr (fw24 _ (by simp))
              have r15 := r15.tr (fw24 _ (by simp))
              have r17 := r17.tr (fw24 _ (by simp))
              have r19 := r19.tr (fw24 _ (by simp))
              refine aw_iinc C (v := nI (a + 1)) (lv' := [(3, .int (nI (a + 1))), (4, .int (nI (64 * j + a))), (0, .ref (ad (3, 0, 0))), (1, .int (nI j)), (2, .int p)]) d_R_pass_178 (j := 1) rfl (nI_1 _) (by decide) rfl ?_
              refine aw_goto C (tgt := 77) d_R_pass_181 (by decide) ?_
              refine aw_sub (lv' := [(3, .int (nI (a + 1))), (0, .ref (ad (3, 0, 0))), (1, .int (nI j)), (2, .int p)]) (by simp) ?_
              have hgba : gb (64 * j + a) = k_by (s_car S j) a := (hgb a (by omega)).trans (if_neg (by omega))
              obtain ⟨nb, hnb, enb⟩ := hB j a hj (by omega)
              have hpv : p = pB p a (k_by (s_car S j) a) := by
                have q1 : ¬ p = 256 := fun q => by subst q; exact absurd h105 (by decide)
                have q2 : ¬ p = 257 := fun q => by subst q; exact absurd h105 (by decide)
                simp [pB, q1, q2]
              have hwoa := (hE2 j a hj (by omega)).2.2.1
              rw [hwoa] at h157
              refine ih (a + 1) ce24 (upd gb (64 * j + a) (gb (64 * j + a))) (upd gd (64 * j + a) p) (by omega) (fun q h1 h2 => by rw [fw24 q h1, fw22 q h2]; exact hfz q h1 h2) r6 r7 ?_ ?_ ?_ ?_
              · intro k hk
                by_cases e : k = a
                · subst e; simp only [upd, if_pos]; exact hpv
                · rw [updn (by omega)]; exact hgd k (by omega)
              · intro q hq; rw [updn (by omega)]; exact hgd2 q hq
              · intro k hk
                by_cases e : k = a
                · subst e; rw [if_pos (by omega), if_neg h157]; simp only [upd, if_pos]; exact hgba
                · rw [updn (by omega), hgb k hk]
                  by_cases h9 : k < a
                  · rw [if_pos h9, if_pos (show k < a + 1 by omega)]
                  · rw [if_neg h9, if_neg (show ¬ k < a + 1 by omega)]
              · intro q hq; rw [updn (by omega)]; exact hgb2 q hq
      refine aw_lv (lv' := [(3, .int (nI 0)), (0, .ref (ad (3, 0, 0))), (1, .int (nI j)), (2, .int p)]) (by simp only [nI_0]) ?_
      exact loop (k_np (s_car S j)) 0 ce9 gby gdu (by omega) (fun _ _ _ => rfl) r6 r7 (fun k hk => absurd hk (by omega)) (fun _ _ => rfl) (fun k hk => (hE2 j k hj hk).1) (fun _ _ => rfl)
    by_cases h1 : 0 ≤ p ∧ p ≤ 257
    · skip
      show AW X 5 0 0 ad ce 0 [(0, .ref (ad (3, 0, 0))), (1, .int (nI j)), (2, .int p)] []
      refine aw_aload_n C d_R_pass_0 rfl (j := 0) rfl ?_
      refine aw_iload_n C d_R_pass_1 rfl (j := 1) rfl ?_
      refine aw_callV C I (k := (3, 0, 0)) (as := [.int (nI j)]) (rest := []) (r_isCarrier l G ad ce (s_cn S) (s_pn S) (s_ln S) (s_on S) kd sr np st la gby gdu gwo grd un ps gpt gff gfc (s_li S) (s_lo S) hR (nI j)) g_R_64 r0 rfl rfl ⟨by decide, by decide⟩ ⟨by decide, by decide⟩ rfl (Nat.le_of_ble_eq_true rfl) d_R_pass_2 ?_
      rintro _ _ _ ⟨rfl, rfl, rfl⟩
      show AW X 5 0 0 ad ce 5 [(0, .ref (ad (3, 0, 0))), (1, .int (nI j)), (2, .int p)] [.int (bI (decide (0 ≤ nI j ∧ nI j < nI (s_cn S))))]
      refine aw_topi (v' := 1) ((bI_t ⟨nI_pos' (by omega), nI_lt (by omega) (by omega)⟩).symm) ?_
      show AW X 5 0 0 ad ce 5 [(0, .ref (ad (3, 0, 0))), (1, .int (nI j)), (2, .int p)] [.int 1]
      refine aw_if_eq C (tgt := 41) d_R_pass_5 (by decide) (fun h5 => absurd h5 (by decide)) (fun h5 => ?_)
      refine aw_iload_n C d_R_pass_8 rfl (j := 2) rfl ?_
      refine aw_i2l C d_R_pass_9 ?_
      refine aw_lconst C (v := 0) d_R_pass_10 (by decide) ?_
      refine aw_ldc2 C tw_418 d_R_pass_11 ?_
      refine aw_callS C I (as := [.long (Int32.toInt64 p), .long 0, .long 257]) (rest := []) (r_isIn l G ad ce (Int32.toInt64 p) 0 257) g_R_70 ⟨by decide, by decide⟩ ⟨by decide, by decide⟩ rfl (Nat.le_of_ble_eq_true rfl) d_R_pass_14 ?_
      rintro _ _ _ ⟨rfl, rfl, rfl⟩
      show AW X 5 0 0 ad ce 17 [(0, .ref (ad (3, 0, 0))), (1, .int (nI j)), (2, .int p)] [.int (bI (decide (0 ≤ Int32.toInt64 p ∧ Int32.toInt64 p ≤ 257)))]
      refine aw_topi (v' := 1) ((bI_t ((in32 rfl rfl).mpr h1)).symm) ?_
      show AW X 5 0 0 ad ce 17 [(0, .ref (ad (3, 0, 0))), (1, .int (nI j)), (2, .int p)] [.int 1]
      refine aw_if_eq C (tgt := 41) d_R_pass_17 (by decide) (fun h17 => absurd h17 (by decide)) (fun h17 => ?_)
      refine aw_aload_n C d_R_pass_20 rfl (j := 0) rfl ?_
      refine aw_get C F_R r0 4 (by decide) tw_303 rfl d_R_pass_21 ?_
      refine aw_iload_n C d_R_pass_24 rfl (j := 1) rfl ?_
      refine ar_iald C r4 (j := j) (rfl) (by omega) (by omega) d_R_pass_25 ?_
      refine aw_topi (v' := k_st (s_car S j)) (e_st) ?_
      refine aw_iconst C (v := 2) d_R_pass_26 (by decide) ?_
      refine aw_icmp_ne C (tgt := 41) d_R_pass_27 (by decide) (fun h27 => ?_) (fun h27 => ?_)
      · refine aw_iconst C (v := (-1)) d_R_pass_41 (by decide) ?_
        refine aw_iret C E (rfl) (by decide) (by decide) d_R_pass_42 ?_
        rw [show f_pass S (nI j) p = (-1, S) from by simp only [f_pass, ix_in hj (show s_cn S < 2 ^ 31 by omega), if_neg hc]]
        exact ⟨rfl, rfl, frR.rf, ⟨kd, sr, np, st, la, gby, gdu, gwo, grd, un, ps, gpt, gff, gfc, hR, hE, hW⟩⟩
      · refine aw_aload_n C d_R_pass_30 rfl (j := 0) rfl ?_
        refine aw_get C F_R r0 11 (by decide) tw_310 rfl d_R_pass_31 ?_
        refine aw_iload_n C d_R_pass_34 rfl (j := 1) rfl ?_
        refine ar_iald C r11 (j := j) (rfl) (by omega) (by omega) d_R_pass_35 ?_
        refine aw_topi (v' := nI (k_ps (s_car S j))) (e_ps) ?_
        refine aw_bipush C (v := 6) d_R_pass_36 (by decide) ?_
        refine aw_icmp_ne C (tgt := 43) d_R_pass_38 (by decide) (fun h38 => ?_) (fun h38 => ?_)
        · exact absurd ⟨h1, h27, by
            rcases Nat.lt_or_ge (k_ps (s_car S j)) 6 with q | q
            · exact q
            · exact absurd (by rw [show k_ps (s_car S j) = 6 by omega]; rfl) h38⟩ hc
        · refine aw_iconst C (v := (-1)) d_R_pass_41 (by decide) ?_
          refine aw_iret C E (rfl) (by decide) (by decide) d_R_pass_42 ?_
          rw [show f_pass S (nI j) p = (-1, S) from by simp only [f_pass, ix_in hj (show s_cn S < 2 ^ 31 by omega), if_neg hc]]
          exact ⟨rfl, rfl, frR.rf, ⟨kd, sr, np, st, la, gby, gdu, gwo, grd, un, ps, gpt, gff, gfc, hR, hE, hW⟩⟩
    · skip
      show AW X 5 0 0 ad ce 0 [(0, .ref (ad (3, 0, 0))), (1, .int (nI j)), (2, .int p)] []
      refine aw_aload_n C d_R_pass_0 rfl (j := 0) rfl ?_
      refine aw_iload_n C d_R_pass_1 rfl (j := 1) rfl ?_
      refine aw_callV C I (k := (3, 0, 0)) (as := [.int (nI j)]) (rest := []) (r_isCarrier l G ad ce (s_cn S) (s_pn S) (s_ln S) (s_on S) kd sr np st la gby gdu gwo grd un ps gpt gff gfc (s_li S) (s_lo S) hR (nI j)) g_R_64 r0 rfl rfl ⟨by decide, by decide⟩ ⟨by decide, by decide⟩ rfl (Nat.le_of_ble_eq_true rfl) d_R_pass_2 ?_
      rintro _ _ _ ⟨rfl, rfl, rfl⟩
      show AW X 5 0 0 ad ce 5 [(0, .ref (ad (3, 0, 0))), (1, .int (nI j)), (2, .int p)] [.int (bI (decide (0 ≤ nI j ∧ nI j < nI (s_cn S))))]
      refine aw_topi (v' := 1) ((bI_t ⟨nI_pos' (by omega), nI_lt (by omega) (by omega)⟩).symm) ?_
      show AW X 5 0 0 ad ce 5 [(0, .ref (ad (3, 0, 0))), (1, .int (nI j)), (2, .int p)] [.int 1]
      refine aw_if_eq C (tgt := 41) d_R_pass_5 (by decide) (fun h5 => absurd h5 (by decide)) (fun h5 => ?_)
      refine aw_iload_n C d_R_pass_8 rfl (j := 2) rfl ?_
      refine aw_i2l C d_R_pass_9 ?_
      refine aw_lconst C (v := 0) d_R_pass_10 (by decide) ?_
      refine aw_ldc2 C tw_418 d_R_pass_11 ?_
      refine aw_callS C I (as := [.long (Int32.toInt64 p), .long 0, .long 257]) (rest := []) (r_isIn l G ad ce (Int32.toInt64 p) 0 257) g_R_70 ⟨by decide, by decide⟩ ⟨by decide, by decide⟩ rfl (Nat.le_of_ble_eq_true rfl) d_R_pass_14 ?_
      rintro _ _ _ ⟨rfl, rfl, rfl⟩
      show AW X 5 0 0 ad ce 17 [(0, .ref (ad (3, 0, 0))), (1, .int (nI j)), (2, .int p)] [.int (bI (decide (0 ≤ Int32.toInt64 p ∧ Int32.toInt64 p ≤ 257)))]
      refine aw_topi (v' := 0) ((bI_f (fun q => h1 ((in32 rfl rfl).mp q))).symm) ?_
      show AW X 5 0 0 ad ce 17 [(0, .ref (ad (3, 0, 0))), (1, .int (nI j)), (2, .int p)] [.int 0]
      refine aw_if_eq C (tgt := 41) d_R_pass_17 (by decide) (fun h17 => ?_) (fun h17 => absurd (rfl) h17)
      refine aw_iconst C (v := (-1)) d_R_pass_41 (by decide) ?_
      refine aw_iret C E (rfl) (by decide) (by decide) d_R_pass_42 ?_
      rw [show f_pass S (nI j) p = (-1, S) from by simp only [f_pass, ix_in hj (show s_cn S < 2 ^ 31 by omega), if_neg hc]]
      exact ⟨rfl, rfl, frR.rf, ⟨kd, sr, np, st, la, gby, gdu, gwo, grd, un, ps, gpt, gff, gfc, hR, hE, hW⟩⟩
