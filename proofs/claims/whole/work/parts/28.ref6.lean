set_option maxRecDepth 100000 in
set_option maxHeartbeats 4000000 in
theorem R_carrier (l : Launch) (G : aw_G) (ad : aw_Ad) (ce : aw_He) (S : SysS) (hS : LayR S ad ce) (kd0 : Int32) (x : Int64) (n : Int32) : CT l G M_R_carrier 1 25 0 0 [.ref (ad (3, 0, 0)), .int kd0, .long x, .int n] ad ce (rR (some (.int (f_carrier S kd0 x n).1)) (f_carrier S kd0 x n).2 ad ce) := by
  refine CT.of (by decide) (Nat.le_of_ble_eq_true rfl) ?_
  intro X C I E
  obtain ⟨kd, sr, np, st, la, gby, gdu, gwo, grd, un, ps, gpt, gff, gfc, hR, hE, hW⟩ := hS
  have hE0 := hE
  obtain ⟨hE1, hE2, hE3, hE4, hE5, hE6, hE7⟩ := hE0
  have hW0 := hW
  obtain ⟨⟨hb1, hb2, hb3, hb4⟩, hW2, hW3⟩ := hW0
  have hR0 := hR
  obtain ⟨r0, r1, r2, r3, r4, r5, r6, r7, r8, r9, r10, r11, r12, r14, r15, r17, r19⟩ := hR0
  have hsr : ∀ x, anyF sr x (s_cn S) 0 = hasC S x := fun x => anyF_congr (fun i _ hi => (hE1 i (by omega)).2.1)
  by_cases hc : (0 ≤ kd0 ∧ kd0 ≤ 3) ∧ (0 ≤ x ∧ x ≤ 1000000000000) ∧ (1 ≤ n ∧ n ≤ 64) ∧ s_cn S < 10 ∧ hasC S x = false
  · obtain ⟨n, hn0, rfl⟩ : ∃ m : Nat, m ≤ 64 ∧ n = nI m := nI_of2 (M := 64) rfl (by have := hc.2.2.1.1; (try simp only [Int32.le_iff_toInt_le, Int32.lt_iff_toInt_lt] at this ⊢); have e1 : (1 : Int32).toInt = 1 := rfl; have e0 : (0 : Int32).toInt = 0 := rfl; omega) hc.2.2.1.2
    have hn2 : n ≤ 64 := hn0
    have hn1 : 1 ≤ n := by
      rcases Nat.eq_zero_or_pos n with q | q
      · subst q; exact absurd hc.2.2.1.1 (by decide)
      · exact q
    have hcn := hc.2.2.2.1
    show AW X 5 0 0 ad ce 0 [(0, .ref (ad (3, 0, 0))), (1, .int kd0), (2, .long x), (4, .int (nI n))] []
    refine aw_aload_n C d_R_carrier_0 rfl (j := 0) rfl ?_
    refine aw_get C F_R r0 0 (by decide) tw_299 rfl d_R_carrier_1 ?_
    refine aw_bipush C (v := 10) d_R_carrier_4 (by decide) ?_
    refine aw_icmp_eq C (tgt := 53) d_R_carrier_6 (by decide) (fun h6 => absurd h6 (fun q => absurd ((nI_eq (b := 10) (by omega) (by omega)).mp q) (by omega))) (fun h6 => ?_)
    refine aw_iload_n C d_R_carrier_9 rfl (j := 1) rfl ?_
    refine aw_i2l C d_R_carrier_10 ?_
    refine aw_lconst C (v := 0) d_R_carrier_11 (by decide) ?_
    refine aw_ldc2 C tw_364 d_R_carrier_12 ?_
    refine aw_callS C I (as := [.long (Int32.toInt64 kd0), .long 0, .long 3]) (rest := []) (r_isIn l G ad ce (Int32.toInt64 kd0) 0 3) g_R_70 ⟨by decide, by decide⟩ ⟨by decide, by decide⟩ rfl (Nat.le_of_ble_eq_true rfl) d_R_carrier_15 ?_
    rintro _ _ _ ⟨rfl, rfl, rfl⟩
    show AW X 5 0 0 ad ce 18 [(0, .ref (ad (3, 0, 0))), (1, .int kd0), (2, .long x), (4, .int (nI n))] [.int (bI (decide (0 ≤ Int32.toInt64 kd0 ∧ Int32.toInt64 kd0 ≤ 3)))]
    refine aw_topi (v' := 1) ((bI_t ((in32 rfl rfl).mpr hc.1)).symm) ?_
    show AW X 5 0 0 ad ce 18 [(0, .ref (ad (3, 0, 0))), (1, .int kd0), (2, .long x), (4, .int (nI n))] [.int 1]
    refine aw_if_eq C (tgt := 53) d_R_carrier_18 (by decide) (fun h18 => absurd h18 (by decide)) (fun h18 => ?_)
    refine aw_lload_n C d_R_carrier_21 rfl (j := 2) rfl ?_
    refine aw_lconst C (v := 0) d_R_carrier_22 (by decide) ?_
    refine aw_ldc2 C tw_368 d_R_carrier_23 ?_
    refine aw_callS C I (as := [.long x, .long 0, .long 1000000000000]) (rest := []) (r_isIn l G ad ce x 0 1000000000000) g_R_70 ⟨by decide, by decide⟩ ⟨by decide, by decide⟩ rfl (Nat.le_of_ble_eq_true rfl) d_R_carrier_26 ?_
    rintro _ _ _ ⟨rfl, rfl, rfl⟩
    show AW X 5 0 0 ad ce 29 [(0, .ref (ad (3, 0, 0))), (1, .int kd0), (2, .long x), (4, .int (nI n))] [.int (bI (decide (0 ≤ x ∧ x ≤ 1000000000000)))]
    refine aw_topi (v' := 1) ((bI_t hc.2.1).symm) ?_
    show AW X 5 0 0 ad ce 29 [(0, .ref (ad (3, 0, 0))), (1, .int kd0), (2, .long x), (4, .int (nI n))] [.int 1]
    refine aw_if_eq C (tgt := 53) d_R_carrier_29 (by decide) (fun h29 => absurd h29 (by decide)) (fun h29 => ?_)
    refine aw_iload C d_R_carrier_32 (j := 3) rfl ?_
    refine aw_i2l C d_R_carrier_34 ?_
    refine aw_lconst C (v := 1) d_R_carrier_35 (by decide) ?_
    refine aw_ldc2 C tw_369 d_R_carrier_36 ?_
    refine aw_callS C I (as := [.long (Int32.toInt64 (nI n)), .long 1, .long 64]) (rest := []) (r_isIn l G ad ce (Int32.toInt64 (nI n)) 1 64) g_R_70 ⟨by decide, by decide⟩ ⟨by decide, by decide⟩ rfl (Nat.le_of_ble_eq_true rfl) d_R_carrier_39 ?_
    rintro _ _ _ ⟨rfl, rfl, rfl⟩
    show AW X 5 0 0 ad ce 42 [(0, .ref (ad (3, 0, 0))), (1, .int kd0), (2, .long x), (4, .int (nI n))] [.int (bI (decide (1 ≤ Int32.toInt64 (nI n) ∧ Int32.toInt64 (nI n) ≤ 64)))]
    refine aw_topi (v' := 1) ((bI_t ((in32 rfl rfl).mpr hc.2.2.1)).symm) ?_
    show AW X 5 0 0 ad ce 42 [(0, .ref (ad (3, 0, 0))), (1, .int kd0), (2, .long x), (4, .int (nI n))] [.int 1]
    refine aw_if_eq C (tgt := 53) d_R_carrier_42 (by decide) (fun h42 => absurd h42 (by decide)) (fun h42 => ?_)
    refine aw_aload_n C d_R_carrier_45 rfl (j := 0) rfl ?_
    refine aw_lload_n C d_R_carrier_46 rfl (j := 2) rfl ?_
    refine aw_callV C I (k := (3, 0, 0)) (as := [.long x]) (rest := []) (r_hasSerial l G ad ce (s_cn S) (s_pn S) (s_ln S) (s_on S) kd sr np st la gby gdu gwo grd un ps gpt gff gfc (s_li S) (s_lo S) hR hb1 x) g_R_78 r0 rfl rfl ⟨by decide, by decide⟩ ⟨by decide, by decide⟩ rfl (Nat.le_of_ble_eq_true rfl) d_R_carrier_47 ?_
    rintro _ _ _ ⟨rfl, rfl, rfl⟩
    show AW X 5 0 0 ad ce 50 [(0, .ref (ad (3, 0, 0))), (1, .int kd0), (2, .long x), (4, .int (nI n))] [.int (bI (anyF sr x (s_cn S) 0))]
    refine aw_topi (v' := 0) (by rw [hsr, hc.2.2.2.2]; rfl) ?_
    show AW X 5 0 0 ad ce 50 [(0, .ref (ad (3, 0, 0))), (1, .int kd0), (2, .long x), (4, .int (nI n))] [.int 0]
    refine aw_if_eq C (tgt := 55) d_R_carrier_50 (by decide) (fun h50 => ?_) (fun h50 => absurd (rfl) h50)
    refine aw_aload_n C d_R_carrier_55 rfl (j := 0) rfl ?_
    refine aw_get C F_R r0 1 (by decide) tw_300 rfl d_R_carrier_56 ?_
    refine aw_aload_n C d_R_carrier_59 rfl (j := 0) rfl ?_
    refine aw_get C F_R r0 0 (by decide) tw_299 rfl d_R_carrier_60 ?_
    refine aw_iload_n C d_R_carrier_63 rfl (j := 1) rfl ?_
    refine ar_iast C r1 (j := (s_cn S)) (rfl) (by omega) (by omega) d_R_carrier_64 ?_
    intro ce36 fw36 r1
    have r0 : ce36 (3, 0, 0) = some (.inr (3, [.int (nI (s_cn S)), .ref (ad (3, 0, 1)), .ref (ad (3, 0, 2)), .ref (ad (3, 0, 3)), .ref (ad (3, 0, 4)), .ref (ad (3, 0, 5)), .ref (ad (3, 0, 6)), .ref (ad (3, 0, 7)), .ref (ad (3, 0, 8)), .ref (ad (3, 0, 9)), .ref (ad (3, 0, 10)), .ref (ad (3, 0, 11)), .ref (ad (3, 0, 12)), .int (nI (s_pn S)), .ref (ad (3, 0, 14)), .ref (ad (3, 0, 15)), .int (nI (s_ln S)), .ref (ad (3, 0, 17)), .int (nI (s_on S)), .ref (ad (3, 0, 19))])) := (fw36 _ (by simp)).trans r0
    have r2 := r2.tr (fw36 _ (by simp))
    have r3 := r3.tr (fw36 _ (by simp))
    have r4 := r4.tr (fw36 _ (by simp))
    have r5 := r5.tr (fw36 _ (by simp))
    have r6 := r6.tr (fw36 _ (by simp))
    have r7 := r7.tr (fw36 _ (by simp))
    have r8 := r8.tr (fw36 _ (by simp))
    have r9 := r9.tr (fw36 _ (by simp))
    have r10 := r10.tr (fw36 _ (by simp))
    have r11 := r11.tr (fw36 _ (by simp))
    have r12 := r12.tr (fw36 _ (by simp))
    have r14 := r14.tr (fw36 _ (by simp))
    have r15 := r15.tr (fw36 _ (by simp))
    have r17 := r17.tr (fw36 _ (by simp))
    have r19 := r19.tr (fw36 _ (by simp))
    refine aw_aload_n C d_R_carrier_65 rfl (j := 0) rfl ?_
    refine aw_get C F_R r0 2 (by decide) tw_301 rfl d_R_carrier_66 ?_
    refine aw_aload_n C d_R_carrier_69 rfl (j := 0) rfl ?_
    refine aw_get C F_R r0 0 (by decide) tw_299 rfl d_R_carrier_70 ?_
    refine aw_lload_n C d_R_carrier_73 rfl (j := 2) rfl ?_
    refine ar_last C r2 (j := (s_cn S)) (rfl) (by omega) (by omega) d_R_carrier_74 ?_
    intro ce37 fw37 r2
    have r0 : ce37 (3, 0, 0) = some (.inr (3, [.int (nI (s_cn S)), .ref (ad (3, 0, 1)), .ref (ad (3, 0, 2)), .ref (ad (3, 0, 3)), .ref (ad (3, 0, 4)), .ref (ad (3, 0, 5)), .ref (ad (3, 0, 6)), .ref (ad (3, 0, 7)), .ref (ad (3, 0, 8)), .ref (ad (3, 0, 9)), .ref (ad (3, 0, 10)), .ref (ad (3, 0, 11)), .ref (ad (3, 0, 12)), .int (nI (s_pn S)), .ref (ad (3, 0, 14)), .ref (ad (3, 0, 15)), .int (nI (s_ln S)), .ref (ad (3, 0, 17)), .int (nI (s_on S)), .ref (ad (3, 0, 19))])) := (fw37 _ (by simp)).trans r0
    have r1 := r1.tr (fw37 _ (by simp))
    have r3 := r3.tr (fw37 _ (by simp))
    have r4 := r4.tr (fw37 _ (by simp))
    have r5 := r5.tr (fw37 _ (by simp))
    have r6 := r6.tr (fw37 _ (by simp))
    have r7 := r7.tr (fw37 _ (by simp))
    have r8 := r8.tr (fw37 _ (by simp))
    have r9 := r9.tr (fw37 _ (by simp))
    have r10 := r10.tr (fw37 _ (by simp))
    have r11 := r11.tr (fw37 _ (by simp))
    have r12 := r12.tr (fw37 _ (by simp))
    have r14 := r14.tr (fw37 _ (by simp))
    have r15 := r15.tr (fw37 _ (by simp))
    have r17 := r17.tr (fw37 _ (by simp))
    have r19 := r19.tr (fw37 _ (by simp))
    refine aw_aload_n C d_R_carrier_75 rfl (j := 0) rfl ?_
    refine aw_get C F_R r0 3 (by decide) tw_302 rfl d_R_carrier_76 ?_
    refine aw_aload_n C d_R_carrier_79 rfl (j := 0) rfl ?_
    refine aw_get C F_R r0 0 (by decide) tw_299 rfl d_R_carrier_80 ?_
    refine aw_iload C d_R_carrier_83 (j := 3) rfl ?_
    refine ar_iast C r3 (j := (s_cn S)) (rfl) (by omega) (by omega) d_R_carrier_85 ?_
    intro ce38 fw38 r3
    have r0 : ce38 (3, 0, 0) = some (.inr (3, [.int (nI (s_cn S)), .ref (ad (3, 0, 1)), .ref (ad (3, 0, 2)), .ref (ad (3, 0, 3)), .ref (ad (3, 0, 4)), .ref (ad (3, 0, 5)), .ref (ad (3, 0, 6)), .ref (ad (3, 0, 7)), .ref (ad (3, 0, 8)), .ref (ad (3, 0, 9)), .ref (ad (3, 0, 10)), .ref (ad (3, 0, 11)), .ref (ad (3, 0, 12)), .int (nI (s_pn S)), .ref (ad (3, 0, 14)), .ref (ad (3, 0, 15)), .int (nI (s_ln S)), .ref (ad (3, 0, 17)), .int (nI (s_on S)), .ref (ad (3, 0, 19))])) := (fw38 _ (by simp)).trans r0
    have r1 := r1.tr (fw38 _ (by simp))
    have r2 := r2.tr (fw38 _ (by simp))
    have r4 := r4.tr (fw38 _ (by simp))
    have r5 := r5.tr (fw38 _ (by simp))
    have r6 := r6.tr (fw38 _ (by simp))
    have r7 := r7.tr (fw38 _ (by simp))
    have r8 := r8.tr (fw38 _ (by simp))
    have r9 := r9.tr (fw38 _ (by simp))
    have r10 := r10.tr (fw38 _ (by simp))
    have r11 := r11.tr (fw38 _ (by simp))
    have r12 := r12.tr (fw38 _ (by simp))
    have r14 := r14.tr (fw38 _ (by simp))
    have r15 := r15.tr (fw38 _ (by simp))
    have r17 := r17.tr (fw38 _ (by simp))
    have r19 := r19.tr (fw38 _ (by simp))
    refine aw_aload_n C d_R_carrier_86 rfl (j := 0) rfl ?_
    refine aw_get C F_R r0 5 (by decide) tw_304 rfl d_R_carrier_87 ?_
    refine aw_aload_n C d_R_carrier_90 rfl (j := 0) rfl ?_
    refine aw_get C F_R r0 0 (by decide) tw_299 rfl d_R_carrier_91 ?_
    refine aw_iconst C (v := (-1)) d_R_carrier_94 (by decide) ?_
    refine ar_iast C r5 (j := (s_cn S)) (rfl) (by omega) (by omega) d_R_carrier_95 ?_
    intro ce39 fw39 r5
    have r0 : ce39 (3, 0, 0) = some (.inr (3, [.int (nI (s_cn S)), .ref (ad (3, 0, 1)), .ref (ad (3, 0, 2)), .ref (ad (3, 0, 3)), .ref (ad (3, 0, 4)), .ref (ad (3, 0, 5)), .ref (ad (3, 0, 6)), .ref (ad (3, 0, 7)), .ref (ad (3, 0, 8)), .ref (ad (3, 0, 9)), .ref (ad (3, 0, 10)), .ref (ad (3, 0, 11)), .ref (ad (3, 0, 12)), .int (nI (s_pn S)), .ref (ad (3, 0, 14)), .ref (ad (3, 0, 15)), .int (nI (s_ln S)), .ref (ad (3, 0, 17)), .int (nI (s_on S)), .ref (ad (3, 0, 19))])) := (fw39 _ (by simp)).trans r0
    have r1 := r1.tr (fw39 _ (by simp))
    have r2 := r2.tr (fw39 _ (by simp))
    have r3 := r3.tr (fw39 _ (by simp))
    have r4 := r4.tr (fw39 _ (by simp))
    have r6 := r6.tr (fw39 _ (by simp))
    have r7 := r7.tr (fw39 _ (by simp))
    have r8 := r8.tr (fw39 _ (by simp))
    have r9 := r9.tr (fw39 _ (by simp))
    have r10 := r10.tr (fw39 _ (by simp))
    have r11 := r11.tr (fw39 _ (by simp))
    have r12 := r12.tr (fw39 _ (by simp))
    have r14 := r14.tr (fw39 _ (by simp))
    have r15 := r15.tr (fw39 _ (by simp))
    have r17 := r17.tr (fw39 _ (by simp))
    have r19 := r19.tr (fw39 _ (by simp))
    refine aw_aload_n C d_R_carrier_96 rfl (j := 0) rfl ?_
    refine aw_dup C d_R_carrier_97 rfl ?_
    refine aw_get C F_R r0 0 (by decide) tw_299 rfl d_R_carrier_98 ?_
    refine aw_iconst C (v := 1) d_R_carrier_101 (by decide) ?_
    refine aw_iadd C d_R_carrier_102 ?_
    refine aw_topi (v' := nI (s_cn S + 1)) (nI_1 _) ?_
    refine ob_put C F_R r0 0 (by decide) tw_299 rfl rfl rfl (Nat.le_of_ble_eq_true rfl) (fs' := [.int (nI (s_cn S + 1)), .ref (ad (3, 0, 1)), .ref (ad (3, 0, 2)), .ref (ad (3, 0, 3)), .ref (ad (3, 0, 4)), .ref (ad (3, 0, 5)), .ref (ad (3, 0, 6)), .ref (ad (3, 0, 7)), .ref (ad (3, 0, 8)), .ref (ad (3, 0, 9)), .ref (ad (3, 0, 10)), .ref (ad (3, 0, 11)), .ref (ad (3, 0, 12)), .int (nI (s_pn S)), .ref (ad (3, 0, 14)), .ref (ad (3, 0, 15)), .int (nI (s_ln S)), .ref (ad (3, 0, 17)), .int (nI (s_on S)), .ref (ad (3, 0, 19))]) rfl d_R_carrier_103 ?_
    intro ce40 fw40 r0
    have r1 := r1.tr (fw40 _ (by simp))
    have r2 := r2.tr (fw40 _ (by simp))
    have r3 := r3.tr (fw40 _ (by simp))
    have r4 := r4.tr (fw40 _ (by simp))
    have r5 := r5.tr (fw40 _ (by simp))
    have r6 := r6.tr (fw40 _ (by simp))
    have r7 := r7.tr (fw40 _ (by simp))
    have r8 := r8.tr (fw40 _ (by simp))
    have r9 := r9.tr (fw40 _ (by simp))
    have r10 := r10.tr (fw40 _ (by simp))
    have r11 := r11.tr (fw40 _ (by simp))
    have r12 := r12.tr (fw40 _ (by simp))
    have r14 := r14.tr (fw40 _ (by simp))
    have r15 := r15.tr (fw40 _ (by simp))
    have r17 := r17.tr (fw40 _ (by simp))
    have r19 := r19.tr (fw40 _ (by simp))
    refine aw_aload_n C d_R_carrier_106 rfl (j := 0) rfl ?_
    refine aw_get C F_R r0 0 (by decide) tw_299 rfl d_R_carrier_107 ?_
    refine aw_iconst C (v := 1) d_R_carrier_110 (by decide) ?_
    refine aw_isub C d_R_carrier_111 ?_
    refine aw_topi (v' := nI (s_cn S)) (nI_pred _) ?_
    refine aw_iret C E (rfl) (by decide) (by decide) d_R_carrier_112 ?_
    rw [show f_carrier S kd0 x (nI n) = (nI (s_cn S), s_addC S (k_new kd0 x n)) from by rw [f_carrier, if_pos hc, nI_clamp (by omega)]]
    have hz := hE7 (s_cn S) (Nat.le_refl _)
    have hrel : Rel (s_addC S (k_new kd0 x n)) (upd kd (s_cn S) kd0) (vp_updL sr (s_cn S) x) (upd np (s_cn S) (nI n)) st (upd la (s_cn S) (-1)) gby gdu gwo grd un ps gpt gff gfc := by
      refine ⟨fun i hi => ?_, fun i k hi hk => ?_, fun i k hi hi2 hk => ?_, fun i k hi hk => ?_, hE5, hE6, fun i hi => ?_⟩
      · show _ = k_kd (va_up (s_car S) (s_cn S) _ i) ∧ _ = k_sr (va_up (s_car S) (s_cn S) _ i) ∧ _ = nI (k_np (va_up (s_car S) (s_cn S) _ i)) ∧ _ = k_st (va_up (s_car S) (s_cn S) _ i) ∧ _ = k_la (va_up (s_car S) (s_cn S) _ i) ∧ _ = k_un (va_up (s_car S) (s_cn S) _ i) ∧ _ = nI (k_ps (va_up (s_car S) (s_cn S) _ i))
        obtain ⟨a1, a2, a3, a4, a5, a6, a7⟩ := hE1 i hi
        by_cases e : i = s_cn S
        · subst e
          rw [va_up_self]
          rw [hz] at a4 a6 a7
          exact ⟨by simp [upd]; rfl, by simp [vp_updL]; rfl, by simp [upd]; rfl, a4, by simp [upd]; rfl, a6, a7⟩
        · rw [va_up_ne _ _ e, updn e, updn e, updn e]
          exact ⟨a1, by simp only [vp_updL, if_neg e]; exact a2, a3, a4, a5, a6, a7⟩
      · have hi' : i < s_cn S + 1 := hi
        change k < k_np (va_up (s_car S) (s_cn S) _ i) at hk
        show _ = k_by (va_up (s_car S) (s_cn S) _ i) k ∧ _ = k_du (va_up (s_car S) (s_cn S) _ i) k ∧ _ = k_wo (va_up (s_car S) (s_cn S) _ i) k ∧ _ = k_rd (va_up (s_car S) (s_cn S) _ i) k
        by_cases e : i = s_cn S
        · subst e
          rw [va_up_self] at hk ⊢
          have hk' : k < n := hk
          exact hE3 _ k (Nat.le_refl _) (by omega) (by omega)
        · rw [va_up_ne _ _ e] at hk ⊢
          exact hE2 i k (by omega) hk
      · have hi' : s_cn S + 1 ≤ i := hi
        exact hE3 i k (by omega) hi2 hk
      · have hi' : i < s_cn S + 1 := hi
        change k < k_ps (va_up (s_car S) (s_cn S) _ i) at hk
        show _ = k_pt (va_up (s_car S) (s_cn S) _ i) k
        by_cases e : i = s_cn S
        · subst e
          rw [va_up_self] at hk
          exact absurd hk (Nat.not_lt_zero _)
        · rw [va_up_ne _ _ e] at hk ⊢
          exact hE4 i k (by omega) hk
      · have hi' : s_cn S + 1 ≤ i := hi
        show va_up (s_car S) (s_cn S) _ i = k_zero
        rw [va_up_ne _ _ (by omega)]
        exact hE7 i (by omega)
    have hwf : WFS (s_addC S (k_new kd0 x n)) := by
      refine ⟨⟨by show s_cn S + 1 ≤ 10; omega, hb2, hb3, hb4⟩, fun i hi => ?_, hW3⟩
      have hi' : i < s_cn S + 1 := hi
      show (1 ≤ k_np (va_up (s_car S) (s_cn S) _ i) ∧ k_np (va_up (s_car S) (s_cn S) _ i) ≤ 64) ∧ k_ps (va_up (s_car S) (s_cn S) _ i) ≤ 6
      by_cases e : i = s_cn S
      · subst e
        rw [va_up_self]
        exact ⟨⟨hn1, hn2⟩, Nat.zero_le 6⟩
      · rw [va_up_ne _ _ e]; exact hW2 i (by omega)
    exact ⟨rfl, rfl, ((((fr3 fw36).trans (fr3 fw37)).trans (fr3 fw38)).trans (fr3 fw39)).trans (fr3 fw40), _, _, _, _, _, _, _, _, _, _, _, _, _, _, ⟨r0, r1, r2, r3, r4, r5, r6, r7, r8, r9, r10, r11, r12, r14, r15, r17, r19⟩, hrel, hwf⟩
  by_cases h0 : s_cn S = 10
  · skip
    show AW X 5 0 0 ad ce 0 [(0, .ref (ad (3, 0, 0))), (1, .int kd0), (2, .long x), (4, .int n)] []
    refine aw_aload_n C d_R_carrier_0 rfl (j := 0) rfl ?_
    refine aw_get C F_R r0 0 (by decide) tw_299 rfl d_R_carrier_1 ?_
    refine aw_bipush C (v := 10) d_R_carrier_4 (by decide) ?_
    refine aw_icmp_eq C (tgt := 53) d_R_carrier_6 (by decide) (fun h6 => ?_) (fun h6 => absurd (by rw [h0]; rfl) h6)
    refine aw_iconst C (v := (-1)) d_R_carrier_53 (by decide) ?_
    refine aw_iret C E (rfl) (by decide) (by decide) d_R_carrier_54 ?_
    rw [show f_carrier S kd0 x n = (-1, S) from if_neg hc]
    exact ⟨rfl, rfl, frR.rf, ⟨kd, sr, np, st, la, gby, gdu, gwo, grd, un, ps, gpt, gff, gfc, hR, hE, hW⟩⟩
  by_cases h1 : 0 ≤ kd0 ∧ kd0 ≤ 3
  · by_cases h2 : 0 ≤ x ∧ x ≤ 1000000000000
    · by_cases h3 : 1 ≤ n ∧ n ≤ 64
      · have h5 : hasC S x = true := by
          cases h : hasC S x
          · exact absurd ⟨h1, h2, h3, by omega, h⟩ hc
          · rfl
        show AW X 5 0 0 ad ce 0 [(0, .ref (ad (3, 0, 0))), (1, .int kd0), (2, .long x), (4, .int n)] []
        refine aw_aload_n C d_R_carrier_0 rfl (j := 0) rfl ?_
        refine aw_get C F_R r0 0 (by decide) tw_299 rfl d_R_carrier_1 ?_
        refine aw_bipush C (v := 10) d_R_carrier_4 (by decide) ?_
        refine aw_icmp_eq C (tgt := 53) d_R_carrier_6 (by decide) (fun h6 => absurd h6 (fun q => absurd ((nI_eq (b := 10) (by omega) (by omega)).mp q) (by omega))) (fun h6 => ?_)
        refine aw_iload_n C d_R_carrier_9 rfl (j := 1) rfl ?_
        refine aw_i2l C d_R_carrier_10 ?_
        refine aw_lconst C (v := 0) d_R_carrier_11 (by decide) ?_
        refine aw_ldc2 C tw_364 d_R_carrier_12 ?_
        refine aw_callS C I (as := [.long (Int32.toInt64 kd0), .long 0, .long 3]) (rest := []) (r_isIn l G ad ce (Int32.toInt64 kd0) 0 3) g_R_70 ⟨by decide, by decide⟩ ⟨by decide, by decide⟩ rfl (Nat.le_of_ble_eq_true rfl) d_R_carrier_15 ?_
        rintro _ _ _ ⟨rfl, rfl, rfl⟩
        show AW X 5 0 0 ad ce 18 [(0, .ref (ad (3, 0, 0))), (1, .int kd0), (2, .long x), (4, .int n)] [.int (bI (decide (0 ≤ Int32.toInt64 kd0 ∧ Int32.toInt64 kd0 ≤ 3)))]
        refine aw_topi (v' := 1) ((bI_t ((in32 rfl rfl).mpr h1)).symm) ?_
        show AW X 5 0 0 ad ce 18 [(0, .ref (ad (3, 0, 0))), (1, .int kd0), (2, .long x), (4, .int n)] [.int 1]
        refine aw_if_eq C (tgt := 53) d_R_carrier_18 (by decide) (fun h18 => absurd h18 (by decide)) (fun h18 => ?_)
        refine aw_lload_n C d_R_carrier_21 rfl (j := 2) rfl ?_
        refine aw_lconst C (v := 0) d_R_carrier_22 (by decide) ?_
        refine aw_ldc2 C tw_368 d_R_carrier_23 ?_
        refine aw_callS C I (as := [.long x, .long 0, .long 1000000000000]) (rest := []) (r_isIn l G ad ce x 0 1000000000000) g_R_70 ⟨by decide, by decide⟩ ⟨by decide, by decide⟩ rfl (Nat.le_of_ble_eq_true rfl) d_R_carrier_26 ?_
        rintro _ _ _ ⟨rfl, rfl, rfl⟩
        show AW X 5 0 0 ad ce 29 [(0, .ref (ad (3, 0, 0))), (1, .int kd0), (2, .long x), (4, .int n)] [.int (bI (decide (0 ≤ x ∧ x ≤ 1000000000000)))]
        refine aw_topi (v' := 1) ((bI_t h2).symm) ?_
        show AW X 5 0 0 ad ce 29 [(0, .ref (ad (3, 0, 0))), (1, .int kd0), (2, .long x), (4, .int n)] [.int 1]
        refine aw_if_eq C (tgt := 53) d_R_carrier_29 (by decide) (fun h29 => absurd h29 (by decide)) (fun h29 => ?_)
        refine aw_iload C d_R_carrier_32 (j := 3) rfl ?_
        refine aw_i2l C d_R_carrier_34 ?_
        refine aw_lconst C (v := 1) d_R_carrier_35 (by decide) ?_
        refine aw_ldc2 C tw_369 d_R_carrier_36 ?_
        refine aw_callS C I (as := [.long (Int32.toInt64 n), .long 1, .long 64]) (rest := []) (r_isIn l G ad ce (Int32.toInt64 n) 1 64) g_R_70 ⟨by decide, by decide⟩ ⟨by decide, by decide⟩ rfl (Nat.le_of_ble_eq_true rfl) d_R_carrier_39 ?_
        rintro _ _ _ ⟨rfl, rfl, rfl⟩
        show AW X 5 0 0 ad ce 42 [(0, .ref (ad (3, 0, 0))), (1, .int kd0), (2, .long x), (4, .int n)] [.int (bI (decide (1 ≤ Int32.toInt64 n ∧ Int32.toInt64 n ≤ 64)))]
        refine aw_topi (v' := 1) ((bI_t ((in32 rfl rfl).mpr h3)).symm) ?_
        show AW X 5 0 0 ad ce 42 [(0, .ref (ad (3, 0, 0))), (1, .int kd0), (2, .long x), (4, .int n)] [.int 1]
        refine aw_if_eq C (tgt := 53) d_R_carrier_42 (by decide) (fun h42 => absurd h42 (by decide)) (fun h42 => ?_)
        refine aw_aload_n C d_R_carrier_45 rfl (j := 0) rfl ?_
        refine aw_lload_n C d_R_carrier_46 rfl (j := 2) rfl ?_
        refine aw_callV C I (k := (3, 0, 0)) (as := [.long x]) (rest := []) (r_hasSerial l G ad ce (s_cn S) (s_pn S) (s_ln S) (s_on S) kd sr np st la gby gdu gwo grd un ps gpt gff gfc (s_li S) (s_lo S) hR hb1 x) g_R_78 r0 rfl rfl ⟨by decide, by decide⟩ ⟨by decide, by decide⟩ rfl (Nat.le_of_ble_eq_true rfl) d_R_carrier_47 ?_
        rintro _ _ _ ⟨rfl, rfl, rfl⟩
        show AW X 5 0 0 ad ce 50 [(0, .ref (ad (3, 0, 0))), (1, .int kd0), (2, .long x), (4, .int n)] [.int (bI (anyF sr x (s_cn S) 0))]
        refine aw_topi (v' := 1) (by rw [hsr, h5]; rfl) ?_
        show AW X 5 0 0 ad ce 50 [(0, .ref (ad (3, 0, 0))), (1, .int kd0), (2, .long x), (4, .int n)] [.int 1]
        refine aw_if_eq C (tgt := 55) d_R_carrier_50 (by decide) (fun h50 => absurd h50 (by decide)) (fun h50 => ?_)
        refine aw_iconst C (v := (-1)) d_R_carrier_53 (by decide) ?_
        refine aw_iret C E (rfl) (by decide) (by decide) d_R_carrier_54 ?_
        rw [show f_carrier S kd0 x n = (-1, S) from if_neg hc]
        exact ⟨rfl, rfl, frR.rf, ⟨kd, sr, np, st, la, gby, gdu, gwo, grd, un, ps, gpt, gff, gfc, hR, hE, hW⟩⟩
      · skip
        show AW X 5 0 0 ad ce 0 [(0, .ref (ad (3, 0, 0))), (1, .int kd0), (2, .long x), (4, .int n)] []
        refine aw_aload_n C d_R_carrier_0 rfl (j := 0) rfl ?_
        refine aw_get C F_R r0 0 (by decide) tw_299 rfl d_R_carrier_1 ?_
        refine aw_bipush C (v := 10) d_R_carrier_4 (by decide) ?_
        refine aw_icmp_eq C (tgt := 53) d_R_carrier_6 (by decide) (fun h6 => absurd h6 (fun q => absurd ((nI_eq (b := 10) (by omega) (by omega)).mp q) (by omega))) (fun h6 => ?_)
        refine aw_iload_n C d_R_carrier_9 rfl (j := 1) rfl ?_
        refine aw_i2l C d_R_carrier_10 ?_
        refine aw_lconst C (v := 0) d_R_carrier_11 (by decide) ?_
        refine aw_ldc2 C tw_364 d_R_carrier_12 ?_
        refine aw_callS C I (as := [.long (Int32.toInt64 kd0), .long 0, .long 3]) (rest := []) (r_isIn l G ad ce (Int32.toInt64 kd0) 0 3) g_R_70 ⟨by decide, by decide⟩ ⟨by decide, by decide⟩ rfl (Nat.le_of_ble_eq_true rfl) d_R_carrier_15 ?_
        rintro _ _ _ ⟨rfl, rfl, rfl⟩
        show AW X 5 0 0 ad ce 18 [(0, .ref (ad (3, 0, 0))), (1, .int kd0), (2, .long x), (4, .int n)] [.int (bI (decide (0 ≤ Int32.toInt64 kd0 ∧ Int32.toInt64 kd0 ≤ 3)))]
        refine aw_topi (v' := 1) ((bI_t ((in32 rfl rfl).mpr h1)).symm) ?_
        show AW X 5 0 0 ad ce 18 [(0, .ref (ad (3, 0, 0))), (1, .int kd0), (2, .long x), (4, .int n)] [.int 1]
        refine aw_if_eq C (tgt := 53) d_R_carrier_18 (by decide) (fun h18 => absurd h18 (by decide)) (fun h18 => ?_)
        refine aw_lload_n C d_R_carrier_21 rfl (j := 2) rfl ?_
        refine aw_lconst C (v := 0) d_R_carrier_22 (by decide) ?_
        refine aw_ldc2 C tw_368 d_R_carrier_23 ?_
        refine aw_callS C I (as := [.long x, .long 0, .long 1000000000000]) (rest := []) (r_isIn l G ad ce x 0 1000000000000) g_R_70 ⟨by decide, by decide⟩ ⟨by decide, by decide⟩ rfl (Nat.le_of_ble_eq_true rfl) d_R_carrier_26 ?_
        rintro _ _ _ ⟨rfl, rfl, rfl⟩
        show AW X 5 0 0 ad ce 29 [(0, .ref (ad (3, 0, 0))), (1, .int kd0), (2, .long x), (4, .int n)] [.int (bI (decide (0 ≤ x ∧ x ≤ 1000000000000)))]
        refine aw_topi (v' := 1) ((bI_t h2).symm) ?_
        show AW X 5 0 0 ad ce 29 [(0, .ref (ad (3, 0, 0))), (1, .int kd0), (2, .long x), (4, .int n)] [.int 1]
        refine aw_if_eq C (tgt := 53) d_R_carrier_29 (by decide) (fun h29 => absurd h29 (by decide)) (fun h29 => ?_)
        refine aw_iload C d_R_carrier_32 (j := 3) rfl ?_
        refine aw_i2l C d_R_carrier_34 ?_
        refine aw_lconst C (v := 1) d_R_carrier_35 (by decide) ?_
        refine aw_ldc2 C tw_369 d_R_carrier_36 ?_
        refine aw_callS C I (as := [.long (Int32.toInt64 n), .long 1, .long 64]) (rest := []) (r_isIn l G ad ce (Int32.toInt64 n) 1 64) g_R_70 ⟨by decide, by decide⟩ ⟨by decide, by decide⟩ rfl (Nat.le_of_ble_eq_true rfl) d_R_carrier_39 ?_
        rintro _ _ _ ⟨rfl, rfl, rfl⟩
        show AW X 5 0 0 ad ce 42 [(0, .ref (ad (3, 0, 0))), (1, .int kd0), (2, .long x), (4, .int n)] [.int (bI (decide (1 ≤ Int32.toInt64 n ∧ Int32.toInt64 n ≤ 64)))]
        refine aw_topi (v' := 0) ((bI_f (fun q => h3 ((in32 rfl rfl).mp q))).symm) ?_
        show AW X 5 0 0 ad ce 42 [(0, .ref (ad (3, 0, 0))), (1, .int kd0), (2, .long x), (4, .int n)] [.int 0]
        refine aw_if_eq C (tgt := 53) d_R_carrier_42 (by decide) (fun h42 => ?_) (fun h42 => absurd (rfl) h42)
        refine aw_iconst C (v := (-1)) d_R_carrier_53 (by decide) ?_
        refine aw_iret C E (rfl) (by decide) (by decide) d_R_carrier_54 ?_
        rw [show f_carrier S kd0 x n = (-1, S) from if_neg hc]
        exact ⟨rfl, rfl, frR.rf, ⟨kd, sr, np, st, la, gby, gdu, gwo, grd, un, ps, gpt, gff, gfc, hR, hE, hW⟩⟩
    · skip
      show AW X 5 0 0 ad ce 0 [(0, .ref (ad (3, 0, 0))), (1, .int kd0), (2, .long x), (4, .int n)] []
      refine aw_aload_n C d_R_carrier_0 rfl (j := 0) rfl ?_
      refine aw_get C F_R r0 0 (by decide) tw_299 rfl d_R_carrier_1 ?_
      refine aw_bipush C (v := 10) d_R_carrier_4 (by decide) ?_
      refine aw_icmp_eq C (tgt := 53) d_R_carrier_6 (by decide) (fun h6 => absurd h6 (fun q => absurd ((nI_eq (b := 10) (by omega) (by omega)).mp q) (by omega))) (fun h6 => ?_)
      refine aw_iload_n C d_R_carrier_9 rfl (j := 1) rfl ?_
      refine aw_i2l C d_R_carrier_10 ?_
      refine aw_lconst C (v := 0) d_R_carrier_11 (by decide) ?_
      refine aw_ldc2 C tw_364 d_R_carrier_12 ?_
      refine aw_callS C I (as := [.long (Int32.toInt64 kd0), .long 0, .long 3]) (rest := []) (r_isIn l G ad ce (Int32.toInt64 kd0) 0 3) g_R_70 ⟨by decide, by decide⟩ ⟨by decide, by decide⟩ rfl (Nat.le_of_ble_eq_true rfl) d_R_carrier_15 ?_
      rintro _ _ _ ⟨rfl, rfl, rfl⟩
      show AW X 5 0 0 ad ce 18 [(0, .ref (ad (3, 0, 0))), (1, .int kd0), (2, .long x), (4, .int n)] [.int (bI (decide (0 ≤ Int32.toInt64 kd0 ∧ Int32.toInt64 kd0 ≤ 3)))]
      refine aw_topi (v' := 1) ((bI_t ((in32 rfl rfl).mpr h1)).symm) ?_
      show AW X 5 0 0 ad ce 18 [(0, .ref (ad (3, 0, 0))), (1, .int kd0), (2, .long x), (4, .int n)] [.int 1]
      refine aw_if_eq C (tgt := 53) d_R_carrier_18 (by decide) (fun h18 => absurd h18 (by decide)) (fun h18 => ?_)
      refine aw_lload_n C d_R_carrier_21 rfl (j := 2) rfl ?_
      refine aw_lconst C (v := 0) d_R_carrier_22 (by decide) ?_
      refine aw_ldc2 C tw_368 d_R_carrier_23 ?_
      refine aw_callS C I (as := [.long x, .long 0, .long 1000000000000]) (rest := []) (r_isIn l G ad ce x 0 1000000000000) g_R_70 ⟨by decide, by decide⟩ ⟨by decide, by decide⟩ rfl (Nat.le_of_ble_eq_true rfl) d_R_carrier_26 ?_
      rintro _ _ _ ⟨rfl, rfl, rfl⟩
      show AW X 5 0 0 ad ce 29 [(0, .ref (ad (3, 0, 0))), (1, .int kd0), (2, .long x), (4, .int n)] [.int (bI (decide (0 ≤ x ∧ x ≤ 1000000000000)))]
      refine aw_topi (v' := 0) ((bI_f h2).symm) ?_
      show AW X 5 0 0 ad ce 29 [(0, .ref (ad (3, 0, 0))), (1, .int kd0), (2, .long x), (4, .int n)] [.int 0]
      refine aw_if_eq C (tgt := 53) d_R_carrier_29 (by decide) (fun h29 => ?_) (fun h29 => absurd (rfl) h29)
      refine aw_iconst C (v := (-1)) d_R_carrier_53 (by decide) ?_
      refine aw_iret C E (rfl) (by decide) (by decide) d_R_carrier_54 ?_
      rw [show f_carrier S kd0 x n = (-1, S) from if_neg hc]
      exact ⟨rfl, rfl, frR.rf, ⟨kd, sr, np, st, la, gby, gdu, gwo, grd, un, ps, gpt, gff, gfc, hR, hE, hW⟩⟩
  · skip
    show AW X 5 0 0 ad ce 0 [(0, .ref (ad (3, 0, 0))), (1, .int kd0), (2, .long x), (4, .int n)] []
    refine aw_aload_n C d_R_carrier_0 rfl (j := 0) rfl ?_
    refine aw_get C F_R r0 0 (by decide) tw_299 rfl d_R_carrier_1 ?_
    refine aw_bipush C (v := 10) d_R_carrier_4 (by decide) ?_
    refine aw_icmp_eq C (tgt := 53) d_R_carrier_6 (by decide) (fun h6 => absurd h6 (fun q => absurd ((nI_eq (b := 10) (by omega) (by omega)).mp q) (by omega))) (fun h6 => ?_)
    refine aw_iload_n C d_R_carrier_9 rfl (j := 1) rfl ?_
    refine aw_i2l C d_R_carrier_10 ?_
    refine aw_lconst C (v := 0) d_R_carrier_11 (by decide) ?_
    refine aw_ldc2 C tw_364 d_R_carrier_12 ?_
    refine aw_callS C I (as := [.long (Int32.toInt64 kd0), .long 0, .long 3]) (rest := []) (r_isIn l G ad ce (Int32.toInt64 kd0) 0 3) g_R_70 ⟨by decide, by decide⟩ ⟨by decide, by decide⟩ rfl (Nat.le_of_ble_eq_true rfl) d_R_carrier_15 ?_
    rintro _ _ _ ⟨rfl, rfl, rfl⟩
    show AW X 5 0 0 ad ce 18 [(0, .ref (ad (3, 0, 0))), (1, .int kd0), (2, .long x), (4, .int n)] [.int (bI (decide (0 ≤ Int32.toInt64 kd0 ∧ Int32.toInt64 kd0 ≤ 3)))]
    refine aw_topi (v' := 0) ((bI_f (fun q => h1 ((in32 rfl rfl).mp q))).symm) ?_
    show AW X 5 0 0 ad ce 18 [(0, .ref (ad (3, 0, 0))), (1, .int kd0), (2, .long x), (4, .int n)] [.int 0]
    refine aw_if_eq C (tgt := 53) d_R_carrier_18 (by decide) (fun h18 => ?_) (fun h18 => absurd (rfl) h18)
    refine aw_iconst C (v := (-1)) d_R_carrier_53 (by decide) ?_
    refine aw_iret C E (rfl) (by decide) (by decide) d_R_carrier_54 ?_
    rw [show f_carrier S kd0 x n = (-1, S) from if_neg hc]
    exact ⟨rfl, rfl, frR.rf, ⟨kd, sr, np, st, la, gby, gdu, gwo, grd, un, ps, gpt, gff, gfc, hR, hE, hW⟩⟩
set_option maxRecDepth 100000 in
set_option maxHeartbeats 4000000 in
theorem R_paper (l : Launch) (G : aw_G) (ad : aw_Ad) (ce : aw_He) (S : SysS) (hS : LayR S ad ce) (x a b : Int32) : CT l G M_R_paper 1 25 0 0 [.ref (ad (3, 0, 0)), .int x, .int a, .int b] ad ce (rR (some (.int (f_paper S x a b).1)) (f_paper S x a b).2 ad ce) := by
  refine CT.of (by decide) (Nat.le_of_ble_eq_true rfl) ?_
  intro X C I E
  obtain ⟨kd, sr, np, st, la, gby, gdu, gwo, grd, un, ps, gpt, gff, gfc, hR, hE, hW⟩ := hS
  have hE0 := hE
  obtain ⟨hE1, hE2, hE3, hE4, hE5, hE6, hE7⟩ := hE0
  have hW0 := hW
  obtain ⟨⟨hb1, hb2, hb3, hb4⟩, hW2, hW3⟩ := hW0
  have hR0 := hR
  obtain ⟨r0, r1, r2, r3, r4, r5, r6, r7, r8, r9, r10, r11, r12, r14, r15, r17, r19⟩ := hR0
  rcases ix_cases x (n := s_cn S) (by omega) with hx | ⟨j, hj, rfl⟩
  · by_cases h0 : s_pn S = 20
    · skip
      show AW X 6 0 0 ad ce 0 [(0, .ref (ad (3, 0, 0))), (1, .int x), (2, .int a), (3, .int b)] []
      refine aw_aload_n C d_R_paper_0 rfl (j := 0) rfl ?_
      refine aw_get C F_R r0 13 (by decide) tw_312 rfl d_R_paper_1 ?_
      refine aw_bipush C (v := 20) d_R_paper_4 (by decide) ?_
      refine aw_icmp_eq C (tgt := 66) d_R_paper_6 (by decide) (fun h6 => ?_) (fun h6 => absurd (by rw [h0]; rfl) h6)
      refine aw_iconst C (v := (-1)) d_R_paper_66 (by decide) ?_
      refine aw_iret C E (rfl) (by decide) (by decide) d_R_paper_67 ?_
      rw [show f_paper S x a b = (-1, S) from by simp only [f_paper, ix_out hx]]
      exact ⟨rfl, rfl, frR.rf, ⟨kd, sr, np, st, la, gby, gdu, gwo, grd, un, ps, gpt, gff, gfc, hR, hE, hW⟩⟩
    · skip
      show AW X 6 0 0 ad ce 0 [(0, .ref (ad (3, 0, 0))), (1, .int x), (2, .int a), (3, .int b)] []
      refine aw_aload_n C d_R_paper_0 rfl (j := 0) rfl ?_
      refine aw_get C F_R r0 13 (by decide) tw_312 rfl d_R_paper_1 ?_
      refine aw_bipush C (v := 20) d_R_paper_4 (by decide) ?_
      refine aw_icmp_eq C (tgt := 66) d_R_paper_6 (by decide) (fun h6 => absurd h6 (fun q => absurd ((nI_eq (b := 20) (by omega) (by omega)).mp q) (by omega))) (fun h6 => ?_)
      refine aw_aload_n C d_R_paper_9 rfl (j := 0) rfl ?_
      refine aw_iload_n C d_R_paper_10 rfl (j := 1) rfl ?_
      refine aw_callV C I (k := (3, 0, 0)) (as := [.int x]) (rest := []) (r_isCarrier l G ad ce (s_cn S) (s_pn S) (s_ln S) (s_on S) kd sr np st la gby gdu gwo grd un ps gpt gff gfc (s_li S) (s_lo S) hR x) g_R_64 r0 rfl rfl ⟨by decide, by decide⟩ ⟨by decide, by decide⟩ rfl (Nat.le_of_ble_eq_true rfl) d_R_paper_11 ?_
      rintro _ _ _ ⟨rfl, rfl, rfl⟩
      show AW X 6 0 0 ad ce 14 [(0, .ref (ad (3, 0, 0))), (1, .int x), (2, .int a), (3, .int b)] [.int (bI (decide (0 ≤ x ∧ x < nI (s_cn S))))]
      refine aw_topi (v' := 0) ((bI_f (by (try simp only [Int32.le_iff_toInt_le, Int32.lt_iff_toInt_lt] at hx ⊢); omega)).symm) ?_
      show AW X 6 0 0 ad ce 14 [(0, .ref (ad (3, 0, 0))), (1, .int x), (2, .int a), (3, .int b)] [.int 0]
      refine aw_if_eq C (tgt := 66) d_R_paper_14 (by decide) (fun h14 => ?_) (fun h14 => absurd (rfl) h14)
      refine aw_iconst C (v := (-1)) d_R_paper_66 (by decide) ?_
      refine aw_iret C E (rfl) (by decide) (by decide) d_R_paper_67 ?_
      rw [show f_paper S x a b = (-1, S) from by simp only [f_paper, ix_out hx]]
      exact ⟨rfl, rfl, frR.rf, ⟨kd, sr, np, st, la, gby, gdu, gwo, grd, un, ps, gpt, gff, gfc, hR, hE, hW⟩⟩
  · skip
    obtain ⟨e_kd, e_sr, e_np, e_st, e_la, e_un, e_ps⟩ := hE1 j (by omega)
    obtain ⟨⟨hn1, hn2⟩, hps⟩ := hW2 j hj
    by_cases hc : (0 ≤ a ∧ a ≤ 9) ∧ (0 ≤ b ∧ b ≤ 9) ∧ ¬ a = b ∧ (k_st (s_car S j) = 3 ∨ k_st (s_car S j) = 5) ∧ s_pn S < 20
    · have hpn := hc.2.2.2.2
      show AW X 6 0 0 ad ce 0 [(0, .ref (ad (3, 0, 0))), (1, .int (nI j)), (2, .int a), (3, .int b)] []
      refine aw_aload_n C d_R_paper_0 rfl (j := 0) rfl ?_
      refine aw_get C F_R r0 13 (by decide) tw_312 rfl d_R_paper_1 ?_
      refine aw_bipush C (v := 20) d_R_paper_4 (by decide) ?_
      refine aw_icmp_eq C (tgt := 66) d_R_paper_6 (by decide) (fun h6 => absurd h6 (fun q => absurd ((nI_eq (b := 20) (by omega) (by omega)).mp q) (by omega))) (fun h6 => ?_)
      refine aw_aload_n C d_R_paper_9 rfl (j := 0) rfl ?_
      refine aw_iload_n C d_R_paper_10 rfl (j := 1) rfl ?_
      refine aw_callV C I (k := (3, 0, 0)) (as := [.int (nI j)]) (rest := []) (r_isCarrier l G ad ce (s_cn S) (s_pn S) (s_ln S) (s_on S) kd sr np st la gby gdu gwo grd un ps gpt gff gfc (s_li S) (s_lo S) hR (nI j)) g_R_64 r0 rfl rfl ⟨by decide, by decide⟩ ⟨by decide, by decide⟩ rfl (Nat.le_of_ble_eq_true rfl) d_R_paper_11 ?_
      rintro _ _ _ ⟨rfl, rfl, rfl⟩
      show AW X 6 0 0 ad ce 14 [(0, .ref (ad (3, 0, 0))), (1, .int (nI j)), (2, .int a), (3, .int b)] [.int (bI (decide (0 ≤ nI j ∧ nI j < nI (s_cn S))))]
      refine aw_topi (v' := 1) ((bI_t ⟨nI_pos' (by omega), nI_lt (by omega) (by omega)⟩).symm) ?_
      show AW X 6 0 0 ad ce 14 [(0, .ref (ad (3, 0, 0))), (1, .int (nI j)), (2, .int a), (3, .int b)] [.int 1]
      refine aw_if_eq C (tgt := 66) d_R_paper_14 (by decide) (fun h14 => absurd h14 (by decide)) (fun h14 => ?_)
      refine aw_iload_n C d_R_paper_17 rfl (j := 2) rfl ?_
      refine aw_i2l C d_R_paper_18 ?_
      refine aw_lconst C (v := 0) d_R_paper_19 (by decide) ?_
      refine aw_ldc2 C tw_386 d_R_paper_20 ?_
      refine aw_callS C I (as := [.long (Int32.toInt64 a), .long 0, .long 9]) (rest := []) (r_isIn l G ad ce (Int32.toInt64 a) 0 9) g_R_70 ⟨by decide, by decide⟩ ⟨by decide, by decide⟩ rfl (Nat.le_of_ble_eq_true rfl) d_R_paper_23 ?_
      rintro _ _ _ ⟨rfl, rfl, rfl⟩
      show AW X 6 0 0 ad ce 26 [(0, .ref (ad (3, 0, 0))), (1, .int (nI j)), (2, .int a), (3, .int b)] [.int (bI (decide (0 ≤ Int32.toInt64 a ∧ Int32.toInt64 a ≤ 9)))]
      refine aw_topi (v' := 1) ((bI_t ((in32 rfl rfl).mpr hc.1)).symm) ?_
      show AW X 6 0 0 ad ce 26 [(0, .ref (ad (3, 0, 0))), (1, .int (nI j)), (2, .int a), (3, .int b)] [.int 1]
      refine aw_if_eq C (tgt := 66) d_R_paper_26 (by decide) (fun h26 => absurd h26 (by decide)) (fun h26 => ?_)
      refine aw_iload_n C d_R_paper_29 rfl (j := 3) rfl ?_
      refine aw_i2l C d_R_paper_30 ?_
      refine aw_lconst C (v := 0) d_R_paper_31 (by decide) ?_
      refine aw_ldc2 C tw_386 d_R_paper_32 ?_
      refine aw_callS C I (as := [.long (Int32.toInt64 b), .long 0, .long 9]) (rest := []) (r_isIn l G ad ce (Int32.toInt64 b) 0 9) g_R_70 ⟨by decide, by decide⟩ ⟨by decide, by decide⟩ rfl (Nat.le_of_ble_eq_true rfl) d_R_paper_35 ?_
      rintro _ _ _ ⟨rfl, rfl, rfl⟩
      show AW X 6 0 0 ad ce 38 [(0, .ref (ad (3, 0, 0))), (1, .int (nI j)), (2, .int a), (3, .int b)] [.int (bI (decide (0 ≤ Int32.toInt64 b ∧ Int32.toInt64 b ≤ 9)))]
      refine aw_topi (v' := 1) ((bI_t ((in32 rfl rfl).mpr hc.2.1)).symm) ?_
      show AW X 6 0 0 ad ce 38 [(0, .ref (ad (3, 0, 0))), (1, .int (nI j)), (2, .int a), (3, .int b)] [.int 1]
      refine aw_if_eq C (tgt := 66) d_R_paper_38 (by decide) (fun h38 => absurd h38 (by decide)) (fun h38 => ?_)
      refine aw_iload_n C d_R_paper_41 rfl (j := 2) rfl ?_
      refine aw_iload_n C d_R_paper_42 rfl (j := 3) rfl ?_
      refine aw_icmp_eq C (tgt := 66) d_R_paper_43 (by decide) (fun h43 => absurd h43 (hc.2.2.1)) (fun h43 => ?_)
      refine aw_aload_n C d_R_paper_46 rfl (j := 0) rfl ?_
      refine aw_get C F_R r0 4 (by decide) tw_303 rfl d_R_paper_47 ?_
      refine aw_iload_n C d_R_paper_50 rfl (j := 1) rfl ?_
      refine ar_iald C r4 (j := j) (rfl) (by omega) (by omega) d_R_paper_51 ?_
      refine aw_topi (v' := k_st (s_car S j)) (e_st) ?_
      refine aw_iconst C (v := 3) d_R_paper_52 (by decide) ?_
      refine aw_icmp_eq C (tgt := 68) d_R_paper_53 (by decide) (fun h53 => ?_) (fun h53 => ?_)
      · refine aw_bipush C (v := 12) d_R_paper_68 (by decide) ?_
        refine aw_aload_n C d_R_paper_70 rfl (j := 0) rfl ?_
        refine aw_get C F_R r0 13 (by decide) tw_312 rfl d_R_paper_71 ?_
        refine aw_imul C d_R_paper_74 ?_
        refine aw_topi (v' := nI (12 * s_pn S)) (by rw [show (12 : Int32) = nI 12 from rfl, pk_mul]) ?_
        refine aw_istore C (lv' := [(4, .int (nI (12 * s_pn S))), (0, .ref (ad (3, 0, 0))), (1, .int (nI j)), (2, .int a), (3, .int b)]) d_R_paper_75 (by decide) rfl ?_
        refine aw_aload_n C d_R_paper_77 rfl (j := 1) rfl ?_
        refine aw_get C F_R r0 14 (by decide) tw_313 rfl d_R_paper_78 ?_
        refine aw_iload C d_R_paper_81 (j := 0) rfl ?_
        refine aw_iload_n C d_R_paper_83 rfl (j := 2) rfl ?_
        refine ar_iast C r14 (j := (12 * s_pn S)) (rfl) (by omega) (by omega) d_R_paper_84 ?_
        intro ce41 fw41 r14
        have r0 : ce41 (3, 0, 0) = some (.inr (3, [.int (nI (s_cn S)), .ref (ad (3, 0, 1)), .ref (ad (3, 0, 2)), .ref (ad (3, 0, 3)), .ref (ad (3, 0, 4)), .ref (ad (3, 0, 5)), .ref (ad (3, 0, 6)), .ref (ad (3, 0, 7)), .ref (ad (3, 0, 8)), .ref (ad (3, 0, 9)), .ref (ad (3, 0, 10)), .ref (ad (3, 0, 11)), .ref (ad (3, 0, 12)), .int (nI (s_pn S)), .ref (ad (3, 0, 14)), .ref (ad (3, 0, 15)), .int (nI (s_ln S)), .ref (ad (3, 0, 17)), .int (nI (s_on S)), .ref (ad (3, 0, 19))])) := (fw41 _ (by simp)).trans r0
        have r1 := r1.tr (fw41 _ (by simp))
        have r2 := r2.tr (fw41 _ (by simp))
        have r3 := r3.tr (fw41 _ (by simp))
        have r4 := r4.tr (fw41 _ (by simp))
        have r5 := r5.tr (fw41 _ (by simp))
        have r6 := r6.tr (fw41 _ (by simp))
        have r7 := r7.tr (fw41 _ (by simp))
        have r8 := r8.tr (fw41 _ (by simp))
        have r9 := r9.tr (fw41 _ (by simp))
        have r10 := r10.tr (fw41 _ (by simp))
        have r11 := r11.tr (fw41 _ (by simp))
        have r12 := r12.tr (fw41 _ (by simp))
        have r15 := r15.tr (fw41 _ (by simp))
        have r17 := r17.tr (fw41 _ (by simp))
        have r19 := r19.tr (fw41 _ (by simp))
        refine aw_aload_n C d_R_paper_85 rfl (j := 1) rfl ?_
        refine aw_get C F_R r0 14 (by decide) tw_313 rfl d_R_paper_86 ?_
        refine aw_iload C d_R_paper_89 (j := 0) rfl ?_
        refine aw_iconst C (v := 1) d_R_paper_91 (by decide) ?_
        refine aw_iadd C d_R_paper_92 ?_
        refine aw_topi (v' := nI (12 * s_pn S + 1)) (nI_add _ 1) ?_
        refine aw_aload_n C d_R_paper_93 rfl (j := 1) rfl ?_
        refine aw_get C F_R r0 1 (by decide) tw_300 rfl d_R_paper_94 ?_
        refine aw_iload_n C d_R_paper_97 rfl (j := 2) rfl ?_
        refine ar_iald C r1 (j := j) (rfl) (by omega) (by omega) d_R_paper_98 ?_
        refine aw_topi (v' := k_kd (s_car S j)) (e_kd) ?_
        refine ar_iast C r14 (j := (12 * s_pn S + 1)) (rfl) (by omega) (by omega) d_R_paper_99 ?_
        intro ce42 fw42 r14
        have r0 : ce42 (3, 0, 0) = some (.inr (3, [.int (nI (s_cn S)), .ref (ad (3, 0, 1)), .ref (ad (3, 0, 2)), .ref (ad (3, 0, 3)), .ref (ad (3, 0, 4)), .ref (ad (3, 0, 5)), .ref (ad (3, 0, 6)), .ref (ad (3, 0, 7)), .ref (ad (3, 0, 8)), .ref (ad (3, 0, 9)), .ref (ad (3, 0, 10)), .ref (ad (3, 0, 11)), .ref (ad (3, 0, 12)), .int (nI (s_pn S)), .ref (ad (3, 0, 14)), .ref (ad (3, 0, 15)), .int (nI (s_ln S)), .ref (ad (3, 0, 17)), .int (nI (s_on S)), .ref (ad (3, 0, 19))])) := (fw42 _ (by simp)).trans r0
        have r1 := r1.tr (fw42 _ (by simp))
        have r2 := r2.tr (fw42 _ (by simp))
        have r3 := r3.tr (fw42 _ (by simp))
        have r4 := r4.tr (fw42 _ (by simp))
        have r5 := r5.tr (fw42 _ (by simp))
        have r6 := r6.tr (fw42 _ (by simp))
        have r7 := r7.tr (fw42 _ (by simp))
        have r8 := r8.tr (fw42 _ (by simp))
        have r9 := r9.tr (fw42 _ (by simp))
        have r10 := r10.tr (fw42 _ (by simp))
        have r11 := r11.tr (fw42 _ (by simp))
        have r12 := r12.tr (fw42 _ (by simp))
        have r15 := r15.tr (fw42 _ (by simp))
        have r17 := r17.tr (fw42 _ (by simp))
        have r19 := r19.tr (fw42 _ (by simp))
        refine aw_aload_n C d_R_paper_100 rfl (j := 1) rfl ?_
        refine aw_get C F_R r0 14 (by decide) tw_313 rfl d_R_paper_101 ?_
        refine aw_iload C d_R_paper_104 (j := 0) rfl ?_
        refine aw_iconst C (v := 2) d_R_paper_106 (by decide) ?_
        refine aw_iadd C d_R_paper_107 ?_
        refine aw_topi (v' := nI (12 * s_pn S + 2)) (nI_add _ 2) ?_
        refine aw_iload_n C d_R_paper_108 rfl (j := 3) rfl ?_
        refine ar_iast C r14 (j := (12 * s_pn S + 2)) (rfl) (by omega) (by omega) d_R_paper_109 ?_
        intro ce43 fw43 r14
        have r0 : ce43 (3, 0, 0) = some (.inr (3, [.int (nI (s_cn S)), .ref (ad (3, 0, 1)), .ref (ad (3, 0, 2)), .ref (ad (3, 0, 3)), .ref (ad (3, 0, 4)), .ref (ad (3, 0, 5)), .ref (ad (3, 0, 6)), .ref (ad (3, 0, 7)), .ref (ad (3, 0, 8)), .ref (ad (3, 0, 9)), .ref (ad (3, 0, 10)), .ref (ad (3, 0, 11)), .ref (ad (3, 0, 12)), .int (nI (s_pn S)), .ref (ad (3, 0, 14)), .ref (ad (3, 0, 15)), .int (nI (s_ln S)), .ref (ad (3, 0, 17)), .int (nI (s_on S)), .ref (ad (3, 0, 19))])) := (fw43 _ (by simp)).trans r0
        have r1 := r1.tr (fw43 _ (by simp))
        have r2 := r2.tr (fw43 _ (by simp))
        have r3 := r3.tr (fw43 _ (by simp))
        have r4 := r4.tr (fw43 _ (by simp))
        have r5 := r5.tr (fw43 _ (by simp))
        have r6 := r6.tr (fw43 _ (by simp))
        have r7 := r7.tr (fw43 _ (by simp))
        have r8 := r8.tr (fw43 _ (by simp))
        have r9 := r9.tr (fw43 _ (by simp))
        have r10 := r10.tr (fw43 _ (by simp))
        have r11 := r11.tr (fw43 _ (by simp))
        have r12 := r12.tr (fw43 _ (by simp))
        have r15 := r15.tr (fw43 _ (by simp))
        have r17 := r17.tr (fw43 _ (by simp))
        have r19 := r19.tr (fw43 _ (by simp))
        refine aw_aload_n C d_R_paper_110 rfl (j := 1) rfl ?_
        refine aw_get C F_R r0 14 (by decide) tw_313 rfl d_R_paper_111 ?_
        refine aw_iload C d_R_paper_114 (j := 0) rfl ?_
        refine aw_iconst C (v := 3) d_R_paper_116 (by decide) ?_
        refine aw_iadd C d_R_paper_117 ?_
        refine aw_topi (v' := nI (12 * s_pn S + 3)) (nI_add _ 3) ?_
        refine aw_iload_n C d_R_paper_118 rfl (j := 4) rfl ?_
        refine ar_iast C r14 (j := (12 * s_pn S + 3)) (rfl) (by omega) (by omega) d_R_paper_119 ?_
        intro ce44 fw44 r14
        have r0 : ce44 (3, 0, 0) = some (.inr (3, [.int (nI (s_cn S)), .ref (ad (3, 0, 1)), .ref (ad (3, 0, 2)), .ref (ad (3, 0, 3)), .ref (ad (3, 0, 4)), .ref (ad (3, 0, 5)), .ref (ad (3, 0, 6)), .ref (ad (3, 0, 7)), .ref (ad (3, 0, 8)), .ref (ad (3, 0, 9)), .ref (ad (3, 0, 10)), .ref (ad (3, 0, 11)), .ref (ad (3, 0, 12)), .int (nI (s_pn S)), .ref (ad (3, 0, 14)), .ref (ad (3, 0, 15)), .int (nI (s_ln S)), .ref (ad (3, 0, 17)), .int (nI (s_on S)), .ref (ad (3, 0, 19))])) := (fw44 _ (by simp)).trans r0
        have r1 := r1.tr (fw44 _ (by simp))
        have r2 := r2.tr (fw44 _ (by simp))
        have r3 := r3.tr (fw44 _ (by simp))
        have r4 := r4.tr (fw44 _ (by simp))
        have r5 := r5.tr (fw44 _ (by simp))
        have r6 := r6.tr (fw44 _ (by simp))
        have r7 := r7.tr (fw44 _ (by simp))
        have r8 := r8.tr (fw44 _ (by simp))
        have r9 := r9.tr (fw44 _ (by simp))
        have r10 := r10.tr (fw44 _ (by simp))
        have r11 := r11.tr (fw44 _ (by simp))
        have r12 := r12.tr (fw44 _ (by simp))
        have r15 := r15.tr (fw44 _ (by simp))
        have r17 := r17.tr (fw44 _ (by simp))
        have r19 := r19.tr (fw44 _ (by simp))
        refine aw_aload_n C d_R_paper_120 rfl (j := 1) rfl ?_
        refine aw_get C F_R r0 14 (by decide) tw_313 rfl d_R_paper_121 ?_
        refine aw_iload C d_R_paper_124 (j := 0) rfl ?_
        refine aw_iconst C (v := 4) d_R_paper_126 (by decide) ?_
        refine aw_iadd C d_R_paper_127 ?_
        refine aw_topi (v' := nI (12 * s_pn S + 4)) (nI_add _ 4) ?_
        refine aw_aload_n C d_R_paper_128 rfl (j := 1) rfl ?_
        refine aw_get C F_R r0 4 (by decide) tw_303 rfl d_R_paper_129 ?_
        refine aw_iload_n C d_R_paper_132 rfl (j := 2) rfl ?_
        refine ar_iald C r4 (j := j) (rfl) (by omega) (by omega) d_R_paper_133 ?_
        refine aw_topi (v' := k_st (s_car S j)) (e_st) ?_
        refine ar_iast C r14 (j := (12 * s_pn S + 4)) (rfl) (by omega) (by omega) d_R_paper_134 ?_
        intro ce45 fw45 r14
        have r0 : ce45 (3, 0, 0) = some (.inr (3, [.int (nI (s_cn S)), .ref (ad (3, 0, 1)), .ref (ad (3, 0, 2)), .ref (ad (3, 0, 3)), .ref (ad (3, 0, 4)), .ref (ad (3, 0, 5)), .ref (ad (3, 0, 6)), .ref (ad (3, 0, 7)), .ref (ad (3, 0, 8)), .ref (ad (3, 0, 9)), .ref (ad (3, 0, 10)), .ref (ad (3, 0, 11)), .ref (ad (3, 0, 12)), .int (nI (s_pn S)), .ref (ad (3, 0, 14)), .ref (ad (3, 0, 15)), .int (nI (s_ln S)), .ref (ad (3, 0, 17)), .int (nI (s_on S)), .ref (ad (3, 0, 19))])) := (fw45 _ (by simp)).trans r0
        have r1 := r1.tr (fw45 _ (by simp))
        have r2 := r2.tr (fw45 _ (by simp))
        have r3 := r3.tr (fw45 _ (by simp))
        have r4 := r4.tr (fw45 _ (by simp))
        have r5 := r5.tr (fw45 _ (by simp))
        have r6 := r6.tr (fw45 _ (by simp))
        have r7 := r7.tr (fw45 _ (by simp))
        have r8 := r8.tr (fw45 _ (by simp))
        have r9 := r9.tr (fw45 _ (by simp))
        have r10 := r10.tr (fw45 _ (by simp))
        have r11 := r11.tr (fw45 _ (by simp))
        have r12 := r12.tr (fw45 _ (by simp))
        have r15 := r15.tr (fw45 _ (by simp))
        have r17 := r17.tr (fw45 _ (by simp))
        have r19 := r19.tr (fw45 _ (by simp))
        refine aw_aload_n C d_R_paper_135 rfl (j := 1) rfl ?_
        refine aw_get C F_R r0 14 (by decide) tw_313 rfl d_R_paper_136 ?_
        refine aw_iload C d_R_paper_139 (j := 0) rfl ?_
        refine aw_iconst C (v := 5) d_R_paper_141 (by decide) ?_
        refine aw_iadd C d_R_paper_142 ?_
        refine aw_topi (v' := nI (12 * s_pn S + 5)) (nI_add _ 5) ?_
        refine aw_aload_n C d_R_paper_143 rfl (j := 1) rfl ?_
        refine aw_get C F_R r0 11 (by decide) tw_310 rfl d_R_paper_144 ?_
        refine aw_iload_n C d_R_paper_147 rfl (j := 2) rfl ?_
        refine ar_iald C r11 (j := j) (rfl) (by omega) (by omega) d_R_paper_148 ?_
        refine aw_topi (v' := nI (k_ps (s_car S j))) (e_ps) ?_
        refine ar_iast C r14 (j := (12 * s_pn S + 5)) (rfl) (by omega) (by omega) d_R_paper_149 ?_
        intro ce46 fw46 r14
        have r0 : ce46 (3, 0, 0) = some (.inr (3, [.int (nI (s_cn S)), .ref (ad (3, 0, 1)), .ref (ad (3, 0, 2)), .ref (ad (3, 0, 3)), .ref (ad (3, 0, 4)), .ref (ad (3, 0, 5)), .ref (ad (3, 0, 6)), .ref (ad (3, 0, 7)), .ref (ad (3, 0, 8)), .ref (ad (3, 0, 9)), .ref (ad (3, 0, 10)), .ref (ad (3, 0, 11)), .ref (ad (3, 0, 12)), .int (nI (s_pn S)), .ref (ad (3, 0, 14)), .ref (ad (3, 0, 15)), .int (nI (s_ln S)), .ref (ad (3, 0, 17)), .int (nI (s_on S)), .ref (ad (3, 0, 19))])) := (fw46 _ (by simp)).trans r0
        have r1 := r1.tr (fw46 _ (by simp))
        have r2 := r2.tr (fw46 _ (by simp))
        have r3 := r3.tr (fw46 _ (by simp))
        have r4 := r4.tr (fw46 _ (by simp))
        have r5 := r5.tr (fw46 _ (by simp))
        have r6 := r6.tr (fw46 _ (by simp))
        have r7 := r7.tr (fw46 _ (by simp))
        have r8 := r8.tr (fw46 _ (by simp))
        have r9 := r9.tr (fw46 _ (by simp))
        have r10 := r10.tr (fw46 _ (by simp))
        have r11 := r11.tr (fw46 _ (by simp))
        have r12 := r12.tr (fw46 _ (by simp))
        have r15 := r15.tr (fw46 _ (by simp))
        have r17 := r17.tr (fw46 _ (by simp))
        have r19 := r19.tr (fw46 _ (by simp))
        refine aw_iconst C (v := 0) d_R_paper_150 (by decide) ?_
        refine aw_istore C (lv' := [(5, .int 0), (4, .int (nI (12 * s_pn S))), (0, .ref (ad (3, 0, 0))), (1, .int (nI j)), (2, .int a), (3, .int b)]) d_R_paper_151 (by decide) rfl ?_
        have loop : ∀ (m c : Nat) (cez : aw_He) (gz : Nat → Int32), c + m = k_ps (s_car S j) → (∀ q, q ≠ (3, 0, 14) → cez q = ce46 q) → arI cez (3, 0, 14) 0 240 gz → (∀ k, k < 6 + c → gz (12 * s_pn S + k) = papF (nI j) (s_car S j) a b k) → (∀ q, q < 12 * s_pn S → gz q = gff q) → AW X 6 0 0 ad cez 153 [(5, .int (nI c)), (4, .int (nI (12 * s_pn S))), (0, .ref (ad (3, 0, 0))), (1, .int (nI j)), (2, .int a), (3, .int b)] [] := by
          intro m
          induction m with
          | zero =>
            intro c cez gz ha hfz r14 hgz hgz2
            have r0 : cez (3, 0, 0) = some (.inr (3, [.int (nI (s_cn S)), .ref (ad (3, 0, 1)), .ref (ad (3, 0, 2)), .ref (ad (3, 0, 3)), .ref (ad (3, 0, 4)), .ref (ad (3, 0, 5)), .ref (ad (3, 0, 6)), .ref (ad (3, 0, 7)), .ref (ad (3, 0, 8)), .ref (ad (3, 0, 9)), .ref (ad (3, 0, 10)), .ref (ad (3, 0, 11)), .ref (ad (3, 0, 12)), .int (nI (s_pn S)), .ref (ad (3, 0, 14)), .ref (ad (3, 0, 15)), .int (nI (s_ln S)), .ref (ad (3, 0, 17)), .int (nI (s_on S)), .ref (ad (3, 0, 19))])) := (hfz _ (by simp)).trans r0
            have r1 := r1.tr (hfz _ (by simp))
            have r2 := r2.tr (hfz _ (by simp))
            have r3 := r3.tr (hfz _ (by simp))
            have r4 := r4.tr (hfz _ (by simp))
            have r5 := r5.tr (hfz _ (by simp))
            have r6 := r6.tr (hfz _ (by simp))
            have r7 := r7.tr (hfz _ (by simp))
            have r8 := r8.tr (hfz _ (by simp))
            have r9 := r9.tr (hfz _ (by simp))
            have r10 := r10.tr (hfz _ (by simp))
            have r11 := r11.tr (hfz _ (by simp))
            have r12 := r12.tr (hfz _ (by simp))
            have r15 := r15.tr (hfz _ (by simp))
            have r17 := r17.tr (hfz _ (by simp))
            have r19 := r19.tr (hfz _ (by simp))
            refine aw_iload C d_R_paper_153 (j := 0) rfl ?_
            refine aw_aload_n C d_R_paper_155 rfl (j := 2) rfl ?_
            refine aw_get C F_R r0 11 (by decide) tw_310 rfl d_R_paper_156 ?_
            refine aw_iload_n C d_R_paper_159 rfl (j := 3) rfl ?_
            refine ar_iald C r11 (j := j) (rfl) (by omega) (by omega) d_R_paper_160 ?_
            refine aw_topi (v' := nI (k_ps (s_car S j))) (e_ps) ?_
            refine aw_icmp_ge C (tgt := 195) d_R_paper_161 (by decide) (fun h161 => ?_) (fun h161 => absurd (nI_le (by omega) (by omega)) h161)
            refine aw_aload_n C d_R_paper_195 rfl (j := 2) rfl ?_
            refine aw_get C F_R r0 15 (by decide) tw_314 rfl d_R_paper_196 ?_
            refine aw_aload_n C d_R_paper_199 rfl (j := 2) rfl ?_
            refine aw_get C F_R r0 13 (by decide) tw_312 rfl d_R_paper_200 ?_
            refine aw_bipush C (v := 6) d_R_paper_203 (by decide) ?_
            refine aw_aload_n C d_R_paper_205 rfl (j := 2) rfl ?_
            refine aw_get C F_R r0 11 (by decide) tw_310 rfl d_R_paper_206 ?_
            refine aw_iload_n C d_R_paper_209 rfl (j := 3) rfl ?_
            refine ar_iald C r11 (j := j) (rfl) (by omega) (by omega) d_R_paper_210 ?_
            refine aw_topi (v' := nI (k_ps (s_car S j))) (e_ps) ?_
            refine aw_iadd C d_R_paper_211 ?_
            refine aw_topi (v' := nI (6 + k_ps (s_car S j))) (nI_add 6 _) ?_
            refine ar_iast C r15 (j := (s_pn S)) (rfl) (by omega) (by omega) d_R_paper_212 ?_
            intro ce47 fw47 r15
            have r0 : ce47 (3, 0, 0) = some (.inr (3, [.int (nI (s_cn S)), .ref (ad (3, 0, 1)), .ref (ad (3, 0, 2)), .ref (ad (3, 0, 3)), .ref (ad (3, 0, 4)), .ref (ad (3, 0, 5)), .ref (ad (3, 0, 6)), .ref (ad (3, 0, 7)), .ref (ad (3, 0, 8)), .ref (ad (3, 0, 9)), .ref (ad (3, 0, 10)), .ref (ad (3, 0, 11)), .ref (ad (3, 0, 12)), .int (nI (s_pn S)), .ref (ad (3, 0, 14)), .ref (ad (3, 0, 15)), .int (nI (s_ln S)), .ref (ad (3, 0, 17)), .int (nI (s_on S)), .ref (ad (3, 0, 19))])) := (fw47 _ (by simp)).trans r0
            have r1 := r1.tr (fw47 _ (by simp))
            have r2 := r2.tr (fw47 _ (by simp))
            have r3 := r3.tr (fw47 _ (by simp))
            have r4 := r4.tr (fw47 _ (by simp))
            have r5 := r5.tr (fw47 _ (by simp))
            have r6 := r6.tr (fw47 _ (by simp))
            have r7 := r7.tr (fw47 _ (by simp))
            have r8 := r8.tr (fw47 _ (by simp))
            have r9 := r9.tr (fw47 _ (by simp))
            have r10 := r10.tr (fw47 _ (by simp))
            have r11 := r11.tr (fw47 _ (by simp))
            have r12 := r12.tr (fw47 _ (by simp))
            have r14 := r14.tr (fw47 _ (by simp))
            have r17 := r17.tr (fw47 _ (by simp))
            have r19 := r19.tr (fw47 _ (by simp))
            refine aw_aload_n C d_R_paper_213 rfl (j := 2) rfl ?_
            refine aw_dup C d_R_paper_214 rfl ?_
            refine aw_get C F_R r0 13 (by decide) tw_312 rfl d_R_paper_215 ?_
            refine aw_iconst C (v := 1) d_R_paper_218 (by decide) ?_
            refine aw_iadd C d_R_paper_219 ?_
            refine aw_topi (v' := nI (s_pn S + 1)) (nI_1 _) ?_
            refine ob_put C F_R r0 13 (by decide) tw_312 rfl rfl rfl (Nat.le_of_ble_eq_true rfl) (fs' := [.int (nI (s_cn S)), .ref (ad (3, 0, 1)), .ref (ad (3, 0, 2)), .ref (ad (3, 0, 3)), .ref (ad (3, 0, 4)), .ref (ad (3, 0, 5)), .ref (ad (3, 0, 6)), .ref (ad (3, 0, 7)), .ref (ad (3, 0, 8)), .ref (ad (3, 0, 9)), .ref (ad (3, 0, 10)), .ref (ad (3, 0, 11)), .ref (ad (3, 0, 12)), .int (nI (s_pn S + 1)), .ref (ad (3, 0, 14)), .ref (ad (3, 0, 15)), .int (nI (s_ln S)), .ref (ad (3, 0, 17)), .int (nI (s_on S)), .ref (ad (3, 0, 19))]) rfl d_R_paper_220 ?_
            intro ce48 fw48 r0
            have r1 := r1.tr (fw48 _ (by simp))
            have r2 := r2.tr (fw48 _ (by simp))
            have r3 := r3.tr (fw48 _ (by simp))
            have r4 := r4.tr (fw48 _ (by simp))
            have r5 := r5.tr (fw48 _ (by simp))
            have r6 := r6.tr (fw48 _ (by simp))
            have r7 := r7.tr (fw48 _ (by simp))
            have r8 := r8.tr (fw48 _ (by simp))
            have r9 := r9.tr (fw48 _ (by simp))
            have r10 := r10.tr (fw48 _ (by simp))
            have r11 := r11.tr (fw48 _ (by simp))
            have r12 := r12.tr (fw48 _ (by simp))
            have r14 := r14.tr (fw48 _ (by simp))
            have r15 := r15.tr (fw48 _ (by simp))
            have r17 := r17.tr (fw48 _ (by simp))
            have r19 := r19.tr (fw48 _ (by simp))
            refine aw_aload_n C d_R_paper_223 rfl (j := 2) rfl ?_
            refine aw_get C F_R r0 13 (by decide) tw_312 rfl d_R_paper_224 ?_
            refine aw_iconst C (v := 1) d_R_paper_227 (by decide) ?_
            refine aw_isub C d_R_paper_228 ?_
            refine aw_topi (v' := nI (s_pn S)) (nI_pred _) ?_
            refine aw_iret C E (rfl) (by decide) (by decide) d_R_paper_229 ?_
            rw [show f_paper S (nI j) a b = (nI (s_pn S), s_addP S (6 + k_ps (s_car S j), papF (nI j) (s_car S j) a b)) from by simp only [f_paper, ix_in hj (show s_cn S < 2 ^ 31 by omega), if_pos hc]]
            have hrel : Rel (s_addP S (6 + k_ps (s_car S j), papF (nI j) (s_car S j) a b)) kd sr np st la gby gdu gwo grd un ps gpt gz (upd gfc (s_pn S) (nI (6 + k_ps (s_car S j)))) := by
              refine ⟨hE1, hE2, hE3, hE4, fun p k hp hk => ?_, fun p hp => ?_, hE7⟩
              · have hp' : p < s_pn S + 1 := hp
                change k < (va_up (s_pap S) (s_pn S) _ p).1 at hk
                show _ = (va_up (s_pap S) (s_pn S) _ p).2 k
                by_cases e : p = s_pn S
                · subst e
                  rw [va_up_self] at hk ⊢
                  exact hgz k (by have : k < 6 + k_ps (s_car S j) := hk; omega)
                · rw [va_up_ne _ _ e] at hk ⊢
                  have := (hW3 p (by omega)).2
                  rw [hgz2 _ (by omega)]
                  exact hE5 p k (by omega) hk
              · have hp' : p < s_pn S + 1 := hp
                show _ = nI (va_up (s_pap S) (s_pn S) _ p).1
                by_cases e : p = s_pn S
                · subst e
                  rw [va_up_self]; simp [upd]
                · rw [va_up_ne _ _ e, updn e]
                  exact hE6 p (by omega)
            have hwf : WFS (s_addP S (6 + k_ps (s_car S j), papF (nI j) (s_car S j) a b)) := by
              refine ⟨⟨hb1, by show s_pn S + 1 ≤ 20; omega, hb3, hb4⟩, hW2, fun p hp => ?_⟩
              have hp' : p < s_pn S + 1 := hp
              show 6 ≤ (va_up (s_pap S) (s_pn S) _ p).1 ∧ (va_up (s_pap S) (s_pn S) _ p).1 ≤ 12
              by_cases e : p = s_pn S
              · subst e
                rw [va_up_self]
                exact ⟨by show 6 ≤ 6 + k_ps (s_car S j); omega, by show 6 + k_ps (s_car S j) ≤ 12; omega⟩
              · rw [va_up_ne _ _ e]; exact hW3 p (by omega)
            exact ⟨rfl, rfl, (((((((fr3 fw41).trans (fr3 fw42)).trans (fr3 fw43)).trans (fr3 fw44)).trans (fr3 fw45)).trans (fr3 fw46)).trans (fr3 hfz)).trans ((fr3 fw47).trans (fr3 fw48)), _, _, _, _, _, _, _, _, _, _, _, _, _, _, ⟨r0, r1, r2, r3, r4, r5, r6, r7, r8, r9, r10, r11, r12, r14, r15, r17, r19⟩, hrel, hwf⟩
          | succ m ih =>
            intro c cez gz ha hfz r14 hgz hgz2
            have r0 : cez (3, 0, 0) = some (.inr (3, [.int (nI (s_cn S)), .ref (ad (3, 0, 1)), .ref (ad (3, 0, 2)), .ref (ad (3, 0, 3)), .ref (ad (3, 0, 4)), .ref (ad (3, 0, 5)), .ref (ad (3, 0, 6)), .ref (ad (3, 0, 7)), .ref (ad (3, 0, 8)), .ref (ad (3, 0, 9)), .ref (ad (3, 0, 10)), .ref (ad (3, 0, 11)), .ref (ad (3, 0, 12)), .int (nI (s_pn S)), .ref (ad (3, 0, 14)), .ref (ad (3, 0, 15)), .int (nI (s_ln S)), .ref (ad (3, 0, 17)), .int (nI (s_on S)), .ref (ad (3, 0, 19))])) := (hfz _ (by simp)).trans r0
            have r1 := r1.tr (hfz _ (by simp))
            have r2 := r2.tr (hfz _ (by simp))
            have r3 := r3.tr (hfz _ (by simp))
            have r4 := r4.tr (hfz _ (by simp))
            have r5 := r5.tr (hfz _ (by simp))
            have r6 := r6.tr (hfz _ (by simp))
            have r7 := r7.tr (hfz _ (by simp))
            have r8 := r8.tr (hfz _ (by simp))
            have r9 := r9.tr (hfz _ (by simp))
            have r10 := r10.tr (hfz _ (by simp))
            have r11 := r11.tr (hfz _ (by simp))
            have r12 := r12.tr (hfz _ (by simp))
            have r15 := r15.tr (hfz _ (by simp))
            have r17 := r17.tr (hfz _ (by simp))
            have r19 := r19.tr (hfz _ (by simp))
            refine aw_iload C d_R_paper_153 (j := 0) rfl ?_
            refine aw_aload_n C d_R_paper_155 rfl (j := 2) rfl ?_
            refine aw_get C F_R r0 11 (by decide) tw_310 rfl d_R_paper_156 ?_
            refine aw_iload_n C d_R_paper_159 rfl (j := 3) rfl ?_
            refine ar_iald C r11 (j := j) (rfl) (by omega) (by omega) d_R_paper_160 ?_
            refine aw_topi (v' := nI (k_ps (s_car S j))) (e_ps) ?_
            refine aw_icmp_ge C (tgt := 195) d_R_paper_161 (by decide) (fun h161 => absurd h161 (nI_ge (by omega) (by omega))) (fun h161 => ?_)
            refine aw_aload_n C d_R_paper_164 rfl (j := 2) rfl ?_
            refine aw_get C F_R r0 14 (by decide) tw_313 rfl d_R_paper_165 ?_
            refine aw_iload C d_R_paper_168 (j := 1) rfl ?_
            refine aw_bipush C (v := 6) d_R_paper_170 (by decide) ?_
            refine aw_iadd C d_R_paper_172 ?_
            refine aw_topi (v' := nI (12 * s_pn S + 6)) (nI_add _ 6) ?_
            refine aw_iload C d_R_paper_173 (j := 0) rfl ?_
            refine aw_iadd C d_R_paper_175 ?_
            refine aw_topi (v' := nI (12 * s_pn S + 6 + c)) (nI_add _ _) ?_
            refine aw_aload_n C d_R_paper_176 rfl (j := 2) rfl ?_
            refine aw_get C F_R r0 12 (by decide) tw_311 rfl d_R_paper_177 ?_
            refine aw_bipush C (v := 6) d_R_paper_180 (by decide) ?_
            refine aw_iload_n C d_R_paper_182 rfl (j := 3) rfl ?_
            refine aw_imul C d_R_paper_183 ?_
            refine aw_iload C d_R_paper_184 (j := 0) rfl ?_
            refine aw_iadd C d_R_paper_186 ?_
            refine aw_topi (v' := nI (6 * j + c)) (k6 _ _) ?_
            refine ar_iald C r12 (j := (6 * j + c)) (rfl) (by omega) (by omega) d_R_paper_187 ?_
            refine aw_topi (v' := k_pt (s_car S j) c) (hE4 j c hj (by omega)) ?_
            refine ar_iast C r14 (j := (12 * s_pn S + 6 + c)) (rfl) (by omega) (by omega) d_R_paper_188 ?_
            intro ce49 fw49 r14
            have r0 : ce49 (3, 0, 0) = some (.inr (3, [.int (nI (s_cn S)), .ref (ad (3, 0, 1)), .ref (ad (3, 0, 2)), .ref (ad (3, 0, 3)), .ref (ad (3, 0, 4)), .ref (ad (3, 0, 5)), .ref (ad (3, 0, 6)), .ref (ad (3, 0, 7)), .ref (ad (3, 0, 8)), .ref (ad (3, 0, 9)), .ref (ad (3, 0, 10)), .ref (ad (3, 0, 11)), .ref (ad (3, 0, 12)), .int (nI (s_pn S)), .ref (ad (3, 0, 14)), .ref (ad (3, 0, 15)), .int (nI (s_ln S)), .ref (ad (3, 0, 17)), .int (nI (s_on S)), .ref (ad (3, 0, 19))])) := (fw49 _ (by simp)).trans r0
            have r1 := r1.tr (fw49 _ (by simp))
            have r2 := r2.tr (fw49 _ (by simp))
            have r3 := r3.tr (fw49 _ (by simp))
            have r4 := r4.tr (fw49 _ (by simp))
            have r5 := r5.tr (fw49 _ (by simp))
            have r6 := r6.tr (fw49 _ (by simp))
            have r7 := r7.tr (fw49 _ (by simp))
            have r8 := r8.tr (fw49 _ (by simp))
            have r9 := r9.tr (fw49 _ (by simp))
            have r10 := r10.tr (fw49 _ (by simp))
            have r11 := r11.tr (fw49 _ (by simp))
            have r12 := r12.tr (fw49 _ (by simp))
            have r15 := r15.tr (fw49 _ (by simp))
            have r17 := r17.tr (fw49 _ (by simp))
            have r19 := r19.tr (fw49 _ (by simp))
            refine aw_iinc C (v := nI (c + 1)) (lv' := [(5, .int (nI (c + 1))), (4, .int (nI (12 * s_pn S))), (0, .ref (ad (3, 0, 0))), (1, .int (nI j)), (2, .int a), (3, .int b)]) d_R_paper_189 (j := 0) rfl (nI_1 _) (by decide) rfl ?_
            refine aw_goto C (tgt := 153) d_R_paper_192 (by decide) ?_
            refine ih (c + 1) ce49 (upd gz (12 * s_pn S + 6 + c) (k_pt (s_car S j) c)) (by omega) (fun q hq => (fw49 q hq).trans (hfz q hq)) r14 ?_ ?_
            · intro k hk
              by_cases e : k = 6 + c
              · subst e; rw [show 12 * s_pn S + (6 + c) = 12 * s_pn S + 6 + c by omega]; simp only [upd, if_pos]
                simp only [papF]
                repeat rw [if_neg (by omega)]
                rw [show 6 + c - 6 = c by omega]
              · rw [updn (by omega)]; exact hgz k (by omega)
            · intro q hq; rw [updn (by omega)]; exact hgz2 q hq
        refine aw_lv (lv' := [(5, .int (nI 0)), (4, .int (nI (12 * s_pn S))), (0, .ref (ad (3, 0, 0))), (1, .int (nI j)), (2, .int a), (3, .int b)]) (by simp only [nI_0]) ?_
        refine loop (k_ps (s_car S j)) 0 ce46 (upd (upd (upd (upd (upd (upd gff (12 * s_pn S) (nI j)) (12 * s_pn S + 1) (k_kd (s_car S j))) (12 * s_pn S + 2) a) (12 * s_pn S + 3) b) (12 * s_pn S + 4) (k_st (s_car S j))) (12 * s_pn S + 5) (nI (k_ps (s_car S j)))) (by omega) (fun _ _ => rfl) r14 (fun k hk => ?_) (fun q hq => ?_)
        · rcases (show k = 0 ∨ k = 1 ∨ k = 2 ∨ k = 3 ∨ k = 4 ∨ k = 5 by omega) with rfl | rfl | rfl | rfl | rfl | rfl <;> simp [upd, papF]
        · rw [updn (by omega)]; rw [updn (by omega)]; rw [updn (by omega)]; rw [updn (by omega)]; rw [updn (by omega)]; rw [updn (by omega)]; first | done | rfl
      · refine aw_aload_n C d_R_paper_56 rfl (j := 0) rfl ?_
        refine aw_get C F_R r0 4 (by decide) tw_303 rfl d_R_paper_57 ?_
        refine aw_iload_n C d_R_paper_60 rfl (j := 1) rfl ?_
        refine ar_iald C r4 (j := j) (rfl) (by omega) (by omega) d_R_paper_61 ?_
        refine aw_topi (v' := k_st (s_car S j)) (e_st) ?_
        refine aw_iconst C (v := 5) d_R_paper_62 (by decide) ?_
        refine aw_icmp_eq C (tgt := 68) d_R_paper_63 (by decide) (fun h63 => ?_) (fun h63 => ?_)
        · refine aw_bipush C (v := 12) d_R_paper_68 (by decide) ?_
          refine aw_aload_n C d_R_paper_70 rfl (j := 0) rfl ?_
          refine aw_get C F_R r0 13 (by decide) tw_312 rfl d_R_paper_71 ?_
          refine aw_imul C d_R_paper_74 ?_
          refine aw_topi (v' := nI (12 * s_pn S)) (by rw [show (12 : Int32) = nI 12 from rfl, pk_mul]) ?_
          refine aw_istore C (lv' := [(4, .int (nI (12 * s_pn S))), (0, .ref (ad (3, 0, 0))), (1, .int (nI j)), (2, .int a), (3, .int b)]) d_R_paper_75 (by decide) rfl ?_
          refine aw_aload_n C d_R_paper_77 rfl (j := 1) rfl ?_
          refine aw_get C F_R r0 14 (by decide) tw_313 rfl d_R_paper_78 ?_
          refine aw_iload C d_R_paper_81 (j := 0) rfl ?_
          refine aw_iload_n C d_R_paper_83 rfl (j := 2) rfl ?_
          refine ar_iast C r14 (j := (12 * s_pn S)) (rfl) (by omega) (by omega) d_R_paper_84 ?_
          intro ce50 fw50 r14
          have r0 : ce50 (3, 0, 0) = some (.inr (3, [.int (nI (s_cn S)), .ref (ad (3, 0, 1)), .ref (ad (3, 0, 2)), .ref (ad (3, 0, 3)), .ref (ad (3, 0, 4)), .ref (ad (3, 0, 5)), .ref (ad (3, 0, 6)), .ref (ad (3, 0, 7)), .ref (ad (3, 0, 8)), .ref (ad (3, 0, 9)), .ref (ad (3, 0, 10)), .ref (ad (3, 0, 11)), .ref (ad (3, 0, 12)), .int (nI (s_pn S)), .ref (ad (3, 0, 14)), .ref (ad (3, 0, 15)), .int (nI (s_ln S)), .ref (ad (3, 0, 17)), .int (nI (s_on S)), .ref (ad (3, 0, 19))])) := (fw50 _ (by simp)).trans r0
          have r1 := r1.tr (fw50 _ (by simp))
          have r2 := r2.tr (fw50 _ (by simp))
          have r3 := r3.tr (fw50 _ (by simp))
          have r4 := r4.tr (fw50 _ (by simp))
          have r5 := r5.tr (fw50 _ (by simp))
          have r6 := r6.tr (fw50 _ (by simp))
          have r7 := r7.tr (fw50 _ (by simp))
          have r8 := r8.tr (fw50 _ (by simp))
          have r9 := r9.tr (fw50 _ (by simp))
          have r10 := r10.tr (fw50 _ (by simp))
          have r11 := r11.tr (fw50 _ (by simp))
          have r12 := r12.tr (fw50 _ (by simp))
          have r15 := r15.tr (fw50 _ (by simp))
          have r17 := r17.tr (fw50 _ (by simp))
          have r19 := r19.tr (fw50 _ (by simp))
          refine aw_aload_n C d_R_paper_85 rfl (j := 1) rfl ?_
          refine aw_get C F_R r0 14 (by decide) tw_313 rfl d_R_paper_86 ?_
          refine aw_iload C d_R_paper_89 (j := 0) rfl ?_
          refine aw_iconst C (v := 1) d_R_paper_91 (by decide) ?_
          refine aw_iadd C d_R_paper_92 ?_
          refine aw_topi (v' := nI (12 * s_pn S + 1)) (nI_add _ 1) ?_
          refine aw_aload_n C d_R_paper_93 rfl (j := 1) rfl ?_
          refine aw_get C F_R r0 1 (by decide) tw_300 rfl d_R_paper_94 ?_
          refine aw_iload_n C d_R_paper_97 rfl (j := 2) rfl ?_
          refine ar_iald C r1 (j := j) (rfl) (by omega) (by omega) d_R_paper_98 ?_
          refine aw_topi (v' := k_kd (s_car S j)) (e_kd) ?_
          refine ar_iast C r14 (j := (12 * s_pn S + 1)) (rfl) (by omega) (by omega) d_R_paper_99 ?_
          intro ce51 fw51 r14
          have r0 : ce51 (3, 0, 0) = some (.inr (3, [.int (nI (s_cn S)), .ref (ad (3, 0, 1)), .ref (ad (3, 0, 2)), .ref (ad (3, 0, 3)), .ref (ad (3, 0, 4)), .ref (ad (3, 0, 5)), .ref (ad (3, 0, 6)), .ref (ad (3, 0, 7)), .ref (ad (3, 0, 8)), .ref (ad (3, 0, 9)), .ref (ad (3, 0, 10)), .ref (ad (3, 0, 11)), .ref (ad (3, 0, 12)), .int (nI (s_pn S)), .ref (ad (3, 0, 14)), .ref (ad (3, 0, 15)), .int (nI (s_ln S)), .ref (ad (3, 0, 17)), .int (nI (s_on S)), .ref (ad (3, 0, 19))])) := (fw51 _ (by simp)).trans r0
          have r1 := r1.tr (fw51 _ (by simp))
          have r2 := r2.tr (fw51 _ (by simp))
          have r3 := r3.tr (fw51 _ (by simp))
          have r4 := r4.tr (fw51 _ (by simp))
          have r5 := r5.tr (fw51 _ (by simp))
          have r6 := r6.tr (fw51 _ (by simp))
          have r7 := r7.tr (fw51 _ (by simp))
          have r8 := r8.tr (fw51 _ (by simp))
          have r9 := r9.tr (fw51 _ (by simp))
          have r10 := r10.tr (fw51 _ (by simp))
          have r11 := r11.tr (fw51 _ (by simp))
          have r12 := r12.tr (fw51 _ (by simp))
          have r15 := r15.tr (fw51 _ (by simp))
          have r17 := r17.tr (fw51 _ (by simp))
          have r19 := r19.tr (fw51 _ (by simp))
          refine aw_aload_n C d_R_paper_100 rfl (j := 1) rfl ?_
          refine aw_get C F_R r0 14 (by decide) tw_313 rfl d_R_paper_101 ?_
          refine aw_iload C d_R_paper_104 (j := 0) rfl ?_
          refine aw_iconst C (v := 2) d_R_paper_106 (by decide) ?_
          refine aw_iadd C d_R_paper_107 ?_
          refine aw_topi (v' := nI (12 * s_pn S + 2)) (nI_add _ 2) ?_
          refine aw_iload_n C d_R_paper_108 rfl (j := 3) rfl ?_
          refine ar_iast C r14 (j := (12 * s_pn S + 2)) (rfl) (by omega) (by omega) d_R_paper_109 ?_
          intro ce52 fw52 r14
          have r0 : ce52 (3, 0, 0) = some (.inr (3, [.int (nI (s_cn S)), .ref (ad (3, 0, 1)), .ref (ad (3, 0, 2)), .ref (ad (3, 0, 3)), .ref (ad (3, 0, 4)), .ref (ad (3, 0, 5)), .ref (ad (3, 0, 6)), .ref (ad (3, 0, 7)), .ref (ad (3, 0, 8)), .ref (ad (3, 0, 9)), .ref (ad (3, 0, 10)), .ref (ad (3, 0, 11)), .ref (ad (3, 0, 12)), .int (nI (s_pn S)), .ref (ad (3, 0, 14)), .ref (ad (3, 0, 15)), .int (nI (s_ln S)), .ref (ad (3, 0, 17)), .int (nI (s_on S)), .ref (ad (3, 0, 19))])) := (fw52 _ (by simp)).trans r0
          have r1 := r1.tr (fw52 _ (by simp))
          have r2 := r2.tr (fw52 _ (by simp))
          have r3 := r3.tr (fw52 _ (by simp))
          have r4 := r4.tr (fw52 _ (by simp))
          have r5 := r5.tr (fw52 _ (by simp))
          have r6 := r6.tr (fw52 _ (by simp))
          have r7 := r7.tr (fw52 _ (by simp))
          have r8 := r8.tr (fw52 _ (by simp))
          have r9 := r9.tr (fw52 _ (by simp))
          have r10 := r10.tr (fw52 _ (by simp))
          have r11 := r11.tr (fw52 _ (by simp))
          have r12 := r12.tr (fw52 _ (by simp))
          have r15 := r15.tr (fw52 _ (by simp))
          have r17 := r17.tr (fw52 _ (by simp))
          have r19 := r19.tr (fw52 _ (by simp))
          refine aw_aload_n C d_R_paper_110 rfl (j := 1) rfl ?_
          refine aw_get C F_R r0 14 (by decide) tw_313 rfl d_R_paper_111 ?_
          refine aw_iload C d_R_paper_114 (j := 0) rfl ?_
          refine aw_iconst C (v := 3) d_R_paper_116 (by decide) ?_
          refine aw_iadd C d_R_paper_117 ?_
          refine aw_topi (v' := nI (12 * s_pn S + 3)) (nI_add _ 3) ?_
          refine aw_iload_n C d_R_paper_118 rfl (j := 4) rfl ?_
          refine ar_iast C r14 (j := (12 * s_pn S + 3)) (rfl) (by omega) (by omega) d_R_paper_119 ?_
          intro ce53 fw53 r14
          have r0 : ce53 (3, 0, 0) = some (.inr (3, [.int (nI (s_cn S)), .ref (ad (3, 0, 1)), .ref (ad (3, 0, 2)), .ref (ad (3, 0, 3)), .ref (ad (3, 0, 4)), .ref (ad (3, 0, 5)), .ref (ad (3, 0, 6)), .ref (ad (3, 0, 7)), .ref (ad (3, 0, 8)), .ref (ad (3, 0, 9)), .ref (ad (3, 0, 10)), .ref (ad (3, 0, 11)), .ref (ad (3, 0, 12)), .int (nI (s_pn S)), .ref (ad (3, 0, 14)), .ref (ad (3, 0, 15)), .int (nI (s_ln S)), .ref (ad (3, 0, 17)), .int (nI (s_on S)), .ref (ad (3, 0, 19))])) := (fw53 _ (by simp)).trans r0
          have r1 := r1.tr (fw53 _ (by simp))
          have r2 := r2.tr (fw53 _ (by simp))
          have r3 := r3.tr (fw53 _ (by simp))
          have r4 := r4.tr (fw53 _ (by simp))
          have r5 := r5.tr (fw53 _ (by simp))
          have r6 := r6.tr (fw53 _ (by simp))
          have r7 := r7.tr (fw53 _ (by simp))
          have r8 := r8.tr (fw53 _ (by simp))
          have r9 := r9.tr (fw53 _ (by simp))
          have r10 := r10.tr (fw53 _ (by simp))
          have r11 := r11.tr (fw53 _ (by simp))
          have r12 := r12.tr (fw53 _ (by simp))
          have r15 := r15.tr (fw53 _ (by simp))
          have r17 := r17.tr (fw53 _ (by simp))
          have r19 := r19.tr (fw53 _ (by simp))
          refine aw_aload_n C d_R_paper_120 rfl (j := 1) rfl ?_
          refine aw_get C F_R r0 14 (by decide) tw_313 rfl d_R_paper_121 ?_
          refine aw_iload C d_R_paper_124 (j := 0) rfl ?_
          refine aw_iconst C (v := 4) d_R_paper_126 (by decide) ?_
          refine aw_iadd C d_R_paper_127 ?_
          refine aw_topi (v' := nI (12 * s_pn S + 4)) (nI_add _ 4) ?_
          refine aw_aload_n C d_R_paper_128 rfl (j := 1) rfl ?_
          refine aw_get C F_R r0 4 (by decide) tw_303 rfl d_R_paper_129 ?_
          refine aw_iload_n C d_R_paper_132 rfl (j := 2) rfl ?_
          refine ar_iald C r4 (j := j) (rfl) (by omega) (by omega) d_R_paper_133 ?_
          refine aw_topi (v' := k_st (s_car S j)) (e_st) ?_
          refine ar_iast C r14 (j := (12 * s_pn S + 4)) (rfl) (by omega) (by omega) d_R_paper_134 ?_
          intro ce54 fw54 r14
          have r0 : ce54 (3, 0, 0) = some (.inr (3, [.int (nI (s_cn S)), .ref (ad (3, 0, 1)), .ref (ad (3, 0, 2)), .ref (ad (3, 0, 3)), .ref (ad (3, 0, 4)), .ref (ad (3, 0, 5)), .ref (ad (3, 0, 6)), .ref (ad (3, 0, 7)), .ref (ad (3, 0, 8)), .ref (ad (3, 0, 9)), .ref (ad (3, 0, 10)), .ref (ad (3, 0, 11)), .ref (ad (3, 0, 12)), .int (nI (s_pn S)), .ref (ad (3, 0, 14)), .ref (ad (3, 0, 15)), .int (nI (s_ln S)), .ref (ad (3, 0, 17)), .int (nI (s_on S)), .ref (ad (3, 0, 19))])) := (fw54 _ (by simp)).trans r0
          have r1 := r1.tr (fw54 _ (by simp))
          have r2 := r2.tr (fw54 _ (by simp))
          have r3 := r3.tr (fw54 _ (by simp))
          have r4 := r4.tr (fw54 _ (by simp))
          have r5 := r5.tr (fw54 _ (by simp))
          have r6 := r6.tr (fw54 _ (by simp))
          have r7 := r7.tr (fw54 _ (by simp))
          have r8 := r8.tr (fw54 _ (by simp))
          have r9 := r9.tr (fw54 _ (by simp))
          have r10 := r10.tr (fw54 _ (by simp))
          have r11 := r11.tr (fw54 _ (by simp))
          have r12 := r12.tr (fw54 _ (by simp))
          have r15 := r15.tr (fw54 _ (by simp))
          have r17 := r17.tr (fw54 _ (by simp))
          have r19 := r19.tr (fw54 _ (by simp))
          refine aw_aload_n C d_R_paper_135 rfl (j := 1) rfl ?_
          refine aw_get C F_R r0 14 (by decide) tw_313 rfl d_R_paper_136 ?_
          refine aw_iload C d_R_paper_139 (j := 0) rfl ?_
          refine aw_iconst C (v := 5) d_R_paper_141 (by decide) ?_
          refine aw_iadd C d_R_paper_142 ?_
          refine aw_topi (v' := nI (12 * s_pn S + 5)) (nI_add _ 5) ?_
          refine aw_aload_n C d_R_paper_143 rfl (j := 1) rfl ?_
          refine aw_get C F_R r0 11 (by decide) tw_310 rfl d_R_paper_144 ?_
          refine aw_iload_n C d_R_paper_147 rfl (j := 2) rfl ?_
          refine ar_iald C r11 (j := j) (rfl) (by omega) (by omega) d_R_paper_148 ?_
          refine aw_topi (v' := nI (k_ps (s_car S j))) (e_ps) ?_
          refine ar_iast C r14 (j := (12 * s_pn S + 5)) (rfl) (by omega) (by omega) d_R_paper_149 ?_
          intro ce55 fw55 r14
          have r0 : ce55 (3, 0, 0) = some (.inr (3, [.int (nI (s_cn S)), .ref (ad (3, 0, 1)), .ref (ad (3, 0, 2)), .ref (ad (3, 0, 3)), .ref (ad (3, 0, 4)), .ref (ad (3, 0, 5)), .ref (ad (3, 0, 6)), .ref (ad (3, 0, 7)), .ref (ad (3, 0, 8)), .ref (ad (3, 0, 9)), .ref (ad (3, 0, 10)), .ref (ad (3, 0, 11)), .ref (ad (3, 0, 12)), .int (nI (s_pn S)), .ref (ad (3, 0, 14)), .ref (ad (3, 0, 15)), .int (nI (s_ln S)), .ref (ad (3, 0, 17)), .int (nI (s_on S)), .ref (ad (3, 0, 19))])) := (fw55 _ (by simp)).trans r0
          have r1 := r1.tr (fw55 _ (by simp))
          have r2 := r2.tr (fw55 _ (by simp))
          have r3 := r3.tr (fw55 _ (by simp))
          have r4 := r4.tr (fw55 _ (by simp))
          have r5 := r5.tr (fw55 _ (by simp))
          have r6 := r6.tr (fw55 _ (by simp))
          have r7 := r7.tr (fw55 _ (by simp))
          have r8 := r8.tr (fw55 _ (by simp))
          have r9 := r9.tr (fw55 _ (by simp))
          have r10 := r10.tr (fw55 _ (by simp))
          have r11 := r11.tr (fw55 _ (by simp))
          have r12 := r12.tr (fw55 _ (by simp))
          have r15 := r15.tr (fw55 _ (by simp))
          have r17 := r17.tr (fw55 _ (by simp))
          have r19 := r19.tr (fw55 _ (by simp))
          refine aw_iconst C (v := 0) d_R_paper_150 (by decide) ?_
          refine aw_istore C (lv' := [(5, .int 0), (4, .int (nI (12 * s_pn S))), (0, .ref (ad (3, 0, 0))), (1, .int (nI j)), (2, .int a), (3, .int b)]) d_R_paper_151 (by decide) rfl ?_
          have loop : ∀ (m c : Nat) (cez : aw_He) (gz : Nat → Int32), c + m = k_ps (s_car S j) → (∀ q, q ≠ (3, 0, 14) → cez q = ce55 q) → arI cez (3, 0, 14) 0 240 gz → (∀ k, k < 6 + c → gz (12 * s_pn S + k) = papF (nI j) (s_car S j) a b k) → (∀ q, q < 12 * s_pn S → gz q = gff q) → AW X 6 0 0 ad cez 153 [(5, .int (nI c)), (4, .int (nI (12 * s_pn S))), (0, .ref (ad (3, 0, 0))), (1, .int (nI j)), (2, .int a), (3, .int b)] [] := by
            intro m
            induction m with
            | zero =>
              intro c cez gz ha hfz r14 hgz hgz2
              have r0 : cez (3, 0, 0) = some (.inr (3, [.int (nI (s_cn S)), .ref (ad (3, 0, 1)), .ref (ad (3, 0, 2)), .ref (ad (3, 0, 3)), .ref (ad (3, 0, 4)), .ref (ad (3, 0, 5)), .ref (ad (3, 0, 6)), .ref (ad (3, 0, 7)), .ref (ad (3, 0, 8)), .ref (ad (3, 0, 9)), .ref (ad (3, 0, 10)), .ref (ad (3, 0, 11)), .ref (ad (3, 0, 12)), .int (nI (s_pn S)), .ref (ad (3, 0, 14)), .ref (ad (3, 0, 15)), .int (nI (s_ln S)), .ref (ad (3, 0, 17)), .int (nI (s_on S)), .ref (ad (3, 0, 19))])) := (hfz _ (by simp)).trans r0
              have r1 := r1.tr (hfz _ (by simp))
              have r2 := r2.tr (hfz _ (by simp))
              have r3 := r3.tr (hfz _ (by simp))
              have r4 := r4.tr (hfz _ (by simp))
              have r5 := r5.tr (hfz _ (by simp))
              have r6 := r6.tr (hfz _ (by simp))
              have r7 := r7.tr (hfz _ (by simp))
              have r8 := r8.tr (hfz _ (by simp))
              have r9 := r9.tr (hfz _ (by simp))
              have r10 := r10.tr (hfz _ (by simp))
              have r11 := r11.tr (hfz _ (by simp))
              have r12 := r12.tr (hfz _ (by simp))
              have r15 := r15.tr (hfz _ (by simp))
              have r17 := r17.tr (hfz _ (by simp))
              have r19 := r19.tr (hfz _ (by simp))
              refine aw_iload C d_R_paper_153 (j := 0) rfl ?_
              refine aw_aload_n C d_R_paper_155 rfl (j := 2) rfl ?_
              refine aw_get C F_R r0 11 (by decide) tw_310 rfl d_R_paper_156 ?_
              refine aw_iload_n C d_R_paper_159 rfl (j := 3) rfl ?_
              refine ar_iald C r11 (j := j) (rfl) (by omega) (by omega) d_R_paper_160 ?_
              refine aw_topi (v' := nI (k_ps (s_car S j))) (e_ps) ?_
              refine aw_icmp_ge C (tgt := 195) d_R_paper_161 (by decide) (fun h161 => ?_) (fun h161 => absurd (nI_le (by omega) (by omega)) h161)
              refine aw_aload_n C d_R_paper_195 rfl (j := 2) rfl ?_
              refine aw_get C F_R r0 15 (by decide) tw_314 rfl d_R_paper_196 ?_
              refine aw_aload_n C d_R_paper_199 rfl (j := 2) rfl ?_
              refine aw_get C F_R r0 13 (by decide) tw_312 rfl d_R_paper_200 ?_
              refine aw_bipush C (v := 6) d_R_paper_203 (by decide) ?_
              refine aw_aload_n C d_R_paper_205 rfl (j := 2) rfl ?_
              refine aw_get C F_R r0 11 (by decide) tw_310 rfl d_R_paper_206 ?_
              refine aw_iload_n C d_R_paper_209 rfl (j := 3) rfl ?_
              refine ar_iald C r11 (j := j) (rfl) (by omega) (by omega) d_R_paper_210 ?_
              refine aw_topi (v' := nI (k_ps (s_car S j))) (e_ps) ?_
              refine aw_iadd C d_R_paper_211 ?_
              refine aw_topi (v' := nI (6 + k_ps (s_car S j))) (nI_add 6 _) ?_
              refine ar_iast C r15 (j := (s_pn S)) (rfl) (by omega) (by omega) d_R_paper_212 ?_
              intro ce56 fw56 r15
              have r0 : ce56 (3, 0, 0) = some (.inr (3, [.int (nI (s_cn S)), .ref (ad (3, 0, 1)), .ref (ad (3, 0, 2)), .ref (ad (3, 0, 3)), .ref (ad (3, 0, 4)), .ref (ad (3, 0, 5)), .ref (ad (3, 0, 6)), .ref (ad (3, 0, 7)), .ref (ad (3, 0, 8)), .ref (ad (3, 0, 9)), .ref (ad (3, 0, 10)), .ref (ad (3, 0, 11)), .ref (ad (3, 0, 12)), .int (nI (s_pn S)), .ref (ad (3, 0, 14)), .ref (ad (3, 0, 15)), .int (nI (s_ln S)), .ref (ad (3, 0, 17)), .int (nI (s_on S)), .ref (ad (3, 0, 19))])) := (fw56 _ (by simp)).trans r0
              have r1 := r1.tr (fw56 _ (by simp))
              have r2 := r2.tr (fw56 _ (by simp))
              have r3 := r3.tr (fw56 _ (by simp))
              have r4 := r4.tr (fw56 _ (by simp))
              have r5 := r5.tr (fw56 _ (by simp))
              have r6 := r6.tr (fw56 _ (by simp))
              have r7 := r7.tr (fw56 _ (by simp))
              have r8 := r8.tr (fw56 _ (by simp))
              have r9 := r9.tr (fw56 _ (by simp))
              have r10 := r10.tr (fw56 _ (by simp))
              have r11 := r11.tr (fw56 _ (by simp))
              have r12 := r12.tr (fw56 _ (by simp))
              have r14 := r14.tr (fw56 _ (by simp))
              have r17 := r17.tr (fw56 _ (by simp))
              have r19 := r19.tr (fw56 _ (by simp))
              refine aw_aload_n C d_R_paper_213 rfl (j := 2) rfl ?_
              refine aw_dup C d_R_paper_214 rfl ?_
              refine aw_get C F_R r0 13 (by decide) tw_312 rfl d_R_paper_215 ?_
              refine aw_iconst C (v := 1) d_R_paper_218 (by decide) ?_
              refine aw_iadd C d_R_paper_219 ?_
              refine aw_topi (v' := nI (s_pn S + 1)) (nI_1 _) ?_
              refine ob_put C F_R r0 13 (by decide) tw_312 rfl rfl rfl (Nat.le_of_ble_eq_true rfl) (fs' := [.int (nI (s_cn S)), .ref (ad (3, 0, 1)), .ref (ad (3, 0, 2)), .ref (ad (3, 0, 3)), .ref (ad (3, 0, 4)), .ref (ad (3, 0, 5)), .ref (ad (3, 0, 6)), .ref (ad (3, 0, 7)), .ref (ad (3, 0, 8)), .ref (ad (3, 0, 9)), .ref (ad (3, 0, 10)), .ref (ad (3, 0, 11)), .ref (ad (3, 0, 12)), .int (nI (s_pn S + 1)), .ref (ad (3, 0, 14)), .ref (ad (3, 0, 15)), .int (nI (s_ln S)), .ref (ad (3, 0, 17)), .int (nI (s_on S)), .ref (ad (3, 0, 19))]) rfl d_R_paper_220 ?_
              intro ce57 fw57 r0
              have r1 := r1.tr (fw57 _ (by simp))
              have r2 := r2.tr (fw57 _ (by simp))
              have r3 := r3.tr (fw57 _ (by simp))
              have r4 := r4.tr (fw57 _ (by simp))
              have r5 := r5.tr (fw57 _ (by simp))
              have r6 := r6.tr (fw57 _ (by simp))
              have r7 := r7.tr (fw57 _ (by simp))
              have r8 := r8.tr (fw57 _ (by simp))
              have r9 := r9.tr (fw57 _ (by simp))
              have r10 := r10.tr (fw57 _ (by simp))
              have r11 := r11.tr (fw57 _ (by simp))
              have r12 := r12.tr (fw57 _ (by simp))
              have r14 := r14.tr (fw57 _ (by simp))
              have r15 := r15.tr (fw57 _ (by simp))
              have r17 := r17.tr (fw57 _ (by simp))
              have r19 := r19.tr (fw57 _ (by simp))
              refine aw_aload_n C d_R_paper_223 rfl (j := 2) rfl ?_
              refine aw_get C F_R r0 13 (by decide) tw_312 rfl d_R_paper_224 ?_
              refine aw_iconst C (v := 1) d_R_paper_227 (by decide) ?_
              refine aw_isub C d_R_paper_228 ?_
              refine aw_topi (v' := nI (s_pn S)) (nI_pred _) ?_
              refine aw_iret C E (rfl) (by decide) (by decide) d_R_paper_229 ?_
              rw [show f_paper S (nI j) a b = (nI (s_pn S), s_addP S (6 + k_ps (s_car S j), papF (nI j) (s_car S j) a b)) from by simp only [f_paper, ix_in hj (show s_cn S < 2 ^ 31 by omega), if_pos hc]]
              have hrel : Rel (s_addP S (6 + k_ps (s_car S j), papF (nI j) (s_car S j) a b)) kd sr np st la gby gdu gwo grd un ps gpt gz (upd gfc (s_pn S) (nI (6 + k_ps (s_car S j)))) := by
                refine ⟨hE1, hE2, hE3, hE4, fun p k hp hk => ?_, fun p hp => ?_, hE7⟩
                · have hp' : p < s_pn S + 1 := hp
                  change k < (va_up (s_pap S) (s_pn S) _ p).1 at hk
                  show _ = (va_up (s_pap S) (s_pn S) _ p).2 k
                  by_cases e : p = s_pn S
                  · subst e
                    rw [va_up_self] at hk ⊢
                    exact hgz k (by have : k < 6 + k_ps (s_car S j) := hk; omega)
                  · rw [va_up_ne _ _ e] at hk ⊢
                    have := (hW3 p (by omega)).2
                    rw [hgz2 _ (by omega)]
                    exact hE5 p k (by omega) hk
                · have hp' : p < s_pn S + 1 := hp
                  show _ = nI (va_up (s_pap S) (s_pn S) _ p).1
                  by_cases e : p = s_pn S
                  · subst e
                    rw [va_up_self]; simp [upd]
                  · rw [va_up_ne _ _ e, updn e]
                    exact hE6 p (by omega)
              have hwf : WFS (s_addP S (6 + k_ps (s_car S j), papF (nI j) (s_car S j) a b)) := by
                refine ⟨⟨hb1, by show s_pn S + 1 ≤ 20; omega, hb3, hb4⟩, hW2, fun p hp => ?_⟩
                have hp' : p < s_pn S + 1 := hp
                show 6 ≤ (va_up (s_pap S) (s_pn S) _ p).1 ∧ (va_up (s_pap S) (s_pn S) _ p).1 ≤ 12
                by_cases e : p = s_pn S
                · subst e
                  rw [va_up_self]
                  exact ⟨by show 6 ≤ 6 + k_ps (s_car S j); omega, by show 6 + k_ps (s_car S j) ≤ 12; omega⟩
                · rw [va_up_ne _ _ e]; exact hW3 p (by omega)
              exact ⟨rfl, rfl, (((((((fr3 fw50).trans (fr3 fw51)).trans (fr3 fw52)).trans (fr3 fw53)).trans (fr3 fw54)).trans (fr3 fw55)).trans (fr3 hfz)).trans ((fr3 fw56).trans (fr3 fw57)), _, _, _, _, _, _, _, _, _, _, _, _, _, _, ⟨r0, r1, r2, r3, r4, r5, r6, r7, r8, r9, r10, r11, r12, r14, r15, r17, r19⟩, hrel, hwf⟩
            | succ m ih =>
              intro c cez gz ha hfz r14 hgz hgz2
              have r0 : cez (3, 0, 0) = some (.inr (3, [.int (nI (s_cn S)), .ref (ad (3, 0, 1)), .ref (ad (3, 0, 2)), .ref (ad (3, 0, 3)), .ref (ad (3, 0, 4)), .ref (ad (3, 0, 5)), .ref (ad (3, 0, 6)), .ref (ad (3, 0, 7)), .ref (ad (3, 0, 8)), .ref (ad (3, 0, 9)), .ref (ad (3, 0, 10)), .ref (ad (3, 0, 11)), .ref (ad (3, 0, 12)), .int (nI (s_pn S)), .ref (ad (3, 0, 14)), .ref (ad (3, 0, 15)), .int (nI (s_ln S)), .ref (ad (3, 0, 17)), .int (nI (s_on S)), .ref (ad (3, 0, 19))])) := (hfz _ (by simp)).trans r0
              have r1 := r1.tr (hfz _ (by simp))
              have r2 := r2.tr (hfz _ (by simp))
              have r3 := r3.tr (hfz _ (by simp))
              have r4 := r4.tr (hfz _ (by simp))
              have r5 := r5.tr (hfz _ (by simp))
              have r6 := r6.tr (hfz _ (by simp))
              have r7 := r7.tr (hfz _ (by simp))
              have r8 := r8.tr (hfz _ (by simp))
              have r9 := r9.tr (hfz _ (by simp))
              have r10 := r10.tr (hfz _ (by simp))
              have r11 := r11.tr (hfz _ (by simp))
              have r12 := r12.tr (hfz _ (by simp))
              have r15 := r15.tr (hfz _ (by simp))
              have r17 := r17.tr (hfz _ (by simp))
              have r19 := r19.tr (hfz _ (by simp))
              refine aw_iload C d_R_paper_153 (j := 0) rfl ?_
              refine aw_aload_n C d_R_paper_155 rfl (j := 2) rfl ?_
              refine aw_get C F_R r0 11 (by decide) tw_310 rfl d_R_paper_156 ?_
              refine aw_iload_n C d_R_paper_159 rfl (j := 3) rfl ?_
              refine ar_iald C r11 (j := j) (rfl) (by omega) (by omega) d_R_paper_160 ?_
              refine aw_topi (v' := nI (k_ps (s_car S j))) (e_ps) ?_
              refine aw_icmp_ge C (tgt := 195) d_R_paper_161 (by decide) (fun h161 => absurd h161 (nI_ge (by omega) (by omega))) (fun h161 => ?_)
              refine aw_aload_n C d_R_paper_164 rfl (j := 2) rfl ?_
              refine aw_get C F_R r0 14 (by decide) tw_313 rfl d_R_paper_165 ?_
              refine aw_iload C d_R_paper_168 (j := 1) rfl ?_
              refine aw_bipush C (v := 6) d_R_paper_170 (by decide) ?_
              refine aw_iadd C d_R_paper_172 ?_
              refine aw_topi (v' := nI (12 * s_pn S + 6)) (nI_add _ 6) ?_
              refine aw_iload C d_R_paper_173 (j := 0) rfl ?_
              refine aw_iadd C d_R_paper_175 ?_
              refine aw_topi (v' := nI (12 * s_pn S + 6 + c)) (nI_add _ _) ?_
              refine aw_aload_n C d_R_paper_176 rfl (j := 2) rfl ?_
              refine aw_get C F_R r0 12 (by decide) tw_311 rfl d_R_paper_177 ?_
              refine aw_bipush C (v := 6) d_R_paper_180 (by decide) ?_
              refine aw_iload_n C d_R_paper_182 rfl (j := 3) rfl ?_
              refine aw_imul C d_R_paper_183 ?_
              refine aw_iload C d_R_paper_184 (j := 0) rfl ?_
              refine aw_iadd C d_R_paper_186 ?_
              refine aw_topi (v' := nI (6 * j + c)) (k6 _ _) ?_
              refine ar_iald C r12 (j := (6 * j + c)) (rfl) (by omega) (by omega) d_R_paper_187 ?_
              refine aw_topi (v' := k_pt (s_car S j) c) (hE4 j c hj (by omega)) ?_
              refine ar_iast C r14 (j := (12 * s_pn S + 6 + c)) (rfl) (by omega) (by omega) d_R_paper_188 ?_
              intro ce58 fw58 r14
              have r0 : ce58 (3, 0, 0) = some (.inr (3, [.int (nI (s_cn S)), .ref (ad (3, 0, 1)), .ref (ad (3, 0, 2)), .ref (ad (3, 0, 3)), .ref (ad (3, 0, 4)), .ref (ad (3, 0, 5)), .ref (ad (3, 0, 6)), .ref (ad (3, 0, 7)), .ref (ad (3, 0, 8)), .ref (ad (3, 0, 9)), .ref (ad (3, 0, 10)), .ref (ad (3, 0, 11)), .ref (ad (3, 0, 12)), .int (nI (s_pn S)), .ref (ad (3, 0, 14)), .ref (ad (3, 0, 15)), .int (nI (s_ln S)), .ref (ad (3, 0, 17)), .int (nI (s_on S)), .ref (ad (3, 0, 19))])) := (fw58 _ (by simp)).trans r0
              have r1 := r1.tr (fw58 _ (by simp))
              have r2 := r2.tr (fw58 _ (by simp))
              have r3 := r3.tr (fw58 _ (by simp))
              have r4 := r4.tr (fw58 _ (by simp))
              have r5 := r5.tr (fw58 _ (by simp))
              have r6 := r6.tr (fw58 _ (by simp))
              have r7 := r7.tr (fw58 _ (by simp))
              have r8 := r8.tr (fw58 _ (by simp))
              have r9 := r9.tr (fw58 _ (by simp))
              have r10 := r10.tr (fw58 _ (by simp))
              have r11 := r11.tr (fw58 _ (by simp))
              have r12 := r12.tr (fw58 _ (by simp))
              have r15 := r15.tr (fw58 _ (by simp))
              have r17 := r17.tr (fw58 _ (by simp))
              have r19 := r19.tr (fw58 _ (by simp))
              refine aw_iinc C (v := nI (c + 1)) (lv' := [(5, .int (nI (c + 1))), (4, .int (nI (12 * s_pn S))), (0, .ref (ad (3, 0, 0))), (1, .int (nI j)), (2, .int a), (3, .int b)]) d_R_paper_189 (j := 0) rfl (nI_1 _) (by decide) rfl ?_
              refine aw_goto C (tgt := 153) d_R_paper_192 (by decide) ?_
              refine ih (c + 1) ce58 (upd gz (12 * s_pn S + 6 + c) (k_pt (s_car S j) c)) (by omega) (fun q hq => (fw58 q hq).trans (hfz q hq)) r14 ?_ ?_
              · intro k hk
                by_cases e : k = 6 + c
                · subst e; rw [show 12 * s_pn S + (6 + c) = 12 * s_pn S + 6 + c by omega]; simp only [upd, if_pos]
                  simp only [papF]
                  repeat rw [if_neg (by omega)]
                  rw [show 6 + c - 6 = c by omega]
                · rw [updn (by omega)]; exact hgz k (by omega)
              · intro q hq; rw [updn (by omega)]; exact hgz2 q hq
          refine aw_lv (lv' := [(5, .int (nI 0)), (4, .int (nI (12 * s_pn S))), (0, .ref (ad (3, 0, 0))), (1, .int (nI j)), (2, .int a), (3, .int b)]) (by simp only [nI_0]) ?_
          refine loop (k_ps (s_car S j)) 0 ce55 (upd (upd (upd (upd (upd (upd gff (12 * s_pn S) (nI j)) (12 * s_pn S + 1) (k_kd (s_car S j))) (12 * s_pn S + 2) a) (12 * s_pn S + 3) b) (12 * s_pn S + 4) (k_st (s_car S j))) (12 * s_pn S + 5) (nI (k_ps (s_car S j)))) (by omega) (fun _ _ => rfl) r14 (fun k hk => ?_) (fun q hq => ?_)
          · rcases (show k = 0 ∨ k = 1 ∨ k = 2 ∨ k = 3 ∨ k = 4 ∨ k = 5 by omega) with rfl | rfl | rfl | rfl | rfl | rfl <;> simp [upd, papF]
          · rw [updn (by omega)]; rw [updn (by omega)]; rw [updn (by omega)]; rw [updn (by omega)]; rw [updn (by omega)]; rw [updn (by omega)]; first | done | rfl
        · exact hc.2.2.2.1.elim (fun q => absurd q h53) (fun q => absurd q h63)
    by_cases h0 : s_pn S = 20
    · skip
      show AW X 6 0 0 ad ce 0 [(0, .ref (ad (3, 0, 0))), (1, .int (nI j)), (2, .int a), (3, .int b)] []
      refine aw_aload_n C d_R_paper_0 rfl (j := 0) rfl ?_
      refine aw_get C F_R r0 13 (by decide) tw_312 rfl d_R_paper_1 ?_
      refine aw_bipush C (v := 20) d_R_paper_4 (by decide) ?_
      refine aw_icmp_eq C (tgt := 66) d_R_paper_6 (by decide) (fun h6 => ?_) (fun h6 => absurd (by rw [h0]; rfl) h6)
      refine aw_iconst C (v := (-1)) d_R_paper_66 (by decide) ?_
      refine aw_iret C E (rfl) (by decide) (by decide) d_R_paper_67 ?_
      rw [show f_paper S (nI j) a b = (-1, S) from by simp only [f_paper, ix_in hj (show s_cn S < 2 ^ 31 by omega), if_neg hc]]
      exact ⟨rfl, rfl, frR.rf, ⟨kd, sr, np, st, la, gby, gdu, gwo, grd, un, ps, gpt, gff, gfc, hR, hE, hW⟩⟩
    by_cases h1 : 0 ≤ a ∧ a ≤ 9
    · by_cases h2 : 0 ≤ b ∧ b ≤ 9
      · skip
        show AW X 6 0 0 ad ce 0 [(0, .ref (ad (3, 0, 0))), (1, .int (nI j)), (2, .int a), (3, .int b)] []
        refine aw_aload_n C d_R_paper_0 rfl (j := 0) rfl ?_
        refine aw_get C F_R r0 13 (by decide) tw_312 rfl d_R_paper_1 ?_
        refine aw_bipush C (v := 20) d_R_paper_4 (by decide) ?_
        refine aw_icmp_eq C (tgt := 66) d_R_paper_6 (by decide) (fun h6 => absurd h6 (fun q => absurd ((nI_eq (b := 20) (by omega) (by omega)).mp q) (by omega))) (fun h6 => ?_)
        refine aw_aload_n C d_R_paper_9 rfl (j := 0) rfl ?_
        refine aw_iload_n C d_R_paper_10 rfl (j := 1) rfl ?_
        refine aw_callV C I (k := (3, 0, 0)) (as := [.int (nI j)]) (rest := []) (r_isCarrier l G ad ce (s_cn S) (s_pn S) (s_ln S) (s_on S) kd sr np st la gby gdu gwo grd un ps gpt gff gfc (s_li S) (s_lo S) hR (nI j)) g_R_64 r0 rfl rfl ⟨by decide, by decide⟩ ⟨by decide, by decide⟩ rfl (Nat.le_of_ble_eq_true rfl) d_R_paper_11 ?_
        rintro _ _ _ ⟨rfl, rfl, rfl⟩
        show AW X 6 0 0 ad ce 14 [(0, .ref (ad (3, 0, 0))), (1, .int (nI j)), (2, .int a), (3, .int b)] [.int (bI (decide (0 ≤ nI j ∧ nI j < nI (s_cn S))))]
        refine aw_topi (v' := 1) ((bI_t ⟨nI_pos' (by omega), nI_lt (by omega) (by omega)⟩).symm) ?_
        show AW X 6 0 0 ad ce 14 [(0, .ref (ad (3, 0, 0))), (1, .int (nI j)), (2, .int a), (3, .int b)] [.int 1]
        refine aw_if_eq C (tgt := 66) d_R_paper_14 (by decide) (fun h14 => absurd h14 (by decide)) (fun h14 => ?_)
        refine aw_iload_n C d_R_paper_17 rfl (j := 2) rfl ?_
        refine aw_i2l C d_R_paper_18 ?_
        refine aw_lconst C (v := 0) d_R_paper_19 (by decide) ?_
        refine aw_ldc2 C tw_386 d_R_paper_20 ?_
        refine aw_callS C I (as := [.long (Int32.toInt64 a), .long 0, .long 9]) (rest := []) (r_isIn l G ad ce (Int32.toInt64 a) 0 9) g_R_70 ⟨by decide, by decide⟩ ⟨by decide, by decide⟩ rfl (Nat.le_of_ble_eq_true rfl) d_R_paper_23 ?_
        rintro _ _ _ ⟨rfl, rfl, rfl⟩
        show AW X 6 0 0 ad ce 26 [(0, .ref (ad (3, 0, 0))), (1, .int (nI j)), (2, .int a), (3, .int b)] [.int (bI (decide (0 ≤ Int32.toInt64 a ∧ Int32.toInt64 a ≤ 9)))]
        refine aw_topi (v' := 1) ((bI_t ((in32 rfl rfl).mpr h1)).symm) ?_
        show AW X 6 0 0 ad ce 26 [(0, .ref (ad (3, 0, 0))), (1, .int (nI j)), (2, .int a), (3, .int b)] [.int 1]
        refine aw_if_eq C (tgt := 66) d_R_paper_26 (by decide) (fun h26 => absurd h26 (by decide)) (fun h26 => ?_)
        refine aw_iload_n C d_R_paper_29 rfl (j := 3) rfl ?_
        refine aw_i2l C d_R_paper_30 ?_
        refine aw_lconst C (v := 0) d_R_paper_31 (by decide) ?_
        refine aw_ldc2 C tw_386 d_R_paper_32 ?_
        refine aw_callS C I (as := [.long (Int32.toInt64 b), .long 0, .long 9]) (rest := []) (r_isIn l G ad ce (Int32.toInt64 b) 0 9) g_R_70 ⟨by decide, by decide⟩ ⟨by decide, by decide⟩ rfl (Nat.le_of_ble_eq_true rfl) d_R_paper_35 ?_
        rintro _ _ _ ⟨rfl, rfl, rfl⟩
        show AW X 6 0 0 ad ce 38 [(0, .ref (ad (3, 0, 0))), (1, .int (nI j)), (2, .int a), (3, .int b)] [.int (bI (decide (0 ≤ Int32.toInt64 b ∧ Int32.toInt64 b ≤ 9)))]
        refine aw_topi (v' := 1) ((bI_t ((in32 rfl rfl).mpr h2)).symm) ?_
        show AW X 6 0 0 ad ce 38 [(0, .ref (ad (3, 0, 0))), (1, .int (nI j)), (2, .int a), (3, .int b)] [.int 1]
        refine aw_if_eq C (tgt := 66) d_R_paper_38 (by decide) (fun h38 => absurd h38 (by decide)) (fun h38 => ?_)
        refine aw_iload_n C d_R_paper_41 rfl (j := 2) rfl ?_
        refine aw_iload_n C d_R_paper_42 rfl (j := 3) rfl ?_
        refine aw_icmp_eq C (tgt := 66) d_R_paper_43 (by decide) (fun h43 => ?_) (fun h43 => ?_)
        · refine aw_iconst C (v := (-1)) d_R_paper_66 (by decide) ?_
          refine aw_iret C E (rfl) (by decide) (by decide) d_R_paper_67 ?_
          rw [show f_paper S (nI j) a b = (-1, S) from by simp only [f_paper, ix_in hj (show s_cn S < 2 ^ 31 by omega), if_neg hc]]
          exact ⟨rfl, rfl, frR.rf, ⟨kd, sr, np, st, la, gby, gdu, gwo, grd, un, ps, gpt, gff, gfc, hR, hE, hW⟩⟩
        · refine aw_aload_n C d_R_paper_46 rfl (j := 0) rfl ?_
          refine aw_get C F_R r0 4 (by decide) tw_303 rfl d_R_paper_47 ?_
          refine aw_iload_n C d_R_paper_50 rfl (j := 1) rfl ?_
          refine ar_iald C r4 (j := j) (rfl) (by omega) (by omega) d_R_paper_51 ?_
          refine aw_topi (v' := k_st (s_car S j)) (e_st) ?_
          refine aw_iconst C (v := 3) d_R_paper_52 (by decide) ?_
          refine aw_icmp_eq C (tgt := 68) d_R_paper_53 (by decide) (fun h53 => ?_) (fun h53 => ?_)
          · exact absurd ⟨h1, h2, h43, by first | exact Or.inl h53 | exact Or.inr h63, by omega⟩ hc
          · refine aw_aload_n C d_R_paper_56 rfl (j := 0) rfl ?_
            refine aw_get C F_R r0 4 (by decide) tw_303 rfl d_R_paper_57 ?_
            refine aw_iload_n C d_R_paper_60 rfl (j := 1) rfl ?_
            refine ar_iald C r4 (j := j) (rfl) (by omega) (by omega) d_R_paper_61 ?_
            refine aw_topi (v' := k_st (s_car S j)) (e_st) ?_
            refine aw_iconst C (v := 5) d_R_paper_62 (by decide) ?_
            refine aw_icmp_eq C (tgt := 68) d_R_paper_63 (by decide) (fun h63 => ?_) (fun h63 => ?_)
            · exact absurd ⟨h1, h2, h43, by first | exact Or.inl h53 | exact Or.inr h63, by omega⟩ hc
            · refine aw_iconst C (v := (-1)) d_R_paper_66 (by decide) ?_
              refine aw_iret C E (rfl) (by decide) (by decide) d_R_paper_67 ?_
              rw [show f_paper S (nI j) a b = (-1, S) from by simp only [f_paper, ix_in hj (show s_cn S < 2 ^ 31 by omega), if_neg hc]]
              exact ⟨rfl, rfl, frR.rf, ⟨kd, sr, np, st, la, gby, gdu, gwo, grd, un, ps, gpt, gff, gfc, hR, hE, hW⟩⟩
      · skip
        show AW X 6 0 0 ad ce 0 [(0, .ref (ad (3, 0, 0))), (1, .int (nI j)), (2, .int a), (3, .int b)] []
        refine aw_aload_n C d_R_paper_0 rfl (j := 0) rfl ?_
        refine aw_get C F_R r0 13 (by decide) tw_312 rfl d_R_paper_1 ?_
        refine aw_bipush C (v := 20) d_R_paper_4 (by decide) ?_
        refine aw_icmp_eq C (tgt := 66) d_R_paper_6 (by decide) (fun h6 => absurd h6 (fun q => absurd ((nI_eq (b := 20) (by omega) (by omega)).mp q) (by omega))) (fun h6 => ?_)
        refine aw_aload_n C d_R_paper_9 rfl (j := 0) rfl ?_
        refine aw_iload_n C d_R_paper_10 rfl (j := 1) rfl ?_
        refine aw_callV C I (k := (3, 0, 0)) (as := [.int (nI j)]) (rest := []) (r_isCarrier l G ad ce (s_cn S) (s_pn S) (s_ln S) (s_on S) kd sr np st la gby gdu gwo grd un ps gpt gff gfc (s_li S) (s_lo S) hR (nI j)) g_R_64 r0 rfl rfl ⟨by decide, by decide⟩ ⟨by decide, by decide⟩ rfl (Nat.le_of_ble_eq_true rfl) d_R_paper_11 ?_
        rintro _ _ _ ⟨rfl, rfl, rfl⟩
        show AW X 6 0 0 ad ce 14 [(0, .ref (ad (3, 0, 0))), (1, .int (nI j)), (2, .int a), (3, .int b)] [.int (bI (decide (0 ≤ nI j ∧ nI j < nI (s_cn S))))]
        refine aw_topi (v' := 1) ((bI_t ⟨nI_pos' (by omega), nI_lt (by omega) (by omega)⟩).symm) ?_
        show AW X 6 0 0 ad ce 14 [(0, .ref (ad (3, 0, 0))), (1, .int (nI j)), (2, .int a), (3, .int b)] [.int 1]
        refine aw_if_eq C (tgt := 66) d_R_paper_14 (by decide) (fun h14 => absurd h14 (by decide)) (fun h14 => ?_)
        refine aw_iload_n C d_R_paper_17 rfl (j := 2) rfl ?_
        refine aw_i2l C d_R_paper_18 ?_
        refine aw_lconst C (v := 0) d_R_paper_19 (by decide) ?_
        refine aw_ldc2 C tw_386 d_R_paper_20 ?_
        refine aw_callS C I (as := [.long (Int32.toInt64 a), .long 0, .long 9]) (rest := []) (r_isIn l G ad ce (Int32.toInt64 a) 0 9) g_R_70 ⟨by decide, by decide⟩ ⟨by decide, by decide⟩ rfl (Nat.le_of_ble_eq_true rfl) d_R_paper_23 ?_
        rintro _ _ _ ⟨rfl, rfl, rfl⟩
        show AW X 6 0 0 ad ce 26 [(0, .ref (ad (3, 0, 0))), (1, .int (nI j)), (2, .int a), (3, .int b)] [.int (bI (decide (0 ≤ Int32.toInt64 a ∧ Int32.toInt64 a ≤ 9)))]
        refine aw_topi (v' := 1) ((bI_t ((in32 rfl rfl).mpr h1)).symm) ?_
        show AW X 6 0 0 ad ce 26 [(0, .ref (ad (3, 0, 0))), (1, .int (nI j)), (2, .int a), (3, .int b)] [.int 1]
        refine aw_if_eq C (tgt := 66) d_R_paper_26 (by decide) (fun h26 => absurd h26 (by decide)) (fun h26 => ?_)
        refine aw_iload_n C d_R_paper_29 rfl (j := 3) rfl ?_
        refine aw_i2l C d_R_paper_30 ?_
        refine aw_lconst C (v := 0) d_R_paper_31 (by decide) ?_
        refine aw_ldc2 C tw_386 d_R_paper_32 ?_
        refine aw_callS C I (as := [.long (Int32.toInt64 b), .long 0, .long 9]) (rest := []) (r_isIn l G ad ce (Int32.toInt64 b) 0 9) g_R_70 ⟨by decide, by decide⟩ ⟨by decide, by decide⟩ rfl (Nat.le_of_ble_eq_true rfl) d_R_paper_35 ?_
        rintro _ _ _ ⟨rfl, rfl, rfl⟩
        show AW X 6 0 0 ad ce 38 [(0, .ref (ad (3, 0, 0))), (1, .int (nI j)), (2, .int a), (3, .int b)] [.int (bI (decide (0 ≤ Int32.toInt64 b ∧ Int32.toInt64 b ≤ 9)))]
        refine aw_topi (v' := 0) ((bI_f (fun q => h2 ((in32 rfl rfl).mp q))).symm) ?_
        show AW X 6 0 0 ad ce 38 [(0, .ref (ad (3, 0, 0))), (1, .int (nI j)), (2, .int a), (3, .int b)] [.int 0]
        refine aw_if_eq C (tgt := 66) d_R_paper_38 (by decide) (fun h38 => ?_) (fun h38 => absurd (rfl) h38)
        refine aw_iconst C (v := (-1)) d_R_paper_66 (by decide) ?_
        refine aw_iret C E (rfl) (by decide) (by decide) d_R_paper_67 ?_
        rw [show f_paper S (nI j) a b = (-1, S) from by simp only [f_paper, ix_in hj (show s_cn S < 2 ^ 31 by omega), if_neg hc]]
        exact ⟨rfl, rfl, frR.rf, ⟨kd, sr, np, st, la, gby, gdu, gwo, grd, un, ps, gpt, gff, gfc, hR, hE, hW⟩⟩
    · skip
      show AW X 6 0 0 ad ce 0 [(0, .ref (ad (3, 0, 0))), (1, .int (nI j)), (2, .int a), (3, .int b)] []
      refine aw_aload_n C d_R_paper_0 rfl (j := 0) rfl ?_
      refine aw_get C F_R r0 13 (by decide) tw_312 rfl d_R_paper_1 ?_
      refine aw_bipush C (v := 20) d_R_paper_4 (by decide) ?_
      refine aw_icmp_eq C (tgt := 66) d_R_paper_6 (by decide) (fun h6 => absurd h6 (fun q => absurd ((nI_eq (b := 20) (by omega) (by omega)).mp q) (by omega))) (fun h6 => ?_)
      refine aw_aload_n C d_R_paper_9 rfl (j := 0) rfl ?_
      refine aw_iload_n C d_R_paper_10 rfl (j := 1) rfl ?_
      refine aw_callV C I (k := (3, 0, 0)) (as := [.int (nI j)]) (rest := []) (r_isCarrier l G ad ce (s_cn S) (s_pn S) (s_ln S) (s_on S) kd sr np st la gby gdu gwo grd un ps gpt gff gfc (s_li S) (s_lo S) hR (nI j)) g_R_64 r0 rfl rfl ⟨by decide, by decide⟩ ⟨by decide, by decide⟩ rfl (Nat.le_of_ble_eq_true rfl) d_R_paper_11 ?_
      rintro _ _ _ ⟨rfl, rfl, rfl⟩
      show AW X 6 0 0 ad ce 14 [(0, .ref (ad (3, 0, 0))), (1, .int (nI j)), (2, .int a), (3, .int b)] [.int (bI (decide (0 ≤ nI j ∧ nI j < nI (s_cn S))))]
      refine aw_topi (v' := 1) ((bI_t ⟨nI_pos' (by omega), nI_lt (by omega) (by omega)⟩).symm) ?_
      show AW X 6 0 0 ad ce 14 [(0, .ref (ad (3, 0, 0))), (1, .int (nI j)), (2, .int a), (3, .int b)] [.int 1]
      refine aw_if_eq C (tgt := 66) d_R_paper_14 (by decide) (fun h14 => absurd h14 (by decide)) (fun h14 => ?_)
      refine aw_iload_n C d_R_paper_17 rfl (j := 2) rfl ?_
      refine aw_i2l C d_R_paper_18 ?_
      refine aw_lconst C (v := 0) d_R_paper_19 (by decide) ?_
      refine aw_ldc2 C tw_386 d_R_paper_20 ?_
      refine aw_callS C I (as := [.long (Int32.toInt64 a), .long 0, .long 9]) (rest := []) (r_isIn l G ad ce (Int32.toInt64 a) 0 9) g_R_70 ⟨by decide, by decide⟩ ⟨by decide, by decide⟩ rfl (Nat.le_of_ble_eq_true rfl) d_R_paper_23 ?_
      rintro _ _ _ ⟨rfl, rfl, rfl⟩
      show AW X 6 0 0 ad ce 26 [(0, .ref (ad (3, 0, 0))), (1, .int (nI j)), (2, .int a), (3, .int b)] [.int (bI (decide (0 ≤ Int32.toInt64 a ∧ Int32.toInt64 a ≤ 9)))]
      refine aw_topi (v' := 0) ((bI_f (fun q => h1 ((in32 rfl rfl).mp q))).symm) ?_
      show AW X 6 0 0 ad ce 26 [(0, .ref (ad (3, 0, 0))), (1, .int (nI j)), (2, .int a), (3, .int b)] [.int 0]
      refine aw_if_eq C (tgt := 66) d_R_paper_26 (by decide) (fun h26 => ?_) (fun h26 => absurd (rfl) h26)
      refine aw_iconst C (v := (-1)) d_R_paper_66 (by decide) ?_
      refine aw_iret C E (rfl) (by decide) (by decide) d_R_paper_67 ?_
      rw [show f_paper S (nI j) a b = (-1, S) from by simp only [f_paper, ix_in hj (show s_cn S < 2 ^ 31 by omega), if_neg hc]]
      exact ⟨rfl, rfl, frR.rf, ⟨kd, sr, np, st, la, gby, gdu, gwo, grd, un, ps, gpt, gff, gfc, hR, hE, hW⟩⟩
