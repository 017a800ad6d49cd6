set_option maxRecDepth 100000 in
set_option maxHeartbeats 4000000 in
theorem R_fail (l : Launch) (G : aw_G) (ad : aw_Ad) (ce : aw_He) (S : SysS) (hS : LayR S ad ce) (x y : Int32) : CT l G M_R_fail 2 43 0 0 [.ref (ad (3, 0, 0)), .int x, .int y] ad ce (rR (some (.int (f_fail S x y).1)) (f_fail S x y).2 ad ce) := by
  refine CT.of (by decide) (Nat.le_of_ble_eq_true rfl) ?_
  intro X C I E
  obtain ⟨kd, sr, np, st, la, gby, gdu, gwo, grd, un, ps, gpt, gff, gfc, hR, hE, hW⟩ := hS
  have hE0 := hE
  obtain ⟨hE1, hE2, hE3, hE4, hE5, hE6, hE7⟩ := hE0
  have hW0 := hW
  obtain ⟨⟨hb1, hb2, hb3, hb4⟩, hW2, hW3⟩ := hW0
  have hR0 := hR
  obtain ⟨r0, r1, r2, r3, r4, r5, r6, r7, r8, r9, r10, r11, r12, r14, r15, r17, r19⟩ := hR0
  rcases ix_cases x (n := s_cn S) (by omega) with hx | ⟨j, hj, rfl⟩
  · skip
    show AW X 3 0 0 ad ce 0 [(0, .ref (ad (3, 0, 0))), (1, .int x), (2, .int y)] []
    refine aw_aload_n C d_R_fail_0 rfl (j := 0) rfl ?_
    refine aw_iload_n C d_R_fail_1 rfl (j := 1) rfl ?_
    refine aw_iload_n C d_R_fail_2 rfl (j := 2) rfl ?_
    refine aw_callV C I (k := (3, 0, 0)) (as := [.int x, .int y]) (rest := []) (r_isPlace_out l G ad ce (s_cn S) (s_pn S) (s_ln S) (s_on S) kd sr np st la gby gdu gwo grd un ps gpt gff gfc (s_li S) (s_lo S) hR x y hx) g_R_92 r0 rfl rfl ⟨by decide, by decide⟩ ⟨by decide, by decide⟩ rfl (Nat.le_of_ble_eq_true rfl) d_R_fail_3 ?_
    rintro _ _ _ ⟨rfl, rfl, rfl⟩
    show AW X 3 0 0 ad ce 6 [(0, .ref (ad (3, 0, 0))), (1, .int x), (2, .int y)] [.int 0]
    refine aw_if_eq C (tgt := 31) d_R_fail_6 (by decide) (fun h6 => ?_) (fun h6 => absurd (rfl) h6)
    refine aw_iconst C (v := 0) d_R_fail_31 (by decide) ?_
    refine aw_iret C E (rfl) (by decide) (by decide) d_R_fail_32 ?_
    rw [show f_fail S x y = (0, S) from by simp only [f_fail, ix_out hx]]
    exact ⟨rfl, rfl, frR.rf, ⟨kd, sr, np, st, la, gby, gdu, gwo, grd, un, ps, gpt, gff, gfc, hR, hE, hW⟩⟩
  · skip
    obtain ⟨e_kd, e_sr, e_np, e_st, e_la, e_un, e_ps⟩ := hE1 j (by omega)
    obtain ⟨⟨hn1, hn2⟩, hps⟩ := hW2 j hj
    rcases ix_cases y (n := k_np (s_car S j)) (by omega) with hy | ⟨p, hp0, rfl⟩
    · skip
      show AW X 3 0 0 ad ce 0 [(0, .ref (ad (3, 0, 0))), (1, .int (nI j)), (2, .int y)] []
      refine aw_aload_n C d_R_fail_0 rfl (j := 0) rfl ?_
      refine aw_iload_n C d_R_fail_1 rfl (j := 1) rfl ?_
      refine aw_iload_n C d_R_fail_2 rfl (j := 2) rfl ?_
      refine aw_callV C I (k := (3, 0, 0)) (as := [.int (nI j), .int y]) (rest := []) (r_isPlace l G ad ce (s_cn S) (s_pn S) (s_ln S) (s_on S) kd sr np st la gby gdu gwo grd un ps gpt gff gfc (s_li S) (s_lo S) hR j _ hj hb1 e_np y) g_R_92 r0 rfl rfl ⟨by decide, by decide⟩ ⟨by decide, by decide⟩ rfl (Nat.le_of_ble_eq_true rfl) d_R_fail_3 ?_
      rintro _ _ _ ⟨rfl, rfl, rfl⟩
      show AW X 3 0 0 ad ce 6 [(0, .ref (ad (3, 0, 0))), (1, .int (nI j)), (2, .int y)] [.int (bI (decide (0 ≤ y ∧ y < nI (k_np (s_car S j)))))]
      refine aw_topi (v' := 0) ((bI_f (by (try simp only [Int32.le_iff_toInt_le, Int32.lt_iff_toInt_lt] at hy ⊢); omega)).symm) ?_
      show AW X 3 0 0 ad ce 6 [(0, .ref (ad (3, 0, 0))), (1, .int (nI j)), (2, .int y)] [.int 0]
      refine aw_if_eq C (tgt := 31) d_R_fail_6 (by decide) (fun h6 => ?_) (fun h6 => absurd (rfl) h6)
      refine aw_iconst C (v := 0) d_R_fail_31 (by decide) ?_
      refine aw_iret C E (rfl) (by decide) (by decide) d_R_fail_32 ?_
      rw [show f_fail S (nI j) y = (0, S) from by simp only [f_fail, ix_in hj (show s_cn S < 2 ^ 31 by omega), ix_out hy, ite_self]]
      exact ⟨rfl, rfl, frR.rf, ⟨kd, sr, np, st, la, gby, gdu, gwo, grd, un, ps, gpt, gff, gfc, hR, hE, hW⟩⟩
    by_cases hw : k_wo (s_car S j) p = 0
    · by_cases hg : k_st (s_car S j) = 5 ∨ k_st (s_car S j) = 6
      · skip
        show AW X 3 0 0 ad ce 0 [(0, .ref (ad (3, 0, 0))), (1, .int (nI j)), (2, .int (nI p))] []
        refine aw_aload_n C d_R_fail_0 rfl (j := 0) rfl ?_
        refine aw_iload_n C d_R_fail_1 rfl (j := 1) rfl ?_
        refine aw_iload_n C d_R_fail_2 rfl (j := 2) rfl ?_
        refine aw_callV C I (k := (3, 0, 0)) (as := [.int (nI j), .int (nI p)]) (rest := []) (r_isPlace l G ad ce (s_cn S) (s_pn S) (s_ln S) (s_on S) kd sr np st la gby gdu gwo grd un ps gpt gff gfc (s_li S) (s_lo S) hR j _ hj hb1 e_np (nI p)) g_R_92 r0 rfl rfl ⟨by decide, by decide⟩ ⟨by decide, by decide⟩ rfl (Nat.le_of_ble_eq_true rfl) d_R_fail_3 ?_
        rintro _ _ _ ⟨rfl, rfl, rfl⟩
        show AW X 3 0 0 ad ce 6 [(0, .ref (ad (3, 0, 0))), (1, .int (nI j)), (2, .int (nI p))] [.int (bI (decide (0 ≤ nI p ∧ nI p < nI (k_np (s_car S j)))))]
        refine aw_topi (v' := 1) ((bI_t ⟨nI_pos' (by omega), nI_lt (by omega) (by omega)⟩).symm) ?_
        show AW X 3 0 0 ad ce 6 [(0, .ref (ad (3, 0, 0))), (1, .int (nI j)), (2, .int (nI p))] [.int 1]
        refine aw_if_eq C (tgt := 31) d_R_fail_6 (by decide) (fun h6 => absurd h6 (by decide)) (fun h6 => ?_)
        refine aw_aload_n C d_R_fail_9 rfl (j := 0) rfl ?_
        refine aw_get C F_R r0 8 (by decide) tw_307 rfl d_R_fail_10 ?_
        refine aw_bipush C (v := 64) d_R_fail_13 (by decide) ?_
        refine aw_iload_n C d_R_fail_15 rfl (j := 1) rfl ?_
        refine aw_imul C d_R_fail_16 ?_
        refine aw_iload_n C d_R_fail_17 rfl (j := 2) rfl ?_
        refine aw_iadd C d_R_fail_18 ?_
        refine aw_topi (v' := nI (64 * j + p)) (k64 _ _) ?_
        refine ar_zald C r8 (j := (64 * j + p)) (rfl) (by omega) (by omega) d_R_fail_19 ?_
        refine aw_topi (v' := k_wo (s_car S j) p) ((hE2 j p hj hp0).2.2.1) ?_
        refine aw_if_ne C (tgt := 31) d_R_fail_20 (by decide) (fun h20 => absurd h20 (fun q => q hw)) (fun h20 => ?_)
        refine aw_aload_n C d_R_fail_23 rfl (j := 0) rfl ?_
        refine aw_iload_n C d_R_fail_24 rfl (j := 1) rfl ?_
        refine aw_callV C I (k := (3, 0, 0)) (as := [.int (nI j)]) (rest := []) (r_isGone l G ad ce (s_cn S) (s_pn S) (s_ln S) (s_on S) kd sr np st la gby gdu gwo grd un ps gpt gff gfc (s_li S) (s_lo S) hR j (by omega)) g_R_96 r0 rfl rfl ⟨by decide, by decide⟩ ⟨by decide, by decide⟩ rfl (Nat.le_of_ble_eq_true rfl) d_R_fail_25 ?_
        rintro _ _ _ ⟨rfl, rfl, rfl⟩
        show AW X 3 0 0 ad ce 28 [(0, .ref (ad (3, 0, 0))), (1, .int (nI j)), (2, .int (nI p))] [.int (bI (decide (st j = 5 ∨ st j = 6)))]
        refine aw_topi (v' := 1) ((bI_t (by rw [e_st]; exact hg)).symm) ?_
        show AW X 3 0 0 ad ce 28 [(0, .ref (ad (3, 0, 0))), (1, .int (nI j)), (2, .int (nI p))] [.int 1]
        refine aw_if_eq C (tgt := 33) d_R_fail_28 (by decide) (fun h28 => absurd h28 (by decide)) (fun h28 => ?_)
        refine aw_iconst C (v := 0) d_R_fail_31 (by decide) ?_
        refine aw_iret C E (rfl) (by decide) (by decide) d_R_fail_32 ?_
        rw [show f_fail S (nI j) (nI p) = (0, S) from by simp only [f_fail, ix_in hj (show s_cn S < 2 ^ 31 by omega), if_pos hg]]
        exact ⟨rfl, rfl, frR.rf, ⟨kd, sr, np, st, la, gby, gdu, gwo, grd, un, ps, gpt, gff, gfc, hR, hE, hW⟩⟩
      · skip
        show AW X 3 0 0 ad ce 0 [(0, .ref (ad (3, 0, 0))), (1, .int (nI j)), (2, .int (nI p))] []
        refine aw_aload_n C d_R_fail_0 rfl (j := 0) rfl ?_
        refine aw_iload_n C d_R_fail_1 rfl (j := 1) rfl ?_
        refine aw_iload_n C d_R_fail_2 rfl (j := 2) rfl ?_
        refine aw_callV C I (k := (3, 0, 0)) (as := [.int (nI j), .int (nI p)]) (rest := []) (r_isPlace l G ad ce (s_cn S) (s_pn S) (s_ln S) (s_on S) kd sr np st la gby gdu gwo grd un ps gpt gff gfc (s_li S) (s_lo S) hR j _ hj hb1 e_np (nI p)) g_R_92 r0 rfl rfl ⟨by decide, by decide⟩ ⟨by decide, by decide⟩ rfl (Nat.le_of_ble_eq_true rfl) d_R_fail_3 ?_
        rintro _ _ _ ⟨rfl, rfl, rfl⟩
        show AW X 3 0 0 ad ce 6 [(0, .ref (ad (3, 0, 0))), (1, .int (nI j)), (2, .int (nI p))] [.int (bI (decide (0 ≤ nI p ∧ nI p < nI (k_np (s_car S j)))))]
        refine aw_topi (v' := 1) ((bI_t ⟨nI_pos' (by omega), nI_lt (by omega) (by omega)⟩).symm) ?_
        show AW X 3 0 0 ad ce 6 [(0, .ref (ad (3, 0, 0))), (1, .int (nI j)), (2, .int (nI p))] [.int 1]
        refine aw_if_eq C (tgt := 31) d_R_fail_6 (by decide) (fun h6 => absurd h6 (by decide)) (fun h6 => ?_)
        refine aw_aload_n C d_R_fail_9 rfl (j := 0) rfl ?_
        refine aw_get C F_R r0 8 (by decide) tw_307 rfl d_R_fail_10 ?_
        refine aw_bipush C (v := 64) d_R_fail_13 (by decide) ?_
        refine aw_iload_n C d_R_fail_15 rfl (j := 1) rfl ?_
        refine aw_imul C d_R_fail_16 ?_
        refine aw_iload_n C d_R_fail_17 rfl (j := 2) rfl ?_
        refine aw_iadd C d_R_fail_18 ?_
        refine aw_topi (v' := nI (64 * j + p)) (k64 _ _) ?_
        refine ar_zald C r8 (j := (64 * j + p)) (rfl) (by omega) (by omega) d_R_fail_19 ?_
        refine aw_topi (v' := k_wo (s_car S j) p) ((hE2 j p hj hp0).2.2.1) ?_
        refine aw_if_ne C (tgt := 31) d_R_fail_20 (by decide) (fun h20 => absurd h20 (fun q => q hw)) (fun h20 => ?_)
        refine aw_aload_n C d_R_fail_23 rfl (j := 0) rfl ?_
        refine aw_iload_n C d_R_fail_24 rfl (j := 1) rfl ?_
        refine aw_callV C I (k := (3, 0, 0)) (as := [.int (nI j)]) (rest := []) (r_isGone l G ad ce (s_cn S) (s_pn S) (s_ln S) (s_on S) kd sr np st la gby gdu gwo grd un ps gpt gff gfc (s_li S) (s_lo S) hR j (by omega)) g_R_96 r0 rfl rfl ⟨by decide, by decide⟩ ⟨by decide, by decide⟩ rfl (Nat.le_of_ble_eq_true rfl) d_R_fail_25 ?_
        rintro _ _ _ ⟨rfl, rfl, rfl⟩
        show AW X 3 0 0 ad ce 28 [(0, .ref (ad (3, 0, 0))), (1, .int (nI j)), (2, .int (nI p))] [.int (bI (decide (st j = 5 ∨ st j = 6)))]
        refine aw_topi (v' := 0) ((bI_f (by rw [e_st]; exact hg)).symm) ?_
        show AW X 3 0 0 ad ce 28 [(0, .ref (ad (3, 0, 0))), (1, .int (nI j)), (2, .int (nI p))] [.int 0]
        refine aw_if_eq C (tgt := 33) d_R_fail_28 (by decide) (fun h28 => ?_) (fun h28 => absurd (rfl) h28)
        refine aw_aload_n C d_R_fail_33 rfl (j := 0) rfl ?_
        refine aw_get C F_R r0 8 (by decide) tw_307 rfl d_R_fail_34 ?_
        refine aw_bipush C (v := 64) d_R_fail_37 (by decide) ?_
        refine aw_iload_n C d_R_fail_39 rfl (j := 1) rfl ?_
        refine aw_imul C d_R_fail_40 ?_
        refine aw_iload_n C d_R_fail_41 rfl (j := 2) rfl ?_
        refine aw_iadd C d_R_fail_42 ?_
        refine aw_topi (v' := nI (64 * j + p)) (k64 _ _) ?_
        refine aw_iconst C (v := 1) d_R_fail_43 (by decide) ?_
        refine ar_zast C (v := 1) r8 (j := (64 * j + p)) (rfl) (by omega) (by omega) rfl d_R_fail_44 ?_
        intro ce3 fw3 r8
        have r0 : ce3 (3, 0, 0) = some (.inr (3, [.int (nI (s_cn S)), .ref (ad (3, 0, 1)), .ref (ad (3, 0, 2)), .ref (ad (3, 0, 3)), .ref (ad (3, 0, 4)), .ref (ad (3, 0, 5)), .ref (ad (3, 0, 6)), .ref (ad (3, 0, 7)), .ref (ad (3, 0, 8)), .ref (ad (3, 0, 9)), .ref (ad (3, 0, 10)), .ref (ad (3, 0, 11)), .ref (ad (3, 0, 12)), .int (nI (s_pn S)), .ref (ad (3, 0, 14)), .ref (ad (3, 0, 15)), .int (nI (s_ln S)), .ref (ad (3, 0, 17)), .int (nI (s_on S)), .ref (ad (3, 0, 19))])) := (fw3 _ (by simp)).trans r0
        have r1 := r1.tr (fw3 _ (by simp))
        have r2 := r2.tr (fw3 _ (by simp))
        have r3 := r3.tr (fw3 _ (by simp))
        have r4 := r4.tr (fw3 _ (by simp))
        have r5 := r5.tr (fw3 _ (by simp))
        have r6 := r6.tr (fw3 _ (by simp))
        have r7 := r7.tr (fw3 _ (by simp))
        have r9 := r9.tr (fw3 _ (by simp))
        have r10 := r10.tr (fw3 _ (by simp))
        have r11 := r11.tr (fw3 _ (by simp))
        have r12 := r12.tr (fw3 _ (by simp))
        have r14 := r14.tr (fw3 _ (by simp))
        have r15 := r15.tr (fw3 _ (by simp))
        have r17 := r17.tr (fw3 _ (by simp))
        have r19 := r19.tr (fw3 _ (by simp))
        refine aw_iconst C (v := 1) d_R_fail_45 (by decide) ?_
        refine aw_iret C E (rfl) (by decide) (by decide) d_R_fail_46 ?_
        rw [show f_fail S (nI j) (nI p) = (1, s_set S j (k_sWo (s_car S j) (upd (k_wo (s_car S j)) p 1))) from by simp only [f_fail, ix_in hj (show s_cn S < 2 ^ 31 by omega), if_neg hg, ix_in hp0 (show k_np (s_car S j) < 2 ^ 31 by omega), if_pos hw]]
        have HWO : (∀ k, k < k_np (s_car S j) → upd gwo (64 * j + p) 1 (64 * j + k) = upd (k_wo (s_car S j)) p 1 k) ∧ ∀ q, (q < 64 * j ∨ 64 * j + 64 ≤ q) → upd gwo (64 * j + p) 1 q = gwo q := by
          refine ⟨fun k hk => ?_, fun q hq => updn (by omega)⟩
          by_cases e : k = p
          · subst e; simp [upd]
          · rw [updn (by omega), updn e]; exact (hE2 j k hj hk).2.2.1
        exact ⟨rfl, rfl, fr3 fw3, _, _, _, _, _, _, _, _, _, _, _, _, _, _, ⟨r0, r1, r2, r3, r4, r5, r6, r7, r8, r9, r10, r11, r12, r14, r15, r17, r19⟩, hE.set hW hj (k_sWo (s_car S j) (upd (k_wo (s_car S j)) p 1)) rfl rfl rfl (fun i _ => ifs e_st) (fun i _ => ifs e_la) (fun i _ => ifs e_un) (fun i _ => ifs e_ps) ⟨fun k hk => (hE2 j k hj hk).1, fun _ _ => rfl⟩ ⟨fun k hk => (hE2 j k hj hk).2.1, fun _ _ => rfl⟩ (HWO) ⟨fun k hk => (hE2 j k hj hk).2.2.2, fun _ _ => rfl⟩ ⟨fun k hk => hE4 j k hj hk, fun _ _ => rfl⟩, hW.set ⟨hn1, hn2⟩ hps⟩
    · skip
      show AW X 3 0 0 ad ce 0 [(0, .ref (ad (3, 0, 0))), (1, .int (nI j)), (2, .int (nI p))] []
      refine aw_aload_n C d_R_fail_0 rfl (j := 0) rfl ?_
      refine aw_iload_n C d_R_fail_1 rfl (j := 1) rfl ?_
      refine aw_iload_n C d_R_fail_2 rfl (j := 2) rfl ?_
      refine aw_callV C I (k := (3, 0, 0)) (as := [.int (nI j), .int (nI p)]) (rest := []) (r_isPlace l G ad ce (s_cn S) (s_pn S) (s_ln S) (s_on S) kd sr np st la gby gdu gwo grd un ps gpt gff gfc (s_li S) (s_lo S) hR j _ hj hb1 e_np (nI p)) g_R_92 r0 rfl rfl ⟨by decide, by decide⟩ ⟨by decide, by decide⟩ rfl (Nat.le_of_ble_eq_true rfl) d_R_fail_3 ?_
      rintro _ _ _ ⟨rfl, rfl, rfl⟩
      show AW X 3 0 0 ad ce 6 [(0, .ref (ad (3, 0, 0))), (1, .int (nI j)), (2, .int (nI p))] [.int (bI (decide (0 ≤ nI p ∧ nI p < nI (k_np (s_car S j)))))]
      refine aw_topi (v' := 1) ((bI_t ⟨nI_pos' (by omega), nI_lt (by omega) (by omega)⟩).symm) ?_
      show AW X 3 0 0 ad ce 6 [(0, .ref (ad (3, 0, 0))), (1, .int (nI j)), (2, .int (nI p))] [.int 1]
      refine aw_if_eq C (tgt := 31) d_R_fail_6 (by decide) (fun h6 => absurd h6 (by decide)) (fun h6 => ?_)
      refine aw_aload_n C d_R_fail_9 rfl (j := 0) rfl ?_
      refine aw_get C F_R r0 8 (by decide) tw_307 rfl d_R_fail_10 ?_
      refine aw_bipush C (v := 64) d_R_fail_13 (by decide) ?_
      refine aw_iload_n C d_R_fail_15 rfl (j := 1) rfl ?_
      refine aw_imul C d_R_fail_16 ?_
      refine aw_iload_n C d_R_fail_17 rfl (j := 2) rfl ?_
      refine aw_iadd C d_R_fail_18 ?_
      refine aw_topi (v' := nI (64 * j + p)) (k64 _ _) ?_
      refine ar_zald C r8 (j := (64 * j + p)) (rfl) (by omega) (by omega) d_R_fail_19 ?_
      refine aw_topi (v' := k_wo (s_car S j) p) ((hE2 j p hj hp0).2.2.1) ?_
      refine aw_if_ne C (tgt := 31) d_R_fail_20 (by decide) (fun h20 => ?_) (fun h20 => absurd h20 (hw))
      refine aw_iconst C (v := 0) d_R_fail_31 (by decide) ?_
      refine aw_iret C E (rfl) (by decide) (by decide) d_R_fail_32 ?_
      rw [show f_fail S (nI j) (nI p) = (0, S) from by simp only [f_fail, ix_in hj (show s_cn S < 2 ^ 31 by omega), ix_in hp0 (show k_np (s_car S j) < 2 ^ 31 by omega), if_neg hw, ite_self]]
      exact ⟨rfl, rfl, frR.rf, ⟨kd, sr, np, st, la, gby, gdu, gwo, grd, un, ps, gpt, gff, gfc, hR, hE, hW⟩⟩
set_option maxRecDepth 100000 in
set_option maxHeartbeats 4000000 in
theorem R_shred (l : Launch) (G : aw_G) (ad : aw_Ad) (ce : aw_He) (S : SysS) (hS : LayR S ad ce) (x m : Int32) : CT l G M_R_shred 1 25 0 0 [.ref (ad (3, 0, 0)), .int x, .int m] ad ce (rR (some (.int (f_shred S x m).1)) (f_shred S x m).2 ad ce) := by
  refine CT.of (by decide) (Nat.le_of_ble_eq_true rfl) ?_
  intro X C I E
  obtain ⟨kd, sr, np, st, la, gby, gdu, gwo, grd, un, ps, gpt, gff, gfc, hR, hE, hW⟩ := hS
  have hE0 := hE
  obtain ⟨hE1, hE2, hE3, hE4, hE5, hE6, hE7⟩ := hE0
  have hW0 := hW
  obtain ⟨⟨hb1, hb2, hb3, hb4⟩, hW2, hW3⟩ := hW0
  have hR0 := hR
  obtain ⟨r0, r1, r2, r3, r4, r5, r6, r7, r8, r9, r10, r11, r12, r14, r15, r17, r19⟩ := hR0
  rcases ix_cases x (n := s_cn S) (by omega) with hx | ⟨j, hj, rfl⟩
  · skip
    show AW X 3 0 0 ad ce 0 [(0, .ref (ad (3, 0, 0))), (1, .int x), (2, .int m)] []
    refine aw_aload_n C d_R_shred_0 rfl (j := 0) rfl ?_
    refine aw_iload_n C d_R_shred_1 rfl (j := 1) rfl ?_
    refine aw_callV C I (k := (3, 0, 0)) (as := [.int x]) (rest := []) (r_isCarrier l G ad ce (s_cn S) (s_pn S) (s_ln S) (s_on S) kd sr np st la gby gdu gwo grd un ps gpt gff gfc (s_li S) (s_lo S) hR x) g_R_64 r0 rfl rfl ⟨by decide, by decide⟩ ⟨by decide, by decide⟩ rfl (Nat.le_of_ble_eq_true rfl) d_R_shred_2 ?_
    rintro _ _ _ ⟨rfl, rfl, rfl⟩
    show AW X 3 0 0 ad ce 5 [(0, .ref (ad (3, 0, 0))), (1, .int x), (2, .int m)] [.int (bI (decide (0 ≤ x ∧ x < nI (s_cn S))))]
    refine aw_topi (v' := 0) ((bI_f (by (try simp only [Int32.le_iff_toInt_le, Int32.lt_iff_toInt_lt] at hx ⊢); omega)).symm) ?_
    show AW X 3 0 0 ad ce 5 [(0, .ref (ad (3, 0, 0))), (1, .int x), (2, .int m)] [.int 0]
    refine aw_if_eq C (tgt := 55) d_R_shred_5 (by decide) (fun h5 => ?_) (fun h5 => absurd (rfl) h5)
    refine aw_iconst C (v := 0) d_R_shred_55 (by decide) ?_
    refine aw_iret C E (rfl) (by decide) (by decide) d_R_shred_56 ?_
    rw [show f_shred S x m = (0, S) from by simp only [f_shred, ix_out hx]]
    exact ⟨rfl, rfl, frR.rf, ⟨kd, sr, np, st, la, gby, gdu, gwo, grd, un, ps, gpt, gff, gfc, hR, hE, hW⟩⟩
  · skip
    obtain ⟨e_kd, e_sr, e_np, e_st, e_la, e_un, e_ps⟩ := hE1 j (by omega)
    obtain ⟨⟨hn1, hn2⟩, hps⟩ := hW2 j hj
    by_cases h1 : 1 ≤ m ∧ m ≤ 100
    · skip
      show AW X 3 0 0 ad ce 0 [(0, .ref (ad (3, 0, 0))), (1, .int (nI j)), (2, .int m)] []
      refine aw_aload_n C d_R_shred_0 rfl (j := 0) rfl ?_
      refine aw_iload_n C d_R_shred_1 rfl (j := 1) rfl ?_
      refine aw_callV C I (k := (3, 0, 0)) (as := [.int (nI j)]) (rest := []) (r_isCarrier l G ad ce (s_cn S) (s_pn S) (s_ln S) (s_on S) kd sr np st la gby gdu gwo grd un ps gpt gff gfc (s_li S) (s_lo S) hR (nI j)) g_R_64 r0 rfl rfl ⟨by decide, by decide⟩ ⟨by decide, by decide⟩ rfl (Nat.le_of_ble_eq_true rfl) d_R_shred_2 ?_
      rintro _ _ _ ⟨rfl, rfl, rfl⟩
      show AW X 3 0 0 ad ce 5 [(0, .ref (ad (3, 0, 0))), (1, .int (nI j)), (2, .int m)] [.int (bI (decide (0 ≤ nI j ∧ nI j < nI (s_cn S))))]
      refine aw_topi (v' := 1) ((bI_t ⟨nI_pos' (by omega), nI_lt (by omega) (by omega)⟩).symm) ?_
      show AW X 3 0 0 ad ce 5 [(0, .ref (ad (3, 0, 0))), (1, .int (nI j)), (2, .int m)] [.int 1]
      refine aw_if_eq C (tgt := 55) d_R_shred_5 (by decide) (fun h5 => absurd h5 (by decide)) (fun h5 => ?_)
      refine aw_iload_n C d_R_shred_8 rfl (j := 2) rfl ?_
      refine aw_i2l C d_R_shred_9 ?_
      refine aw_lconst C (v := 1) d_R_shred_10 (by decide) ?_
      refine aw_ldc2 C tw_445 d_R_shred_11 ?_
      refine aw_callS C I (as := [.long (Int32.toInt64 m), .long 1, .long 100]) (rest := []) (r_isIn l G ad ce (Int32.toInt64 m) 1 100) g_R_70 ⟨by decide, by decide⟩ ⟨by decide, by decide⟩ rfl (Nat.le_of_ble_eq_true rfl) d_R_shred_14 ?_
      rintro _ _ _ ⟨rfl, rfl, rfl⟩
      show AW X 3 0 0 ad ce 17 [(0, .ref (ad (3, 0, 0))), (1, .int (nI j)), (2, .int m)] [.int (bI (decide (1 ≤ Int32.toInt64 m ∧ Int32.toInt64 m ≤ 100)))]
      refine aw_topi (v' := 1) ((bI_t ((in32 rfl rfl).mpr h1)).symm) ?_
      show AW X 3 0 0 ad ce 17 [(0, .ref (ad (3, 0, 0))), (1, .int (nI j)), (2, .int m)] [.int 1]
      refine aw_if_eq C (tgt := 55) d_R_shred_17 (by decide) (fun h17 => absurd h17 (by decide)) (fun h17 => ?_)
      refine aw_aload_n C d_R_shred_20 rfl (j := 0) rfl ?_
      refine aw_get C F_R r0 4 (by decide) tw_303 rfl d_R_shred_21 ?_
      refine aw_iload_n C d_R_shred_24 rfl (j := 1) rfl ?_
      refine ar_iald C r4 (j := j) (rfl) (by omega) (by omega) d_R_shred_25 ?_
      refine aw_topi (v' := k_st (s_car S j)) (e_st) ?_
      refine aw_iconst C (v := 3) d_R_shred_26 (by decide) ?_
      refine aw_icmp_eq C (tgt := 40) d_R_shred_27 (by decide) (fun h27 => ?_) (fun h27 => ?_)
      · refine aw_iload_n C d_R_shred_40 rfl (j := 2) rfl ?_
        refine aw_iconst C (v := 2) d_R_shred_41 (by decide) ?_
        refine aw_bipush C (v := 6) d_R_shred_42 (by decide) ?_
        refine aw_aload_n C d_R_shred_44 rfl (j := 0) rfl ?_
        refine aw_get C F_R r0 1 (by decide) tw_300 rfl d_R_shred_45 ?_
        refine aw_iload_n C d_R_shred_48 rfl (j := 1) rfl ?_
        refine ar_iald C r1 (j := j) (rfl) (by omega) (by omega) d_R_shred_49 ?_
        refine aw_topi (v' := k_kd (s_car S j)) (e_kd) ?_
        refine aw_imul C d_R_shred_50 ?_
        refine aw_iadd C d_R_shred_51 ?_
        refine aw_icmp_le C (tgt := 57) d_R_shred_52 (by decide) (fun h52 => ?_) (fun h52 => ?_)
        · refine aw_aload_n C d_R_shred_57 rfl (j := 0) rfl ?_
          refine aw_get C F_R r0 4 (by decide) tw_303 rfl d_R_shred_58 ?_
          refine aw_iload_n C d_R_shred_61 rfl (j := 1) rfl ?_
          refine aw_iconst C (v := 5) d_R_shred_62 (by decide) ?_
          refine ar_iast C r4 (j := j) (rfl) (by omega) (by omega) d_R_shred_63 ?_
          intro ce4 fw4 r4
          have r0 : ce4 (3, 0, 0) = some (.inr (3, [.int (nI (s_cn S)), .ref (ad (3, 0, 1)), .ref (ad (3, 0, 2)), .ref (ad (3, 0, 3)), .ref (ad (3, 0, 4)), .ref (ad (3, 0, 5)), .ref (ad (3, 0, 6)), .ref (ad (3, 0, 7)), .ref (ad (3, 0, 8)), .ref (ad (3, 0, 9)), .ref (ad (3, 0, 10)), .ref (ad (3, 0, 11)), .ref (ad (3, 0, 12)), .int (nI (s_pn S)), .ref (ad (3, 0, 14)), .ref (ad (3, 0, 15)), .int (nI (s_ln S)), .ref (ad (3, 0, 17)), .int (nI (s_on S)), .ref (ad (3, 0, 19))])) := (fw4 _ (by simp)).trans r0
          have r1 := r1.tr (fw4 _ (by simp))
          have r2 := r2.tr (fw4 _ (by simp))
          have r3 := r3.tr (fw4 _ (by simp))
          have r5 := r5.tr (fw4 _ (by simp))
          have r6 := r6.tr (fw4 _ (by simp))
          have r7 := r7.tr (fw4 _ (by simp))
          have r8 := r8.tr (fw4 _ (by simp))
          have r9 := r9.tr (fw4 _ (by simp))
          have r10 := r10.tr (fw4 _ (by simp))
          have r11 := r11.tr (fw4 _ (by simp))
          have r12 := r12.tr (fw4 _ (by simp))
          have r14 := r14.tr (fw4 _ (by simp))
          have r15 := r15.tr (fw4 _ (by simp))
          have r17 := r17.tr (fw4 _ (by simp))
          have r19 := r19.tr (fw4 _ (by simp))
          refine aw_iconst C (v := 1) d_R_shred_64 (by decide) ?_
          refine aw_iret C E (rfl) (by decide) (by decide) d_R_shred_65 ?_
          have hcn : (1 ≤ m ∧ m ≤ 100) ∧ (k_st (s_car S j) = 3 ∨ k_st (s_car S j) = 4) ∧ ¬ 2 + 6 * k_kd (s_car S j) < m := ⟨h1, by first | exact Or.inl h27 | exact Or.inr h37, fun q => absurd h52 (by (try simp only [Int32.le_iff_toInt_le, Int32.lt_iff_toInt_lt] at q ⊢); omega)⟩
          rw [show f_shred S (nI j) m = (1, s_set S j (k_sSt (s_car S j) 5)) from by simp only [f_shred, ix_in hj (show s_cn S < 2 ^ 31 by omega), if_pos hcn]]
          exact ⟨rfl, rfl, fr3 fw4, _, _, _, _, _, _, _, _, _, _, _, _, _, _, ⟨r0, r1, r2, r3, r4, r5, r6, r7, r8, r9, r10, r11, r12, r14, r15, r17, r19⟩, hE.set hW hj (k_sSt (s_car S j) 5) rfl rfl rfl (fun i _ => ifu rfl) (fun i _ => ifs e_la) (fun i _ => ifs e_un) (fun i _ => ifs e_ps) ⟨fun k hk => (hE2 j k hj hk).1, fun _ _ => rfl⟩ ⟨fun k hk => (hE2 j k hj hk).2.1, fun _ _ => rfl⟩ ⟨fun k hk => (hE2 j k hj hk).2.2.1, fun _ _ => rfl⟩ ⟨fun k hk => (hE2 j k hj hk).2.2.2, fun _ _ => rfl⟩ ⟨fun k hk => hE4 j k hj hk, fun _ _ => rfl⟩, hW.set ⟨hn1, hn2⟩ hps⟩
        · refine aw_iconst C (v := 0) d_R_shred_55 (by decide) ?_
          refine aw_iret C E (rfl) (by decide) (by decide) d_R_shred_56 ?_
          have hcn : ¬ ((1 ≤ m ∧ m ≤ 100) ∧ (k_st (s_car S j) = 3 ∨ k_st (s_car S j) = 4) ∧ ¬ 2 + 6 * k_kd (s_car S j) < m) := fun q => q.2.2 (by (try simp only [Int32.le_iff_toInt_le, Int32.lt_iff_toInt_lt] at h52 ⊢); omega)
          rw [show f_shred S (nI j) m = (0, S) from by simp only [f_shred, ix_in hj (show s_cn S < 2 ^ 31 by omega), if_neg hcn]]
          exact ⟨rfl, rfl, frR.rf, ⟨kd, sr, np, st, la, gby, gdu, gwo, grd, un, ps, gpt, gff, gfc, hR, hE, hW⟩⟩
      · refine aw_aload_n C d_R_shred_30 rfl (j := 0) rfl ?_
        refine aw_get C F_R r0 4 (by decide) tw_303 rfl d_R_shred_31 ?_
        refine aw_iload_n C d_R_shred_34 rfl (j := 1) rfl ?_
        refine ar_iald C r4 (j := j) (rfl) (by omega) (by omega) d_R_shred_35 ?_
        refine aw_topi (v' := k_st (s_car S j)) (e_st) ?_
        refine aw_iconst C (v := 4) d_R_shred_36 (by decide) ?_
        refine aw_icmp_ne C (tgt := 55) d_R_shred_37 (by decide) (fun h37 => ?_) (fun h37 => ?_)
        · refine aw_iconst C (v := 0) d_R_shred_55 (by decide) ?_
          refine aw_iret C E (rfl) (by decide) (by decide) d_R_shred_56 ?_
          have hcn : ¬ ((1 ≤ m ∧ m ≤ 100) ∧ (k_st (s_car S j) = 3 ∨ k_st (s_car S j) = 4) ∧ ¬ 2 + 6 * k_kd (s_car S j) < m) := fun q => q.2.1.elim h27 h37
          rw [show f_shred S (nI j) m = (0, S) from by simp only [f_shred, ix_in hj (show s_cn S < 2 ^ 31 by omega), if_neg hcn]]
          exact ⟨rfl, rfl, frR.rf, ⟨kd, sr, np, st, la, gby, gdu, gwo, grd, un, ps, gpt, gff, gfc, hR, hE, hW⟩⟩
        · refine aw_iload_n C d_R_shred_40 rfl (j := 2) rfl ?_
          refine aw_iconst C (v := 2) d_R_shred_41 (by decide) ?_
          refine aw_bipush C (v := 6) d_R_shred_42 (by decide) ?_
          refine aw_aload_n C d_R_shred_44 rfl (j := 0) rfl ?_
          refine aw_get C F_R r0 1 (by decide) tw_300 rfl d_R_shred_45 ?_
          refine aw_iload_n C d_R_shred_48 rfl (j := 1) rfl ?_
          refine ar_iald C r1 (j := j) (rfl) (by omega) (by omega) d_R_shred_49 ?_
          refine aw_topi (v' := k_kd (s_car S j)) (e_kd) ?_
          refine aw_imul C d_R_shred_50 ?_
          refine aw_iadd C d_R_shred_51 ?_
          refine aw_icmp_le C (tgt := 57) d_R_shred_52 (by decide) (fun h52 => ?_) (fun h52 => ?_)
          · refine aw_aload_n C d_R_shred_57 rfl (j := 0) rfl ?_
            refine aw_get C F_R r0 4 (by decide) tw_303 rfl d_R_shred_58 ?_
            refine aw_iload_n C d_R_shred_61 rfl (j := 1) rfl ?_
            refine aw_iconst C (v := 5) d_R_shred_62 (by decide) ?_
            refine ar_iast C r4 (j := j) (rfl) (by omega) (by omega) d_R_shred_63 ?_
            intro ce5 fw5 r4
            have r0 : ce5 (3, 0, 0) = some (.inr (3, [.int (nI (s_cn S)), .ref (ad (3, 0, 1)), .ref (ad (3, 0, 2)), .ref (ad (3, 0, 3)), .ref (ad (3, 0, 4)), .ref (ad (3, 0, 5)), .ref (ad (3, 0, 6)), .ref (ad (3, 0, 7)), .ref (ad (3, 0, 8)), .ref (ad (3, 0, 9)), .ref (ad (3, 0, 10)), .ref (ad (3, 0, 11)), .ref (ad (3, 0, 12)), .int (nI (s_pn S)), .ref (ad (3, 0, 14)), .ref (ad (3, 0, 15)), .int (nI (s_ln S)), .ref (ad (3, 0, 17)), .int (nI (s_on S)), .ref (ad (3, 0, 19))])) := (fw5 _ (by simp)).trans r0
            have r1 := r1.tr (fw5 _ (by simp))
            have r2 := r2.tr (fw5 _ (by simp))
            have r3 := r3.tr (fw5 _ (by simp))
            have r5 := r5.tr (fw5 _ (by simp))
            have r6 := r6.tr (fw5 _ (by simp))
            have r7 := r7.tr (fw5 _ (by simp))
            have r8 := r8.tr (fw5 _ (by simp))
            have r9 := r9.tr (fw5 _ (by simp))
            have r10 := r10.tr (fw5 _ (by simp))
            have r11 := r11.tr (fw5 _ (by simp))
            have r12 := r12.tr (fw5 _ (by simp))
            have r14 := r14.tr (fw5 _ (by simp))
            have r15 := r15.tr (fw5 _ (by simp))
            have r17 := r17.tr (fw5 _ (by simp))
            have r19 := r19.tr (fw5 _ (by simp))
            refine aw_iconst C (v := 1) d_R_shred_64 (by decide) ?_
            refine aw_iret C E (rfl) (by decide) (by decide) d_R_shred_65 ?_
            have hcn : (1 ≤ m ∧ m ≤ 100) ∧ (k_st (s_car S j) = 3 ∨ k_st (s_car S j) = 4) ∧ ¬ 2 + 6 * k_kd (s_car S j) < m := ⟨h1, by first | exact Or.inl h27 | exact Or.inr h37, fun q => absurd h52 (by (try simp only [Int32.le_iff_toInt_le, Int32.lt_iff_toInt_lt] at q ⊢); omega)⟩
            rw [show f_shred S (nI j) m = (1, s_set S j (k_sSt (s_car S j) 5)) from by simp only [f_shred, ix_in hj (show s_cn S < 2 ^ 31 by omega), if_pos hcn]]
            exact ⟨rfl, rfl, fr3 fw5, _, _, _, _, _, _, _, _, _, _, _, _, _, _, ⟨r0, r1, r2, r3, r4, r5, r6, r7, r8, r9, r10, r11, r12, r14, r15, r17, r19⟩, hE.set hW hj (k_sSt (s_car S j) 5) rfl rfl rfl (fun i _ => ifu rfl) (fun i _ => ifs e_la) (fun i _ => ifs e_un) (fun i _ => ifs e_ps) ⟨fun k hk => (hE2 j k hj hk).1, fun _ _ => rfl⟩ ⟨fun k hk => (hE2 j k hj hk).2.1, fun _ _ => rfl⟩ ⟨fun k hk => (hE2 j k hj hk).2.2.1, fun _ _ => rfl⟩ ⟨fun k hk => (hE2 j k hj hk).2.2.2, fun _ _ => rfl⟩ ⟨fun k hk => hE4 j k hj hk, fun _ _ => rfl⟩, hW.set ⟨hn1, hn2⟩ hps⟩
          · refine aw_iconst C (v := 0) d_R_shred_55 (by decide) ?_
            refine aw_iret C E (rfl) (by decide) (by decide) d_R_shred_56 ?_
            have hcn : ¬ ((1 ≤ m ∧ m ≤ 100) ∧ (k_st (s_car S j) = 3 ∨ k_st (s_car S j) = 4) ∧ ¬ 2 + 6 * k_kd (s_car S j) < m) := fun q => q.2.2 (by (try simp only [Int32.le_iff_toInt_le, Int32.lt_iff_toInt_lt] at h52 ⊢); omega)
            rw [show f_shred S (nI j) m = (0, S) from by simp only [f_shred, ix_in hj (show s_cn S < 2 ^ 31 by omega), if_neg hcn]]
            exact ⟨rfl, rfl, frR.rf, ⟨kd, sr, np, st, la, gby, gdu, gwo, grd, un, ps, gpt, gff, gfc, hR, hE, hW⟩⟩
    · skip
      show AW X 3 0 0 ad ce 0 [(0, .ref (ad (3, 0, 0))), (1, .int (nI j)), (2, .int m)] []
      refine aw_aload_n C d_R_shred_0 rfl (j := 0) rfl ?_
      refine aw_iload_n C d_R_shred_1 rfl (j := 1) rfl ?_
      refine aw_callV C I (k := (3, 0, 0)) (as := [.int (nI j)]) (rest := []) (r_isCarrier l G ad ce (s_cn S) (s_pn S) (s_ln S) (s_on S) kd sr np st la gby gdu gwo grd un ps gpt gff gfc (s_li S) (s_lo S) hR (nI j)) g_R_64 r0 rfl rfl ⟨by decide, by decide⟩ ⟨by decide, by decide⟩ rfl (Nat.le_of_ble_eq_true rfl) d_R_shred_2 ?_
      rintro _ _ _ ⟨rfl, rfl, rfl⟩
      show AW X 3 0 0 ad ce 5 [(0, .ref (ad (3, 0, 0))), (1, .int (nI j)), (2, .int m)] [.int (bI (decide (0 ≤ nI j ∧ nI j < nI (s_cn S))))]
      refine aw_topi (v' := 1) ((bI_t ⟨nI_pos' (by omega), nI_lt (by omega) (by omega)⟩).symm) ?_
      show AW X 3 0 0 ad ce 5 [(0, .ref (ad (3, 0, 0))), (1, .int (nI j)), (2, .int m)] [.int 1]
      refine aw_if_eq C (tgt := 55) d_R_shred_5 (by decide) (fun h5 => absurd h5 (by decide)) (fun h5 => ?_)
      refine aw_iload_n C d_R_shred_8 rfl (j := 2) rfl ?_
      refine aw_i2l C d_R_shred_9 ?_
      refine aw_lconst C (v := 1) d_R_shred_10 (by decide) ?_
      refine aw_ldc2 C tw_445 d_R_shred_11 ?_
      refine aw_callS C I (as := [.long (Int32.toInt64 m), .long 1, .long 100]) (rest := []) (r_isIn l G ad ce (Int32.toInt64 m) 1 100) g_R_70 ⟨by decide, by decide⟩ ⟨by decide, by decide⟩ rfl (Nat.le_of_ble_eq_true rfl) d_R_shred_14 ?_
      rintro _ _ _ ⟨rfl, rfl, rfl⟩
      show AW X 3 0 0 ad ce 17 [(0, .ref (ad (3, 0, 0))), (1, .int (nI j)), (2, .int m)] [.int (bI (decide (1 ≤ Int32.toInt64 m ∧ Int32.toInt64 m ≤ 100)))]
      refine aw_topi (v' := 0) ((bI_f (fun q => h1 ((in32 rfl rfl).mp q))).symm) ?_
      show AW X 3 0 0 ad ce 17 [(0, .ref (ad (3, 0, 0))), (1, .int (nI j)), (2, .int m)] [.int 0]
      refine aw_if_eq C (tgt := 55) d_R_shred_17 (by decide) (fun h17 => ?_) (fun h17 => absurd (rfl) h17)
      refine aw_iconst C (v := 0) d_R_shred_55 (by decide) ?_
      refine aw_iret C E (rfl) (by decide) (by decide) d_R_shred_56 ?_
      have hcn : ¬ ((1 ≤ m ∧ m ≤ 100) ∧ (k_st (s_car S j) = 3 ∨ k_st (s_car S j) = 4) ∧ ¬ 2 + 6 * k_kd (s_car S j) < m) := fun q => h1 q.1
      rw [show f_shred S (nI j) m = (0, S) from by simp only [f_shred, ix_in hj (show s_cn S < 2 ^ 31 by omega), if_neg hcn]]
      exact ⟨rfl, rfl, frR.rf, ⟨kd, sr, np, st, la, gby, gdu, gwo, grd, un, ps, gpt, gff, gfc, hR, hE, hW⟩⟩
set_option maxRecDepth 100000 in
set_option maxHeartbeats 4000000 in
theorem R_lost (l : Launch) (G : aw_G) (ad : aw_Ad) (ce : aw_He) (S : SysS) (hS : LayR S ad ce) (hO : ∀ j, j < s_cn S → ¬ (k_st (s_car S j) = 5 ∨ k_st (s_car S j) = 6) → s_on S < 10) (x : Int32) : CT l G M_R_lost 1 21 0 0 [.ref (ad (3, 0, 0)), .int x] ad ce (rR (some (.int (f_lost S x).1)) (f_lost S x).2 ad ce) := by
  refine CT.of (by decide) (Nat.le_of_ble_eq_true rfl) ?_
  intro X C I E
  obtain ⟨kd, sr, np, st, la, gby, gdu, gwo, grd, un, ps, gpt, gff, gfc, hR, hE, hW⟩ := hS
  have hE0 := hE
  obtain ⟨hE1, hE2, hE3, hE4, hE5, hE6, hE7⟩ := hE0
  have hW0 := hW
  obtain ⟨⟨hb1, hb2, hb3, hb4⟩, hW2, hW3⟩ := hW0
  have hR0 := hR
  obtain ⟨r0, r1, r2, r3, r4, r5, r6, r7, r8, r9, r10, r11, r12, r14, r15, r17, r19⟩ := hR0
  rcases ix_cases x (n := s_cn S) (by omega) with hx | ⟨j, hj, rfl⟩
  · skip
    show AW X 2 0 0 ad ce 0 [(0, .ref (ad (3, 0, 0))), (1, .int x)] []
    refine aw_aload_n C d_R_lost_0 rfl (j := 0) rfl ?_
    refine aw_iload_n C d_R_lost_1 rfl (j := 1) rfl ?_
    refine aw_callV C I (k := (3, 0, 0)) (as := [.int x]) (rest := []) (r_isCarrier l G ad ce (s_cn S) (s_pn S) (s_ln S) (s_on S) kd sr np st la gby gdu gwo grd un ps gpt gff gfc (s_li S) (s_lo S) hR x) g_R_64 r0 rfl rfl ⟨by decide, by decide⟩ ⟨by decide, by decide⟩ rfl (Nat.le_of_ble_eq_true rfl) d_R_lost_2 ?_
    rintro _ _ _ ⟨rfl, rfl, rfl⟩
    show AW X 2 0 0 ad ce 5 [(0, .ref (ad (3, 0, 0))), (1, .int x)] [.int (bI (decide (0 ≤ x ∧ x < nI (s_cn S))))]
    refine aw_topi (v' := 0) ((bI_f (by (try simp only [Int32.le_iff_toInt_le, Int32.lt_iff_toInt_lt] at hx ⊢); omega)).symm) ?_
    show AW X 2 0 0 ad ce 5 [(0, .ref (ad (3, 0, 0))), (1, .int x)] [.int 0]
    refine aw_if_eq C (tgt := 16) d_R_lost_5 (by decide) (fun h5 => ?_) (fun h5 => absurd (rfl) h5)
    refine aw_iconst C (v := (-1)) d_R_lost_16 (by decide) ?_
    refine aw_iret C E (rfl) (by decide) (by decide) d_R_lost_17 ?_
    rw [show f_lost S x = (-1, S) from by simp only [f_lost, ix_out hx]]
    exact ⟨rfl, rfl, frR.rf, ⟨kd, sr, np, st, la, gby, gdu, gwo, grd, un, ps, gpt, gff, gfc, hR, hE, hW⟩⟩
  · skip
    obtain ⟨e_kd, e_sr, e_np, e_st, e_la, e_un, e_ps⟩ := hE1 j (by omega)
    obtain ⟨⟨hn1, hn2⟩, hps⟩ := hW2 j hj
    by_cases hg : k_st (s_car S j) = 5 ∨ k_st (s_car S j) = 6
    · skip
      show AW X 2 0 0 ad ce 0 [(0, .ref (ad (3, 0, 0))), (1, .int (nI j))] []
      refine aw_aload_n C d_R_lost_0 rfl (j := 0) rfl ?_
      refine aw_iload_n C d_R_lost_1 rfl (j := 1) rfl ?_
      refine aw_callV C I (k := (3, 0, 0)) (as := [.int (nI j)]) (rest := []) (r_isCarrier l G ad ce (s_cn S) (s_pn S) (s_ln S) (s_on S) kd sr np st la gby gdu gwo grd un ps gpt gff gfc (s_li S) (s_lo S) hR (nI j)) g_R_64 r0 rfl rfl ⟨by decide, by decide⟩ ⟨by decide, by decide⟩ rfl (Nat.le_of_ble_eq_true rfl) d_R_lost_2 ?_
      rintro _ _ _ ⟨rfl, rfl, rfl⟩
      show AW X 2 0 0 ad ce 5 [(0, .ref (ad (3, 0, 0))), (1, .int (nI j))] [.int (bI (decide (0 ≤ nI j ∧ nI j < nI (s_cn S))))]
      refine aw_topi (v' := 1) ((bI_t ⟨nI_pos' (by omega), nI_lt (by omega) (by omega)⟩).symm) ?_
      show AW X 2 0 0 ad ce 5 [(0, .ref (ad (3, 0, 0))), (1, .int (nI j))] [.int 1]
      refine aw_if_eq C (tgt := 16) d_R_lost_5 (by decide) (fun h5 => absurd h5 (by decide)) (fun h5 => ?_)
      refine aw_aload_n C d_R_lost_8 rfl (j := 0) rfl ?_
      refine aw_iload_n C d_R_lost_9 rfl (j := 1) rfl ?_
      refine aw_callV C I (k := (3, 0, 0)) (as := [.int (nI j)]) (rest := []) (r_isGone l G ad ce (s_cn S) (s_pn S) (s_ln S) (s_on S) kd sr np st la gby gdu gwo grd un ps gpt gff gfc (s_li S) (s_lo S) hR j (by omega)) g_R_96 r0 rfl rfl ⟨by decide, by decide⟩ ⟨by decide, by decide⟩ rfl (Nat.le_of_ble_eq_true rfl) d_R_lost_10 ?_
      rintro _ _ _ ⟨rfl, rfl, rfl⟩
      show AW X 2 0 0 ad ce 13 [(0, .ref (ad (3, 0, 0))), (1, .int (nI j))] [.int (bI (decide (st j = 5 ∨ st j = 6)))]
      refine aw_topi (v' := 1) ((bI_t (by rw [e_st]; exact hg)).symm) ?_
      show AW X 2 0 0 ad ce 13 [(0, .ref (ad (3, 0, 0))), (1, .int (nI j))] [.int 1]
      refine aw_if_eq C (tgt := 18) d_R_lost_13 (by decide) (fun h13 => absurd h13 (by decide)) (fun h13 => ?_)
      refine aw_iconst C (v := (-1)) d_R_lost_16 (by decide) ?_
      refine aw_iret C E (rfl) (by decide) (by decide) d_R_lost_17 ?_
      rw [show f_lost S (nI j) = (-1, S) from by simp only [f_lost, ix_in hj (show s_cn S < 2 ^ 31 by omega), if_pos hg]]
      exact ⟨rfl, rfl, frR.rf, ⟨kd, sr, np, st, la, gby, gdu, gwo, grd, un, ps, gpt, gff, gfc, hR, hE, hW⟩⟩
    · have hon := hO j hj hg
      show AW X 2 0 0 ad ce 0 [(0, .ref (ad (3, 0, 0))), (1, .int (nI j))] []
      refine aw_aload_n C d_R_lost_0 rfl (j := 0) rfl ?_
      refine aw_iload_n C d_R_lost_1 rfl (j := 1) rfl ?_
      refine aw_callV C I (k := (3, 0, 0)) (as := [.int (nI j)]) (rest := []) (r_isCarrier l G ad ce (s_cn S) (s_pn S) (s_ln S) (s_on S) kd sr np st la gby gdu gwo grd un ps gpt gff gfc (s_li S) (s_lo S) hR (nI j)) g_R_64 r0 rfl rfl ⟨by decide, by decide⟩ ⟨by decide, by decide⟩ rfl (Nat.le_of_ble_eq_true rfl) d_R_lost_2 ?_
      rintro _ _ _ ⟨rfl, rfl, rfl⟩
      show AW X 2 0 0 ad ce 5 [(0, .ref (ad (3, 0, 0))), (1, .int (nI j))] [.int (bI (decide (0 ≤ nI j ∧ nI j < nI (s_cn S))))]
      refine aw_topi (v' := 1) ((bI_t ⟨nI_pos' (by omega), nI_lt (by omega) (by omega)⟩).symm) ?_
      show AW X 2 0 0 ad ce 5 [(0, .ref (ad (3, 0, 0))), (1, .int (nI j))] [.int 1]
      refine aw_if_eq C (tgt := 16) d_R_lost_5 (by decide) (fun h5 => absurd h5 (by decide)) (fun h5 => ?_)
      refine aw_aload_n C d_R_lost_8 rfl (j := 0) rfl ?_
      refine aw_iload_n C d_R_lost_9 rfl (j := 1) rfl ?_
      refine aw_callV C I (k := (3, 0, 0)) (as := [.int (nI j)]) (rest := []) (r_isGone l G ad ce (s_cn S) (s_pn S) (s_ln S) (s_on S) kd sr np st la gby gdu gwo grd un ps gpt gff gfc (s_li S) (s_lo S) hR j (by omega)) g_R_96 r0 rfl rfl ⟨by decide, by decide⟩ ⟨by decide, by decide⟩ rfl (Nat.le_of_ble_eq_true rfl) d_R_lost_10 ?_
      rintro _ _ _ ⟨rfl, rfl, rfl⟩
      show AW X 2 0 0 ad ce 13 [(0, .ref (ad (3, 0, 0))), (1, .int (nI j))] [.int (bI (decide (st j = 5 ∨ st j = 6)))]
      refine aw_topi (v' := 0) ((bI_f (by rw [e_st]; exact hg)).symm) ?_
      show AW X 2 0 0 ad ce 13 [(0, .ref (ad (3, 0, 0))), (1, .int (nI j))] [.int 0]
      refine aw_if_eq C (tgt := 18) d_R_lost_13 (by decide) (fun h13 => ?_) (fun h13 => absurd (rfl) h13)
      refine aw_aload_n C d_R_lost_18 rfl (j := 0) rfl ?_
      refine aw_get C F_R r0 4 (by decide) tw_303 rfl d_R_lost_19 ?_
      refine aw_iload_n C d_R_lost_22 rfl (j := 1) rfl ?_
      refine aw_bipush C (v := 6) d_R_lost_23 (by decide) ?_
      refine ar_iast C r4 (j := j) (rfl) (by omega) (by omega) d_R_lost_25 ?_
      intro ce6 fw6 r4
      have r0 : ce6 (3, 0, 0) = some (.inr (3, [.int (nI (s_cn S)), .ref (ad (3, 0, 1)), .ref (ad (3, 0, 2)), .ref (ad (3, 0, 3)), .ref (ad (3, 0, 4)), .ref (ad (3, 0, 5)), .ref (ad (3, 0, 6)), .ref (ad (3, 0, 7)), .ref (ad (3, 0, 8)), .ref (ad (3, 0, 9)), .ref (ad (3, 0, 10)), .ref (ad (3, 0, 11)), .ref (ad (3, 0, 12)), .int (nI (s_pn S)), .ref (ad (3, 0, 14)), .ref (ad (3, 0, 15)), .int (nI (s_ln S)), .ref (ad (3, 0, 17)), .int (nI (s_on S)), .ref (ad (3, 0, 19))])) := (fw6 _ (by simp)).trans r0
      have r1 := r1.tr (fw6 _ (by simp))
      have r2 := r2.tr (fw6 _ (by simp))
      have r3 := r3.tr (fw6 _ (by simp))
      have r5 := r5.tr (fw6 _ (by simp))
      have r6 := r6.tr (fw6 _ (by simp))
      have r7 := r7.tr (fw6 _ (by simp))
      have r8 := r8.tr (fw6 _ (by simp))
      have r9 := r9.tr (fw6 _ (by simp))
      have r10 := r10.tr (fw6 _ (by simp))
      have r11 := r11.tr (fw6 _ (by simp))
      have r12 := r12.tr (fw6 _ (by simp))
      have r14 := r14.tr (fw6 _ (by simp))
      have r15 := r15.tr (fw6 _ (by simp))
      have r17 := r17.tr (fw6 _ (by simp))
      have r19 := r19.tr (fw6 _ (by simp))
      refine aw_aload_n C d_R_lost_26 rfl (j := 0) rfl ?_
      refine aw_get C F_R r0 19 (by decide) tw_318 rfl d_R_lost_27 ?_
      refine aw_aload_n C d_R_lost_30 rfl (j := 0) rfl ?_
      refine aw_get C F_R r0 18 (by decide) tw_317 rfl d_R_lost_31 ?_
      refine aw_iload_n C d_R_lost_34 rfl (j := 1) rfl ?_
      refine ar_iast C r19 (j := (s_on S)) (rfl) (by omega) (by omega) d_R_lost_35 ?_
      intro ce7 fw7 r19
      have r0 : ce7 (3, 0, 0) = some (.inr (3, [.int (nI (s_cn S)), .ref (ad (3, 0, 1)), .ref (ad (3, 0, 2)), .ref (ad (3, 0, 3)), .ref (ad (3, 0, 4)), .ref (ad (3, 0, 5)), .ref (ad (3, 0, 6)), .ref (ad (3, 0, 7)), .ref (ad (3, 0, 8)), .ref (ad (3, 0, 9)), .ref (ad (3, 0, 10)), .ref (ad (3, 0, 11)), .ref (ad (3, 0, 12)), .int (nI (s_pn S)), .ref (ad (3, 0, 14)), .ref (ad (3, 0, 15)), .int (nI (s_ln S)), .ref (ad (3, 0, 17)), .int (nI (s_on S)), .ref (ad (3, 0, 19))])) := (fw7 _ (by simp)).trans r0
      have r1 := r1.tr (fw7 _ (by simp))
      have r2 := r2.tr (fw7 _ (by simp))
      have r3 := r3.tr (fw7 _ (by simp))
      have r4 := r4.tr (fw7 _ (by simp))
      have r5 := r5.tr (fw7 _ (by simp))
      have r6 := r6.tr (fw7 _ (by simp))
      have r7 := r7.tr (fw7 _ (by simp))
      have r8 := r8.tr (fw7 _ (by simp))
      have r9 := r9.tr (fw7 _ (by simp))
      have r10 := r10.tr (fw7 _ (by simp))
      have r11 := r11.tr (fw7 _ (by simp))
      have r12 := r12.tr (fw7 _ (by simp))
      have r14 := r14.tr (fw7 _ (by simp))
      have r15 := r15.tr (fw7 _ (by simp))
      have r17 := r17.tr (fw7 _ (by simp))
      refine aw_aload_n C d_R_lost_36 rfl (j := 0) rfl ?_
      refine aw_dup C d_R_lost_37 rfl ?_
      refine aw_get C F_R r0 18 (by decide) tw_317 rfl d_R_lost_38 ?_
      refine aw_iconst C (v := 1) d_R_lost_41 (by decide) ?_
      refine aw_iadd C d_R_lost_42 ?_
      refine aw_topi (v' := nI (s_on S + 1)) (nI_1 _) ?_
      refine ob_put C F_R r0 18 (by decide) tw_317 rfl rfl rfl (Nat.le_of_ble_eq_true rfl) (fs' := [.int (nI (s_cn S)), .ref (ad (3, 0, 1)), .ref (ad (3, 0, 2)), .ref (ad (3, 0, 3)), .ref (ad (3, 0, 4)), .ref (ad (3, 0, 5)), .ref (ad (3, 0, 6)), .ref (ad (3, 0, 7)), .ref (ad (3, 0, 8)), .ref (ad (3, 0, 9)), .ref (ad (3, 0, 10)), .ref (ad (3, 0, 11)), .ref (ad (3, 0, 12)), .int (nI (s_pn S)), .ref (ad (3, 0, 14)), .ref (ad (3, 0, 15)), .int (nI (s_ln S)), .ref (ad (3, 0, 17)), .int (nI (s_on S + 1)), .ref (ad (3, 0, 19))]) rfl d_R_lost_43 ?_
      intro ce8 fw8 r0
      have r1 := r1.tr (fw8 _ (by simp))
      have r2 := r2.tr (fw8 _ (by simp))
      have r3 := r3.tr (fw8 _ (by simp))
      have r4 := r4.tr (fw8 _ (by simp))
      have r5 := r5.tr (fw8 _ (by simp))
      have r6 := r6.tr (fw8 _ (by simp))
      have r7 := r7.tr (fw8 _ (by simp))
      have r8 := r8.tr (fw8 _ (by simp))
      have r9 := r9.tr (fw8 _ (by simp))
      have r10 := r10.tr (fw8 _ (by simp))
      have r11 := r11.tr (fw8 _ (by simp))
      have r12 := r12.tr (fw8 _ (by simp))
      have r14 := r14.tr (fw8 _ (by simp))
      have r15 := r15.tr (fw8 _ (by simp))
      have r17 := r17.tr (fw8 _ (by simp))
      have r19 := r19.tr (fw8 _ (by simp))
      refine aw_aload_n C d_R_lost_46 rfl (j := 0) rfl ?_
      refine aw_get C F_R r0 18 (by decide) tw_317 rfl d_R_lost_47 ?_
      refine aw_iret C E (rfl) (by decide) (by decide) d_R_lost_50 ?_
      rw [show f_lost S (nI j) = (nI (s_on S + 1), s_lost S j) from by simp only [f_lost, ix_in hj (show s_cn S < 2 ^ 31 by omega), if_neg hg]]
      have hrel := hE.set hW hj (k_sSt (s_car S j) 6) rfl rfl rfl (fun i _ => ifu (f := st) (w := 6) rfl) (fun i _ => ifs e_la) (fun i _ => ifs e_un) (fun i _ => ifs e_ps) ⟨fun k hk => (hE2 j k hj hk).1, fun _ _ => rfl⟩ ⟨fun k hk => (hE2 j k hj hk).2.1, fun _ _ => rfl⟩ ⟨fun k hk => (hE2 j k hj hk).2.2.1, fun _ _ => rfl⟩ ⟨fun k hk => (hE2 j k hj hk).2.2.2, fun _ _ => rfl⟩ ⟨fun k hk => hE4 j k hj hk, fun _ _ => rfl⟩
      have hwf := (hW.set (j := j) (c := k_sSt (s_car S j) 6) ⟨hn1, hn2⟩ hps)
      exact ⟨rfl, rfl, ((fr3 fw6).trans (fr3 fw7)).trans (fr3 fw8), _, _, _, _, _, _, _, _, _, _, _, _, _, _, ⟨r0, r1, r2, r3, r4, r5, r6, r7, r8, r9, r10, r11, r12, r14, r15, r17, r19⟩, hrel, ⟨⟨hb1, hb2, hb3, by show s_on S + 1 ≤ 10; omega⟩, hwf.2.1, hwf.2.2⟩⟩
set_option maxRecDepth 100000 in
set_option maxHeartbeats 4000000 in
theorem R_listed (l : Launch) (G : aw_G) (ad : aw_Ad) (ce : aw_He) (S : SysS) (hS : LayR S ad ce) (x : Int64) : CT l G M_R_listed 1 25 0 0 [.ref (ad (3, 0, 0)), .long x] ad ce (rR (some (.int (f_listed S x).1)) (f_listed S x).2 ad ce) := by
  refine CT.of (by decide) (Nat.le_of_ble_eq_true rfl) ?_
  intro X C I E
  obtain ⟨kd, sr, np, st, la, gby, gdu, gwo, grd, un, ps, gpt, gff, gfc, hR, hE, hW⟩ := hS
  have hE0 := hE
  obtain ⟨hE1, hE2, hE3, hE4, hE5, hE6, hE7⟩ := hE0
  have hW0 := hW
  obtain ⟨⟨hb1, hb2, hb3, hb4⟩, hW2, hW3⟩ := hW0
  have hR0 := hR
  obtain ⟨r0, r1, r2, r3, r4, r5, r6, r7, r8, r9, r10, r11, r12, r14, r15, r17, r19⟩ := hR0
  by_cases hc : (0 ≤ x ∧ x ≤ 1000000000000) ∧ hasL S x = false ∧ s_ln S < 20
  · have hln := hc.2.2
    show AW X 3 0 0 ad ce 0 [(0, .ref (ad (3, 0, 0))), (1, .long x)] []
    refine aw_aload_n C d_R_listed_0 rfl (j := 0) rfl ?_
    refine aw_get C F_R r0 16 (by decide) tw_315 rfl d_R_listed_1 ?_
    refine aw_bipush C (v := 20) d_R_listed_4 (by decide) ?_
    refine aw_icmp_eq C (tgt := 28) d_R_listed_6 (by decide) (fun h6 => absurd h6 (fun q => absurd ((nI_eq (b := 20) (by omega) (by omega)).mp q) (by omega))) (fun h6 => ?_)
    refine aw_lload_n C d_R_listed_9 rfl (j := 1) rfl ?_
    refine aw_lconst C (v := 0) d_R_listed_10 (by decide) ?_
    refine aw_ldc2 C tw_368 d_R_listed_11 ?_
    refine aw_callS C I (as := [.long x, .long 0, .long 1000000000000]) (rest := []) (r_isIn l G ad ce x 0 1000000000000) g_R_70 ⟨by decide, by decide⟩ ⟨by decide, by decide⟩ rfl (Nat.le_of_ble_eq_true rfl) d_R_listed_14 ?_
    rintro _ _ _ ⟨rfl, rfl, rfl⟩
    show AW X 3 0 0 ad ce 17 [(0, .ref (ad (3, 0, 0))), (1, .long x)] [.int (bI (decide (0 ≤ x ∧ x ≤ 1000000000000)))]
    refine aw_topi (v' := 1) ((bI_t hc.1).symm) ?_
    show AW X 3 0 0 ad ce 17 [(0, .ref (ad (3, 0, 0))), (1, .long x)] [.int 1]
    refine aw_if_eq C (tgt := 28) d_R_listed_17 (by decide) (fun h17 => absurd h17 (by decide)) (fun h17 => ?_)
    refine aw_aload_n C d_R_listed_20 rfl (j := 0) rfl ?_
    refine aw_lload_n C d_R_listed_21 rfl (j := 1) rfl ?_
    refine aw_callV C I (k := (3, 0, 0)) (as := [.long x]) (rest := []) (r_isListed l G ad ce (s_cn S) (s_pn S) (s_ln S) (s_on S) kd sr np st la gby gdu gwo grd un ps gpt gff gfc (s_li S) (s_lo S) hR hb3 x) g_R_134 r0 rfl rfl ⟨by decide, by decide⟩ ⟨by decide, by decide⟩ rfl (Nat.le_of_ble_eq_true rfl) d_R_listed_22 ?_
    rintro _ _ _ ⟨rfl, rfl, rfl⟩
    show AW X 3 0 0 ad ce 25 [(0, .ref (ad (3, 0, 0))), (1, .long x)] [.int (bI (anyF (s_li S) x (s_ln S) 0))]
    refine aw_topi (v' := 0) (by have := hc.2.1; unfold hasL at this; rw [this]; rfl) ?_
    show AW X 3 0 0 ad ce 25 [(0, .ref (ad (3, 0, 0))), (1, .long x)] [.int 0]
    refine aw_if_eq C (tgt := 30) d_R_listed_25 (by decide) (fun h25 => ?_) (fun h25 => absurd (rfl) h25)
    refine aw_aload_n C d_R_listed_30 rfl (j := 0) rfl ?_
    refine aw_get C F_R r0 17 (by decide) tw_316 rfl d_R_listed_31 ?_
    refine aw_aload_n C d_R_listed_34 rfl (j := 0) rfl ?_
    refine aw_get C F_R r0 16 (by decide) tw_315 rfl d_R_listed_35 ?_
    refine aw_lload_n C d_R_listed_38 rfl (j := 1) rfl ?_
    refine ar_last C r17 (j := (s_ln S)) (rfl) (by omega) (by omega) d_R_listed_39 ?_
    intro ce9 fw9 r17
    have r0 : ce9 (3, 0, 0) = some (.inr (3, [.int (nI (s_cn S)), .ref (ad (3, 0, 1)), .ref (ad (3, 0, 2)), .ref (ad (3, 0, 3)), .ref (ad (3, 0, 4)), .ref (ad (3, 0, 5)), .ref (ad (3, 0, 6)), .ref (ad (3, 0, 7)), .ref (ad (3, 0, 8)), .ref (ad (3, 0, 9)), .ref (ad (3, 0, 10)), .ref (ad (3, 0, 11)), .ref (ad (3, 0, 12)), .int (nI (s_pn S)), .ref (ad (3, 0, 14)), .ref (ad (3, 0, 15)), .int (nI (s_ln S)), .ref (ad (3, 0, 17)), .int (nI (s_on S)), .ref (ad (3, 0, 19))])) := (fw9 _ (by simp)).trans r0
    have r1 := r1.tr (fw9 _ (by simp))
    have r2 := r2.tr (fw9 _ (by simp))
    have r3 := r3.tr (fw9 _ (by simp))
    have r4 := r4.tr (fw9 _ (by simp))
    have r5 := r5.tr (fw9 _ (by simp))
    have r6 := r6.tr (fw9 _ (by simp))
    have r7 := r7.tr (fw9 _ (by simp))
    have r8 := r8.tr (fw9 _ (by simp))
    have r9 := r9.tr (fw9 _ (by simp))
    have r10 := r10.tr (fw9 _ (by simp))
    have r11 := r11.tr (fw9 _ (by simp))
    have r12 := r12.tr (fw9 _ (by simp))
    have r14 := r14.tr (fw9 _ (by simp))
    have r15 := r15.tr (fw9 _ (by simp))
    have r19 := r19.tr (fw9 _ (by simp))
    refine aw_aload_n C d_R_listed_40 rfl (j := 0) rfl ?_
    refine aw_dup C d_R_listed_41 rfl ?_
    refine aw_get C F_R r0 16 (by decide) tw_315 rfl d_R_listed_42 ?_
    refine aw_iconst C (v := 1) d_R_listed_45 (by decide) ?_
    refine aw_iadd C d_R_listed_46 ?_
    refine aw_topi (v' := nI (s_ln S + 1)) (nI_1 _) ?_
    refine ob_put C F_R r0 16 (by decide) tw_315 rfl rfl rfl (Nat.le_of_ble_eq_true rfl) (fs' := [.int (nI (s_cn S)), .ref (ad (3, 0, 1)), .ref (ad (3, 0, 2)), .ref (ad (3, 0, 3)), .ref (ad (3, 0, 4)), .ref (ad (3, 0, 5)), .ref (ad (3, 0, 6)), .ref (ad (3, 0, 7)), .ref (ad (3, 0, 8)), .ref (ad (3, 0, 9)), .ref (ad (3, 0, 10)), .ref (ad (3, 0, 11)), .ref (ad (3, 0, 12)), .int (nI (s_pn S)), .ref (ad (3, 0, 14)), .ref (ad (3, 0, 15)), .int (nI (s_ln S + 1)), .ref (ad (3, 0, 17)), .int (nI (s_on S)), .ref (ad (3, 0, 19))]) rfl d_R_listed_47 ?_
    intro ce10 fw10 r0
    have r1 := r1.tr (fw10 _ (by simp))
    have r2 := r2.tr (fw10 _ (by simp))
    have r3 := r3.tr (fw10 _ (by simp))
    have r4 := r4.tr (fw10 _ (by simp))
    have r5 := r5.tr (fw10 _ (by simp))
    have r6 := r6.tr (fw10 _ (by simp))
    have r7 := r7.tr (fw10 _ (by simp))
    have r8 := r8.tr (fw10 _ (by simp))
    have r9 := r9.tr (fw10 _ (by simp))
    have r10 := r10.tr (fw10 _ (by simp))
    have r11 := r11.tr (fw10 _ (by simp))
    have r12 := r12.tr (fw10 _ (by simp))
    have r14 := r14.tr (fw10 _ (by simp))
    have r15 := r15.tr (fw10 _ (by simp))
    have r17 := r17.tr (fw10 _ (by simp))
    have r19 := r19.tr (fw10 _ (by simp))
    refine aw_aload_n C d_R_listed_50 rfl (j := 0) rfl ?_
    refine aw_get C F_R r0 16 (by decide) tw_315 rfl d_R_listed_51 ?_
    refine aw_iret C E (rfl) (by decide) (by decide) d_R_listed_54 ?_
    rw [show f_listed S x = (nI (s_ln S + 1), s_addL S x) from if_pos hc]
    exact ⟨rfl, rfl, (fr3 fw9).trans (fr3 fw10), _, _, _, _, _, _, _, _, _, _, _, _, _, _, ⟨r0, r1, r2, r3, r4, r5, r6, r7, r8, r9, r10, r11, r12, r14, r15, r17, r19⟩, hE, ⟨⟨hb1, hb2, by show s_ln S + 1 ≤ 20; omega, hb4⟩, hW2, hW3⟩⟩
  by_cases h0 : s_ln S = 20
  · skip
    show AW X 3 0 0 ad ce 0 [(0, .ref (ad (3, 0, 0))), (1, .long x)] []
    refine aw_aload_n C d_R_listed_0 rfl (j := 0) rfl ?_
    refine aw_get C F_R r0 16 (by decide) tw_315 rfl d_R_listed_1 ?_
    refine aw_bipush C (v := 20) d_R_listed_4 (by decide) ?_
    refine aw_icmp_eq C (tgt := 28) d_R_listed_6 (by decide) (fun h6 => ?_) (fun h6 => absurd (by rw [h0]; rfl) h6)
    refine aw_iconst C (v := (-1)) d_R_listed_28 (by decide) ?_
    refine aw_iret C E (rfl) (by decide) (by decide) d_R_listed_29 ?_
    rw [show f_listed S x = (-1, S) from if_neg hc]
    exact ⟨rfl, rfl, frR.rf, ⟨kd, sr, np, st, la, gby, gdu, gwo, grd, un, ps, gpt, gff, gfc, hR, hE, hW⟩⟩
  by_cases h1 : 0 ≤ x ∧ x ≤ 1000000000000
  · have h2 : hasL S x = true := by
      cases h : hasL S x
      · exact absurd ⟨h1, h, by omega⟩ hc
      · rfl
    show AW X 3 0 0 ad ce 0 [(0, .ref (ad (3, 0, 0))), (1, .long x)] []
    refine aw_aload_n C d_R_listed_0 rfl (j := 0) rfl ?_
    refine aw_get C F_R r0 16 (by decide) tw_315 rfl d_R_listed_1 ?_
    refine aw_bipush C (v := 20) d_R_listed_4 (by decide) ?_
    refine aw_icmp_eq C (tgt := 28) d_R_listed_6 (by decide) (fun h6 => absurd h6 (fun q => absurd ((nI_eq (b := 20) (by omega) (by omega)).mp q) (by omega))) (fun h6 => ?_)
    refine aw_lload_n C d_R_listed_9 rfl (j := 1) rfl ?_
    refine aw_lconst C (v := 0) d_R_listed_10 (by decide) ?_
    refine aw_ldc2 C tw_368 d_R_listed_11 ?_
    refine aw_callS C I (as := [.long x, .long 0, .long 1000000000000]) (rest := []) (r_isIn l G ad ce x 0 1000000000000) g_R_70 ⟨by decide, by decide⟩ ⟨by decide, by decide⟩ rfl (Nat.le_of_ble_eq_true rfl) d_R_listed_14 ?_
    rintro _ _ _ ⟨rfl, rfl, rfl⟩
    show AW X 3 0 0 ad ce 17 [(0, .ref (ad (3, 0, 0))), (1, .long x)] [.int (bI (decide (0 ≤ x ∧ x ≤ 1000000000000)))]
    refine aw_topi (v' := 1) ((bI_t h1).symm) ?_
    show AW X 3 0 0 ad ce 17 [(0, .ref (ad (3, 0, 0))), (1, .long x)] [.int 1]
    refine aw_if_eq C (tgt := 28) d_R_listed_17 (by decide) (fun h17 => absurd h17 (by decide)) (fun h17 => ?_)
    refine aw_aload_n C d_R_listed_20 rfl (j := 0) rfl ?_
    refine aw_lload_n C d_R_listed_21 rfl (j := 1) rfl ?_
    refine aw_callV C I (k := (3, 0, 0)) (as := [.long x]) (rest := []) (r_isListed l G ad ce (s_cn S) (s_pn S) (s_ln S) (s_on S) kd sr np st la gby gdu gwo grd un ps gpt gff gfc (s_li S) (s_lo S) hR hb3 x) g_R_134 r0 rfl rfl ⟨by decide, by decide⟩ ⟨by decide, by decide⟩ rfl (Nat.le_of_ble_eq_true rfl) d_R_listed_22 ?_
    rintro _ _ _ ⟨rfl, rfl, rfl⟩
    show AW X 3 0 0 ad ce 25 [(0, .ref (ad (3, 0, 0))), (1, .long x)] [.int (bI (anyF (s_li S) x (s_ln S) 0))]
    refine aw_topi (v' := 1) (by unfold hasL at h2; rw [h2]; rfl) ?_
    show AW X 3 0 0 ad ce 25 [(0, .ref (ad (3, 0, 0))), (1, .long x)] [.int 1]
    refine aw_if_eq C (tgt := 30) d_R_listed_25 (by decide) (fun h25 => absurd h25 (by decide)) (fun h25 => ?_)
    refine aw_iconst C (v := (-1)) d_R_listed_28 (by decide) ?_
    refine aw_iret C E (rfl) (by decide) (by decide) d_R_listed_29 ?_
    rw [show f_listed S x = (-1, S) from if_neg hc]
    exact ⟨rfl, rfl, frR.rf, ⟨kd, sr, np, st, la, gby, gdu, gwo, grd, un, ps, gpt, gff, gfc, hR, hE, hW⟩⟩
  · skip
    show AW X 3 0 0 ad ce 0 [(0, .ref (ad (3, 0, 0))), (1, .long x)] []
    refine aw_aload_n C d_R_listed_0 rfl (j := 0) rfl ?_
    refine aw_get C F_R r0 16 (by decide) tw_315 rfl d_R_listed_1 ?_
    refine aw_bipush C (v := 20) d_R_listed_4 (by decide) ?_
    refine aw_icmp_eq C (tgt := 28) d_R_listed_6 (by decide) (fun h6 => absurd h6 (fun q => absurd ((nI_eq (b := 20) (by omega) (by omega)).mp q) (by omega))) (fun h6 => ?_)
    refine aw_lload_n C d_R_listed_9 rfl (j := 1) rfl ?_
    refine aw_lconst C (v := 0) d_R_listed_10 (by decide) ?_
    refine aw_ldc2 C tw_368 d_R_listed_11 ?_
    refine aw_callS C I (as := [.long x, .long 0, .long 1000000000000]) (rest := []) (r_isIn l G ad ce x 0 1000000000000) g_R_70 ⟨by decide, by decide⟩ ⟨by decide, by decide⟩ rfl (Nat.le_of_ble_eq_true rfl) d_R_listed_14 ?_
    rintro _ _ _ ⟨rfl, rfl, rfl⟩
    show AW X 3 0 0 ad ce 17 [(0, .ref (ad (3, 0, 0))), (1, .long x)] [.int (bI (decide (0 ≤ x ∧ x ≤ 1000000000000)))]
    refine aw_topi (v' := 0) ((bI_f h1).symm) ?_
    show AW X 3 0 0 ad ce 17 [(0, .ref (ad (3, 0, 0))), (1, .long x)] [.int 0]
    refine aw_if_eq C (tgt := 28) d_R_listed_17 (by decide) (fun h17 => ?_) (fun h17 => absurd (rfl) h17)
    refine aw_iconst C (v := (-1)) d_R_listed_28 (by decide) ?_
    refine aw_iret C E (rfl) (by decide) (by decide) d_R_listed_29 ?_
    rw [show f_listed S x = (-1, S) from if_neg hc]
    exact ⟨rfl, rfl, frR.rf, ⟨kd, sr, np, st, la, gby, gdu, gwo, grd, un, ps, gpt, gff, gfc, hR, hE, hW⟩⟩
