set_option maxRecDepth 100000 in
set_option maxHeartbeats 4000000 in
theorem C_fail (l : Launch) (G : aw_G) (ad : aw_Ad) (ce : aw_He) (S : SysS) (hL : LayC S ad ce) (x y : Int32) : CT l G M_C_fail 2 42 0 0 [.ref (ad (0, 0, 0)), .int x, .int y] ad ce (rC (some (.int (f_fail S x y).1)) (f_fail S x y).2 ad ce) := by
  refine CT.of (by decide) (Nat.le_of_ble_eq_true rfl) ?_
  intro X C I E
  have hL0 := hL
  obtain ⟨ho, hca, hpa, hli, hlo, hcars, hpaps, hnoc, hnop, hb1, hb2, hb3, hb4⟩ := hL0
  rcases ix_cases x (n := s_cn S) (by omega) with hx | ⟨j, hj, rfl⟩
  · skip
    show AW X 4 0 0 ad ce 0 [(0, .ref (ad (0, 0, 0))), (1, .int x), (2, .int y)] []
    refine aw_aload_n C d_C_fail_0 rfl (j := 0) rfl ?_
    refine aw_iload_n C d_C_fail_1 rfl (j := 1) rfl ?_
    refine aw_callV C I (k := (0, 0, 0)) (as := [.int x]) (rest := []) (c_findC_out l G ad ce S hL x hx) g_C_56 ho rfl rfl ⟨by decide, by decide⟩ ⟨by decide, by decide⟩ rfl (Nat.le_of_ble_eq_true rfl) d_C_fail_2 ?_
    rintro _ _ _ ⟨rfl, rfl, rfl⟩
    show AW X 4 0 0 ad ce 5 [(0, .ref (ad (0, 0, 0))), (1, .int x), (2, .int y)] [.null]
    refine aw_astore_nN C (lv' := [(3, .null), (0, .ref (ad (0, 0, 0))), (1, .int x), (2, .int y)]) d_C_fail_5 rfl (by decide) rfl ?_
    refine aw_aload_nN C d_C_fail_6 rfl (j := 0) rfl ?_
    refine aw_ifnullN C (tgt := 29) d_C_fail_7 (by decide) ?_
    refine aw_iconst C (v := 0) d_C_fail_29 (by decide) ?_
    refine aw_iret C E (rfl) (by decide) (by decide) d_C_fail_30 ?_
    rw [show f_fail S x y = (0, S) from by simp only [f_fail, ix_out hx]]
    exact rC.of hL ⟨rfl, rfl, rfl⟩
  by_cases hg : k_st (s_car S j) = 5 ∨ k_st (s_car S j) = 6
  · skip
    show AW X 4 0 0 ad ce 0 [(0, .ref (ad (0, 0, 0))), (1, .int (nI j)), (2, .int y)] []
    refine aw_aload_n C d_C_fail_0 rfl (j := 0) rfl ?_
    refine aw_iload_n C d_C_fail_1 rfl (j := 1) rfl ?_
    refine aw_callV C I (k := (0, 0, 0)) (as := [.int (nI j)]) (rest := []) (c_findC_in l G ad ce S hL j hj) g_C_56 ho rfl rfl ⟨by decide, by decide⟩ ⟨by decide, by decide⟩ rfl (Nat.le_of_ble_eq_true rfl) d_C_fail_2 ?_
    rintro _ _ _ ⟨rfl, rfl, rfl⟩
    show AW X 4 0 0 ad ce 5 [(0, .ref (ad (0, 0, 0))), (1, .int (nI j)), (2, .int y)] [.ref (ad (1, j, 0))]
    have hK := hcars j hj
    have hK0 := hK
    obtain ⟨hk, hby, hdu, hwo, hrd, hpt, ⟨hn1, hn2⟩, hps⟩ := hK0
    refine aw_astore_n C (lv' := [(3, .ref (ad (1, j, 0))), (0, .ref (ad (0, 0, 0))), (1, .int (nI j)), (2, .int y)]) d_C_fail_5 rfl (by decide) rfl ?_
    refine aw_aload_n C d_C_fail_6 rfl (j := 0) rfl ?_
    refine aw_ifnull C d_C_fail_7 ?_
    refine aw_aload_n C d_C_fail_10 rfl (j := 0) rfl ?_
    refine aw_callV C I (k := (1, j, 0)) (as := []) (rest := []) (c_isGone l G ad ce j _ hK) g_C_81 hk rfl rfl ⟨by decide, by decide⟩ ⟨by decide, by decide⟩ rfl (Nat.le_of_ble_eq_true rfl) d_C_fail_11 ?_
    rintro _ _ _ ⟨rfl, rfl, rfl⟩
    show AW X 4 0 0 ad ce 14 [(3, .ref (ad (1, j, 0))), (0, .ref (ad (0, 0, 0))), (1, .int (nI j)), (2, .int y)] [.int (bI (decide (k_st (s_car S j) = 5 ∨ k_st (s_car S j) = 6)))]
    refine aw_topi (v' := 1) ((bI_t hg).symm) ?_
    show AW X 4 0 0 ad ce 14 [(3, .ref (ad (1, j, 0))), (0, .ref (ad (0, 0, 0))), (1, .int (nI j)), (2, .int y)] [.int 1]
    refine aw_if_ne C (tgt := 29) d_C_fail_14 (by decide) (fun h14 => ?_) (fun h14 => absurd h14 (by decide))
    refine aw_iconst C (v := 0) d_C_fail_29 (by decide) ?_
    refine aw_iret C E (rfl) (by decide) (by decide) d_C_fail_30 ?_
    rw [show f_fail S (nI j) y = (0, S) from by simp only [f_fail, ix_in hj (show s_cn S < 2 ^ 31 by omega), if_pos hg]]
    exact rC.of hL ⟨rfl, rfl, rfl⟩
  · skip
    have hnp := (hcars j hj).2.2.2.2.2.2.1.2
    rcases ix_cases y (n := k_np (s_car S j)) (by omega) with hy | ⟨p, hp0, rfl⟩
    · skip
      show AW X 4 0 0 ad ce 0 [(0, .ref (ad (0, 0, 0))), (1, .int (nI j)), (2, .int y)] []
      refine aw_aload_n C d_C_fail_0 rfl (j := 0) rfl ?_
      refine aw_iload_n C d_C_fail_1 rfl (j := 1) rfl ?_
      refine aw_callV C I (k := (0, 0, 0)) (as := [.int (nI j)]) (rest := []) (c_findC_in l G ad ce S hL j hj) g_C_56 ho rfl rfl ⟨by decide, by decide⟩ ⟨by decide, by decide⟩ rfl (Nat.le_of_ble_eq_true rfl) d_C_fail_2 ?_
      rintro _ _ _ ⟨rfl, rfl, rfl⟩
      show AW X 4 0 0 ad ce 5 [(0, .ref (ad (0, 0, 0))), (1, .int (nI j)), (2, .int y)] [.ref (ad (1, j, 0))]
      have hK := hcars j hj
      have hK0 := hK
      obtain ⟨hk, hby, hdu, hwo, hrd, hpt, ⟨hn1, hn2⟩, hps⟩ := hK0
      refine aw_astore_n C (lv' := [(3, .ref (ad (1, j, 0))), (0, .ref (ad (0, 0, 0))), (1, .int (nI j)), (2, .int y)]) d_C_fail_5 rfl (by decide) rfl ?_
      refine aw_aload_n C d_C_fail_6 rfl (j := 0) rfl ?_
      refine aw_ifnull C d_C_fail_7 ?_
      refine aw_aload_n C d_C_fail_10 rfl (j := 0) rfl ?_
      refine aw_callV C I (k := (1, j, 0)) (as := []) (rest := []) (c_isGone l G ad ce j _ hK) g_C_81 hk rfl rfl ⟨by decide, by decide⟩ ⟨by decide, by decide⟩ rfl (Nat.le_of_ble_eq_true rfl) d_C_fail_11 ?_
      rintro _ _ _ ⟨rfl, rfl, rfl⟩
      show AW X 4 0 0 ad ce 14 [(3, .ref (ad (1, j, 0))), (0, .ref (ad (0, 0, 0))), (1, .int (nI j)), (2, .int y)] [.int (bI (decide (k_st (s_car S j) = 5 ∨ k_st (s_car S j) = 6)))]
      refine aw_topi (v' := 0) ((bI_f hg).symm) ?_
      show AW X 4 0 0 ad ce 14 [(3, .ref (ad (1, j, 0))), (0, .ref (ad (0, 0, 0))), (1, .int (nI j)), (2, .int y)] [.int 0]
      refine aw_if_ne C (tgt := 29) d_C_fail_14 (by decide) (fun h14 => absurd h14 (by decide)) (fun h14 => ?_)
      refine aw_aload_n C d_C_fail_17 rfl (j := 0) rfl ?_
      refine aw_iload_n C d_C_fail_18 rfl (j := 3) rfl ?_
      refine aw_callV C I (k := (1, j, 0)) (as := [.int y]) (rest := []) (c_wear_out l G ad ce j _ hK y hy) g_C_85 hk rfl rfl ⟨by decide, by decide⟩ ⟨by decide, by decide⟩ rfl (Nat.le_of_ble_eq_true rfl) d_C_fail_19 ?_
      rintro _ _ _ ⟨rfl, rfl, rfl⟩
      show AW X 4 0 0 ad ce 22 [(3, .ref (ad (1, j, 0))), (0, .ref (ad (0, 0, 0))), (1, .int (nI j)), (2, .int y)] [.int 0]
      refine aw_if_eq C (tgt := 29) d_C_fail_22 (by decide) (fun h22 => ?_) (fun h22 => absurd (rfl) h22)
      refine aw_iconst C (v := 0) d_C_fail_29 (by decide) ?_
      refine aw_iret C E (rfl) (by decide) (by decide) d_C_fail_30 ?_
      rw [show f_fail S (nI j) y = (0, S) from by simp only [f_fail, ix_in hj (show s_cn S < 2 ^ 31 by omega), if_neg hg, ix_out hy]]
      exact rC.of hL ⟨rfl, rfl, rfl⟩
    by_cases hw : k_wo (s_car S j) p = 0
    · skip
      show AW X 4 0 0 ad ce 0 [(0, .ref (ad (0, 0, 0))), (1, .int (nI j)), (2, .int (nI p))] []
      refine aw_aload_n C d_C_fail_0 rfl (j := 0) rfl ?_
      refine aw_iload_n C d_C_fail_1 rfl (j := 1) rfl ?_
      refine aw_callV C I (k := (0, 0, 0)) (as := [.int (nI j)]) (rest := []) (c_findC_in l G ad ce S hL j hj) g_C_56 ho rfl rfl ⟨by decide, by decide⟩ ⟨by decide, by decide⟩ rfl (Nat.le_of_ble_eq_true rfl) d_C_fail_2 ?_
      rintro _ _ _ ⟨rfl, rfl, rfl⟩
      show AW X 4 0 0 ad ce 5 [(0, .ref (ad (0, 0, 0))), (1, .int (nI j)), (2, .int (nI p))] [.ref (ad (1, j, 0))]
      have hK := hcars j hj
      have hK0 := hK
      obtain ⟨hk, hby, hdu, hwo, hrd, hpt, ⟨hn1, hn2⟩, hps⟩ := hK0
      refine aw_astore_n C (lv' := [(3, .ref (ad (1, j, 0))), (0, .ref (ad (0, 0, 0))), (1, .int (nI j)), (2, .int (nI p))]) d_C_fail_5 rfl (by decide) rfl ?_
      refine aw_aload_n C d_C_fail_6 rfl (j := 0) rfl ?_
      refine aw_ifnull C d_C_fail_7 ?_
      refine aw_aload_n C d_C_fail_10 rfl (j := 0) rfl ?_
      refine aw_callV C I (k := (1, j, 0)) (as := []) (rest := []) (c_isGone l G ad ce j _ hK) g_C_81 hk rfl rfl ⟨by decide, by decide⟩ ⟨by decide, by decide⟩ rfl (Nat.le_of_ble_eq_true rfl) d_C_fail_11 ?_
      rintro _ _ _ ⟨rfl, rfl, rfl⟩
      show AW X 4 0 0 ad ce 14 [(3, .ref (ad (1, j, 0))), (0, .ref (ad (0, 0, 0))), (1, .int (nI j)), (2, .int (nI p))] [.int (bI (decide (k_st (s_car S j) = 5 ∨ k_st (s_car S j) = 6)))]
      refine aw_topi (v' := 0) ((bI_f hg).symm) ?_
      show AW X 4 0 0 ad ce 14 [(3, .ref (ad (1, j, 0))), (0, .ref (ad (0, 0, 0))), (1, .int (nI j)), (2, .int (nI p))] [.int 0]
      refine aw_if_ne C (tgt := 29) d_C_fail_14 (by decide) (fun h14 => absurd h14 (by decide)) (fun h14 => ?_)
      refine aw_aload_n C d_C_fail_17 rfl (j := 0) rfl ?_
      refine aw_iload_n C d_C_fail_18 rfl (j := 3) rfl ?_
      refine aw_callV C I (k := (1, j, 0)) (as := [.int (nI p)]) (rest := []) (c_wear_ok l G ad ce j _ hK p hp0 hw) g_C_85 hk rfl rfl ⟨by decide, by decide⟩ ⟨by decide, by decide⟩ rfl (Nat.le_of_ble_eq_true rfl) d_C_fail_19 ?_
      rintro _ _ ce9 ⟨rfl, rfl, hf9, hK9⟩
      show AW X 4 0 0 ad ce9 22 [(3, .ref (ad (1, j, 0))), (0, .ref (ad (0, 0, 0))), (1, .int (nI j)), (2, .int (nI p))] [.int 1]
      refine aw_if_eq C (tgt := 29) d_C_fail_22 (by decide) (fun h22 => absurd h22 (by decide)) (fun h22 => ?_)
      refine aw_iconst C (v := 1) d_C_fail_25 (by decide) ?_
      refine aw_goto C (tgt := 30) d_C_fail_26 (by decide) ?_
      refine aw_iret C E (rfl) (by decide) (by decide) d_C_fail_30 ?_
      rw [show f_fail S (nI j) (nI p) = (1, s_set S j (k_sWo (s_car S j) (upd (k_wo (s_car S j)) p 1))) from by simp only [f_fail, ix_in hj (show s_cn S < 2 ^ 31 by omega), if_neg hg, ix_in hp0 (show k_np (s_car S j) < 2 ^ 31 by omega), if_pos hw]]
      exact rC.car hL hj hf9 hK9
    · skip
      show AW X 4 0 0 ad ce 0 [(0, .ref (ad (0, 0, 0))), (1, .int (nI j)), (2, .int (nI p))] []
      refine aw_aload_n C d_C_fail_0 rfl (j := 0) rfl ?_
      refine aw_iload_n C d_C_fail_1 rfl (j := 1) rfl ?_
      refine aw_callV C I (k := (0, 0, 0)) (as := [.int (nI j)]) (rest := []) (c_findC_in l G ad ce S hL j hj) g_C_56 ho rfl rfl ⟨by decide, by decide⟩ ⟨by decide, by decide⟩ rfl (Nat.le_of_ble_eq_true rfl) d_C_fail_2 ?_
      rintro _ _ _ ⟨rfl, rfl, rfl⟩
      show AW X 4 0 0 ad ce 5 [(0, .ref (ad (0, 0, 0))), (1, .int (nI j)), (2, .int (nI p))] [.ref (ad (1, j, 0))]
      have hK := hcars j hj
      have hK0 := hK
      obtain ⟨hk, hby, hdu, hwo, hrd, hpt, ⟨hn1, hn2⟩, hps⟩ := hK0
      refine aw_astore_n C (lv' := [(3, .ref (ad (1, j, 0))), (0, .ref (ad (0, 0, 0))), (1, .int (nI j)), (2, .int (nI p))]) d_C_fail_5 rfl (by decide) rfl ?_
      refine aw_aload_n C d_C_fail_6 rfl (j := 0) rfl ?_
      refine aw_ifnull C d_C_fail_7 ?_
      refine aw_aload_n C d_C_fail_10 rfl (j := 0) rfl ?_
      refine aw_callV C I (k := (1, j, 0)) (as := []) (rest := []) (c_isGone l G ad ce j _ hK) g_C_81 hk rfl rfl ⟨by decide, by decide⟩ ⟨by decide, by decide⟩ rfl (Nat.le_of_ble_eq_true rfl) d_C_fail_11 ?_
      rintro _ _ _ ⟨rfl, rfl, rfl⟩
      show AW X 4 0 0 ad ce 14 [(3, .ref (ad (1, j, 0))), (0, .ref (ad (0, 0, 0))), (1, .int (nI j)), (2, .int (nI p))] [.int (bI (decide (k_st (s_car S j) = 5 ∨ k_st (s_car S j) = 6)))]
      refine aw_topi (v' := 0) ((bI_f hg).symm) ?_
      show AW X 4 0 0 ad ce 14 [(3, .ref (ad (1, j, 0))), (0, .ref (ad (0, 0, 0))), (1, .int (nI j)), (2, .int (nI p))] [.int 0]
      refine aw_if_ne C (tgt := 29) d_C_fail_14 (by decide) (fun h14 => absurd h14 (by decide)) (fun h14 => ?_)
      refine aw_aload_n C d_C_fail_17 rfl (j := 0) rfl ?_
      refine aw_iload_n C d_C_fail_18 rfl (j := 3) rfl ?_
      refine aw_callV C I (k := (1, j, 0)) (as := [.int (nI p)]) (rest := []) (c_wear_no l G ad ce j _ hK p hp0 hw) g_C_85 hk rfl rfl ⟨by decide, by decide⟩ ⟨by decide, by decide⟩ rfl (Nat.le_of_ble_eq_true rfl) d_C_fail_19 ?_
      rintro _ _ _ ⟨rfl, rfl, rfl⟩
      show AW X 4 0 0 ad ce 22 [(3, .ref (ad (1, j, 0))), (0, .ref (ad (0, 0, 0))), (1, .int (nI j)), (2, .int (nI p))] [.int 0]
      refine aw_if_eq C (tgt := 29) d_C_fail_22 (by decide) (fun h22 => ?_) (fun h22 => absurd (rfl) h22)
      refine aw_iconst C (v := 0) d_C_fail_29 (by decide) ?_
      refine aw_iret C E (rfl) (by decide) (by decide) d_C_fail_30 ?_
      rw [show f_fail S (nI j) (nI p) = (0, S) from by simp only [f_fail, ix_in hj (show s_cn S < 2 ^ 31 by omega), if_neg hg, ix_in hp0 (show k_np (s_car S j) < 2 ^ 31 by omega), if_neg hw]]
      exact rC.of hL ⟨rfl, rfl, rfl⟩
set_option maxRecDepth 100000 in
set_option maxHeartbeats 4000000 in
theorem C_pass (l : Launch) (G : aw_G) (ad : aw_Ad) (ce : aw_He) (S : SysS) (hL : LayC S ad ce) (x p : Int32) : CT l G M_C_pass 2 44 0 0 [.ref (ad (0, 0, 0)), .int x, .int p] ad ce (rC (some (.int (f_pass S x p).1)) (f_pass S x p).2 ad ce) := by
  refine CT.of (by decide) (Nat.le_of_ble_eq_true rfl) ?_
  intro X C I E
  have hL0 := hL
  obtain ⟨ho, hca, hpa, hli, hlo, hcars, hpaps, hnoc, hnop, hb1, hb2, hb3, hb4⟩ := hL0
  rcases ix_cases x (n := s_cn S) (by omega) with hx | ⟨j, hj, rfl⟩
  · skip
    show AW X 4 0 0 ad ce 0 [(0, .ref (ad (0, 0, 0))), (1, .int x), (2, .int p)] []
    refine aw_aload_n C d_C_pass_0 rfl (j := 0) rfl ?_
    refine aw_iload_n C d_C_pass_1 rfl (j := 1) rfl ?_
    refine aw_callV C I (k := (0, 0, 0)) (as := [.int x]) (rest := []) (c_findC_out l G ad ce S hL x hx) g_C_56 ho rfl rfl ⟨by decide, by decide⟩ ⟨by decide, by decide⟩ rfl (Nat.le_of_ble_eq_true rfl) d_C_pass_2 ?_
    rintro _ _ _ ⟨rfl, rfl, rfl⟩
    show AW X 4 0 0 ad ce 5 [(0, .ref (ad (0, 0, 0))), (1, .int x), (2, .int p)] [.null]
    refine aw_astore_nN C (lv' := [(3, .null), (0, .ref (ad (0, 0, 0))), (1, .int x), (2, .int p)]) d_C_pass_5 rfl (by decide) rfl ?_
    refine aw_aload_nN C d_C_pass_6 rfl (j := 0) rfl ?_
    refine aw_ifnullN C (tgt := 21) d_C_pass_7 (by decide) ?_
    refine aw_iconst C (v := (-1)) d_C_pass_21 (by decide) ?_
    refine aw_iret C E (rfl) (by decide) (by decide) d_C_pass_22 ?_
    rw [show f_pass S x p = (-1, S) from by simp only [f_pass, ix_out hx]]
    exact rC.of hL ⟨rfl, rfl, rfl⟩
  by_cases hc : (0 ≤ p ∧ p ≤ 257) ∧ k_st (s_car S j) = 2 ∧ k_ps (s_car S j) < 6
  · skip
    show AW X 4 0 0 ad ce 0 [(0, .ref (ad (0, 0, 0))), (1, .int (nI j)), (2, .int p)] []
    refine aw_aload_n C d_C_pass_0 rfl (j := 0) rfl ?_
    refine aw_iload_n C d_C_pass_1 rfl (j := 1) rfl ?_
    refine aw_callV C I (k := (0, 0, 0)) (as := [.int (nI j)]) (rest := []) (c_findC_in l G ad ce S hL j hj) g_C_56 ho rfl rfl ⟨by decide, by decide⟩ ⟨by decide, by decide⟩ rfl (Nat.le_of_ble_eq_true rfl) d_C_pass_2 ?_
    rintro _ _ _ ⟨rfl, rfl, rfl⟩
    show AW X 4 0 0 ad ce 5 [(0, .ref (ad (0, 0, 0))), (1, .int (nI j)), (2, .int p)] [.ref (ad (1, j, 0))]
    have hK := hcars j hj
    have hK0 := hK
    obtain ⟨hk, hby, hdu, hwo, hrd, hpt, ⟨hn1, hn2⟩, hps⟩ := hK0
    refine aw_astore_n C (lv' := [(3, .ref (ad (1, j, 0))), (0, .ref (ad (0, 0, 0))), (1, .int (nI j)), (2, .int p)]) d_C_pass_5 rfl (by decide) rfl ?_
    refine aw_aload_n C d_C_pass_6 rfl (j := 0) rfl ?_
    refine aw_ifnull C d_C_pass_7 ?_
    refine aw_iload_n C d_C_pass_10 rfl (j := 3) rfl ?_
    refine aw_iconst C (v := 0) d_C_pass_11 (by decide) ?_
    refine aw_sipush C (v := 257) d_C_pass_12 (by decide) ?_
    refine aw_callS C I (as := [.int p, .int 0, .int 257]) (rest := []) (c_within l G ad ce p 0 257) g_C_42 ⟨by decide, by decide⟩ ⟨by decide, by decide⟩ rfl (Nat.le_of_ble_eq_true rfl) d_C_pass_15 ?_
    rintro _ _ _ ⟨rfl, rfl, rfl⟩
    show AW X 4 0 0 ad ce 18 [(3, .ref (ad (1, j, 0))), (0, .ref (ad (0, 0, 0))), (1, .int (nI j)), (2, .int p)] [.int (bI (decide (0 ≤ p ∧ p ≤ 257)))]
    refine aw_topi (v' := 1) ((bI_t hc.1).symm) ?_
    show AW X 4 0 0 ad ce 18 [(3, .ref (ad (1, j, 0))), (0, .ref (ad (0, 0, 0))), (1, .int (nI j)), (2, .int p)] [.int 1]
    refine aw_if_ne C (tgt := 23) d_C_pass_18 (by decide) (fun h18 => ?_) (fun h18 => absurd h18 (by decide))
    refine aw_aload_n C d_C_pass_23 rfl (j := 0) rfl ?_
    refine aw_iload_n C d_C_pass_24 rfl (j := 3) rfl ?_
    refine aw_callV C I (k := (1, j, 0)) (as := [.int p]) (rest := []) (c_over_ok l G ad ce j _ hK p hc.2.1 hc.2.2) g_C_91 hk rfl rfl ⟨by decide, by decide⟩ ⟨by decide, by decide⟩ rfl (Nat.le_of_ble_eq_true rfl) d_C_pass_25 ?_
    rintro _ _ ce9 ⟨rfl, rfl, hf9, hK9⟩
    show AW X 4 0 0 ad ce9 28 [(3, .ref (ad (1, j, 0))), (0, .ref (ad (0, 0, 0))), (1, .int (nI j)), (2, .int p)] [.int (nI (k_ps (s_car S j) + 1))]
    refine aw_iret C E (rfl) (by decide) (by decide) d_C_pass_28 ?_
    rw [show f_pass S (nI j) p = (nI (k_ps (s_car S j) + 1), s_set S j (k_pass (s_car S j) p)) from by simp only [f_pass, ix_in hj (show s_cn S < 2 ^ 31 by omega), if_pos hc]]
    exact rC.car hL hj hf9 hK9
  by_cases h1 : 0 ≤ p ∧ p ≤ 257
  · have hps0 := (hcars j hj).2.2.2.2.2.2.2
    have hn : ¬ k_st (s_car S j) = 2 ∨ k_ps (s_car S j) = 6 := by
      by_cases h2 : k_st (s_car S j) = 2
      · refine Or.inr ?_
        by_cases h3 : k_ps (s_car S j) < 6
        · exact absurd ⟨h1, h2, h3⟩ hc
        · omega
      · exact Or.inl h2
    show AW X 4 0 0 ad ce 0 [(0, .ref (ad (0, 0, 0))), (1, .int (nI j)), (2, .int p)] []
    refine aw_aload_n C d_C_pass_0 rfl (j := 0) rfl ?_
    refine aw_iload_n C d_C_pass_1 rfl (j := 1) rfl ?_
    refine aw_callV C I (k := (0, 0, 0)) (as := [.int (nI j)]) (rest := []) (c_findC_in l G ad ce S hL j hj) g_C_56 ho rfl rfl ⟨by decide, by decide⟩ ⟨by decide, by decide⟩ rfl (Nat.le_of_ble_eq_true rfl) d_C_pass_2 ?_
    rintro _ _ _ ⟨rfl, rfl, rfl⟩
    show AW X 4 0 0 ad ce 5 [(0, .ref (ad (0, 0, 0))), (1, .int (nI j)), (2, .int p)] [.ref (ad (1, j, 0))]
    have hK := hcars j hj
    have hK0 := hK
    obtain ⟨hk, hby, hdu, hwo, hrd, hpt, ⟨hn1, hn2⟩, hps⟩ := hK0
    refine aw_astore_n C (lv' := [(3, .ref (ad (1, j, 0))), (0, .ref (ad (0, 0, 0))), (1, .int (nI j)), (2, .int p)]) d_C_pass_5 rfl (by decide) rfl ?_
    refine aw_aload_n C d_C_pass_6 rfl (j := 0) rfl ?_
    refine aw_ifnull C d_C_pass_7 ?_
    refine aw_iload_n C d_C_pass_10 rfl (j := 3) rfl ?_
    refine aw_iconst C (v := 0) d_C_pass_11 (by decide) ?_
    refine aw_sipush C (v := 257) d_C_pass_12 (by decide) ?_
    refine aw_callS C I (as := [.int p, .int 0, .int 257]) (rest := []) (c_within l G ad ce p 0 257) g_C_42 ⟨by decide, by decide⟩ ⟨by decide, by decide⟩ rfl (Nat.le_of_ble_eq_true rfl) d_C_pass_15 ?_
    rintro _ _ _ ⟨rfl, rfl, rfl⟩
    show AW X 4 0 0 ad ce 18 [(3, .ref (ad (1, j, 0))), (0, .ref (ad (0, 0, 0))), (1, .int (nI j)), (2, .int p)] [.int (bI (decide (0 ≤ p ∧ p ≤ 257)))]
    refine aw_topi (v' := 1) ((bI_t h1).symm) ?_
    show AW X 4 0 0 ad ce 18 [(3, .ref (ad (1, j, 0))), (0, .ref (ad (0, 0, 0))), (1, .int (nI j)), (2, .int p)] [.int 1]
    refine aw_if_ne C (tgt := 23) d_C_pass_18 (by decide) (fun h18 => ?_) (fun h18 => absurd h18 (by decide))
    refine aw_aload_n C d_C_pass_23 rfl (j := 0) rfl ?_
    refine aw_iload_n C d_C_pass_24 rfl (j := 3) rfl ?_
    refine aw_callV C I (k := (1, j, 0)) (as := [.int p]) (rest := []) (c_over_no l G ad ce j _ hK p hn) g_C_91 hk rfl rfl ⟨by decide, by decide⟩ ⟨by decide, by decide⟩ rfl (Nat.le_of_ble_eq_true rfl) d_C_pass_25 ?_
    rintro _ _ _ ⟨rfl, rfl, rfl⟩
    show AW X 4 0 0 ad ce 28 [(3, .ref (ad (1, j, 0))), (0, .ref (ad (0, 0, 0))), (1, .int (nI j)), (2, .int p)] [.int (-1)]
    refine aw_iret C E (rfl) (by decide) (by decide) d_C_pass_28 ?_
    rw [show f_pass S (nI j) p = (-1, S) from by simp only [f_pass, ix_in hj (show s_cn S < 2 ^ 31 by omega), if_neg hc]]
    exact rC.of hL ⟨rfl, rfl, rfl⟩
  · skip
    show AW X 4 0 0 ad ce 0 [(0, .ref (ad (0, 0, 0))), (1, .int (nI j)), (2, .int p)] []
    refine aw_aload_n C d_C_pass_0 rfl (j := 0) rfl ?_
    refine aw_iload_n C d_C_pass_1 rfl (j := 1) rfl ?_
    refine aw_callV C I (k := (0, 0, 0)) (as := [.int (nI j)]) (rest := []) (c_findC_in l G ad ce S hL j hj) g_C_56 ho rfl rfl ⟨by decide, by decide⟩ ⟨by decide, by decide⟩ rfl (Nat.le_of_ble_eq_true rfl) d_C_pass_2 ?_
    rintro _ _ _ ⟨rfl, rfl, rfl⟩
    show AW X 4 0 0 ad ce 5 [(0, .ref (ad (0, 0, 0))), (1, .int (nI j)), (2, .int p)] [.ref (ad (1, j, 0))]
    have hK := hcars j hj
    have hK0 := hK
    obtain ⟨hk, hby, hdu, hwo, hrd, hpt, ⟨hn1, hn2⟩, hps⟩ := hK0
    refine aw_astore_n C (lv' := [(3, .ref (ad (1, j, 0))), (0, .ref (ad (0, 0, 0))), (1, .int (nI j)), (2, .int p)]) d_C_pass_5 rfl (by decide) rfl ?_
    refine aw_aload_n C d_C_pass_6 rfl (j := 0) rfl ?_
    refine aw_ifnull C d_C_pass_7 ?_
    refine aw_iload_n C d_C_pass_10 rfl (j := 3) rfl ?_
    refine aw_iconst C (v := 0) d_C_pass_11 (by decide) ?_
    refine aw_sipush C (v := 257) d_C_pass_12 (by decide) ?_
    refine aw_callS C I (as := [.int p, .int 0, .int 257]) (rest := []) (c_within l G ad ce p 0 257) g_C_42 ⟨by decide, by decide⟩ ⟨by decide, by decide⟩ rfl (Nat.le_of_ble_eq_true rfl) d_C_pass_15 ?_
    rintro _ _ _ ⟨rfl, rfl, rfl⟩
    show AW X 4 0 0 ad ce 18 [(3, .ref (ad (1, j, 0))), (0, .ref (ad (0, 0, 0))), (1, .int (nI j)), (2, .int p)] [.int (bI (decide (0 ≤ p ∧ p ≤ 257)))]
    refine aw_topi (v' := 0) ((bI_f h1).symm) ?_
    show AW X 4 0 0 ad ce 18 [(3, .ref (ad (1, j, 0))), (0, .ref (ad (0, 0, 0))), (1, .int (nI j)), (2, .int p)] [.int 0]
    refine aw_if_ne C (tgt := 23) d_C_pass_18 (by decide) (fun h18 => absurd h18 (by decide)) (fun h18 => ?_)
    refine aw_iconst C (v := (-1)) d_C_pass_21 (by decide) ?_
    refine aw_iret C E (rfl) (by decide) (by decide) d_C_pass_22 ?_
    rw [show f_pass S (nI j) p = (-1, S) from by simp only [f_pass, ix_in hj (show s_cn S < 2 ^ 31 by omega), if_neg hc]]
    exact rC.of hL ⟨rfl, rfl, rfl⟩
set_option maxRecDepth 100000 in
set_option maxHeartbeats 4000000 in
theorem C_read (l : Launch) (G : aw_G) (ad : aw_Ad) (ce : aw_He) (S : SysS) (hL : LayC S ad ce) (x y b : Int32) : CT l G M_C_read 2 44 0 0 [.ref (ad (0, 0, 0)), .int x, .int y, .int b] ad ce (rC (some (.int (f_read S x y b).1)) (f_read S x y b).2 ad ce) := by
  refine CT.of (by decide) (Nat.le_of_ble_eq_true rfl) ?_
  intro X C I E
  have hL0 := hL
  obtain ⟨ho, hca, hpa, hli, hlo, hcars, hpaps, hnoc, hnop, hb1, hb2, hb3, hb4⟩ := hL0
  rcases ix_cases x (n := s_cn S) (by omega) with hx | ⟨j, hj, rfl⟩
  · skip
    show AW X 5 0 0 ad ce 0 [(0, .ref (ad (0, 0, 0))), (1, .int x), (2, .int y), (3, .int b)] []
    refine aw_aload_n C d_C_read_0 rfl (j := 0) rfl ?_
    refine aw_iload_n C d_C_read_1 rfl (j := 1) rfl ?_
    refine aw_callV C I (k := (0, 0, 0)) (as := [.int x]) (rest := []) (c_findC_out l G ad ce S hL x hx) g_C_56 ho rfl rfl ⟨by decide, by decide⟩ ⟨by decide, by decide⟩ rfl (Nat.le_of_ble_eq_true rfl) d_C_read_2 ?_
    rintro _ _ _ ⟨rfl, rfl, rfl⟩
    show AW X 5 0 0 ad ce 5 [(0, .ref (ad (0, 0, 0))), (1, .int x), (2, .int y), (3, .int b)] [.null]
    refine aw_astoreN C (lv' := [(4, .null), (0, .ref (ad (0, 0, 0))), (1, .int x), (2, .int y), (3, .int b)]) d_C_read_5 (by decide) rfl ?_
    refine aw_aloadN C d_C_read_7 (j := 0) rfl ?_
    refine aw_ifnullN C (tgt := 23) d_C_read_9 (by decide) ?_
    refine aw_iconst C (v := (-1)) d_C_read_23 (by decide) ?_
    refine aw_iret C E (rfl) (by decide) (by decide) d_C_read_24 ?_
    rw [show f_read S x y b = (-1, S) from by simp only [f_read, ix_out hx]]
    exact rC.of hL ⟨rfl, rfl, rfl⟩
  have hnp := (hcars j hj).2.2.2.2.2.2.1.2
  rcases ix_cases y (n := k_np (s_car S j)) (by omega) with hy | ⟨p, hp0, rfl⟩
  · by_cases h1 : 0 ≤ b ∧ b ≤ 255
    · skip
      show AW X 5 0 0 ad ce 0 [(0, .ref (ad (0, 0, 0))), (1, .int (nI j)), (2, .int y), (3, .int b)] []
      refine aw_aload_n C d_C_read_0 rfl (j := 0) rfl ?_
      refine aw_iload_n C d_C_read_1 rfl (j := 1) rfl ?_
      refine aw_callV C I (k := (0, 0, 0)) (as := [.int (nI j)]) (rest := []) (c_findC_in l G ad ce S hL j hj) g_C_56 ho rfl rfl ⟨by decide, by decide⟩ ⟨by decide, by decide⟩ rfl (Nat.le_of_ble_eq_true rfl) d_C_read_2 ?_
      rintro _ _ _ ⟨rfl, rfl, rfl⟩
      show AW X 5 0 0 ad ce 5 [(0, .ref (ad (0, 0, 0))), (1, .int (nI j)), (2, .int y), (3, .int b)] [.ref (ad (1, j, 0))]
      have hK := hcars j hj
      have hK0 := hK
      obtain ⟨hk, hby, hdu, hwo, hrd, hpt, ⟨hn1, hn2⟩, hps⟩ := hK0
      refine aw_astore C (lv' := [(4, .ref (ad (1, j, 0))), (0, .ref (ad (0, 0, 0))), (1, .int (nI j)), (2, .int y), (3, .int b)]) d_C_read_5 (by decide) rfl ?_
      refine aw_aload C d_C_read_7 (j := 0) rfl ?_
      refine aw_ifnull C d_C_read_9 ?_
      refine aw_iload_n C d_C_read_12 rfl (j := 4) rfl ?_
      refine aw_iconst C (v := 0) d_C_read_13 (by decide) ?_
      refine aw_sipush C (v := 255) d_C_read_14 (by decide) ?_
      refine aw_callS C I (as := [.int b, .int 0, .int 255]) (rest := []) (c_within l G ad ce b 0 255) g_C_42 ⟨by decide, by decide⟩ ⟨by decide, by decide⟩ rfl (Nat.le_of_ble_eq_true rfl) d_C_read_17 ?_
      rintro _ _ _ ⟨rfl, rfl, rfl⟩
      show AW X 5 0 0 ad ce 20 [(4, .ref (ad (1, j, 0))), (0, .ref (ad (0, 0, 0))), (1, .int (nI j)), (2, .int y), (3, .int b)] [.int (bI (decide (0 ≤ b ∧ b ≤ 255)))]
      refine aw_topi (v' := 1) ((bI_t h1).symm) ?_
      show AW X 5 0 0 ad ce 20 [(4, .ref (ad (1, j, 0))), (0, .ref (ad (0, 0, 0))), (1, .int (nI j)), (2, .int y), (3, .int b)] [.int 1]
      refine aw_if_ne C (tgt := 25) d_C_read_20 (by decide) (fun h20 => ?_) (fun h20 => absurd h20 (by decide))
      refine aw_aload C d_C_read_25 (j := 0) rfl ?_
      refine aw_iload_n C d_C_read_27 rfl (j := 3) rfl ?_
      refine aw_iload_n C d_C_read_28 rfl (j := 4) rfl ?_
      refine aw_callV C I (k := (1, j, 0)) (as := [.int y, .int b]) (rest := []) (c_read_out l G ad ce j _ hK y b (Or.inr (Or.inr hy))) g_C_100 hk rfl rfl ⟨by decide, by decide⟩ ⟨by decide, by decide⟩ rfl (Nat.le_of_ble_eq_true rfl) d_C_read_29 ?_
      rintro _ _ _ ⟨rfl, rfl, rfl⟩
      show AW X 5 0 0 ad ce 32 [(4, .ref (ad (1, j, 0))), (0, .ref (ad (0, 0, 0))), (1, .int (nI j)), (2, .int y), (3, .int b)] [.int (-1)]
      refine aw_iret C E (rfl) (by decide) (by decide) d_C_read_32 ?_
      rw [show f_read S (nI j) y b = (-1, S) from by simp only [f_read, ix_in hj (show s_cn S < 2 ^ 31 by omega), ix_out hy]]
      exact rC.of hL ⟨rfl, rfl, rfl⟩
    · skip
      show AW X 5 0 0 ad ce 0 [(0, .ref (ad (0, 0, 0))), (1, .int (nI j)), (2, .int y), (3, .int b)] []
      refine aw_aload_n C d_C_read_0 rfl (j := 0) rfl ?_
      refine aw_iload_n C d_C_read_1 rfl (j := 1) rfl ?_
      refine aw_callV C I (k := (0, 0, 0)) (as := [.int (nI j)]) (rest := []) (c_findC_in l G ad ce S hL j hj) g_C_56 ho rfl rfl ⟨by decide, by decide⟩ ⟨by decide, by decide⟩ rfl (Nat.le_of_ble_eq_true rfl) d_C_read_2 ?_
      rintro _ _ _ ⟨rfl, rfl, rfl⟩
      show AW X 5 0 0 ad ce 5 [(0, .ref (ad (0, 0, 0))), (1, .int (nI j)), (2, .int y), (3, .int b)] [.ref (ad (1, j, 0))]
      have hK := hcars j hj
      have hK0 := hK
      obtain ⟨hk, hby, hdu, hwo, hrd, hpt, ⟨hn1, hn2⟩, hps⟩ := hK0
      refine aw_astore C (lv' := [(4, .ref (ad (1, j, 0))), (0, .ref (ad (0, 0, 0))), (1, .int (nI j)), (2, .int y), (3, .int b)]) d_C_read_5 (by decide) rfl ?_
      refine aw_aload C d_C_read_7 (j := 0) rfl ?_
      refine aw_ifnull C d_C_read_9 ?_
      refine aw_iload_n C d_C_read_12 rfl (j := 4) rfl ?_
      refine aw_iconst C (v := 0) d_C_read_13 (by decide) ?_
      refine aw_sipush C (v := 255) d_C_read_14 (by decide) ?_
      refine aw_callS C I (as := [.int b, .int 0, .int 255]) (rest := []) (c_within l G ad ce b 0 255) g_C_42 ⟨by decide, by decide⟩ ⟨by decide, by decide⟩ rfl (Nat.le_of_ble_eq_true rfl) d_C_read_17 ?_
      rintro _ _ _ ⟨rfl, rfl, rfl⟩
      show AW X 5 0 0 ad ce 20 [(4, .ref (ad (1, j, 0))), (0, .ref (ad (0, 0, 0))), (1, .int (nI j)), (2, .int y), (3, .int b)] [.int (bI (decide (0 ≤ b ∧ b ≤ 255)))]
      refine aw_topi (v' := 0) ((bI_f h1).symm) ?_
      show AW X 5 0 0 ad ce 20 [(4, .ref (ad (1, j, 0))), (0, .ref (ad (0, 0, 0))), (1, .int (nI j)), (2, .int y), (3, .int b)] [.int 0]
      refine aw_if_ne C (tgt := 25) d_C_read_20 (by decide) (fun h20 => absurd h20 (by decide)) (fun h20 => ?_)
      refine aw_iconst C (v := (-1)) d_C_read_23 (by decide) ?_
      refine aw_iret C E (rfl) (by decide) (by decide) d_C_read_24 ?_
      rw [show f_read S (nI j) y b = (-1, S) from by simp only [f_read, ix_in hj (show s_cn S < 2 ^ 31 by omega), ix_out hy]]
      exact rC.of hL ⟨rfl, rfl, rfl⟩
  by_cases hc : (0 ≤ b ∧ b ≤ 255) ∧ k_st (s_car S j) = 2 ∧ ¬ k_ps (s_car S j) = 0 ∧ k_rd (s_car S j) p = 0
  · skip
    show AW X 5 0 0 ad ce 0 [(0, .ref (ad (0, 0, 0))), (1, .int (nI j)), (2, .int (nI p)), (3, .int b)] []
    refine aw_aload_n C d_C_read_0 rfl (j := 0) rfl ?_
    refine aw_iload_n C d_C_read_1 rfl (j := 1) rfl ?_
    refine aw_callV C I (k := (0, 0, 0)) (as := [.int (nI j)]) (rest := []) (c_findC_in l G ad ce S hL j hj) g_C_56 ho rfl rfl ⟨by decide, by decide⟩ ⟨by decide, by decide⟩ rfl (Nat.le_of_ble_eq_true rfl) d_C_read_2 ?_
    rintro _ _ _ ⟨rfl, rfl, rfl⟩
    show AW X 5 0 0 ad ce 5 [(0, .ref (ad (0, 0, 0))), (1, .int (nI j)), (2, .int (nI p)), (3, .int b)] [.ref (ad (1, j, 0))]
    have hK := hcars j hj
    have hK0 := hK
    obtain ⟨hk, hby, hdu, hwo, hrd, hpt, ⟨hn1, hn2⟩, hps⟩ := hK0
    refine aw_astore C (lv' := [(4, .ref (ad (1, j, 0))), (0, .ref (ad (0, 0, 0))), (1, .int (nI j)), (2, .int (nI p)), (3, .int b)]) d_C_read_5 (by decide) rfl ?_
    refine aw_aload C d_C_read_7 (j := 0) rfl ?_
    refine aw_ifnull C d_C_read_9 ?_
    refine aw_iload_n C d_C_read_12 rfl (j := 4) rfl ?_
    refine aw_iconst C (v := 0) d_C_read_13 (by decide) ?_
    refine aw_sipush C (v := 255) d_C_read_14 (by decide) ?_
    refine aw_callS C I (as := [.int b, .int 0, .int 255]) (rest := []) (c_within l G ad ce b 0 255) g_C_42 ⟨by decide, by decide⟩ ⟨by decide, by decide⟩ rfl (Nat.le_of_ble_eq_true rfl) d_C_read_17 ?_
    rintro _ _ _ ⟨rfl, rfl, rfl⟩
    show AW X 5 0 0 ad ce 20 [(4, .ref (ad (1, j, 0))), (0, .ref (ad (0, 0, 0))), (1, .int (nI j)), (2, .int (nI p)), (3, .int b)] [.int (bI (decide (0 ≤ b ∧ b ≤ 255)))]
    refine aw_topi (v' := 1) ((bI_t hc.1).symm) ?_
    show AW X 5 0 0 ad ce 20 [(4, .ref (ad (1, j, 0))), (0, .ref (ad (0, 0, 0))), (1, .int (nI j)), (2, .int (nI p)), (3, .int b)] [.int 1]
    refine aw_if_ne C (tgt := 25) d_C_read_20 (by decide) (fun h20 => ?_) (fun h20 => absurd h20 (by decide))
    refine aw_aload C d_C_read_25 (j := 0) rfl ?_
    refine aw_iload_n C d_C_read_27 rfl (j := 3) rfl ?_
    refine aw_iload_n C d_C_read_28 rfl (j := 4) rfl ?_
    refine aw_callV C I (k := (1, j, 0)) (as := [.int (nI p), .int b]) (rest := []) (c_read_ok l G ad ce j _ hK p hp0 b hc.2.1 hc.2.2.1 hc.2.2.2) g_C_100 hk rfl rfl ⟨by decide, by decide⟩ ⟨by decide, by decide⟩ rfl (Nat.le_of_ble_eq_true rfl) d_C_read_29 ?_
    rintro _ _ ce9 ⟨rfl, rfl, hf9, hK9⟩
    show AW X 5 0 0 ad ce9 32 [(4, .ref (ad (1, j, 0))), (0, .ref (ad (0, 0, 0))), (1, .int (nI j)), (2, .int (nI p)), (3, .int b)] [.int (if b = k_du (s_car S j) p then 1 else 0)]
    refine aw_iret C E (rfl) (by decide) (by decide) d_C_read_32 ?_
    rw [show f_read S (nI j) (nI p) b = ((if b = k_du (s_car S j) p then 1 else 0), s_set S j (k_read (s_car S j) p b)) from by simp only [f_read, ix_in hj (show s_cn S < 2 ^ 31 by omega), ix_in hp0 (show k_np (s_car S j) < 2 ^ 31 by omega), if_pos hc]]
    exact rC.car hL hj hf9 hK9
  by_cases h1 : 0 ≤ b ∧ b ≤ 255
  · have hn : ¬ k_st (s_car S j) = 2 ∨ k_ps (s_car S j) = 0 ∨ ¬ k_rd (s_car S j) p = 0 := by
      by_cases h2 : k_st (s_car S j) = 2
      · refine Or.inr ?_
        by_cases h3 : k_ps (s_car S j) = 0
        · exact Or.inl h3
        · exact Or.inr (fun h4 => hc ⟨h1, h2, h3, h4⟩)
      · exact Or.inl h2
    show AW X 5 0 0 ad ce 0 [(0, .ref (ad (0, 0, 0))), (1, .int (nI j)), (2, .int (nI p)), (3, .int b)] []
    refine aw_aload_n C d_C_read_0 rfl (j := 0) rfl ?_
    refine aw_iload_n C d_C_read_1 rfl (j := 1) rfl ?_
    refine aw_callV C I (k := (0, 0, 0)) (as := [.int (nI j)]) (rest := []) (c_findC_in l G ad ce S hL j hj) g_C_56 ho rfl rfl ⟨by decide, by decide⟩ ⟨by decide, by decide⟩ rfl (Nat.le_of_ble_eq_true rfl) d_C_read_2 ?_
    rintro _ _ _ ⟨rfl, rfl, rfl⟩
    show AW X 5 0 0 ad ce 5 [(0, .ref (ad (0, 0, 0))), (1, .int (nI j)), (2, .int (nI p)), (3, .int b)] [.ref (ad (1, j, 0))]
    have hK := hcars j hj
    have hK0 := hK
    obtain ⟨hk, hby, hdu, hwo, hrd, hpt, ⟨hn1, hn2⟩, hps⟩ := hK0
    refine aw_astore C (lv' := [(4, .ref (ad (1, j, 0))), (0, .ref (ad (0, 0, 0))), (1, .int (nI j)), (2, .int (nI p)), (3, .int b)]) d_C_read_5 (by decide) rfl ?_
    refine aw_aload C d_C_read_7 (j := 0) rfl ?_
    refine aw_ifnull C d_C_read_9 ?_
    refine aw_iload_n C d_C_read_12 rfl (j := 4) rfl ?_
    refine aw_iconst C (v := 0) d_C_read_13 (by decide) ?_
    refine aw_sipush C (v := 255) d_C_read_14 (by decide) ?_
    refine aw_callS C I (as := [.int b, .int 0, .int 255]) (rest := []) (c_within l G ad ce b 0 255) g_C_42 ⟨by decide, by decide⟩ ⟨by decide, by decide⟩ rfl (Nat.le_of_ble_eq_true rfl) d_C_read_17 ?_
    rintro _ _ _ ⟨rfl, rfl, rfl⟩
    show AW X 5 0 0 ad ce 20 [(4, .ref (ad (1, j, 0))), (0, .ref (ad (0, 0, 0))), (1, .int (nI j)), (2, .int (nI p)), (3, .int b)] [.int (bI (decide (0 ≤ b ∧ b ≤ 255)))]
    refine aw_topi (v' := 1) ((bI_t h1).symm) ?_
    show AW X 5 0 0 ad ce 20 [(4, .ref (ad (1, j, 0))), (0, .ref (ad (0, 0, 0))), (1, .int (nI j)), (2, .int (nI p)), (3, .int b)] [.int 1]
    refine aw_if_ne C (tgt := 25) d_C_read_20 (by decide) (fun h20 => ?_) (fun h20 => absurd h20 (by decide))
    refine aw_aload C d_C_read_25 (j := 0) rfl ?_
    refine aw_iload_n C d_C_read_27 rfl (j := 3) rfl ?_
    refine aw_iload_n C d_C_read_28 rfl (j := 4) rfl ?_
    refine aw_callV C I (k := (1, j, 0)) (as := [.int (nI p), .int b]) (rest := []) (c_read_no l G ad ce j _ hK p hp0 b hn) g_C_100 hk rfl rfl ⟨by decide, by decide⟩ ⟨by decide, by decide⟩ rfl (Nat.le_of_ble_eq_true rfl) d_C_read_29 ?_
    rintro _ _ _ ⟨rfl, rfl, rfl⟩
    show AW X 5 0 0 ad ce 32 [(4, .ref (ad (1, j, 0))), (0, .ref (ad (0, 0, 0))), (1, .int (nI j)), (2, .int (nI p)), (3, .int b)] [.int (-1)]
    refine aw_iret C E (rfl) (by decide) (by decide) d_C_read_32 ?_
    rw [show f_read S (nI j) (nI p) b = (-1, S) from by simp only [f_read, ix_in hj (show s_cn S < 2 ^ 31 by omega), ix_in hp0 (show k_np (s_car S j) < 2 ^ 31 by omega), if_neg hc]]
    exact rC.of hL ⟨rfl, rfl, rfl⟩
  · skip
    show AW X 5 0 0 ad ce 0 [(0, .ref (ad (0, 0, 0))), (1, .int (nI j)), (2, .int (nI p)), (3, .int b)] []
    refine aw_aload_n C d_C_read_0 rfl (j := 0) rfl ?_
    refine aw_iload_n C d_C_read_1 rfl (j := 1) rfl ?_
    refine aw_callV C I (k := (0, 0, 0)) (as := [.int (nI j)]) (rest := []) (c_findC_in l G ad ce S hL j hj) g_C_56 ho rfl rfl ⟨by decide, by decide⟩ ⟨by decide, by decide⟩ rfl (Nat.le_of_ble_eq_true rfl) d_C_read_2 ?_
    rintro _ _ _ ⟨rfl, rfl, rfl⟩
    show AW X 5 0 0 ad ce 5 [(0, .ref (ad (0, 0, 0))), (1, .int (nI j)), (2, .int (nI p)), (3, .int b)] [.ref (ad (1, j, 0))]
    have hK := hcars j hj
    have hK0 := hK
    obtain ⟨hk, hby, hdu, hwo, hrd, hpt, ⟨hn1, hn2⟩, hps⟩ := hK0
    refine aw_astore C (lv' := [(4, .ref (ad (1, j, 0))), (0, .ref (ad (0, 0, 0))), (1, .int (nI j)), (2, .int (nI p)), (3, .int b)]) d_C_read_5 (by decide) rfl ?_
    refine aw_aload C d_C_read_7 (j := 0) rfl ?_
    refine aw_ifnull C d_C_read_9 ?_
    refine aw_iload_n C d_C_read_12 rfl (j := 4) rfl ?_
    refine aw_iconst C (v := 0) d_C_read_13 (by decide) ?_
    refine aw_sipush C (v := 255) d_C_read_14 (by decide) ?_
    refine aw_callS C I (as := [.int b, .int 0, .int 255]) (rest := []) (c_within l G ad ce b 0 255) g_C_42 ⟨by decide, by decide⟩ ⟨by decide, by decide⟩ rfl (Nat.le_of_ble_eq_true rfl) d_C_read_17 ?_
    rintro _ _ _ ⟨rfl, rfl, rfl⟩
    show AW X 5 0 0 ad ce 20 [(4, .ref (ad (1, j, 0))), (0, .ref (ad (0, 0, 0))), (1, .int (nI j)), (2, .int (nI p)), (3, .int b)] [.int (bI (decide (0 ≤ b ∧ b ≤ 255)))]
    refine aw_topi (v' := 0) ((bI_f h1).symm) ?_
    show AW X 5 0 0 ad ce 20 [(4, .ref (ad (1, j, 0))), (0, .ref (ad (0, 0, 0))), (1, .int (nI j)), (2, .int (nI p)), (3, .int b)] [.int 0]
    refine aw_if_ne C (tgt := 25) d_C_read_20 (by decide) (fun h20 => absurd h20 (by decide)) (fun h20 => ?_)
    refine aw_iconst C (v := (-1)) d_C_read_23 (by decide) ?_
    refine aw_iret C E (rfl) (by decide) (by decide) d_C_read_24 ?_
    rw [show f_read S (nI j) (nI p) b = (-1, S) from by simp only [f_read, ix_in hj (show s_cn S < 2 ^ 31 by omega), ix_in hp0 (show k_np (s_car S j) < 2 ^ 31 by omega), if_neg hc]]
    exact rC.of hL ⟨rfl, rfl, rfl⟩
set_option maxRecDepth 100000 in
set_option maxHeartbeats 4000000 in
theorem C_shred (l : Launch) (G : aw_G) (ad : aw_Ad) (ce : aw_He) (S : SysS) (hL : LayC S ad ce) (x m : Int32) : CT l G M_C_shred 1 22 0 0 [.ref (ad (0, 0, 0)), .int x, .int m] ad ce (rC (some (.int (f_shred S x m).1)) (f_shred S x m).2 ad ce) := by
  refine CT.of (by decide) (Nat.le_of_ble_eq_true rfl) ?_
  intro X C I E
  have hL0 := hL
  obtain ⟨ho, hca, hpa, hli, hlo, hcars, hpaps, hnoc, hnop, hb1, hb2, hb3, hb4⟩ := hL0
  rcases ix_cases x (n := s_cn S) (by omega) with hx | ⟨j, hj, rfl⟩
  · skip
    show AW X 4 0 0 ad ce 0 [(0, .ref (ad (0, 0, 0))), (1, .int x), (2, .int m)] []
    refine aw_aload_n C d_C_shred_0 rfl (j := 0) rfl ?_
    refine aw_iload_n C d_C_shred_1 rfl (j := 1) rfl ?_
    refine aw_callV C I (k := (0, 0, 0)) (as := [.int x]) (rest := []) (c_findC_out l G ad ce S hL x hx) g_C_56 ho rfl rfl ⟨by decide, by decide⟩ ⟨by decide, by decide⟩ rfl (Nat.le_of_ble_eq_true rfl) d_C_shred_2 ?_
    rintro _ _ _ ⟨rfl, rfl, rfl⟩
    show AW X 4 0 0 ad ce 5 [(0, .ref (ad (0, 0, 0))), (1, .int x), (2, .int m)] [.null]
    refine aw_astore_nN C (lv' := [(3, .null), (0, .ref (ad (0, 0, 0))), (1, .int x), (2, .int m)]) d_C_shred_5 rfl (by decide) rfl ?_
    refine aw_aload_nN C d_C_shred_6 rfl (j := 0) rfl ?_
    refine aw_ifnullN C (tgt := 20) d_C_shred_7 (by decide) ?_
    refine aw_iconst C (v := 0) d_C_shred_20 (by decide) ?_
    refine aw_iret C E (rfl) (by decide) (by decide) d_C_shred_21 ?_
    rw [show f_shred S x m = (0, S) from by simp only [f_shred, ix_out hx]]
    exact rC.of hL ⟨rfl, rfl, rfl⟩
  by_cases h1 : 1 ≤ m ∧ m ≤ 100
  · skip
    show AW X 4 0 0 ad ce 0 [(0, .ref (ad (0, 0, 0))), (1, .int (nI j)), (2, .int m)] []
    refine aw_aload_n C d_C_shred_0 rfl (j := 0) rfl ?_
    refine aw_iload_n C d_C_shred_1 rfl (j := 1) rfl ?_
    refine aw_callV C I (k := (0, 0, 0)) (as := [.int (nI j)]) (rest := []) (c_findC_in l G ad ce S hL j hj) g_C_56 ho rfl rfl ⟨by decide, by decide⟩ ⟨by decide, by decide⟩ rfl (Nat.le_of_ble_eq_true rfl) d_C_shred_2 ?_
    rintro _ _ _ ⟨rfl, rfl, rfl⟩
    show AW X 4 0 0 ad ce 5 [(0, .ref (ad (0, 0, 0))), (1, .int (nI j)), (2, .int m)] [.ref (ad (1, j, 0))]
    have hK := hcars j hj
    have hK0 := hK
    obtain ⟨hk, hby, hdu, hwo, hrd, hpt, ⟨hn1, hn2⟩, hps⟩ := hK0
    refine aw_astore_n C (lv' := [(3, .ref (ad (1, j, 0))), (0, .ref (ad (0, 0, 0))), (1, .int (nI j)), (2, .int m)]) d_C_shred_5 rfl (by decide) rfl ?_
    refine aw_aload_n C d_C_shred_6 rfl (j := 0) rfl ?_
    refine aw_ifnull C d_C_shred_7 ?_
    refine aw_iload_n C d_C_shred_10 rfl (j := 3) rfl ?_
    refine aw_iconst C (v := 1) d_C_shred_11 (by decide) ?_
    refine aw_bipush C (v := 100) d_C_shred_12 (by decide) ?_
    refine aw_callS C I (as := [.int m, .int 1, .int 100]) (rest := []) (c_within l G ad ce m 1 100) g_C_42 ⟨by decide, by decide⟩ ⟨by decide, by decide⟩ rfl (Nat.le_of_ble_eq_true rfl) d_C_shred_14 ?_
    rintro _ _ _ ⟨rfl, rfl, rfl⟩
    show AW X 4 0 0 ad ce 17 [(3, .ref (ad (1, j, 0))), (0, .ref (ad (0, 0, 0))), (1, .int (nI j)), (2, .int m)] [.int (bI (decide (1 ≤ m ∧ m ≤ 100)))]
    refine aw_topi (v' := 1) ((bI_t h1).symm) ?_
    show AW X 4 0 0 ad ce 17 [(3, .ref (ad (1, j, 0))), (0, .ref (ad (0, 0, 0))), (1, .int (nI j)), (2, .int m)] [.int 1]
    refine aw_if_ne C (tgt := 22) d_C_shred_17 (by decide) (fun h17 => ?_) (fun h17 => absurd h17 (by decide))
    refine aw_aload_n C d_C_shred_22 rfl (j := 0) rfl ?_
    refine aw_get C F_K hk 10 (by decide) tw_89 rfl d_C_shred_23 ?_
    refine aw_iconst C (v := 3) d_C_shred_26 (by decide) ?_
    refine aw_icmp_eq C (tgt := 40) d_C_shred_27 (by decide) (fun h27 => ?_) (fun h27 => ?_)
    · refine aw_iload_n C d_C_shred_40 rfl (j := 3) rfl ?_
      refine aw_iconst C (v := 2) d_C_shred_41 (by decide) ?_
      refine aw_bipush C (v := 6) d_C_shred_42 (by decide) ?_
      refine aw_aload_n C d_C_shred_44 rfl (j := 0) rfl ?_
      refine aw_get C F_K hk 0 (by decide) tw_72 rfl d_C_shred_45 ?_
      refine aw_imul C d_C_shred_48 ?_
      refine aw_iadd C d_C_shred_49 ?_
      refine aw_icmp_le C (tgt := 55) d_C_shred_50 (by decide) (fun h50 => ?_) (fun h50 => ?_)
      · refine aw_aload_n C d_C_shred_55 rfl (j := 0) rfl ?_
        refine aw_iconst C (v := 5) d_C_shred_56 (by decide) ?_
        refine ob_put C F_K hk 10 (by decide) tw_89 rfl rfl rfl (Nat.le_of_ble_eq_true rfl) (fs' := [.int (k_kd (s_car S j)), .long (k_sr (s_car S j)), .ref (ad (1, j, 1)), .ref (ad (1, j, 2)), .ref (ad (1, j, 3)), .ref (ad (1, j, 4)), .ref (ad (1, j, 5)), .int (nI (k_ps (s_car S j))), .int (nI (cnt (k_rd (s_car S j)) (k_np (s_car S j)))), .int (k_un (s_car S j)), .int 5, .int (k_la (s_car S j))]) rfl d_C_shred_57 ?_
        intro ce1 fw1 hk
        have ho : ce1 (0, 0, 0) = some (.inr (0, [.ref (ad (0, 0, 1)), .int (nI (s_cn S)), .ref (ad (0, 0, 2)), .int (nI (s_pn S)), .ref (ad (0, 0, 3)), .int (nI (s_ln S)), .ref (ad (0, 0, 4)), .int (nI (s_on S))])) := (fw1 _ (by simp)).trans ho
        have hca := hca.tr (fw1 _ (by simp))
        have hpa := hpa.tr (fw1 _ (by simp))
        have hli := hli.tr (fw1 _ (by simp))
        have hlo := hlo.tr (fw1 _ (by simp))
        have hby := hby.tr (fw1 _ (by simp))
        have hdu := hdu.tr (fw1 _ (by simp))
        have hwo := hwo.tr (fw1 _ (by simp))
        have hrd := hrd.tr (fw1 _ (by simp))
        have hpt := hpt.tr (fw1 _ (by simp))
        refine aw_iconst C (v := 1) d_C_shred_60 (by decide) ?_
        refine aw_iret C E (rfl) (by decide) (by decide) d_C_shred_61 ?_
        have hK9 : Car ad ce1 j (k_sSt (s_car S j) 5) := ⟨hk, hby, hdu, hwo, hrd, hpt, ⟨hn1, hn2⟩, hps⟩
        have hcn : (1 ≤ m ∧ m ≤ 100) ∧ (k_st (s_car S j) = 3 ∨ k_st (s_car S j) = 4) ∧ ¬ 2 + 6 * k_kd (s_car S j) < m := ⟨h1, by first | exact Or.inl h27 | exact Or.inr h35, fun q => absurd h50 (by (try simp only [Int32.le_iff_toInt_le, Int32.lt_iff_toInt_lt] at q ⊢); omega)⟩
        rw [show f_shred S (nI j) m = (1, s_set S j (k_sSt (s_car S j) 5)) from by simp only [f_shred, ix_in hj (show s_cn S < 2 ^ 31 by omega), if_pos hcn]]
        exact rC.car hL hj (fr1 fw1) hK9
      · refine aw_iconst C (v := 0) d_C_shred_53 (by decide) ?_
        refine aw_iret C E (rfl) (by decide) (by decide) d_C_shred_54 ?_
        have hcn : ¬ ((1 ≤ m ∧ m ≤ 100) ∧ (k_st (s_car S j) = 3 ∨ k_st (s_car S j) = 4) ∧ ¬ 2 + 6 * k_kd (s_car S j) < m) := fun q => q.2.2 (by (try simp only [Int32.le_iff_toInt_le, Int32.lt_iff_toInt_lt] at h50 ⊢); omega)
        rw [show f_shred S (nI j) m = (0, S) from by simp only [f_shred, ix_in hj (show s_cn S < 2 ^ 31 by omega), if_neg hcn]]
        exact rC.of hL ⟨rfl, rfl, rfl⟩
    · refine aw_aload_n C d_C_shred_30 rfl (j := 0) rfl ?_
      refine aw_get C F_K hk 10 (by decide) tw_89 rfl d_C_shred_31 ?_
      refine aw_iconst C (v := 4) d_C_shred_34 (by decide) ?_
      refine aw_icmp_eq C (tgt := 40) d_C_shred_35 (by decide) (fun h35 => ?_) (fun h35 => ?_)
      · refine aw_iload_n C d_C_shred_40 rfl (j := 3) rfl ?_
        refine aw_iconst C (v := 2) d_C_shred_41 (by decide) ?_
        refine aw_bipush C (v := 6) d_C_shred_42 (by decide) ?_
        refine aw_aload_n C d_C_shred_44 rfl (j := 0) rfl ?_
        refine aw_get C F_K hk 0 (by decide) tw_72 rfl d_C_shred_45 ?_
        refine aw_imul C d_C_shred_48 ?_
        refine aw_iadd C d_C_shred_49 ?_
        refine aw_icmp_le C (tgt := 55) d_C_shred_50 (by decide) (fun h50 => ?_) (fun h50 => ?_)
        · refine aw_aload_n C d_C_shred_55 rfl (j := 0) rfl ?_
          refine aw_iconst C (v := 5) d_C_shred_56 (by decide) ?_
          refine ob_put C F_K hk 10 (by decide) tw_89 rfl rfl rfl (Nat.le_of_ble_eq_true rfl) (fs' := [.int (k_kd (s_car S j)), .long (k_sr (s_car S j)), .ref (ad (1, j, 1)), .ref (ad (1, j, 2)), .ref (ad (1, j, 3)), .ref (ad (1, j, 4)), .ref (ad (1, j, 5)), .int (nI (k_ps (s_car S j))), .int (nI (cnt (k_rd (s_car S j)) (k_np (s_car S j)))), .int (k_un (s_car S j)), .int 5, .int (k_la (s_car S j))]) rfl d_C_shred_57 ?_
          intro ce2 fw2 hk
          have ho : ce2 (0, 0, 0) = some (.inr (0, [.ref (ad (0, 0, 1)), .int (nI (s_cn S)), .ref (ad (0, 0, 2)), .int (nI (s_pn S)), .ref (ad (0, 0, 3)), .int (nI (s_ln S)), .ref (ad (0, 0, 4)), .int (nI (s_on S))])) := (fw2 _ (by simp)).trans ho
          have hca := hca.tr (fw2 _ (by simp))
          have hpa := hpa.tr (fw2 _ (by simp))
          have hli := hli.tr (fw2 _ (by simp))
          have hlo := hlo.tr (fw2 _ (by simp))
          have hby := hby.tr (fw2 _ (by simp))
          have hdu := hdu.tr (fw2 _ (by simp))
          have hwo := hwo.tr (fw2 _ (by simp))
          have hrd := hrd.tr (fw2 _ (by simp))
          have hpt := hpt.tr (fw2 _ (by simp))
          refine aw_iconst C (v := 1) d_C_shred_60 (by decide) ?_
          refine aw_iret C E (rfl) (by decide) (by decide) d_C_shred_61 ?_
          have hK9 : Car ad ce2 j (k_sSt (s_car S j) 5) := ⟨hk, hby, hdu, hwo, hrd, hpt, ⟨hn1, hn2⟩, hps⟩
          have hcn : (1 ≤ m ∧ m ≤ 100) ∧ (k_st (s_car S j) = 3 ∨ k_st (s_car S j) = 4) ∧ ¬ 2 + 6 * k_kd (s_car S j) < m := ⟨h1, by first | exact Or.inl h27 | exact Or.inr h35, fun q => absurd h50 (by (try simp only [Int32.le_iff_toInt_le, Int32.lt_iff_toInt_lt] at q ⊢); omega)⟩
          rw [show f_shred S (nI j) m = (1, s_set S j (k_sSt (s_car S j) 5)) from by simp only [f_shred, ix_in hj (show s_cn S < 2 ^ 31 by omega), if_pos hcn]]
          exact rC.car hL hj (fr1 fw2) hK9
        · refine aw_iconst C (v := 0) d_C_shred_53 (by decide) ?_
          refine aw_iret C E (rfl) (by decide) (by decide) d_C_shred_54 ?_
          have hcn : ¬ ((1 ≤ m ∧ m ≤ 100) ∧ (k_st (s_car S j) = 3 ∨ k_st (s_car S j) = 4) ∧ ¬ 2 + 6 * k_kd (s_car S j) < m) := fun q => q.2.2 (by (try simp only [Int32.le_iff_toInt_le, Int32.lt_iff_toInt_lt] at h50 ⊢); omega)
          rw [show f_shred S (nI j) m = (0, S) from by simp only [f_shred, ix_in hj (show s_cn S < 2 ^ 31 by omega), if_neg hcn]]
          exact rC.of hL ⟨rfl, rfl, rfl⟩
      · refine aw_iconst C (v := 0) d_C_shred_38 (by decide) ?_
        refine aw_iret C E (rfl) (by decide) (by decide) d_C_shred_39 ?_
        have hcn : ¬ ((1 ≤ m ∧ m ≤ 100) ∧ (k_st (s_car S j) = 3 ∨ k_st (s_car S j) = 4) ∧ ¬ 2 + 6 * k_kd (s_car S j) < m) := fun q => q.2.1.elim h27 h35
        rw [show f_shred S (nI j) m = (0, S) from by simp only [f_shred, ix_in hj (show s_cn S < 2 ^ 31 by omega), if_neg hcn]]
        exact rC.of hL ⟨rfl, rfl, rfl⟩
  · skip
    show AW X 4 0 0 ad ce 0 [(0, .ref (ad (0, 0, 0))), (1, .int (nI j)), (2, .int m)] []
    refine aw_aload_n C d_C_shred_0 rfl (j := 0) rfl ?_
    refine aw_iload_n C d_C_shred_1 rfl (j := 1) rfl ?_
    refine aw_callV C I (k := (0, 0, 0)) (as := [.int (nI j)]) (rest := []) (c_findC_in l G ad ce S hL j hj) g_C_56 ho rfl rfl ⟨by decide, by decide⟩ ⟨by decide, by decide⟩ rfl (Nat.le_of_ble_eq_true rfl) d_C_shred_2 ?_
    rintro _ _ _ ⟨rfl, rfl, rfl⟩
    show AW X 4 0 0 ad ce 5 [(0, .ref (ad (0, 0, 0))), (1, .int (nI j)), (2, .int m)] [.ref (ad (1, j, 0))]
    have hK := hcars j hj
    have hK0 := hK
    obtain ⟨hk, hby, hdu, hwo, hrd, hpt, ⟨hn1, hn2⟩, hps⟩ := hK0
    refine aw_astore_n C (lv' := [(3, .ref (ad (1, j, 0))), (0, .ref (ad (0, 0, 0))), (1, .int (nI j)), (2, .int m)]) d_C_shred_5 rfl (by decide) rfl ?_
    refine aw_aload_n C d_C_shred_6 rfl (j := 0) rfl ?_
    refine aw_ifnull C d_C_shred_7 ?_
    refine aw_iload_n C d_C_shred_10 rfl (j := 3) rfl ?_
    refine aw_iconst C (v := 1) d_C_shred_11 (by decide) ?_
    refine aw_bipush C (v := 100) d_C_shred_12 (by decide) ?_
    refine aw_callS C I (as := [.int m, .int 1, .int 100]) (rest := []) (c_within l G ad ce m 1 100) g_C_42 ⟨by decide, by decide⟩ ⟨by decide, by decide⟩ rfl (Nat.le_of_ble_eq_true rfl) d_C_shred_14 ?_
    rintro _ _ _ ⟨rfl, rfl, rfl⟩
    show AW X 4 0 0 ad ce 17 [(3, .ref (ad (1, j, 0))), (0, .ref (ad (0, 0, 0))), (1, .int (nI j)), (2, .int m)] [.int (bI (decide (1 ≤ m ∧ m ≤ 100)))]
    refine aw_topi (v' := 0) ((bI_f h1).symm) ?_
    show AW X 4 0 0 ad ce 17 [(3, .ref (ad (1, j, 0))), (0, .ref (ad (0, 0, 0))), (1, .int (nI j)), (2, .int m)] [.int 0]
    refine aw_if_ne C (tgt := 22) d_C_shred_17 (by decide) (fun h17 => absurd h17 (by decide)) (fun h17 => ?_)
    refine aw_iconst C (v := 0) d_C_shred_20 (by decide) ?_
    refine aw_iret C E (rfl) (by decide) (by decide) d_C_shred_21 ?_
    have hcn : ¬ ((1 ≤ m ∧ m ≤ 100) ∧ (k_st (s_car S j) = 3 ∨ k_st (s_car S j) = 4) ∧ ¬ 2 + 6 * k_kd (s_car S j) < m) := fun q => h1 q.1
    rw [show f_shred S (nI j) m = (0, S) from by simp only [f_shred, ix_in hj (show s_cn S < 2 ^ 31 by omega), if_neg hcn]]
    exact rC.of hL ⟨rfl, rfl, rfl⟩
set_option maxRecDepth 100000 in
set_option maxHeartbeats 4000000 in
theorem C_event (l : Launch) (G : aw_G) (ad : aw_Ad) (ce : aw_He) (S : SysS) (hL : LayC S ad ce) (hW : ∀ j, j < s_cn S → 0 ≤ k_st (s_car S j)) (x e p : Int32) : CT l G M_C_event 2 43 0 0 [.ref (ad (0, 0, 0)), .int x, .int e, .int p] ad ce (rC (some (.int (f_event S x e p).1)) (f_event S x e p).2 ad ce) := by
  refine CT.of (by decide) (Nat.le_of_ble_eq_true rfl) ?_
  intro X C I E
  have hL0 := hL
  obtain ⟨ho, hca, hpa, hli, hlo, hcars, hpaps, hnoc, hnop, hb1, hb2, hb3, hb4⟩ := hL0
  rcases ix_cases x (n := s_cn S) (by omega) with hx | ⟨j, hj, rfl⟩
  · skip
    show AW X 5 0 0 ad ce 0 [(0, .ref (ad (0, 0, 0))), (1, .int x), (2, .int e), (3, .int p)] []
    refine aw_aload_n C d_C_event_0 rfl (j := 0) rfl ?_
    refine aw_iload_n C d_C_event_1 rfl (j := 1) rfl ?_
    refine aw_callV C I (k := (0, 0, 0)) (as := [.int x]) (rest := []) (c_findC_out l G ad ce S hL x hx) g_C_56 ho rfl rfl ⟨by decide, by decide⟩ ⟨by decide, by decide⟩ rfl (Nat.le_of_ble_eq_true rfl) d_C_event_2 ?_
    rintro _ _ _ ⟨rfl, rfl, rfl⟩
    show AW X 5 0 0 ad ce 5 [(0, .ref (ad (0, 0, 0))), (1, .int x), (2, .int e), (3, .int p)] [.null]
    refine aw_astoreN C (lv' := [(4, .null), (0, .ref (ad (0, 0, 0))), (1, .int x), (2, .int e), (3, .int p)]) d_C_event_5 (by decide) rfl ?_
    refine aw_aloadN C d_C_event_7 (j := 0) rfl ?_
    refine aw_ifnullN C (tgt := 31) d_C_event_9 (by decide) ?_
    refine aw_iconst C (v := 0) d_C_event_31 (by decide) ?_
    refine aw_iret C E (rfl) (by decide) (by decide) d_C_event_32 ?_
    rw [show f_event S x e p = (0, S) from by simp only [f_event, ix_out hx]]
    exact rC.of hL ⟨rfl, rfl, rfl⟩
  by_cases hc : (0 ≤ p ∧ p ≤ 9) ∧ 0 ≤ evTo e (k_st (s_car S j))
  · skip
    show AW X 5 0 0 ad ce 0 [(0, .ref (ad (0, 0, 0))), (1, .int (nI j)), (2, .int e), (3, .int p)] []
    refine aw_aload_n C d_C_event_0 rfl (j := 0) rfl ?_
    refine aw_iload_n C d_C_event_1 rfl (j := 1) rfl ?_
    refine aw_callV C I (k := (0, 0, 0)) (as := [.int (nI j)]) (rest := []) (c_findC_in l G ad ce S hL j hj) g_C_56 ho rfl rfl ⟨by decide, by decide⟩ ⟨by decide, by decide⟩ rfl (Nat.le_of_ble_eq_true rfl) d_C_event_2 ?_
    rintro _ _ _ ⟨rfl, rfl, rfl⟩
    show AW X 5 0 0 ad ce 5 [(0, .ref (ad (0, 0, 0))), (1, .int (nI j)), (2, .int e), (3, .int p)] [.ref (ad (1, j, 0))]
    have hK := hcars j hj
    have hK0 := hK
    obtain ⟨hk, hby, hdu, hwo, hrd, hpt, ⟨hn1, hn2⟩, hps⟩ := hK0
    refine aw_astore C (lv' := [(4, .ref (ad (1, j, 0))), (0, .ref (ad (0, 0, 0))), (1, .int (nI j)), (2, .int e), (3, .int p)]) d_C_event_5 (by decide) rfl ?_
    refine aw_aload C d_C_event_7 (j := 0) rfl ?_
    refine aw_ifnull C d_C_event_9 ?_
    refine aw_iload_n C d_C_event_12 rfl (j := 4) rfl ?_
    refine aw_callS C I (as := [.int p]) (rest := []) (c_isPerson l G ad ce p) g_C_63 ⟨by decide, by decide⟩ ⟨by decide, by decide⟩ rfl (Nat.le_of_ble_eq_true rfl) d_C_event_13 ?_
    rintro _ _ _ ⟨rfl, rfl, rfl⟩
    show AW X 5 0 0 ad ce 16 [(4, .ref (ad (1, j, 0))), (0, .ref (ad (0, 0, 0))), (1, .int (nI j)), (2, .int e), (3, .int p)] [.int (bI (decide (0 ≤ p ∧ p ≤ 9)))]
    refine aw_topi (v' := 1) ((bI_t hc.1).symm) ?_
    show AW X 5 0 0 ad ce 16 [(4, .ref (ad (1, j, 0))), (0, .ref (ad (0, 0, 0))), (1, .int (nI j)), (2, .int e), (3, .int p)] [.int 1]
    refine aw_if_eq C (tgt := 31) d_C_event_16 (by decide) (fun h16 => absurd h16 (by decide)) (fun h16 => ?_)
    refine aw_iload_n C d_C_event_19 rfl (j := 3) rfl ?_
    refine aw_aload C d_C_event_20 (j := 0) rfl ?_
    refine aw_get C F_K hk 10 (by decide) tw_89 rfl d_C_event_22 ?_
    refine aw_callS C I (as := [.int e, .int (k_st (s_car S j))]) (rest := []) (c_leadsFrom l G ad ce e (k_st (s_car S j)) (hW j hj)) g_C_67 ⟨by decide, by decide⟩ ⟨by decide, by decide⟩ rfl (Nat.le_of_ble_eq_true rfl) d_C_event_25 ?_
    rintro _ _ _ ⟨rfl, rfl, rfl⟩
    show AW X 5 0 0 ad ce 28 [(4, .ref (ad (1, j, 0))), (0, .ref (ad (0, 0, 0))), (1, .int (nI j)), (2, .int e), (3, .int p)] [.int (bI (decide (0 ≤ evTo e (k_st (s_car S j)))))]
    refine aw_topi (v' := 1) ((bI_t hc.2).symm) ?_
    show AW X 5 0 0 ad ce 28 [(4, .ref (ad (1, j, 0))), (0, .ref (ad (0, 0, 0))), (1, .int (nI j)), (2, .int e), (3, .int p)] [.int 1]
    refine aw_if_ne C (tgt := 33) d_C_event_28 (by decide) (fun h28 => ?_) (fun h28 => absurd h28 (by decide))
    refine aw_iload_n C d_C_event_33 rfl (j := 3) rfl ?_
    refine aw_iconst C (v := 3) d_C_event_34 (by decide) ?_
    refine aw_icmp_ne C (tgt := 43) d_C_event_35 (by decide) (fun h35 => ?_) (fun h35 => ?_)
    · refine aw_aload C d_C_event_43 (j := 0) rfl ?_
      refine aw_iload_n C d_C_event_45 rfl (j := 3) rfl ?_
      refine aw_callS C I (as := [.int e]) (rest := [.ref (ad (1, j, 0))]) (c_leadsTo l G ad ce e (k_st (s_car S j)) hc.2) g_C_74 ⟨by decide, by decide⟩ ⟨by decide, by decide⟩ rfl (Nat.le_of_ble_eq_true rfl) d_C_event_46 ?_
      rintro _ _ _ ⟨rfl, rfl, rfl⟩
      show AW X 5 0 0 ad ce 49 [(4, .ref (ad (1, j, 0))), (0, .ref (ad (0, 0, 0))), (1, .int (nI j)), (2, .int e), (3, .int p)] [.int (evTo e (k_st (s_car S j))), .ref (ad (1, j, 0))]
      refine ob_put C F_K hk 10 (by decide) tw_89 rfl rfl rfl (Nat.le_of_ble_eq_true rfl) (fs' := [.int (k_kd (s_car S j)), .long (k_sr (s_car S j)), .ref (ad (1, j, 1)), .ref (ad (1, j, 2)), .ref (ad (1, j, 3)), .ref (ad (1, j, 4)), .ref (ad (1, j, 5)), .int (nI (k_ps (s_car S j))), .int (nI (cnt (k_rd (s_car S j)) (k_np (s_car S j)))), .int (k_un (s_car S j)), .int (evTo e (k_st (s_car S j))), .int (k_la (s_car S j))]) rfl d_C_event_49 ?_
      intro ce3 fw3 hk
      have ho : ce3 (0, 0, 0) = some (.inr (0, [.ref (ad (0, 0, 1)), .int (nI (s_cn S)), .ref (ad (0, 0, 2)), .int (nI (s_pn S)), .ref (ad (0, 0, 3)), .int (nI (s_ln S)), .ref (ad (0, 0, 4)), .int (nI (s_on S))])) := (fw3 _ (by simp)).trans ho
      have hca := hca.tr (fw3 _ (by simp))
      have hpa := hpa.tr (fw3 _ (by simp))
      have hli := hli.tr (fw3 _ (by simp))
      have hlo := hlo.tr (fw3 _ (by simp))
      have hby := hby.tr (fw3 _ (by simp))
      have hdu := hdu.tr (fw3 _ (by simp))
      have hwo := hwo.tr (fw3 _ (by simp))
      have hrd := hrd.tr (fw3 _ (by simp))
      have hpt := hpt.tr (fw3 _ (by simp))
      refine aw_aload C d_C_event_52 (j := 0) rfl ?_
      refine aw_iload_n C d_C_event_54 rfl (j := 4) rfl ?_
      refine ob_put C F_K hk 11 (by decide) tw_91 rfl rfl rfl (Nat.le_of_ble_eq_true rfl) (fs' := [.int (k_kd (s_car S j)), .long (k_sr (s_car S j)), .ref (ad (1, j, 1)), .ref (ad (1, j, 2)), .ref (ad (1, j, 3)), .ref (ad (1, j, 4)), .ref (ad (1, j, 5)), .int (nI (k_ps (s_car S j))), .int (nI (cnt (k_rd (s_car S j)) (k_np (s_car S j)))), .int (k_un (s_car S j)), .int (evTo e (k_st (s_car S j))), .int p]) rfl d_C_event_55 ?_
      intro ce4 fw4 hk
      have ho : ce4 (0, 0, 0) = some (.inr (0, [.ref (ad (0, 0, 1)), .int (nI (s_cn S)), .ref (ad (0, 0, 2)), .int (nI (s_pn S)), .ref (ad (0, 0, 3)), .int (nI (s_ln S)), .ref (ad (0, 0, 4)), .int (nI (s_on S))])) := (fw4 _ (by simp)).trans ho
      have hca := hca.tr (fw4 _ (by simp))
      have hpa := hpa.tr (fw4 _ (by simp))
      have hli := hli.tr (fw4 _ (by simp))
      have hlo := hlo.tr (fw4 _ (by simp))
      have hby := hby.tr (fw4 _ (by simp))
      have hdu := hdu.tr (fw4 _ (by simp))
      have hwo := hwo.tr (fw4 _ (by simp))
      have hrd := hrd.tr (fw4 _ (by simp))
      have hpt := hpt.tr (fw4 _ (by simp))
      refine aw_iconst C (v := 1) d_C_event_58 (by decide) ?_
      refine aw_iret C E (rfl) (by decide) (by decide) d_C_event_59 ?_
      have ee : k_ev (s_car S j) e p = k_sLa (k_sSt (s_car S j) (evTo e (k_st (s_car S j)))) p := by simp [k_ev, h35]
      have hK9 : Car ad ce4 j (k_ev (s_car S j) e p) := by
        rw [ee]
        exact ⟨hk, hby, hdu, hwo, hrd, hpt, ⟨hn1, hn2⟩, hps⟩
      rw [show f_event S (nI j) e p = (1, s_set S j (k_ev (s_car S j) e p)) from by simp only [f_event, ix_in hj (show s_cn S < 2 ^ 31 by omega), if_pos hc]]
      exact rC.car hL hj ((fr1 fw3).trans (fr1 fw4)) hK9
    · refine aw_aload C d_C_event_38 (j := 0) rfl ?_
      refine aw_callV C I (k := (1, j, 0)) (as := []) (rest := []) (c_forgetPasses l G ad ce j _ hK) g_C_71 hk rfl rfl ⟨by decide, by decide⟩ ⟨by decide, by decide⟩ rfl (Nat.le_of_ble_eq_true rfl) d_C_event_40 ?_
      rintro _ _ ce8 ⟨rfl, rfl, hf8, hk, hby, hdu, hwo, hrd, hpt, -, -⟩
      have hk : ce8 (1, j, 0) = some (.inr (1, [.int (k_kd (k_sNp (s_car S j))), .long (k_sr (k_sNp (s_car S j))), .ref (ad (1, j, 1)), .ref (ad (1, j, 2)), .ref (ad (1, j, 3)), .ref (ad (1, j, 4)), .ref (ad (1, j, 5)), .int (nI (k_ps (k_sNp (s_car S j)))), .int (nI (cnt (k_rd (k_sNp (s_car S j))) (k_np (k_sNp (s_car S j))))), .int (k_un (k_sNp (s_car S j))), .int (k_st (k_sNp (s_car S j))), .int (k_la (k_sNp (s_car S j)))])) := hk
      have hby : arI ce8 (1, j, 1) 0 (k_np (k_sNp (s_car S j))) (k_by (k_sNp (s_car S j))) := hby
      have hdu : arI ce8 (1, j, 2) 0 (k_np (k_sNp (s_car S j))) (k_du (k_sNp (s_car S j))) := hdu
      have hwo : arI ce8 (1, j, 3) 1 (k_np (k_sNp (s_car S j))) (k_wo (k_sNp (s_car S j))) := hwo
      have hrd : arI ce8 (1, j, 4) 1 (k_np (k_sNp (s_car S j))) (k_rd (k_sNp (s_car S j))) := hrd
      have hpt : arI ce8 (1, j, 5) 0 6 (k_pt (k_sNp (s_car S j))) := hpt
      show AW X 5 0 0 ad ce8 43 [(4, .ref (ad (1, j, 0))), (0, .ref (ad (0, 0, 0))), (1, .int (nI j)), (2, .int e), (3, .int p)] []
      refine aw_aload C d_C_event_43 (j := 0) rfl ?_
      refine aw_iload_n C d_C_event_45 rfl (j := 3) rfl ?_
      refine aw_callS C I (as := [.int e]) (rest := [.ref (ad (1, j, 0))]) (c_leadsTo l G ad ce8 e (k_st (s_car S j)) hc.2) g_C_74 ⟨by decide, by decide⟩ ⟨by decide, by decide⟩ rfl (Nat.le_of_ble_eq_true rfl) d_C_event_46 ?_
      rintro _ _ _ ⟨rfl, rfl, rfl⟩
      show AW X 5 0 0 ad ce8 49 [(4, .ref (ad (1, j, 0))), (0, .ref (ad (0, 0, 0))), (1, .int (nI j)), (2, .int e), (3, .int p)] [.int (evTo e (k_st (s_car S j))), .ref (ad (1, j, 0))]
      refine ob_put C F_K hk 10 (by decide) tw_89 rfl rfl rfl (Nat.le_of_ble_eq_true rfl) (fs' := [.int (k_kd (k_sNp (s_car S j))), .long (k_sr (k_sNp (s_car S j))), .ref (ad (1, j, 1)), .ref (ad (1, j, 2)), .ref (ad (1, j, 3)), .ref (ad (1, j, 4)), .ref (ad (1, j, 5)), .int (nI (k_ps (k_sNp (s_car S j)))), .int (nI (cnt (k_rd (k_sNp (s_car S j))) (k_np (k_sNp (s_car S j))))), .int (k_un (k_sNp (s_car S j))), .int (evTo e (k_st (s_car S j))), .int (k_la (k_sNp (s_car S j)))]) rfl d_C_event_49 ?_
      intro ce5 fw5 hk
      have hby := hby.tr (fw5 _ (by simp))
      have hdu := hdu.tr (fw5 _ (by simp))
      have hwo := hwo.tr (fw5 _ (by simp))
      have hrd := hrd.tr (fw5 _ (by simp))
      have hpt := hpt.tr (fw5 _ (by simp))
      refine aw_aload C d_C_event_52 (j := 0) rfl ?_
      refine aw_iload_n C d_C_event_54 rfl (j := 4) rfl ?_
      refine ob_put C F_K hk 11 (by decide) tw_91 rfl rfl rfl (Nat.le_of_ble_eq_true rfl) (fs' := [.int (k_kd (k_sNp (s_car S j))), .long (k_sr (k_sNp (s_car S j))), .ref (ad (1, j, 1)), .ref (ad (1, j, 2)), .ref (ad (1, j, 3)), .ref (ad (1, j, 4)), .ref (ad (1, j, 5)), .int (nI (k_ps (k_sNp (s_car S j)))), .int (nI (cnt (k_rd (k_sNp (s_car S j))) (k_np (k_sNp (s_car S j))))), .int (k_un (k_sNp (s_car S j))), .int (evTo e (k_st (s_car S j))), .int p]) rfl d_C_event_55 ?_
      intro ce6 fw6 hk
      have hby := hby.tr (fw6 _ (by simp))
      have hdu := hdu.tr (fw6 _ (by simp))
      have hwo := hwo.tr (fw6 _ (by simp))
      have hrd := hrd.tr (fw6 _ (by simp))
      have hpt := hpt.tr (fw6 _ (by simp))
      refine aw_iconst C (v := 1) d_C_event_58 (by decide) ?_
      refine aw_iret C E (rfl) (by decide) (by decide) d_C_event_59 ?_
      have ee : k_ev (s_car S j) e p = k_sLa (k_sSt (k_sNp (s_car S j)) (evTo e (k_st (s_car S j)))) p := by simp [k_ev, h35]
      have hK9 : Car ad ce6 j (k_ev (s_car S j) e p) := by
        rw [ee]
        exact ⟨hk, hby, hdu, hwo, hrd, hpt, ⟨hn1, hn2⟩, Nat.zero_le 6⟩
      rw [show f_event S (nI j) e p = (1, s_set S j (k_ev (s_car S j) e p)) from by simp only [f_event, ix_in hj (show s_cn S < 2 ^ 31 by omega), if_pos hc]]
      exact rC.car hL hj (((hf8).trans (fr1 fw5)).trans (fr1 fw6)) hK9
  by_cases h1 : 0 ≤ p ∧ p ≤ 9
  · have h2 : ¬ 0 ≤ evTo e (k_st (s_car S j)) := fun q => hc ⟨h1, q⟩
    show AW X 5 0 0 ad ce 0 [(0, .ref (ad (0, 0, 0))), (1, .int (nI j)), (2, .int e), (3, .int p)] []
    refine aw_aload_n C d_C_event_0 rfl (j := 0) rfl ?_
    refine aw_iload_n C d_C_event_1 rfl (j := 1) rfl ?_
    refine aw_callV C I (k := (0, 0, 0)) (as := [.int (nI j)]) (rest := []) (c_findC_in l G ad ce S hL j hj) g_C_56 ho rfl rfl ⟨by decide, by decide⟩ ⟨by decide, by decide⟩ rfl (Nat.le_of_ble_eq_true rfl) d_C_event_2 ?_
    rintro _ _ _ ⟨rfl, rfl, rfl⟩
    show AW X 5 0 0 ad ce 5 [(0, .ref (ad (0, 0, 0))), (1, .int (nI j)), (2, .int e), (3, .int p)] [.ref (ad (1, j, 0))]
    have hK := hcars j hj
    have hK0 := hK
    obtain ⟨hk, hby, hdu, hwo, hrd, hpt, ⟨hn1, hn2⟩, hps⟩ := hK0
    refine aw_astore C (lv' := [(4, .ref (ad (1, j, 0))), (0, .ref (ad (0, 0, 0))), (1, .int (nI j)), (2, .int e), (3, .int p)]) d_C_event_5 (by decide) rfl ?_
    refine aw_aload C d_C_event_7 (j := 0) rfl ?_
    refine aw_ifnull C d_C_event_9 ?_
    refine aw_iload_n C d_C_event_12 rfl (j := 4) rfl ?_
    refine aw_callS C I (as := [.int p]) (rest := []) (c_isPerson l G ad ce p) g_C_63 ⟨by decide, by decide⟩ ⟨by decide, by decide⟩ rfl (Nat.le_of_ble_eq_true rfl) d_C_event_13 ?_
    rintro _ _ _ ⟨rfl, rfl, rfl⟩
    show AW X 5 0 0 ad ce 16 [(4, .ref (ad (1, j, 0))), (0, .ref (ad (0, 0, 0))), (1, .int (nI j)), (2, .int e), (3, .int p)] [.int (bI (decide (0 ≤ p ∧ p ≤ 9)))]
    refine aw_topi (v' := 1) ((bI_t h1).symm) ?_
    show AW X 5 0 0 ad ce 16 [(4, .ref (ad (1, j, 0))), (0, .ref (ad (0, 0, 0))), (1, .int (nI j)), (2, .int e), (3, .int p)] [.int 1]
    refine aw_if_eq C (tgt := 31) d_C_event_16 (by decide) (fun h16 => absurd h16 (by decide)) (fun h16 => ?_)
    refine aw_iload_n C d_C_event_19 rfl (j := 3) rfl ?_
    refine aw_aload C d_C_event_20 (j := 0) rfl ?_
    refine aw_get C F_K hk 10 (by decide) tw_89 rfl d_C_event_22 ?_
    refine aw_callS C I (as := [.int e, .int (k_st (s_car S j))]) (rest := []) (c_leadsFrom l G ad ce e (k_st (s_car S j)) (hW j hj)) g_C_67 ⟨by decide, by decide⟩ ⟨by decide, by decide⟩ rfl (Nat.le_of_ble_eq_true rfl) d_C_event_25 ?_
    rintro _ _ _ ⟨rfl, rfl, rfl⟩
    show AW X 5 0 0 ad ce 28 [(4, .ref (ad (1, j, 0))), (0, .ref (ad (0, 0, 0))), (1, .int (nI j)), (2, .int e), (3, .int p)] [.int (bI (decide (0 ≤ evTo e (k_st (s_car S j)))))]
    refine aw_topi (v' := 0) ((bI_f h2).symm) ?_
    show AW X 5 0 0 ad ce 28 [(4, .ref (ad (1, j, 0))), (0, .ref (ad (0, 0, 0))), (1, .int (nI j)), (2, .int e), (3, .int p)] [.int 0]
    refine aw_if_ne C (tgt := 33) d_C_event_28 (by decide) (fun h28 => absurd h28 (by decide)) (fun h28 => ?_)
    refine aw_iconst C (v := 0) d_C_event_31 (by decide) ?_
    refine aw_iret C E (rfl) (by decide) (by decide) d_C_event_32 ?_
    rw [show f_event S (nI j) e p = (0, S) from by simp only [f_event, ix_in hj (show s_cn S < 2 ^ 31 by omega), if_neg hc]]
    exact rC.of hL ⟨rfl, rfl, rfl⟩
  · skip
    show AW X 5 0 0 ad ce 0 [(0, .ref (ad (0, 0, 0))), (1, .int (nI j)), (2, .int e), (3, .int p)] []
    refine aw_aload_n C d_C_event_0 rfl (j := 0) rfl ?_
    refine aw_iload_n C d_C_event_1 rfl (j := 1) rfl ?_
    refine aw_callV C I (k := (0, 0, 0)) (as := [.int (nI j)]) (rest := []) (c_findC_in l G ad ce S hL j hj) g_C_56 ho rfl rfl ⟨by decide, by decide⟩ ⟨by decide, by decide⟩ rfl (Nat.le_of_ble_eq_true rfl) d_C_event_2 ?_
    rintro _ _ _ ⟨rfl, rfl, rfl⟩
    show AW X 5 0 0 ad ce 5 [(0, .ref (ad (0, 0, 0))), (1, .int (nI j)), (2, .int e), (3, .int p)] [.ref (ad (1, j, 0))]
    have hK := hcars j hj
    have hK0 := hK
    obtain ⟨hk, hby, hdu, hwo, hrd, hpt, ⟨hn1, hn2⟩, hps⟩ := hK0
    refine aw_astore C (lv' := [(4, .ref (ad (1, j, 0))), (0, .ref (ad (0, 0, 0))), (1, .int (nI j)), (2, .int e), (3, .int p)]) d_C_event_5 (by decide) rfl ?_
    refine aw_aload C d_C_event_7 (j := 0) rfl ?_
    refine aw_ifnull C d_C_event_9 ?_
    refine aw_iload_n C d_C_event_12 rfl (j := 4) rfl ?_
    refine aw_callS C I (as := [.int p]) (rest := []) (c_isPerson l G ad ce p) g_C_63 ⟨by decide, by decide⟩ ⟨by decide, by decide⟩ rfl (Nat.le_of_ble_eq_true rfl) d_C_event_13 ?_
    rintro _ _ _ ⟨rfl, rfl, rfl⟩
    show AW X 5 0 0 ad ce 16 [(4, .ref (ad (1, j, 0))), (0, .ref (ad (0, 0, 0))), (1, .int (nI j)), (2, .int e), (3, .int p)] [.int (bI (decide (0 ≤ p ∧ p ≤ 9)))]
    refine aw_topi (v' := 0) ((bI_f h1).symm) ?_
    show AW X 5 0 0 ad ce 16 [(4, .ref (ad (1, j, 0))), (0, .ref (ad (0, 0, 0))), (1, .int (nI j)), (2, .int e), (3, .int p)] [.int 0]
    refine aw_if_eq C (tgt := 31) d_C_event_16 (by decide) (fun h16 => ?_) (fun h16 => absurd (rfl) h16)
    refine aw_iconst C (v := 0) d_C_event_31 (by decide) ?_
    refine aw_iret C E (rfl) (by decide) (by decide) d_C_event_32 ?_
    rw [show f_event S (nI j) e p = (0, S) from by simp only [f_event, ix_in hj (show s_cn S < 2 ^ 31 by omega), if_neg hc]]
    exact rC.of hL ⟨rfl, rfl, rfl⟩
