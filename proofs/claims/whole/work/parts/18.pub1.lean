set_option maxRecDepth 100000 in
set_option maxHeartbeats 4000000 in
theorem C_state (l : Launch) (G : aw_G) (ad : aw_Ad) (ce : aw_He) (S : SysS) (hL : LayC S ad ce) (x : Int32) : CT l G M_C_state 1 21 0 0 [.ref (ad (0, 0, 0)), .int x] ad ce (rN (some (.int (f_state S x))) ad ce) := by
  refine CT.of (by decide) (Nat.le_of_ble_eq_true rfl) ?_
  intro X C I E
  have hL0 := hL
  obtain ⟨ho, hca, hpa, hli, hlo, hcars, hpaps, hnoc, hnop, hb1, hb2, hb3, hb4⟩ := hL0
  rcases ix_cases x (n := s_cn S) (by omega) with hx | ⟨j, hj, rfl⟩
  · skip
    show AW X 3 0 0 ad ce 0 [(0, .ref (ad (0, 0, 0))), (1, .int x)] []
    refine aw_aload_n C d_C_state_0 rfl (j := 0) rfl ?_
    refine aw_iload_n C d_C_state_1 rfl (j := 1) rfl ?_
    refine aw_callV C I (k := (0, 0, 0)) (as := [.int x]) (rest := []) (c_findC_out l G ad ce S hL x hx) g_C_56 ho rfl rfl ⟨by decide, by decide⟩ ⟨by decide, by decide⟩ rfl (Nat.le_of_ble_eq_true rfl) d_C_state_2 ?_
    rintro _ _ _ ⟨rfl, rfl, rfl⟩
    show AW X 3 0 0 ad ce 5 [(0, .ref (ad (0, 0, 0))), (1, .int x)] [.null]
    refine aw_astore_nN C (lv' := [(2, .null), (0, .ref (ad (0, 0, 0))), (1, .int x)]) d_C_state_5 rfl (by decide) rfl ?_
    refine aw_aload_nN C d_C_state_6 rfl (j := 0) rfl ?_
    refine aw_ifnonnullN C d_C_state_7 ?_
    refine aw_iconst C (v := (-1)) d_C_state_10 (by decide) ?_
    refine aw_goto C (tgt := 18) d_C_state_11 (by decide) ?_
    refine aw_iret C E (rfl) (by decide) (by decide) d_C_state_18 ?_
    exact ⟨sI (by simp only [f_state, ix_out hx]), rfl, rfl⟩
  · skip
    show AW X 3 0 0 ad ce 0 [(0, .ref (ad (0, 0, 0))), (1, .int (nI j))] []
    refine aw_aload_n C d_C_state_0 rfl (j := 0) rfl ?_
    refine aw_iload_n C d_C_state_1 rfl (j := 1) rfl ?_
    refine aw_callV C I (k := (0, 0, 0)) (as := [.int (nI j)]) (rest := []) (c_findC_in l G ad ce S hL j hj) g_C_56 ho rfl rfl ⟨by decide, by decide⟩ ⟨by decide, by decide⟩ rfl (Nat.le_of_ble_eq_true rfl) d_C_state_2 ?_
    rintro _ _ _ ⟨rfl, rfl, rfl⟩
    show AW X 3 0 0 ad ce 5 [(0, .ref (ad (0, 0, 0))), (1, .int (nI j))] [.ref (ad (1, j, 0))]
    have hK := hcars j hj
    have hK0 := hK
    obtain ⟨hk, hby, hdu, hwo, hrd, hpt, ⟨hn1, hn2⟩, hps⟩ := hK0
    refine aw_astore_n C (lv' := [(2, .ref (ad (1, j, 0))), (0, .ref (ad (0, 0, 0))), (1, .int (nI j))]) d_C_state_5 rfl (by decide) rfl ?_
    refine aw_aload_n C d_C_state_6 rfl (j := 0) rfl ?_
    refine aw_ifnonnull C (tgt := 14) d_C_state_7 (by decide) ?_
    refine aw_aload_n C d_C_state_14 rfl (j := 0) rfl ?_
    refine aw_get C F_K hk 10 (by decide) tw_89 rfl d_C_state_15 ?_
    refine aw_iret C E (rfl) (by decide) (by decide) d_C_state_18 ?_
    exact ⟨sI (by simp only [f_state, ix_in hj (show s_cn S < 2 ^ 31 by omega)]), rfl, rfl⟩
set_option maxRecDepth 100000 in
set_option maxHeartbeats 4000000 in
theorem C_last (l : Launch) (G : aw_G) (ad : aw_Ad) (ce : aw_He) (S : SysS) (hL : LayC S ad ce) (x : Int32) : CT l G M_C_last 1 21 0 0 [.ref (ad (0, 0, 0)), .int x] ad ce (rN (some (.int (f_last S x))) ad ce) := by
  refine CT.of (by decide) (Nat.le_of_ble_eq_true rfl) ?_
  intro X C I E
  have hL0 := hL
  obtain ⟨ho, hca, hpa, hli, hlo, hcars, hpaps, hnoc, hnop, hb1, hb2, hb3, hb4⟩ := hL0
  rcases ix_cases x (n := s_cn S) (by omega) with hx | ⟨j, hj, rfl⟩
  · skip
    show AW X 3 0 0 ad ce 0 [(0, .ref (ad (0, 0, 0))), (1, .int x)] []
    refine aw_aload_n C d_C_last_0 rfl (j := 0) rfl ?_
    refine aw_iload_n C d_C_last_1 rfl (j := 1) rfl ?_
    refine aw_callV C I (k := (0, 0, 0)) (as := [.int x]) (rest := []) (c_findC_out l G ad ce S hL x hx) g_C_56 ho rfl rfl ⟨by decide, by decide⟩ ⟨by decide, by decide⟩ rfl (Nat.le_of_ble_eq_true rfl) d_C_last_2 ?_
    rintro _ _ _ ⟨rfl, rfl, rfl⟩
    show AW X 3 0 0 ad ce 5 [(0, .ref (ad (0, 0, 0))), (1, .int x)] [.null]
    refine aw_astore_nN C (lv' := [(2, .null), (0, .ref (ad (0, 0, 0))), (1, .int x)]) d_C_last_5 rfl (by decide) rfl ?_
    refine aw_aload_nN C d_C_last_6 rfl (j := 0) rfl ?_
    refine aw_ifnonnullN C d_C_last_7 ?_
    refine aw_iconst C (v := (-1)) d_C_last_10 (by decide) ?_
    refine aw_goto C (tgt := 18) d_C_last_11 (by decide) ?_
    refine aw_iret C E (rfl) (by decide) (by decide) d_C_last_18 ?_
    exact ⟨sI (by simp only [f_last, ix_out hx]), rfl, rfl⟩
  · skip
    show AW X 3 0 0 ad ce 0 [(0, .ref (ad (0, 0, 0))), (1, .int (nI j))] []
    refine aw_aload_n C d_C_last_0 rfl (j := 0) rfl ?_
    refine aw_iload_n C d_C_last_1 rfl (j := 1) rfl ?_
    refine aw_callV C I (k := (0, 0, 0)) (as := [.int (nI j)]) (rest := []) (c_findC_in l G ad ce S hL j hj) g_C_56 ho rfl rfl ⟨by decide, by decide⟩ ⟨by decide, by decide⟩ rfl (Nat.le_of_ble_eq_true rfl) d_C_last_2 ?_
    rintro _ _ _ ⟨rfl, rfl, rfl⟩
    show AW X 3 0 0 ad ce 5 [(0, .ref (ad (0, 0, 0))), (1, .int (nI j))] [.ref (ad (1, j, 0))]
    have hK := hcars j hj
    have hK0 := hK
    obtain ⟨hk, hby, hdu, hwo, hrd, hpt, ⟨hn1, hn2⟩, hps⟩ := hK0
    refine aw_astore_n C (lv' := [(2, .ref (ad (1, j, 0))), (0, .ref (ad (0, 0, 0))), (1, .int (nI j))]) d_C_last_5 rfl (by decide) rfl ?_
    refine aw_aload_n C d_C_last_6 rfl (j := 0) rfl ?_
    refine aw_ifnonnull C (tgt := 14) d_C_last_7 (by decide) ?_
    refine aw_aload_n C d_C_last_14 rfl (j := 0) rfl ?_
    refine aw_get C F_K hk 11 (by decide) tw_91 rfl d_C_last_15 ?_
    refine aw_iret C E (rfl) (by decide) (by decide) d_C_last_18 ?_
    exact ⟨sI (by simp only [f_last, ix_in hj (show s_cn S < 2 ^ 31 by omega)]), rfl, rfl⟩
set_option maxRecDepth 100000 in
set_option maxHeartbeats 4000000 in
theorem C_unlike (l : Launch) (G : aw_G) (ad : aw_Ad) (ce : aw_He) (S : SysS) (hL : LayC S ad ce) (x : Int32) : CT l G M_C_unlike 1 21 0 0 [.ref (ad (0, 0, 0)), .int x] ad ce (rN (some (.int (f_unlike S x))) ad ce) := by
  refine CT.of (by decide) (Nat.le_of_ble_eq_true rfl) ?_
  intro X C I E
  have hL0 := hL
  obtain ⟨ho, hca, hpa, hli, hlo, hcars, hpaps, hnoc, hnop, hb1, hb2, hb3, hb4⟩ := hL0
  rcases ix_cases x (n := s_cn S) (by omega) with hx | ⟨j, hj, rfl⟩
  · skip
    show AW X 3 0 0 ad ce 0 [(0, .ref (ad (0, 0, 0))), (1, .int x)] []
    refine aw_aload_n C d_C_unlike_0 rfl (j := 0) rfl ?_
    refine aw_iload_n C d_C_unlike_1 rfl (j := 1) rfl ?_
    refine aw_callV C I (k := (0, 0, 0)) (as := [.int x]) (rest := []) (c_findC_out l G ad ce S hL x hx) g_C_56 ho rfl rfl ⟨by decide, by decide⟩ ⟨by decide, by decide⟩ rfl (Nat.le_of_ble_eq_true rfl) d_C_unlike_2 ?_
    rintro _ _ _ ⟨rfl, rfl, rfl⟩
    show AW X 3 0 0 ad ce 5 [(0, .ref (ad (0, 0, 0))), (1, .int x)] [.null]
    refine aw_astore_nN C (lv' := [(2, .null), (0, .ref (ad (0, 0, 0))), (1, .int x)]) d_C_unlike_5 rfl (by decide) rfl ?_
    refine aw_aload_nN C d_C_unlike_6 rfl (j := 0) rfl ?_
    refine aw_ifnonnullN C d_C_unlike_7 ?_
    refine aw_iconst C (v := (-1)) d_C_unlike_10 (by decide) ?_
    refine aw_goto C (tgt := 18) d_C_unlike_11 (by decide) ?_
    refine aw_iret C E (rfl) (by decide) (by decide) d_C_unlike_18 ?_
    exact ⟨sI (by simp only [f_unlike, ix_out hx]), rfl, rfl⟩
  · skip
    show AW X 3 0 0 ad ce 0 [(0, .ref (ad (0, 0, 0))), (1, .int (nI j))] []
    refine aw_aload_n C d_C_unlike_0 rfl (j := 0) rfl ?_
    refine aw_iload_n C d_C_unlike_1 rfl (j := 1) rfl ?_
    refine aw_callV C I (k := (0, 0, 0)) (as := [.int (nI j)]) (rest := []) (c_findC_in l G ad ce S hL j hj) g_C_56 ho rfl rfl ⟨by decide, by decide⟩ ⟨by decide, by decide⟩ rfl (Nat.le_of_ble_eq_true rfl) d_C_unlike_2 ?_
    rintro _ _ _ ⟨rfl, rfl, rfl⟩
    show AW X 3 0 0 ad ce 5 [(0, .ref (ad (0, 0, 0))), (1, .int (nI j))] [.ref (ad (1, j, 0))]
    have hK := hcars j hj
    have hK0 := hK
    obtain ⟨hk, hby, hdu, hwo, hrd, hpt, ⟨hn1, hn2⟩, hps⟩ := hK0
    refine aw_astore_n C (lv' := [(2, .ref (ad (1, j, 0))), (0, .ref (ad (0, 0, 0))), (1, .int (nI j))]) d_C_unlike_5 rfl (by decide) rfl ?_
    refine aw_aload_n C d_C_unlike_6 rfl (j := 0) rfl ?_
    refine aw_ifnonnull C (tgt := 14) d_C_unlike_7 (by decide) ?_
    refine aw_aload_n C d_C_unlike_14 rfl (j := 0) rfl ?_
    refine aw_get C F_K hk 9 (by decide) tw_86 rfl d_C_unlike_15 ?_
    refine aw_iret C E (rfl) (by decide) (by decide) d_C_unlike_18 ?_
    exact ⟨sI (by simp only [f_unlike, ix_in hj (show s_cn S < 2 ^ 31 by omega)]), rfl, rfl⟩
set_option maxRecDepth 100000 in
set_option maxHeartbeats 4000000 in
theorem C_failed (l : Launch) (G : aw_G) (ad : aw_Ad) (ce : aw_He) (S : SysS) (hL : LayC S ad ce) (x k : Int32) : CT l G M_C_failed 1 23 0 0 [.ref (ad (0, 0, 0)), .int x, .int k] ad ce (rN (some (.int (f_failed S x k))) ad ce) := by
  refine CT.of (by decide) (Nat.le_of_ble_eq_true rfl) ?_
  intro X C I E
  have hL0 := hL
  obtain ⟨ho, hca, hpa, hli, hlo, hcars, hpaps, hnoc, hnop, hb1, hb2, hb3, hb4⟩ := hL0
  rcases ix_cases x (n := s_cn S) (by omega) with hx | ⟨j, hj, rfl⟩
  · skip
    show AW X 4 0 0 ad ce 0 [(0, .ref (ad (0, 0, 0))), (1, .int x), (2, .int k)] []
    refine aw_aload_n C d_C_failed_0 rfl (j := 0) rfl ?_
    refine aw_iload_n C d_C_failed_1 rfl (j := 1) rfl ?_
    refine aw_callV C I (k := (0, 0, 0)) (as := [.int x]) (rest := []) (c_findC_out l G ad ce S hL x hx) g_C_56 ho rfl rfl ⟨by decide, by decide⟩ ⟨by decide, by decide⟩ rfl (Nat.le_of_ble_eq_true rfl) d_C_failed_2 ?_
    rintro _ _ _ ⟨rfl, rfl, rfl⟩
    show AW X 4 0 0 ad ce 5 [(0, .ref (ad (0, 0, 0))), (1, .int x), (2, .int k)] [.null]
    refine aw_astore_nN C (lv' := [(3, .null), (0, .ref (ad (0, 0, 0))), (1, .int x), (2, .int k)]) d_C_failed_5 rfl (by decide) rfl ?_
    refine aw_aload_nN C d_C_failed_6 rfl (j := 0) rfl ?_
    refine aw_ifnonnullN C d_C_failed_7 ?_
    refine aw_iconst C (v := (-1)) d_C_failed_10 (by decide) ?_
    refine aw_goto C (tgt := 19) d_C_failed_11 (by decide) ?_
    refine aw_iret C E (rfl) (by decide) (by decide) d_C_failed_19 ?_
    exact ⟨sI (by simp only [f_failed, ix_out hx]), rfl, rfl⟩
  · skip
    show AW X 4 0 0 ad ce 0 [(0, .ref (ad (0, 0, 0))), (1, .int (nI j)), (2, .int k)] []
    refine aw_aload_n C d_C_failed_0 rfl (j := 0) rfl ?_
    refine aw_iload_n C d_C_failed_1 rfl (j := 1) rfl ?_
    refine aw_callV C I (k := (0, 0, 0)) (as := [.int (nI j)]) (rest := []) (c_findC_in l G ad ce S hL j hj) g_C_56 ho rfl rfl ⟨by decide, by decide⟩ ⟨by decide, by decide⟩ rfl (Nat.le_of_ble_eq_true rfl) d_C_failed_2 ?_
    rintro _ _ _ ⟨rfl, rfl, rfl⟩
    show AW X 4 0 0 ad ce 5 [(0, .ref (ad (0, 0, 0))), (1, .int (nI j)), (2, .int k)] [.ref (ad (1, j, 0))]
    have hK := hcars j hj
    have hK0 := hK
    obtain ⟨hk, hby, hdu, hwo, hrd, hpt, ⟨hn1, hn2⟩, hps⟩ := hK0
    refine aw_astore_n C (lv' := [(3, .ref (ad (1, j, 0))), (0, .ref (ad (0, 0, 0))), (1, .int (nI j)), (2, .int k)]) d_C_failed_5 rfl (by decide) rfl ?_
    refine aw_aload_n C d_C_failed_6 rfl (j := 0) rfl ?_
    refine aw_ifnonnull C (tgt := 14) d_C_failed_7 (by decide) ?_
    refine aw_aload_n C d_C_failed_14 rfl (j := 0) rfl ?_
    refine aw_iload_n C d_C_failed_15 rfl (j := 3) rfl ?_
    refine aw_callV C I (k := (1, j, 0)) (as := [.int k]) (rest := []) (c_wornPlace l G ad ce j _ hK k) g_C_88 hk rfl rfl ⟨by decide, by decide⟩ ⟨by decide, by decide⟩ rfl (Nat.le_of_ble_eq_true rfl) d_C_failed_16 ?_
    rintro _ _ _ ⟨rfl, rfl, rfl⟩
    show AW X 4 0 0 ad ce 19 [(3, .ref (ad (1, j, 0))), (0, .ref (ad (0, 0, 0))), (1, .int (nI j)), (2, .int k)] [.int (kth (k_wo (s_car S j)) k (k_np (s_car S j)) 0 0)]
    refine aw_iret C E (rfl) (by decide) (by decide) d_C_failed_19 ?_
    exact ⟨sI (by simp only [f_failed, ix_in hj (show s_cn S < 2 ^ 31 by omega)]), rfl, rfl⟩
set_option maxRecDepth 100000 in
set_option maxHeartbeats 4000000 in
theorem C_byteAt (l : Launch) (G : aw_G) (ad : aw_Ad) (ce : aw_He) (S : SysS) (hL : LayC S ad ce) (x y : Int32) : CT l G M_C_byteAt 1 21 0 0 [.ref (ad (0, 0, 0)), .int x, .int y] ad ce (rN (some (.int (f_byteAt S x y))) ad ce) := by
  refine CT.of (by decide) (Nat.le_of_ble_eq_true rfl) ?_
  intro X C I E
  have hL0 := hL
  obtain ⟨ho, hca, hpa, hli, hlo, hcars, hpaps, hnoc, hnop, hb1, hb2, hb3, hb4⟩ := hL0
  rcases ix_cases x (n := s_cn S) (by omega) with hx | ⟨j, hj, rfl⟩
  · skip
    show AW X 4 0 0 ad ce 0 [(0, .ref (ad (0, 0, 0))), (1, .int x), (2, .int y)] []
    refine aw_aload_n C d_C_byteAt_0 rfl (j := 0) rfl ?_
    refine aw_iload_n C d_C_byteAt_1 rfl (j := 1) rfl ?_
    refine aw_callV C I (k := (0, 0, 0)) (as := [.int x]) (rest := []) (c_findC_out l G ad ce S hL x hx) g_C_56 ho rfl rfl ⟨by decide, by decide⟩ ⟨by decide, by decide⟩ rfl (Nat.le_of_ble_eq_true rfl) d_C_byteAt_2 ?_
    rintro _ _ _ ⟨rfl, rfl, rfl⟩
    show AW X 4 0 0 ad ce 5 [(0, .ref (ad (0, 0, 0))), (1, .int x), (2, .int y)] [.null]
    refine aw_astore_nN C (lv' := [(3, .null), (0, .ref (ad (0, 0, 0))), (1, .int x), (2, .int y)]) d_C_byteAt_5 rfl (by decide) rfl ?_
    refine aw_aload_nN C d_C_byteAt_6 rfl (j := 0) rfl ?_
    refine aw_ifnullN C (tgt := 25) d_C_byteAt_7 (by decide) ?_
    refine aw_iconst C (v := (-1)) d_C_byteAt_25 (by decide) ?_
    refine aw_iret C E (rfl) (by decide) (by decide) d_C_byteAt_26 ?_
    exact ⟨sI (by simp only [f_byteAt, ix_out hx]), rfl, rfl⟩
  by_cases hg : k_st (s_car S j) = 5 ∨ k_st (s_car S j) = 6
  · skip
    show AW X 4 0 0 ad ce 0 [(0, .ref (ad (0, 0, 0))), (1, .int (nI j)), (2, .int y)] []
    refine aw_aload_n C d_C_byteAt_0 rfl (j := 0) rfl ?_
    refine aw_iload_n C d_C_byteAt_1 rfl (j := 1) rfl ?_
    refine aw_callV C I (k := (0, 0, 0)) (as := [.int (nI j)]) (rest := []) (c_findC_in l G ad ce S hL j hj) g_C_56 ho rfl rfl ⟨by decide, by decide⟩ ⟨by decide, by decide⟩ rfl (Nat.le_of_ble_eq_true rfl) d_C_byteAt_2 ?_
    rintro _ _ _ ⟨rfl, rfl, rfl⟩
    show AW X 4 0 0 ad ce 5 [(0, .ref (ad (0, 0, 0))), (1, .int (nI j)), (2, .int y)] [.ref (ad (1, j, 0))]
    have hK := hcars j hj
    have hK0 := hK
    obtain ⟨hk, hby, hdu, hwo, hrd, hpt, ⟨hn1, hn2⟩, hps⟩ := hK0
    refine aw_astore_n C (lv' := [(3, .ref (ad (1, j, 0))), (0, .ref (ad (0, 0, 0))), (1, .int (nI j)), (2, .int y)]) d_C_byteAt_5 rfl (by decide) rfl ?_
    refine aw_aload_n C d_C_byteAt_6 rfl (j := 0) rfl ?_
    refine aw_ifnull C d_C_byteAt_7 ?_
    refine aw_aload_n C d_C_byteAt_10 rfl (j := 0) rfl ?_
    refine aw_callV C I (k := (1, j, 0)) (as := []) (rest := []) (c_isGone l G ad ce j _ hK) g_C_81 hk rfl rfl ⟨by decide, by decide⟩ ⟨by decide, by decide⟩ rfl (Nat.le_of_ble_eq_true rfl) d_C_byteAt_11 ?_
    rintro _ _ _ ⟨rfl, rfl, rfl⟩
    show AW X 4 0 0 ad ce 14 [(3, .ref (ad (1, j, 0))), (0, .ref (ad (0, 0, 0))), (1, .int (nI j)), (2, .int y)] [.int (bI (decide (k_st (s_car S j) = 5 ∨ k_st (s_car S j) = 6)))]
    refine aw_topi (v' := 1) ((bI_t hg).symm) ?_
    show AW X 4 0 0 ad ce 14 [(3, .ref (ad (1, j, 0))), (0, .ref (ad (0, 0, 0))), (1, .int (nI j)), (2, .int y)] [.int 1]
    refine aw_if_ne C (tgt := 25) d_C_byteAt_14 (by decide) (fun h14 => ?_) (fun h14 => absurd h14 (by decide))
    refine aw_iconst C (v := (-1)) d_C_byteAt_25 (by decide) ?_
    refine aw_iret C E (rfl) (by decide) (by decide) d_C_byteAt_26 ?_
    exact ⟨sI (by simp only [f_byteAt, ix_in hj (show s_cn S < 2 ^ 31 by omega), if_pos hg]), rfl, rfl⟩
  · skip
    have hnp := (hcars j hj).2.2.2.2.2.2.1.2
    rcases ix_cases y (n := k_np (s_car S j)) (by omega) with hy | ⟨p, hp0, rfl⟩
    · skip
      show AW X 4 0 0 ad ce 0 [(0, .ref (ad (0, 0, 0))), (1, .int (nI j)), (2, .int y)] []
      refine aw_aload_n C d_C_byteAt_0 rfl (j := 0) rfl ?_
      refine aw_iload_n C d_C_byteAt_1 rfl (j := 1) rfl ?_
      refine aw_callV C I (k := (0, 0, 0)) (as := [.int (nI j)]) (rest := []) (c_findC_in l G ad ce S hL j hj) g_C_56 ho rfl rfl ⟨by decide, by decide⟩ ⟨by decide, by decide⟩ rfl (Nat.le_of_ble_eq_true rfl) d_C_byteAt_2 ?_
      rintro _ _ _ ⟨rfl, rfl, rfl⟩
      show AW X 4 0 0 ad ce 5 [(0, .ref (ad (0, 0, 0))), (1, .int (nI j)), (2, .int y)] [.ref (ad (1, j, 0))]
      have hK := hcars j hj
      have hK0 := hK
      obtain ⟨hk, hby, hdu, hwo, hrd, hpt, ⟨hn1, hn2⟩, hps⟩ := hK0
      refine aw_astore_n C (lv' := [(3, .ref (ad (1, j, 0))), (0, .ref (ad (0, 0, 0))), (1, .int (nI j)), (2, .int y)]) d_C_byteAt_5 rfl (by decide) rfl ?_
      refine aw_aload_n C d_C_byteAt_6 rfl (j := 0) rfl ?_
      refine aw_ifnull C d_C_byteAt_7 ?_
      refine aw_aload_n C d_C_byteAt_10 rfl (j := 0) rfl ?_
      refine aw_callV C I (k := (1, j, 0)) (as := []) (rest := []) (c_isGone l G ad ce j _ hK) g_C_81 hk rfl rfl ⟨by decide, by decide⟩ ⟨by decide, by decide⟩ rfl (Nat.le_of_ble_eq_true rfl) d_C_byteAt_11 ?_
      rintro _ _ _ ⟨rfl, rfl, rfl⟩
      show AW X 4 0 0 ad ce 14 [(3, .ref (ad (1, j, 0))), (0, .ref (ad (0, 0, 0))), (1, .int (nI j)), (2, .int y)] [.int (bI (decide (k_st (s_car S j) = 5 ∨ k_st (s_car S j) = 6)))]
      refine aw_topi (v' := 0) ((bI_f hg).symm) ?_
      show AW X 4 0 0 ad ce 14 [(3, .ref (ad (1, j, 0))), (0, .ref (ad (0, 0, 0))), (1, .int (nI j)), (2, .int y)] [.int 0]
      refine aw_if_ne C (tgt := 25) d_C_byteAt_14 (by decide) (fun h14 => absurd h14 (by decide)) (fun h14 => ?_)
      refine aw_aload_n C d_C_byteAt_17 rfl (j := 0) rfl ?_
      refine aw_iload_n C d_C_byteAt_18 rfl (j := 3) rfl ?_
      refine aw_callV C I (k := (1, j, 0)) (as := [.int y]) (rest := []) (c_hasPlace l G ad ce j _ hK y) g_C_94 hk rfl rfl ⟨by decide, by decide⟩ ⟨by decide, by decide⟩ rfl (Nat.le_of_ble_eq_true rfl) d_C_byteAt_19 ?_
      rintro _ _ _ ⟨rfl, rfl, rfl⟩
      show AW X 4 0 0 ad ce 22 [(3, .ref (ad (1, j, 0))), (0, .ref (ad (0, 0, 0))), (1, .int (nI j)), (2, .int y)] [.int (bI (decide (0 ≤ y ∧ y < nI (k_np (s_car S j)))))]
      refine aw_topi (v' := 0) ((bI_f (by (try simp only [Int32.le_iff_toInt_le, Int32.lt_iff_toInt_lt] at hy ⊢); omega)).symm) ?_
      show AW X 4 0 0 ad ce 22 [(3, .ref (ad (1, j, 0))), (0, .ref (ad (0, 0, 0))), (1, .int (nI j)), (2, .int y)] [.int 0]
      refine aw_if_ne C (tgt := 27) d_C_byteAt_22 (by decide) (fun h22 => absurd h22 (by decide)) (fun h22 => ?_)
      refine aw_iconst C (v := (-1)) d_C_byteAt_25 (by decide) ?_
      refine aw_iret C E (rfl) (by decide) (by decide) d_C_byteAt_26 ?_
      exact ⟨sI (by simp only [f_byteAt, ix_in hj (show s_cn S < 2 ^ 31 by omega), if_neg hg, ix_out hy]), rfl, rfl⟩
    · skip
      show AW X 4 0 0 ad ce 0 [(0, .ref (ad (0, 0, 0))), (1, .int (nI j)), (2, .int (nI p))] []
      refine aw_aload_n C d_C_byteAt_0 rfl (j := 0) rfl ?_
      refine aw_iload_n C d_C_byteAt_1 rfl (j := 1) rfl ?_
      refine aw_callV C I (k := (0, 0, 0)) (as := [.int (nI j)]) (rest := []) (c_findC_in l G ad ce S hL j hj) g_C_56 ho rfl rfl ⟨by decide, by decide⟩ ⟨by decide, by decide⟩ rfl (Nat.le_of_ble_eq_true rfl) d_C_byteAt_2 ?_
      rintro _ _ _ ⟨rfl, rfl, rfl⟩
      show AW X 4 0 0 ad ce 5 [(0, .ref (ad (0, 0, 0))), (1, .int (nI j)), (2, .int (nI p))] [.ref (ad (1, j, 0))]
      have hK := hcars j hj
      have hK0 := hK
      obtain ⟨hk, hby, hdu, hwo, hrd, hpt, ⟨hn1, hn2⟩, hps⟩ := hK0
      refine aw_astore_n C (lv' := [(3, .ref (ad (1, j, 0))), (0, .ref (ad (0, 0, 0))), (1, .int (nI j)), (2, .int (nI p))]) d_C_byteAt_5 rfl (by decide) rfl ?_
      refine aw_aload_n C d_C_byteAt_6 rfl (j := 0) rfl ?_
      refine aw_ifnull C d_C_byteAt_7 ?_
      refine aw_aload_n C d_C_byteAt_10 rfl (j := 0) rfl ?_
      refine aw_callV C I (k := (1, j, 0)) (as := []) (rest := []) (c_isGone l G ad ce j _ hK) g_C_81 hk rfl rfl ⟨by decide, by decide⟩ ⟨by decide, by decide⟩ rfl (Nat.le_of_ble_eq_true rfl) d_C_byteAt_11 ?_
      rintro _ _ _ ⟨rfl, rfl, rfl⟩
      show AW X 4 0 0 ad ce 14 [(3, .ref (ad (1, j, 0))), (0, .ref (ad (0, 0, 0))), (1, .int (nI j)), (2, .int (nI p))] [.int (bI (decide (k_st (s_car S j) = 5 ∨ k_st (s_car S j) = 6)))]
      refine aw_topi (v' := 0) ((bI_f hg).symm) ?_
      show AW X 4 0 0 ad ce 14 [(3, .ref (ad (1, j, 0))), (0, .ref (ad (0, 0, 0))), (1, .int (nI j)), (2, .int (nI p))] [.int 0]
      refine aw_if_ne C (tgt := 25) d_C_byteAt_14 (by decide) (fun h14 => absurd h14 (by decide)) (fun h14 => ?_)
      refine aw_aload_n C d_C_byteAt_17 rfl (j := 0) rfl ?_
      refine aw_iload_n C d_C_byteAt_18 rfl (j := 3) rfl ?_
      refine aw_callV C I (k := (1, j, 0)) (as := [.int (nI p)]) (rest := []) (c_hasPlace l G ad ce j _ hK (nI p)) g_C_94 hk rfl rfl ⟨by decide, by decide⟩ ⟨by decide, by decide⟩ rfl (Nat.le_of_ble_eq_true rfl) d_C_byteAt_19 ?_
      rintro _ _ _ ⟨rfl, rfl, rfl⟩
      show AW X 4 0 0 ad ce 22 [(3, .ref (ad (1, j, 0))), (0, .ref (ad (0, 0, 0))), (1, .int (nI j)), (2, .int (nI p))] [.int (bI (decide (0 ≤ (nI p) ∧ (nI p) < nI (k_np (s_car S j)))))]
      refine aw_topi (v' := 1) ((bI_t ⟨nI_pos' (by omega), nI_lt (by omega) (by omega)⟩).symm) ?_
      show AW X 4 0 0 ad ce 22 [(3, .ref (ad (1, j, 0))), (0, .ref (ad (0, 0, 0))), (1, .int (nI j)), (2, .int (nI p))] [.int 1]
      refine aw_if_ne C (tgt := 27) d_C_byteAt_22 (by decide) (fun h22 => ?_) (fun h22 => absurd h22 (by decide))
      refine aw_aload_n C d_C_byteAt_27 rfl (j := 0) rfl ?_
      refine aw_get C F_K hk 2 (by decide) tw_76 rfl d_C_byteAt_28 ?_
      refine aw_iload_n C d_C_byteAt_31 rfl (j := 3) rfl ?_
      refine ar_iald C hby (j := p) (rfl) (by omega) (by omega) d_C_byteAt_32 ?_
      refine aw_iret C E (rfl) (by decide) (by decide) d_C_byteAt_33 ?_
      exact ⟨sI (by simp only [f_byteAt, ix_in hj (show s_cn S < 2 ^ 31 by omega), if_neg hg, ix_in hp0 (show k_np (s_car S j) < 2 ^ 31 by omega)]), rfl, rfl⟩
set_option maxRecDepth 100000 in
set_option maxHeartbeats 4000000 in
theorem C_at (l : Launch) (G : aw_G) (ad : aw_Ad) (ce : aw_He) (S : SysS) (hL : LayC S ad ce) (x y : Int32) : CT l G M_C_at 1 21 0 0 [.ref (ad (0, 0, 0)), .int x, .int y] ad ce (rN (some (.int (f_at S x y))) ad ce) := by
  refine CT.of (by decide) (Nat.le_of_ble_eq_true rfl) ?_
  intro X C I E
  have hL0 := hL
  obtain ⟨ho, hca, hpa, hli, hlo, hcars, hpaps, hnoc, hnop, hb1, hb2, hb3, hb4⟩ := hL0
  rcases ix_cases x (n := s_pn S) (by omega) with hx | ⟨j, hj, rfl⟩
  · skip
    show AW X 4 0 0 ad ce 0 [(0, .ref (ad (0, 0, 0))), (1, .int x), (2, .int y)] []
    refine aw_aload_n C d_C_at_0 rfl (j := 0) rfl ?_
    refine aw_iload_n C d_C_at_1 rfl (j := 1) rfl ?_
    refine aw_callV C I (k := (0, 0, 0)) (as := [.int x]) (rest := []) (c_findP_out l G ad ce S hL x hx) g_C_123 ho rfl rfl ⟨by decide, by decide⟩ ⟨by decide, by decide⟩ rfl (Nat.le_of_ble_eq_true rfl) d_C_at_2 ?_
    rintro _ _ _ ⟨rfl, rfl, rfl⟩
    show AW X 4 0 0 ad ce 5 [(0, .ref (ad (0, 0, 0))), (1, .int x), (2, .int y)] [.null]
    refine aw_astore_nN C (lv' := [(3, .null), (0, .ref (ad (0, 0, 0))), (1, .int x), (2, .int y)]) d_C_at_5 rfl (by decide) rfl ?_
    refine aw_aload_nN C d_C_at_6 rfl (j := 0) rfl ?_
    refine aw_ifnullN C (tgt := 23) d_C_at_7 (by decide) ?_
    refine aw_iconst C (v := (-1)) d_C_at_23 (by decide) ?_
    refine aw_iret C E (rfl) (by decide) (by decide) d_C_at_24 ?_
    exact ⟨sI (by simp only [f_at, ix_out hx]), rfl, rfl⟩
  · have hfc := (hpaps j hj).2.2.2
    rcases ix_cases y (n := (s_pap S j).1) (by omega) with hy | ⟨p, hp0, rfl⟩
    · skip
      show AW X 4 0 0 ad ce 0 [(0, .ref (ad (0, 0, 0))), (1, .int (nI j)), (2, .int y)] []
      refine aw_aload_n C d_C_at_0 rfl (j := 0) rfl ?_
      refine aw_iload_n C d_C_at_1 rfl (j := 1) rfl ?_
      refine aw_callV C I (k := (0, 0, 0)) (as := [.int (nI j)]) (rest := []) (c_findP_in l G ad ce S hL j hj) g_C_123 ho rfl rfl ⟨by decide, by decide⟩ ⟨by decide, by decide⟩ rfl (Nat.le_of_ble_eq_true rfl) d_C_at_2 ?_
      rintro _ _ _ ⟨rfl, rfl, rfl⟩
      show AW X 4 0 0 ad ce 5 [(0, .ref (ad (0, 0, 0))), (1, .int (nI j)), (2, .int y)] [.ref (ad (2, j, 0))]
      have hP := hpaps j hj
      have hP0 := hP
      obtain ⟨hp, hfl, h6, h12⟩ := hP0
      refine aw_astore_n C (lv' := [(3, .ref (ad (2, j, 0))), (0, .ref (ad (0, 0, 0))), (1, .int (nI j)), (2, .int y)]) d_C_at_5 rfl (by decide) rfl ?_
      refine aw_aload_n C d_C_at_6 rfl (j := 0) rfl ?_
      refine aw_ifnull C d_C_at_7 ?_
      refine aw_iload_n C d_C_at_10 rfl (j := 3) rfl ?_
      refine aw_if_lt C (tgt := 23) d_C_at_11 (by decide) (fun h11 => ?_) (fun h11 => ?_)
      · refine aw_iconst C (v := (-1)) d_C_at_23 (by decide) ?_
        refine aw_iret C E (rfl) (by decide) (by decide) d_C_at_24 ?_
        exact ⟨sI (by simp only [f_at, ix_in hj (show s_pn S < 2 ^ 31 by omega), ix_out hy]), rfl, rfl⟩
      · refine aw_iload_n C d_C_at_14 rfl (j := 3) rfl ?_
        refine aw_aload_n C d_C_at_15 rfl (j := 0) rfl ?_
        refine aw_get C F_P hp 0 (by decide) tw_233 rfl d_C_at_16 ?_
        refine ar_len C hfl (tt := .int) rfl d_C_at_19 ?_
        refine aw_icmp_lt C (tgt := 25) d_C_at_20 (by decide) (fun h20 => ?_) (fun h20 => ?_)
        · exact absurd hy (by simp [h11]; exact h20)
        · refine aw_iconst C (v := (-1)) d_C_at_23 (by decide) ?_
          refine aw_iret C E (rfl) (by decide) (by decide) d_C_at_24 ?_
          exact ⟨sI (by simp only [f_at, ix_in hj (show s_pn S < 2 ^ 31 by omega), ix_out hy]), rfl, rfl⟩
    · skip
      show AW X 4 0 0 ad ce 0 [(0, .ref (ad (0, 0, 0))), (1, .int (nI j)), (2, .int (nI p))] []
      refine aw_aload_n C d_C_at_0 rfl (j := 0) rfl ?_
      refine aw_iload_n C d_C_at_1 rfl (j := 1) rfl ?_
      refine aw_callV C I (k := (0, 0, 0)) (as := [.int (nI j)]) (rest := []) (c_findP_in l G ad ce S hL j hj) g_C_123 ho rfl rfl ⟨by decide, by decide⟩ ⟨by decide, by decide⟩ rfl (Nat.le_of_ble_eq_true rfl) d_C_at_2 ?_
      rintro _ _ _ ⟨rfl, rfl, rfl⟩
      show AW X 4 0 0 ad ce 5 [(0, .ref (ad (0, 0, 0))), (1, .int (nI j)), (2, .int (nI p))] [.ref (ad (2, j, 0))]
      have hP := hpaps j hj
      have hP0 := hP
      obtain ⟨hp, hfl, h6, h12⟩ := hP0
      refine aw_astore_n C (lv' := [(3, .ref (ad (2, j, 0))), (0, .ref (ad (0, 0, 0))), (1, .int (nI j)), (2, .int (nI p))]) d_C_at_5 rfl (by decide) rfl ?_
      refine aw_aload_n C d_C_at_6 rfl (j := 0) rfl ?_
      refine aw_ifnull C d_C_at_7 ?_
      refine aw_iload_n C d_C_at_10 rfl (j := 3) rfl ?_
      refine aw_if_lt C (tgt := 23) d_C_at_11 (by decide) (fun h11 => absurd h11 (nI_pos (by omega))) (fun h11 => ?_)
      refine aw_iload_n C d_C_at_14 rfl (j := 3) rfl ?_
      refine aw_aload_n C d_C_at_15 rfl (j := 0) rfl ?_
      refine aw_get C F_P hp 0 (by decide) tw_233 rfl d_C_at_16 ?_
      refine ar_len C hfl (tt := .int) rfl d_C_at_19 ?_
      refine aw_icmp_lt C (tgt := 25) d_C_at_20 (by decide) (fun h20 => ?_) (fun h20 => absurd (nI_lt (by omega) (by omega)) h20)
      refine aw_aload_n C d_C_at_25 rfl (j := 0) rfl ?_
      refine aw_get C F_P hp 0 (by decide) tw_233 rfl d_C_at_26 ?_
      refine aw_iload_n C d_C_at_29 rfl (j := 3) rfl ?_
      refine ar_iald C hfl (j := p) (rfl) (by omega) (by omega) d_C_at_30 ?_
      refine aw_iret C E (rfl) (by decide) (by decide) d_C_at_31 ?_
      exact ⟨sI (by simp only [f_at, ix_in hj (show s_pn S < 2 ^ 31 by omega), ix_in hp0 (show (s_pap S j).1 < 2 ^ 31 by omega)]), rfl, rfl⟩
theorem sh56 (i : Int32) : 8 * (7 - i) = 56 - 8 * i := by
  apply Int32.toBitVec_inj.mp
  simp only [Int32.toBitVec_mul, Int32.toBitVec_sub, Int32.toBitVec_ofNat]
  rw [BitVec.mul_sub]
  rfl
set_option maxRecDepth 100000 in
set_option maxHeartbeats 4000000 in
theorem C_mark (l : Launch) (G : aw_G) (ad : aw_Ad) (ce : aw_He) (S : SysS) (hL : LayC S ad ce) (x : Int32) (key : Int64) (i : Int32) : CT l G M_C_mark 1 25 0 0 [.ref (ad (0, 0, 0)), .int x, .long key, .int i] ad ce (rN (some (.int (f_mark S x key i))) ad ce) := by
  refine CT.of (by decide) (Nat.le_of_ble_eq_true rfl) ?_
  intro X C I E
  have hL0 := hL
  obtain ⟨ho, hca, hpa, hli, hlo, hcars, hpaps, hnoc, hnop, hb1, hb2, hb3, hb4⟩ := hL0
  rcases ix_cases x (n := s_pn S) (by omega) with hx | ⟨j, hj, rfl⟩
  · skip
    show AW X 7 0 0 ad ce 0 [(0, .ref (ad (0, 0, 0))), (1, .int x), (2, .long key), (4, .int i)] []
    refine aw_aload_n C d_C_mark_0 rfl (j := 0) rfl ?_
    refine aw_iload_n C d_C_mark_1 rfl (j := 1) rfl ?_
    refine aw_callV C I (k := (0, 0, 0)) (as := [.int x]) (rest := []) (c_findP_out l G ad ce S hL x hx) g_C_123 ho rfl rfl ⟨by decide, by decide⟩ ⟨by decide, by decide⟩ rfl (Nat.le_of_ble_eq_true rfl) d_C_mark_2 ?_
    rintro _ _ _ ⟨rfl, rfl, rfl⟩
    show AW X 7 0 0 ad ce 5 [(0, .ref (ad (0, 0, 0))), (1, .int x), (2, .long key), (4, .int i)] [.null]
    refine aw_astoreN C (lv' := [(5, .null), (0, .ref (ad (0, 0, 0))), (1, .int x), (2, .long key), (4, .int i)]) d_C_mark_5 (by decide) rfl ?_
    refine aw_aloadN C d_C_mark_7 (j := 0) rfl ?_
    refine aw_ifnullN C (tgt := 23) d_C_mark_9 (by decide) ?_
    refine aw_iconst C (v := (-1)) d_C_mark_23 (by decide) ?_
    refine aw_iret C E (rfl) (by decide) (by decide) d_C_mark_24 ?_
    exact ⟨sI (by simp only [f_mark, ix_out hx]), rfl, rfl⟩
  · by_cases hi : 0 ≤ i ∧ i ≤ 7
    · skip
      show AW X 7 0 0 ad ce 0 [(0, .ref (ad (0, 0, 0))), (1, .int (nI j)), (2, .long key), (4, .int i)] []
      refine aw_aload_n C d_C_mark_0 rfl (j := 0) rfl ?_
      refine aw_iload_n C d_C_mark_1 rfl (j := 1) rfl ?_
      refine aw_callV C I (k := (0, 0, 0)) (as := [.int (nI j)]) (rest := []) (c_findP_in l G ad ce S hL j hj) g_C_123 ho rfl rfl ⟨by decide, by decide⟩ ⟨by decide, by decide⟩ rfl (Nat.le_of_ble_eq_true rfl) d_C_mark_2 ?_
      rintro _ _ _ ⟨rfl, rfl, rfl⟩
      show AW X 7 0 0 ad ce 5 [(0, .ref (ad (0, 0, 0))), (1, .int (nI j)), (2, .long key), (4, .int i)] [.ref (ad (2, j, 0))]
      have hP := hpaps j hj
      have hP0 := hP
      obtain ⟨hp, hfl, h6, h12⟩ := hP0
      refine aw_astore C (lv' := [(5, .ref (ad (2, j, 0))), (0, .ref (ad (0, 0, 0))), (1, .int (nI j)), (2, .long key), (4, .int i)]) d_C_mark_5 (by decide) rfl ?_
      refine aw_aload C d_C_mark_7 (j := 0) rfl ?_
      refine aw_ifnull C d_C_mark_9 ?_
      refine aw_iload C d_C_mark_12 (j := 4) rfl ?_
      refine aw_iconst C (v := 0) d_C_mark_14 (by decide) ?_
      refine aw_bipush C (v := 7) d_C_mark_15 (by decide) ?_
      refine aw_callS C I (as := [.int i, .int 0, .int 7]) (rest := []) (c_within l G ad ce i 0 7) g_C_42 ⟨by decide, by decide⟩ ⟨by decide, by decide⟩ rfl (Nat.le_of_ble_eq_true rfl) d_C_mark_17 ?_
      rintro _ _ _ ⟨rfl, rfl, rfl⟩
      show AW X 7 0 0 ad ce 20 [(5, .ref (ad (2, j, 0))), (0, .ref (ad (0, 0, 0))), (1, .int (nI j)), (2, .long key), (4, .int i)] [.int (bI (decide (0 ≤ i ∧ i ≤ 7)))]
      refine aw_topi (v' := 1) ((bI_t hi).symm) ?_
      show AW X 7 0 0 ad ce 20 [(5, .ref (ad (2, j, 0))), (0, .ref (ad (0, 0, 0))), (1, .int (nI j)), (2, .long key), (4, .int i)] [.int 1]
      refine aw_if_ne C (tgt := 25) d_C_mark_20 (by decide) (fun h20 => ?_) (fun h20 => absurd h20 (by decide))
      refine aw_bipush C (v := 8) d_C_mark_25 (by decide) ?_
      refine aw_bipush C (v := 7) d_C_mark_27 (by decide) ?_
      refine aw_iload C d_C_mark_29 (j := 4) rfl ?_
      refine aw_isub C d_C_mark_31 ?_
      refine aw_imul C d_C_mark_32 ?_
      refine aw_topi (v' := 56 - 8 * i) (sh56 i) ?_
      refine aw_istore C (lv' := [(6, .int (56 - 8 * i)), (5, .ref (ad (2, j, 0))), (0, .ref (ad (0, 0, 0))), (1, .int (nI j)), (2, .long key), (4, .int i)]) d_C_mark_33 (by decide) rfl ?_
      refine aw_aload C d_C_mark_35 (j := 1) rfl ?_
      refine aw_lload_n C d_C_mark_37 rfl (j := 4) rfl ?_
      refine aw_callV C I (k := (2, j, 0)) (as := [.long key]) (rest := []) (c_markBy l G ad ce j _ hP key) g_C_130 hp rfl rfl ⟨by decide, by decide⟩ ⟨by decide, by decide⟩ rfl (Nat.le_of_ble_eq_true rfl) d_C_mark_38 ?_
      rintro _ _ _ ⟨rfl, rfl, rfl⟩
      show AW X 7 0 0 ad ce 41 [(6, .int (56 - 8 * i)), (5, .ref (ad (2, j, 0))), (0, .ref (ad (0, 0, 0))), (1, .int (nI j)), (2, .long key), (4, .int i)] [.long (fldM mkS (s_pap S j).2 (s_pap S j).1 0 key)]
      refine aw_iload C d_C_mark_41 (j := 0) rfl ?_
      refine aw_lushr C d_C_mark_43 ?_
      refine aw_ldc2 C tw_254 d_C_mark_44 ?_
      refine aw_land C d_C_mark_47 ?_
      refine aw_l2i C d_C_mark_48 ?_
      refine aw_topi (v' := mkB (mkOf (s_pap S j) key) (56 - 8 * i)) (by simp only [mkB, mkOf]) ?_
      refine aw_iret C E (rfl) (by decide) (by decide) d_C_mark_49 ?_
      exact ⟨sI (by simp only [f_mark, ix_in hj (show s_pn S < 2 ^ 31 by omega), if_pos hi]), rfl, rfl⟩
    · skip
      show AW X 7 0 0 ad ce 0 [(0, .ref (ad (0, 0, 0))), (1, .int (nI j)), (2, .long key), (4, .int i)] []
      refine aw_aload_n C d_C_mark_0 rfl (j := 0) rfl ?_
      refine aw_iload_n C d_C_mark_1 rfl (j := 1) rfl ?_
      refine aw_callV C I (k := (0, 0, 0)) (as := [.int (nI j)]) (rest := []) (c_findP_in l G ad ce S hL j hj) g_C_123 ho rfl rfl ⟨by decide, by decide⟩ ⟨by decide, by decide⟩ rfl (Nat.le_of_ble_eq_true rfl) d_C_mark_2 ?_
      rintro _ _ _ ⟨rfl, rfl, rfl⟩
      show AW X 7 0 0 ad ce 5 [(0, .ref (ad (0, 0, 0))), (1, .int (nI j)), (2, .long key), (4, .int i)] [.ref (ad (2, j, 0))]
      have hP := hpaps j hj
      have hP0 := hP
      obtain ⟨hp, hfl, h6, h12⟩ := hP0
      refine aw_astore C (lv' := [(5, .ref (ad (2, j, 0))), (0, .ref (ad (0, 0, 0))), (1, .int (nI j)), (2, .long key), (4, .int i)]) d_C_mark_5 (by decide) rfl ?_
      refine aw_aload C d_C_mark_7 (j := 0) rfl ?_
      refine aw_ifnull C d_C_mark_9 ?_
      refine aw_iload C d_C_mark_12 (j := 4) rfl ?_
      refine aw_iconst C (v := 0) d_C_mark_14 (by decide) ?_
      refine aw_bipush C (v := 7) d_C_mark_15 (by decide) ?_
      refine aw_callS C I (as := [.int i, .int 0, .int 7]) (rest := []) (c_within l G ad ce i 0 7) g_C_42 ⟨by decide, by decide⟩ ⟨by decide, by decide⟩ rfl (Nat.le_of_ble_eq_true rfl) d_C_mark_17 ?_
      rintro _ _ _ ⟨rfl, rfl, rfl⟩
      show AW X 7 0 0 ad ce 20 [(5, .ref (ad (2, j, 0))), (0, .ref (ad (0, 0, 0))), (1, .int (nI j)), (2, .long key), (4, .int i)] [.int (bI (decide (0 ≤ i ∧ i ≤ 7)))]
      refine aw_topi (v' := 0) ((bI_f hi).symm) ?_
      show AW X 7 0 0 ad ce 20 [(5, .ref (ad (2, j, 0))), (0, .ref (ad (0, 0, 0))), (1, .int (nI j)), (2, .long key), (4, .int i)] [.int 0]
      refine aw_if_ne C (tgt := 25) d_C_mark_20 (by decide) (fun h20 => absurd h20 (by decide)) (fun h20 => ?_)
      refine aw_iconst C (v := (-1)) d_C_mark_23 (by decide) ?_
      refine aw_iret C E (rfl) (by decide) (by decide) d_C_mark_24 ?_
      exact ⟨sI (by simp only [f_mark, ix_in hj (show s_pn S < 2 ^ 31 by omega), if_neg hi]), rfl, rfl⟩
set_option maxRecDepth 100000 in
set_option maxHeartbeats 4000000 in
theorem C_check (l : Launch) (G : aw_G) (ad : aw_Ad) (ce : aw_He) (S : SysS) (hL : LayC S ad ce) (x : Int32) (key b : Int64) : CT l G M_C_check 1 25 0 0 [.ref (ad (0, 0, 0)), .int x, .long key, .long b] ad ce (rN (some (.int (f_check S x key b))) ad ce) := by
  refine CT.of (by decide) (Nat.le_of_ble_eq_true rfl) ?_
  intro X C I E
  have hL0 := hL
  obtain ⟨ho, hca, hpa, hli, hlo, hcars, hpaps, hnoc, hnop, hb1, hb2, hb3, hb4⟩ := hL0
  rcases ix_cases x (n := s_pn S) (by omega) with hx | ⟨j, hj, rfl⟩
  · skip
    show AW X 7 0 0 ad ce 0 [(0, .ref (ad (0, 0, 0))), (1, .int x), (2, .long key), (4, .long b)] []
    refine aw_aload_n C d_C_check_0 rfl (j := 0) rfl ?_
    refine aw_iload_n C d_C_check_1 rfl (j := 1) rfl ?_
    refine aw_callV C I (k := (0, 0, 0)) (as := [.int x]) (rest := []) (c_findP_out l G ad ce S hL x hx) g_C_123 ho rfl rfl ⟨by decide, by decide⟩ ⟨by decide, by decide⟩ rfl (Nat.le_of_ble_eq_true rfl) d_C_check_2 ?_
    rintro _ _ _ ⟨rfl, rfl, rfl⟩
    show AW X 7 0 0 ad ce 5 [(0, .ref (ad (0, 0, 0))), (1, .int x), (2, .long key), (4, .long b)] [.null]
    refine aw_astoreN C (lv' := [(6, .null), (0, .ref (ad (0, 0, 0))), (1, .int x), (2, .long key), (4, .long b)]) d_C_check_5 (by decide) rfl ?_
    refine aw_aloadN C d_C_check_7 (j := 0) rfl ?_
    refine aw_ifnullN C (tgt := 28) d_C_check_9 (by decide) ?_
    refine aw_iconst C (v := 0) d_C_check_28 (by decide) ?_
    refine aw_iret C E (rfl) (by decide) (by decide) d_C_check_29 ?_
    exact ⟨sI (by simp only [f_check, ix_out hx]), rfl, rfl⟩
  · skip
    show AW X 7 0 0 ad ce 0 [(0, .ref (ad (0, 0, 0))), (1, .int (nI j)), (2, .long key), (4, .long b)] []
    refine aw_aload_n C d_C_check_0 rfl (j := 0) rfl ?_
    refine aw_iload_n C d_C_check_1 rfl (j := 1) rfl ?_
    refine aw_callV C I (k := (0, 0, 0)) (as := [.int (nI j)]) (rest := []) (c_findP_in l G ad ce S hL j hj) g_C_123 ho rfl rfl ⟨by decide, by decide⟩ ⟨by decide, by decide⟩ rfl (Nat.le_of_ble_eq_true rfl) d_C_check_2 ?_
    rintro _ _ _ ⟨rfl, rfl, rfl⟩
    show AW X 7 0 0 ad ce 5 [(0, .ref (ad (0, 0, 0))), (1, .int (nI j)), (2, .long key), (4, .long b)] [.ref (ad (2, j, 0))]
    have hP := hpaps j hj
    have hP0 := hP
    obtain ⟨hp, hfl, h6, h12⟩ := hP0
    refine aw_astore C (lv' := [(6, .ref (ad (2, j, 0))), (0, .ref (ad (0, 0, 0))), (1, .int (nI j)), (2, .long key), (4, .long b)]) d_C_check_5 (by decide) rfl ?_
    refine aw_aload C d_C_check_7 (j := 0) rfl ?_
    refine aw_ifnull C d_C_check_9 ?_
    refine aw_aload C d_C_check_12 (j := 0) rfl ?_
    refine aw_lload_n C d_C_check_14 rfl (j := 3) rfl ?_
    refine aw_callV C I (k := (2, j, 0)) (as := [.long key]) (rest := []) (c_markBy l G ad ce j _ hP key) g_C_130 hp rfl rfl ⟨by decide, by decide⟩ ⟨by decide, by decide⟩ rfl (Nat.le_of_ble_eq_true rfl) d_C_check_15 ?_
    rintro _ _ _ ⟨rfl, rfl, rfl⟩
    show AW X 7 0 0 ad ce 18 [(6, .ref (ad (2, j, 0))), (0, .ref (ad (0, 0, 0))), (1, .int (nI j)), (2, .long key), (4, .long b)] [.long (fldM mkS (s_pap S j).2 (s_pap S j).1 0 key)]
    refine aw_lload C d_C_check_18 (j := 4) rfl ?_
    refine aw_lcmp C d_C_check_20 ?_
    refine aw_if_ne C (tgt := 28) d_C_check_21 (by decide) (fun h21 => ?_) (fun h21 => ?_)
    · refine aw_iconst C (v := 0) d_C_check_28 (by decide) ?_
      refine aw_iret C E (rfl) (by decide) (by decide) d_C_check_29 ?_
      rw [lg_cmp_eq] at h21
      exact ⟨sI (by simp only [f_check, ix_in hj (show s_pn S < 2 ^ 31 by omega)]; first | exact (if_pos h21).symm | exact (if_neg h21).symm), rfl, rfl⟩
    · refine aw_iconst C (v := 1) d_C_check_24 (by decide) ?_
      refine aw_goto C (tgt := 29) d_C_check_25 (by decide) ?_
      refine aw_iret C E (rfl) (by decide) (by decide) d_C_check_29 ?_
      rw [lg_cmp_eq] at h21
      exact ⟨sI (by simp only [f_check, ix_in hj (show s_pn S < 2 ^ 31 by omega)]; first | exact (if_pos h21).symm | exact (if_neg h21).symm), rfl, rfl⟩
set_option maxRecDepth 100000 in
set_option maxHeartbeats 4000000 in
theorem C_told (l : Launch) (G : aw_G) (ad : aw_Ad) (ce : aw_He) (S : SysS) (hL : LayC S ad ce) (x : Int32) : CT l G M_C_told 0 0 0 0 [.ref (ad (0, 0, 0)), .int x] ad ce (rN (some (.int (f_told S x))) ad ce) := by
  refine CT.of (by decide) (Nat.le_of_ble_eq_true rfl) ?_
  intro X C I E
  have hL0 := hL
  obtain ⟨ho, hca, hpa, hli, hlo, hcars, hpaps, hnoc, hnop, hb1, hb2, hb3, hb4⟩ := hL0
  rcases ix_cases x (n := s_on S) (by omega) with hx | ⟨j, hj, rfl⟩
  · skip
    show AW X 2 0 0 ad ce 0 [(0, .ref (ad (0, 0, 0))), (1, .int x)] []
    refine aw_iload_n C d_C_told_0 rfl (j := 1) rfl ?_
    refine aw_if_lt C (tgt := 21) d_C_told_1 (by decide) (fun h1 => ?_) (fun h1 => ?_)
    · refine aw_iconst C (v := (-1)) d_C_told_21 (by decide) ?_
      refine aw_iret C E (rfl) (by decide) (by decide) d_C_told_22 ?_
      exact ⟨sI (by simp only [f_told, ix_out hx]), rfl, rfl⟩
    · refine aw_iload_n C d_C_told_4 rfl (j := 1) rfl ?_
      refine aw_aload_n C d_C_told_5 rfl (j := 0) rfl ?_
      refine aw_get C F_C ho 7 (by decide) tw_26 rfl d_C_told_6 ?_
      refine aw_icmp_ge C (tgt := 21) d_C_told_9 (by decide) (fun h9 => ?_) (fun h9 => ?_)
      · refine aw_iconst C (v := (-1)) d_C_told_21 (by decide) ?_
        refine aw_iret C E (rfl) (by decide) (by decide) d_C_told_22 ?_
        exact ⟨sI (by simp only [f_told, ix_out hx]), rfl, rfl⟩
      · exact absurd hx (by simp [h1, h9])
  · skip
    show AW X 2 0 0 ad ce 0 [(0, .ref (ad (0, 0, 0))), (1, .int (nI j))] []
    refine aw_iload_n C d_C_told_0 rfl (j := 1) rfl ?_
    refine aw_if_lt C (tgt := 21) d_C_told_1 (by decide) (fun h1 => absurd h1 (nI_pos (by omega))) (fun h1 => ?_)
    refine aw_iload_n C d_C_told_4 rfl (j := 1) rfl ?_
    refine aw_aload_n C d_C_told_5 rfl (j := 0) rfl ?_
    refine aw_get C F_C ho 7 (by decide) tw_26 rfl d_C_told_6 ?_
    refine aw_icmp_ge C (tgt := 21) d_C_told_9 (by decide) (fun h9 => absurd h9 (nI_ge (by omega) (by omega))) (fun h9 => ?_)
    refine aw_iload_n C d_C_told_12 rfl (j := 1) rfl ?_
    refine aw_aload_n C d_C_told_13 rfl (j := 0) rfl ?_
    refine aw_get C F_C ho 6 (by decide) tw_25 rfl d_C_told_14 ?_
    refine ar_len C hlo (tt := .int) rfl d_C_told_17 ?_
    refine aw_icmp_lt C (tgt := 23) d_C_told_18 (by decide) (fun h18 => ?_) (fun h18 => absurd (nI_lt (by omega) (by omega)) h18)
    refine aw_aload_n C d_C_told_23 rfl (j := 0) rfl ?_
    refine aw_get C F_C ho 6 (by decide) tw_25 rfl d_C_told_24 ?_
    refine aw_iload_n C d_C_told_27 rfl (j := 1) rfl ?_
    refine ar_iald C hlo (j := j) (rfl) (by omega) (by omega) d_C_told_28 ?_
    refine aw_iret C E (rfl) (by decide) (by decide) d_C_told_29 ?_
    exact ⟨sI (by simp only [f_told, ix_in hj (show s_on S < 2 ^ 31 by omega)]), rfl, rfl⟩
