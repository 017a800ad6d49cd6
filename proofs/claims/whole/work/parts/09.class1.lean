set_option maxRecDepth 100000 in
set_option maxHeartbeats 4000000 in
theorem c_within (l : Launch) (G : aw_G) (ad : aw_Ad) (ce : aw_He) (x a b : Int32) : CT l G M_C_within 0 0 0 0 [.int x, .int a, .int b] ad ce (rN (some (.int (bI (decide (a ≤ x ∧ x ≤ b))))) ad ce) := by
  refine CT.of (by decide) (Nat.le_of_ble_eq_true rfl) ?_
  intro X C I E
  show AW X 3 0 0 ad ce 0 [(0, .int x), (1, .int a), (2, .int b)] []
  refine aw_iload_n C d_C_within_0 rfl (j := 0) rfl ?_
  refine aw_iload_n C d_C_within_1 rfl (j := 1) rfl ?_
  refine aw_icmp_lt C (tgt := 14) d_C_within_2 (by decide) (fun h2 => ?_) (fun h2 => ?_)
  · refine aw_iconst C (v := 0) d_C_within_14 (by decide) ?_
    refine aw_iret C E (rfl) (by decide) (by decide) d_C_within_15 ?_
    exact ⟨sI (bI_f (by (try simp only [Int32.le_iff_toInt_le, Int32.lt_iff_toInt_lt] at *); omega)), rfl, rfl⟩
  · refine aw_iload_n C d_C_within_5 rfl (j := 0) rfl ?_
    refine aw_iload_n C d_C_within_6 rfl (j := 2) rfl ?_
    refine aw_icmp_gt C (tgt := 14) d_C_within_7 (by decide) (fun h7 => ?_) (fun h7 => ?_)
    · refine aw_iconst C (v := 0) d_C_within_14 (by decide) ?_
      refine aw_iret C E (rfl) (by decide) (by decide) d_C_within_15 ?_
      exact ⟨sI (bI_f (by (try simp only [Int32.le_iff_toInt_le, Int32.lt_iff_toInt_lt] at *); omega)), rfl, rfl⟩
    · refine aw_iconst C (v := 1) d_C_within_10 (by decide) ?_
      refine aw_goto C (tgt := 15) d_C_within_11 (by decide) ?_
      refine aw_iret C E (rfl) (by decide) (by decide) d_C_within_15 ?_
      exact ⟨sI (bI_t (by (try simp only [Int32.le_iff_toInt_le, Int32.lt_iff_toInt_lt] at *); omega)), rfl, rfl⟩
set_option maxRecDepth 100000 in
set_option maxHeartbeats 4000000 in
theorem c_isPerson (l : Launch) (G : aw_G) (ad : aw_Ad) (ce : aw_He) (x : Int32) : CT l G M_C_isPerson 1 22 0 0 [.int x] ad ce (rN (some (.int (bI (decide (0 ≤ x ∧ x ≤ 9))))) ad ce) := by
  refine CT.of (by decide) (Nat.le_of_ble_eq_true rfl) ?_
  intro X C I E
  show AW X 1 0 0 ad ce 0 [(0, .int x)] []
  refine aw_iload_n C d_C_isPerson_0 rfl (j := 0) rfl ?_
  refine aw_iconst C (v := 0) d_C_isPerson_1 (by decide) ?_
  refine aw_bipush C (v := 9) d_C_isPerson_2 (by decide) ?_
  refine aw_callS C I (as := [.int x, .int 0, .int 9]) (rest := []) (c_within l G ad ce x 0 9) g_C_42 ⟨by decide, by decide⟩ ⟨by decide, by decide⟩ rfl (Nat.le_of_ble_eq_true rfl) d_C_isPerson_4 ?_
  rintro _ _ _ ⟨rfl, rfl, rfl⟩
  show AW X 1 0 0 ad ce 7 [(0, .int x)] [.int (bI (decide (0 ≤ x ∧ x ≤ 9)))]
  refine aw_iret C E (nar_bI _) (by decide) (by decide) d_C_isPerson_7 ?_
  exact ⟨rfl, rfl, rfl⟩
set_option maxRecDepth 100000 in
set_option maxHeartbeats 4000000 in
theorem c_isSerial (l : Launch) (G : aw_G) (ad : aw_Ad) (ce : aw_He) (x : Int64) : CT l G M_C_isSerial 0 0 0 0 [.long x] ad ce (rN (some (.int (bI (decide (0 ≤ x ∧ x ≤ 1000000000000))))) ad ce) := by
  refine CT.of (by decide) (Nat.le_of_ble_eq_true rfl) ?_
  intro X C I E
  show AW X 2 0 0 ad ce 0 [(0, .long x)] []
  refine aw_lload_n C d_C_isSerial_0 rfl (j := 0) rfl ?_
  refine aw_lconst C (v := 0) d_C_isSerial_1 (by decide) ?_
  refine aw_lcmp C d_C_isSerial_2 ?_
  refine aw_if_lt C (tgt := 18) d_C_isSerial_3 (by decide) (fun h3 => ?_) (fun h3 => ?_)
  · refine aw_iconst C (v := 0) d_C_isSerial_18 (by decide) ?_
    refine aw_iret C E (rfl) (by decide) (by decide) d_C_isSerial_19 ?_
    exact ⟨sI (bI_f (by (try simp only [lg_cmp_lt, lg_cmp_gt, lg_cmp_ge, lg_cmp_le, Int64.le_iff_toInt_le, Int64.lt_iff_toInt_lt] at *); omega)), rfl, rfl⟩
  · refine aw_lload_n C d_C_isSerial_6 rfl (j := 0) rfl ?_
    refine aw_ldc2 C tw_56 d_C_isSerial_7 ?_
    refine aw_lcmp C d_C_isSerial_10 ?_
    refine aw_if_gt C (tgt := 18) d_C_isSerial_11 (by decide) (fun h11 => ?_) (fun h11 => ?_)
    · refine aw_iconst C (v := 0) d_C_isSerial_18 (by decide) ?_
      refine aw_iret C E (rfl) (by decide) (by decide) d_C_isSerial_19 ?_
      exact ⟨sI (bI_f (by (try simp only [lg_cmp_lt, lg_cmp_gt, lg_cmp_ge, lg_cmp_le, Int64.le_iff_toInt_le, Int64.lt_iff_toInt_lt] at *); omega)), rfl, rfl⟩
    · refine aw_iconst C (v := 1) d_C_isSerial_14 (by decide) ?_
      refine aw_goto C (tgt := 19) d_C_isSerial_15 (by decide) ?_
      refine aw_iret C E (rfl) (by decide) (by decide) d_C_isSerial_19 ?_
      exact ⟨sI (bI_t (by (try simp only [lg_cmp_lt, lg_cmp_gt, lg_cmp_ge, lg_cmp_le, Int64.le_iff_toInt_le, Int64.lt_iff_toInt_lt] at *); omega)), rfl, rfl⟩
set_option maxRecDepth 100000 in
set_option maxHeartbeats 4000000 in
theorem c_isGone (l : Launch) (G : aw_G) (ad : aw_Ad) (ce : aw_He) (i : Nat) (c : CarS) (hK : Car ad ce i c) : CT l G M_K_isGone 0 0 0 0 [.ref (ad (1, i, 0))] ad ce (rN (some (.int (bI (decide (k_st c = 5 ∨ k_st c = 6))))) ad ce) := by
  refine CT.of (by decide) (Nat.le_of_ble_eq_true rfl) ?_
  intro X C I E
  obtain ⟨hk, hby, hdu, hwo, hrd, hpt, ⟨hn1, hn2⟩, hps⟩ := hK
  show AW X 1 0 0 ad ce 0 [(0, .ref (ad (1, i, 0)))] []
  refine aw_aload_n C d_K_isGone_0 rfl (j := 0) rfl ?_
  refine aw_get C F_K hk 10 (by decide) tw_87 rfl d_K_isGone_1 ?_
  refine aw_iconst C (v := 5) d_K_isGone_4 (by decide) ?_
  refine aw_icmp_eq C (tgt := 17) d_K_isGone_5 (by decide) (fun h5 => ?_) (fun h5 => ?_)
  · refine aw_iconst C (v := 1) d_K_isGone_17 (by decide) ?_
    refine aw_goto C (tgt := 22) d_K_isGone_18 (by decide) ?_
    refine aw_iret C E (rfl) (by decide) (by decide) d_K_isGone_22 ?_
    exact ⟨sI (bI_t (by simp [*])), rfl, rfl⟩
  · refine aw_aload_n C d_K_isGone_8 rfl (j := 0) rfl ?_
    refine aw_get C F_K hk 10 (by decide) tw_87 rfl d_K_isGone_9 ?_
    refine aw_bipush C (v := 6) d_K_isGone_12 (by decide) ?_
    refine aw_icmp_ne C (tgt := 21) d_K_isGone_14 (by decide) (fun h14 => ?_) (fun h14 => ?_)
    · refine aw_iconst C (v := 0) d_K_isGone_21 (by decide) ?_
      refine aw_iret C E (rfl) (by decide) (by decide) d_K_isGone_22 ?_
      exact ⟨sI (bI_f (by simp [*])), rfl, rfl⟩
    · refine aw_iconst C (v := 1) d_K_isGone_17 (by decide) ?_
      refine aw_goto C (tgt := 22) d_K_isGone_18 (by decide) ?_
      refine aw_iret C E (rfl) (by decide) (by decide) d_K_isGone_22 ?_
      exact ⟨sI (bI_t (by simp [*])), rfl, rfl⟩
set_option maxRecDepth 100000 in
set_option maxHeartbeats 4000000 in
theorem c_hasPlace (l : Launch) (G : aw_G) (ad : aw_Ad) (ce : aw_He) (i : Nat) (c : CarS) (hK : Car ad ce i c) (x : Int32) : CT l G M_K_hasPlace 0 0 0 0 [.ref (ad (1, i, 0)), .int x] ad ce (rN (some (.int (bI (decide (0 ≤ x ∧ x < nI (k_np c)))))) ad ce) := by
  refine CT.of (by decide) (Nat.le_of_ble_eq_true rfl) ?_
  intro X C I E
  obtain ⟨hk, hby, hdu, hwo, hrd, hpt, ⟨hn1, hn2⟩, hps⟩ := hK
  show AW X 2 0 0 ad ce 0 [(0, .ref (ad (1, i, 0))), (1, .int x)] []
  refine aw_iload_n C d_K_hasPlace_0 rfl (j := 1) rfl ?_
  refine aw_if_lt C (tgt := 17) d_K_hasPlace_1 (by decide) (fun h1 => ?_) (fun h1 => ?_)
  · refine aw_iconst C (v := 0) d_K_hasPlace_17 (by decide) ?_
    refine aw_iret C E (rfl) (by decide) (by decide) d_K_hasPlace_18 ?_
    exact ⟨sI (bI_f (by (try simp only [Int32.le_iff_toInt_le, Int32.lt_iff_toInt_lt] at *); omega)), rfl, rfl⟩
  · refine aw_iload_n C d_K_hasPlace_4 rfl (j := 1) rfl ?_
    refine aw_aload_n C d_K_hasPlace_5 rfl (j := 0) rfl ?_
    refine aw_get C F_K hk 2 (by decide) tw_75 rfl d_K_hasPlace_6 ?_
    refine ar_len C hby (tt := .int) rfl d_K_hasPlace_9 ?_
    refine aw_icmp_ge C (tgt := 17) d_K_hasPlace_10 (by decide) (fun h10 => ?_) (fun h10 => ?_)
    · refine aw_iconst C (v := 0) d_K_hasPlace_17 (by decide) ?_
      refine aw_iret C E (rfl) (by decide) (by decide) d_K_hasPlace_18 ?_
      exact ⟨sI (bI_f (by (try simp only [Int32.le_iff_toInt_le, Int32.lt_iff_toInt_lt] at *); omega)), rfl, rfl⟩
    · refine aw_iconst C (v := 1) d_K_hasPlace_13 (by decide) ?_
      refine aw_goto C (tgt := 18) d_K_hasPlace_14 (by decide) ?_
      refine aw_iret C E (rfl) (by decide) (by decide) d_K_hasPlace_18 ?_
      exact ⟨sI (bI_t (by (try simp only [Int32.le_iff_toInt_le, Int32.lt_iff_toInt_lt] at *); omega)), rfl, rfl⟩
set_option maxRecDepth 100000 in
set_option maxHeartbeats 4000000 in
theorem c_findC_in (l : Launch) (G : aw_G) (ad : aw_Ad) (ce : aw_He) (S : SysS) (hL : LayC S ad ce) (j : Nat) (hj : j < s_cn S) : CT l G M_C_findCarrier 0 0 0 0 [.ref (ad (0, 0, 0)), .int (nI j)] ad ce (rN (some (.ref (ad (1, j, 0)))) ad ce) := by
  refine CT.of (by decide) (Nat.le_of_ble_eq_true rfl) ?_
  intro X C I E
  obtain ⟨ho, hca, hpa, hli, hlo, hcars, hpaps, hnoc, hnop, hb1, hb2, hb3, hb4⟩ := hL
  show AW X 2 0 0 ad ce 0 [(0, .ref (ad (0, 0, 0))), (1, .int (nI j))] []
  refine aw_iload_n C d_C_findCarrier_0 rfl (j := 1) rfl ?_
  refine aw_if_lt C (tgt := 21) d_C_findCarrier_1 (by decide) (fun h1 => absurd h1 (nI_pos (by omega))) (fun h1 => ?_)
  refine aw_iload_n C d_C_findCarrier_4 rfl (j := 1) rfl ?_
  refine aw_aload_n C d_C_findCarrier_5 rfl (j := 0) rfl ?_
  refine aw_get C F_C ho 1 (by decide) tw_20 rfl d_C_findCarrier_6 ?_
  refine aw_icmp_ge C (tgt := 21) d_C_findCarrier_9 (by decide) (fun h9 => absurd h9 (nI_ge (by omega) (by omega))) (fun h9 => ?_)
  refine aw_iload_n C d_C_findCarrier_12 rfl (j := 1) rfl ?_
  refine aw_aload_n C d_C_findCarrier_13 rfl (j := 0) rfl ?_
  refine aw_get C F_C ho 0 (by decide) tw_19 rfl d_C_findCarrier_14 ?_
  refine ar_lenQ C hca rfl d_C_findCarrier_17 ?_
  refine aw_icmp_lt C (tgt := 23) d_C_findCarrier_18 (by decide) (fun h18 => ?_) (fun h18 => absurd (nI_lt (by omega) (by omega)) h18)
  refine aw_aload_n C d_C_findCarrier_23 rfl (j := 0) rfl ?_
  refine aw_get C F_C ho 0 (by decide) tw_19 rfl d_C_findCarrier_24 ?_
  refine aw_iload_n C d_C_findCarrier_27 rfl (j := 1) rfl ?_
  refine ar_aald C hca rfl (j := j) (rfl) (by omega) (by omega) d_C_findCarrier_28 ?_
  refine aw_top (v' := .ref (ad (1, j, 0))) (by simp [va_rf, hj]) ?_
  refine aw_aret C E (Or.inl ⟨_, rfl⟩) (Or.inr ⟨_, rfl⟩) (by decide) (by decide) d_C_findCarrier_29 ?_
  exact ⟨rfl, rfl, rfl⟩
set_option maxRecDepth 100000 in
set_option maxHeartbeats 4000000 in
theorem c_findC_out (l : Launch) (G : aw_G) (ad : aw_Ad) (ce : aw_He) (S : SysS) (hL : LayC S ad ce) (x : Int32) (hx : x < 0 ∨ nI (s_cn S) ≤ x) : CT l G M_C_findCarrier 0 0 0 0 [.ref (ad (0, 0, 0)), .int x] ad ce (rN (some .null) ad ce) := by
  refine CT.of (by decide) (Nat.le_of_ble_eq_true rfl) ?_
  intro X C I E
  obtain ⟨ho, hca, hpa, hli, hlo, hcars, hpaps, hnoc, hnop, hb1, hb2, hb3, hb4⟩ := hL
  show AW X 2 0 0 ad ce 0 [(0, .ref (ad (0, 0, 0))), (1, .int x)] []
  refine aw_iload_n C d_C_findCarrier_0 rfl (j := 1) rfl ?_
  refine aw_if_lt C (tgt := 21) d_C_findCarrier_1 (by decide) (fun h1 => ?_) (fun h1 => ?_)
  · refine aw_null C d_C_findCarrier_21 ?_
    refine aw_aret C E (Or.inl ⟨_, rfl⟩) (Or.inl rfl) (by decide) (by decide) d_C_findCarrier_22 ?_
    exact ⟨rfl, rfl, rfl⟩
  · refine aw_iload_n C d_C_findCarrier_4 rfl (j := 1) rfl ?_
    refine aw_aload_n C d_C_findCarrier_5 rfl (j := 0) rfl ?_
    refine aw_get C F_C ho 1 (by decide) tw_20 rfl d_C_findCarrier_6 ?_
    refine aw_icmp_ge C (tgt := 21) d_C_findCarrier_9 (by decide) (fun h9 => ?_) (fun h9 => ?_)
    · refine aw_null C d_C_findCarrier_21 ?_
      refine aw_aret C E (Or.inl ⟨_, rfl⟩) (Or.inl rfl) (by decide) (by decide) d_C_findCarrier_22 ?_
      exact ⟨rfl, rfl, rfl⟩
    · exact absurd hx (by simp [h1, h9])
set_option maxRecDepth 100000 in
set_option maxHeartbeats 4000000 in
theorem c_findP_in (l : Launch) (G : aw_G) (ad : aw_Ad) (ce : aw_He) (S : SysS) (hL : LayC S ad ce) (j : Nat) (hj : j < s_pn S) : CT l G M_C_findPaper 0 0 0 0 [.ref (ad (0, 0, 0)), .int (nI j)] ad ce (rN (some (.ref (ad (2, j, 0)))) ad ce) := by
  refine CT.of (by decide) (Nat.le_of_ble_eq_true rfl) ?_
  intro X C I E
  obtain ⟨ho, hca, hpa, hli, hlo, hcars, hpaps, hnoc, hnop, hb1, hb2, hb3, hb4⟩ := hL
  show AW X 2 0 0 ad ce 0 [(0, .ref (ad (0, 0, 0))), (1, .int (nI j))] []
  refine aw_iload_n C d_C_findPaper_0 rfl (j := 1) rfl ?_
  refine aw_if_lt C (tgt := 21) d_C_findPaper_1 (by decide) (fun h1 => absurd h1 (nI_pos (by omega))) (fun h1 => ?_)
  refine aw_iload_n C d_C_findPaper_4 rfl (j := 1) rfl ?_
  refine aw_aload_n C d_C_findPaper_5 rfl (j := 0) rfl ?_
  refine aw_get C F_C ho 3 (by decide) tw_22 rfl d_C_findPaper_6 ?_
  refine aw_icmp_ge C (tgt := 21) d_C_findPaper_9 (by decide) (fun h9 => absurd h9 (nI_ge (by omega) (by omega))) (fun h9 => ?_)
  refine aw_iload_n C d_C_findPaper_12 rfl (j := 1) rfl ?_
  refine aw_aload_n C d_C_findPaper_13 rfl (j := 0) rfl ?_
  refine aw_get C F_C ho 2 (by decide) tw_21 rfl d_C_findPaper_14 ?_
  refine ar_lenQ C hpa rfl d_C_findPaper_17 ?_
  refine aw_icmp_lt C (tgt := 23) d_C_findPaper_18 (by decide) (fun h18 => ?_) (fun h18 => absurd (nI_lt (by omega) (by omega)) h18)
  refine aw_aload_n C d_C_findPaper_23 rfl (j := 0) rfl ?_
  refine aw_get C F_C ho 2 (by decide) tw_21 rfl d_C_findPaper_24 ?_
  refine aw_iload_n C d_C_findPaper_27 rfl (j := 1) rfl ?_
  refine ar_aald C hpa rfl (j := j) (rfl) (by omega) (by omega) d_C_findPaper_28 ?_
  refine aw_top (v' := .ref (ad (2, j, 0))) (by simp [va_rf, hj]) ?_
  refine aw_aret C E (Or.inl ⟨_, rfl⟩) (Or.inr ⟨_, rfl⟩) (by decide) (by decide) d_C_findPaper_29 ?_
  exact ⟨rfl, rfl, rfl⟩
set_option maxRecDepth 100000 in
set_option maxHeartbeats 4000000 in
theorem c_findP_out (l : Launch) (G : aw_G) (ad : aw_Ad) (ce : aw_He) (S : SysS) (hL : LayC S ad ce) (x : Int32) (hx : x < 0 ∨ nI (s_pn S) ≤ x) : CT l G M_C_findPaper 0 0 0 0 [.ref (ad (0, 0, 0)), .int x] ad ce (rN (some .null) ad ce) := by
  refine CT.of (by decide) (Nat.le_of_ble_eq_true rfl) ?_
  intro X C I E
  obtain ⟨ho, hca, hpa, hli, hlo, hcars, hpaps, hnoc, hnop, hb1, hb2, hb3, hb4⟩ := hL
  show AW X 2 0 0 ad ce 0 [(0, .ref (ad (0, 0, 0))), (1, .int x)] []
  refine aw_iload_n C d_C_findPaper_0 rfl (j := 1) rfl ?_
  refine aw_if_lt C (tgt := 21) d_C_findPaper_1 (by decide) (fun h1 => ?_) (fun h1 => ?_)
  · refine aw_null C d_C_findPaper_21 ?_
    refine aw_aret C E (Or.inl ⟨_, rfl⟩) (Or.inl rfl) (by decide) (by decide) d_C_findPaper_22 ?_
    exact ⟨rfl, rfl, rfl⟩
  · refine aw_iload_n C d_C_findPaper_4 rfl (j := 1) rfl ?_
    refine aw_aload_n C d_C_findPaper_5 rfl (j := 0) rfl ?_
    refine aw_get C F_C ho 3 (by decide) tw_22 rfl d_C_findPaper_6 ?_
    refine aw_icmp_ge C (tgt := 21) d_C_findPaper_9 (by decide) (fun h9 => ?_) (fun h9 => ?_)
    · refine aw_null C d_C_findPaper_21 ?_
      refine aw_aret C E (Or.inl ⟨_, rfl⟩) (Or.inl rfl) (by decide) (by decide) d_C_findPaper_22 ?_
      exact ⟨rfl, rfl, rfl⟩
    · exact absurd hx (by simp [h1, h9])
set_option maxRecDepth 100000 in
set_option maxHeartbeats 4000000 in
theorem c_wornPlace (l : Launch) (G : aw_G) (ad : aw_Ad) (ce : aw_He) (i : Nat) (c : CarS) (hK : Car ad ce i c) (k : Int32) : CT l G M_K_wornPlace 0 0 0 0 [.ref (ad (1, i, 0)), .int k] ad ce (rN (some (.int (kth (k_wo c) k (k_np c) 0 0))) ad ce) := by
  refine CT.of (by decide) (Nat.le_of_ble_eq_true rfl) ?_
  intro X C I E
  obtain ⟨hk, hby, hdu, hwo, hrd, hpt, ⟨hn1, hn2⟩, hps⟩ := hK
  have loop : ∀ (m a : Nat) (s : Int32), a + m = k_np c → kth (k_wo c) k m a s = kth (k_wo c) k (k_np c) 0 0 → AW X 4 0 0 ad ce 4 [(3, .int (nI a)), (2, .int s), (0, .ref (ad (1, i, 0))), (1, .int k)] [] := by
    intro m
    induction m with
    | zero =>
      intro a s ha hr
      refine aw_iload_n C d_K_wornPlace_4 rfl (j := 0) rfl ?_
      refine aw_aload_n C d_K_wornPlace_5 rfl (j := 2) rfl ?_
      refine aw_get C F_K hk 4 (by decide) tw_78 rfl d_K_wornPlace_6 ?_
      refine ar_len C hwo (tt := .boolean) rfl d_K_wornPlace_9 ?_
      refine aw_icmp_ge C (tgt := 38) d_K_wornPlace_10 (by decide) (fun h10 => ?_) (fun h10 => absurd (nI_le (by omega) (by omega)) h10)
      refine aw_iconst C (v := (-1)) d_K_wornPlace_38 (by decide) ?_
      refine aw_iret C E (rfl) (by decide) (by decide) d_K_wornPlace_39 ?_
      exact ⟨sI hr, rfl, rfl⟩
    | succ m ih =>
      intro a s ha hr
      simp only [kth] at hr
      refine aw_iload_n C d_K_wornPlace_4 rfl (j := 0) rfl ?_
      refine aw_aload_n C d_K_wornPlace_5 rfl (j := 2) rfl ?_
      refine aw_get C F_K hk 4 (by decide) tw_78 rfl d_K_wornPlace_6 ?_
      refine ar_len C hwo (tt := .boolean) rfl d_K_wornPlace_9 ?_
      refine aw_icmp_ge C (tgt := 38) d_K_wornPlace_10 (by decide) (fun h10 => absurd h10 (nI_ge (by omega) (by omega))) (fun h10 => ?_)
      refine aw_aload_n C d_K_wornPlace_13 rfl (j := 2) rfl ?_
      refine aw_get C F_K hk 4 (by decide) tw_78 rfl d_K_wornPlace_14 ?_
      refine aw_iload_n C d_K_wornPlace_17 rfl (j := 0) rfl ?_
      refine ar_zald C hwo (j := a) (rfl) (by omega) (by omega) d_K_wornPlace_18 ?_
      refine aw_if_eq C (tgt := 32) d_K_wornPlace_19 (by decide) (fun h19 => ?_) (fun h19 => ?_)
      · refine aw_iinc C (v := nI (a + 1)) (lv' := [(3, .int (nI (a + 1))), (2, .int s), (0, .ref (ad (1, i, 0))), (1, .int k)]) d_K_wornPlace_32 (j := 0) rfl (nI_1 _) (by decide) rfl ?_
        refine aw_goto C (tgt := 4) d_K_wornPlace_35 (by decide) ?_
        rw [if_pos h19] at hr
        exact ih (a + 1) s (by omega) hr
      · refine aw_iload_n C d_K_wornPlace_22 rfl (j := 1) rfl ?_
        refine aw_iload_n C d_K_wornPlace_23 rfl (j := 3) rfl ?_
        refine aw_icmp_ne C (tgt := 29) d_K_wornPlace_24 (by decide) (fun h24 => ?_) (fun h24 => ?_)
        · refine aw_iinc C (v := s + 1) (lv' := [(2, .int (s + 1)), (3, .int (nI a)), (0, .ref (ad (1, i, 0))), (1, .int k)]) d_K_wornPlace_29 (j := 1) rfl (rfl) (by decide) rfl ?_
          refine aw_iinc C (v := nI (a + 1)) (lv' := [(3, .int (nI (a + 1))), (2, .int (s + 1)), (0, .ref (ad (1, i, 0))), (1, .int k)]) d_K_wornPlace_32 (j := 1) rfl (nI_1 _) (by decide) rfl ?_
          refine aw_goto C (tgt := 4) d_K_wornPlace_35 (by decide) ?_
          rw [if_neg h19, if_neg h24] at hr
          exact ih (a + 1) (s + 1) (by omega) hr
        · refine aw_iload_n C d_K_wornPlace_27 rfl (j := 0) rfl ?_
          refine aw_iret C E (rfl) (by decide) (by decide) d_K_wornPlace_28 ?_
          exact ⟨sI (by rw [← hr, if_neg h19, if_pos h24]), rfl, rfl⟩
  show AW X 4 0 0 ad ce 0 [(0, .ref (ad (1, i, 0))), (1, .int k)] []
  refine aw_iconst C (v := 0) d_K_wornPlace_0 (by decide) ?_
  refine aw_istore_n C (lv' := [(2, .int 0), (0, .ref (ad (1, i, 0))), (1, .int k)]) d_K_wornPlace_1 rfl (by decide) rfl ?_
  refine aw_iconst C (v := 0) d_K_wornPlace_2 (by decide) ?_
  refine aw_istore_n C (lv' := [(3, .int 0), (2, .int 0), (0, .ref (ad (1, i, 0))), (1, .int k)]) d_K_wornPlace_3 rfl (by decide) rfl ?_
  refine aw_lv (lv' := [(3, .int (nI 0)), (2, .int 0), (0, .ref (ad (1, i, 0))), (1, .int k)]) (by simp only [nI_0]) ?_
  exact loop (k_np c) 0 0 (by omega) rfl
