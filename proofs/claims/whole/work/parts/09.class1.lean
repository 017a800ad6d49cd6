set_option maxRecDepth 100000 in
set_option maxHeartbeats 4000000 in
theorem c_within (l : Launch) (G : aw_G) (ad : aw_Ad) (ce : aw_He) (x a b : Int32) : CT l G M_C_within 0 0 0 0 [.int x, .int a, .int b] ad ce (rN (some (.int (bI (decide (a ≤ x ∧ x ≤ b))))) ad ce) := by
  refine CT.of (by decide) (Nat.le_of_ble_eq_true rfl) ?_
  intro X C I E
  show AW X 3 0 0 ad ce 0 [(0, .int x), (1, .int a), (2, .int b)] []
  refine aw_iload_n C d_C_within_0 rfl (j := 0) rfl ?_
  refine aw_iload_n C d_C_within_1 rfl (j := 1) rfl ?_
  refine aw_icmp_lt C (tgt := 14) d_C_within_2 (by decide) (fun h2 => ?_) (fun h2 => ?_)
  · refine aw_iconst C (v := 0) d_C_within_14 (by decide) ?_
    refine aw_iret C E (rfl) (by decide) (by decide) d_C_within_15 ?_
    exact ⟨sI (bI_f (by (try simp only [Int32.le_iff_toInt_le, Int32.lt_iff_toInt_lt] at *); omega)), rfl, rfl⟩
  · refine aw_iload_n C d_C_within_5 rfl (j := 0) rfl ?_
    refine aw_iload_n C d_C_within_6 rfl (j := 2) rfl ?_
    refine aw_icmp_gt C (tgt := 14) d_C_within_7 (by decide) (fun h7 => ?_) (fun h7 => ?_)
    · refine aw_iconst C (v := 0) d_C_within_14 (by decide) ?_
      refine aw_iret C E (rfl) (by decide) (by decide) d_C_within_15 ?_
      exact ⟨sI (bI_f (by (try simp only [Int32.le_iff_toInt_le, Int32.lt_iff_toInt_lt] at *); omega)), rfl, rfl⟩
    · refine aw_iconst C (v := 1) d_C_within_10 (by decide) ?_
      refine aw_goto C (tgt := 15) d_C_within_11 (by decide) ?_
      refine aw_iret C E (rfl) (by decide) (by decide) d_C_within_15 ?_
      exact ⟨sI (bI_t (by (try simp only [Int32.le_iff_toInt_le, Int32.lt_iff_toInt_lt] at *); omega)), rfl, rfl⟩
set_option maxRecDepth 100000 in
set_option maxHeartbeats 4000000 in
theorem c_isPerson (l : Launch) (G : aw_G) (ad : aw_Ad) (ce : aw_He) (x : Int32) : CT l G M_C_isPerson 1 22 0 0 [.int x] ad ce (rN (some (.int (bI (decide (0 ≤ x ∧ x ≤ 9))))) ad ce) := by
  refine CT.of (by decide) (Nat.le_of_ble_eq_true rfl) ?_
  intro X C I E
  show AW X 1 0 0 ad ce 0 [(0, .int x)] []
  refine aw_iload_n C d_C_isPerson_0 rfl (j := 0) rfl ?_
  refine aw_iconst C (v := 0) d_C_isPerson_1 (by decide) ?_
  refine aw_bipush C (v := 9) d_C_isPerson_2 (by decide) ?_
  refine aw_callS C I (as := [.int x, .int 0, .int 9]) (rest := []) (c_within l G ad ce x 0 9) g_C_42 ⟨by decide, by decide⟩ ⟨by decide, by decide⟩ rfl (by decide) d_C_isPerson_4 ?_
  rintro _ _ _ ⟨rfl, rfl, rfl⟩
  show AW X 1 0 0 ad ce 7 [(0, .int x)] [.int (bI (decide (0 ≤ x ∧ x ≤ 9)))]
  refine aw_iret C E (nar_bI _) (by decide) (by decide) d_C_isPerson_7 ?_
  exact ⟨rfl, rfl, rfl⟩
