set_option maxRecDepth 100000 in
set_option maxHeartbeats 4000000 in
theorem c_wear_out (l : Launch) (G : aw_G) (ad : aw_Ad) (ce : aw_He) (i : Nat) (c : CarS) (hK : Car ad ce i c) (x : Int32) (hx : x < 0 ∨ nI (k_np c) ≤ x) : CT l G M_K_wearOut 1 21 0 0 [.ref (ad (1, i, 0)), .int x] ad ce (rN (some (.int 0)) ad ce) := by
  refine CT.of (by decide) (Nat.le_of_ble_eq_true rfl) ?_
  intro X C I E
  have hK0 := hK
  obtain ⟨hk, hby, hdu, hwo, hrd, hpt, ⟨hn1, hn2⟩, hps⟩ := hK0
  show AW X 2 0 0 ad ce 0 [(0, .ref (ad (1, i, 0))), (1, .int x)] []
  refine aw_aload_n C d_K_wearOut_0 rfl (j := 0) rfl ?_
  refine aw_iload_n C d_K_wearOut_1 rfl (j := 1) rfl ?_
  refine aw_callV C I (k := (1, i, 0)) (as := [.int x]) (rest := []) (c_hasPlace l G ad ce i c hK x) g_K_51 hk rfl rfl ⟨by decide, by decide⟩ ⟨by decide, by decide⟩ rfl (Nat.le_of_ble_eq_true rfl) d_K_wearOut_2 ?_
  rintro _ _ _ ⟨rfl, rfl, rfl⟩
  show AW X 2 0 0 ad ce 5 [(0, .ref (ad (1, i, 0))), (1, .int x)] [.int (bI (decide (0 ≤ x ∧ x < nI (k_np c))))]
  refine aw_topi (v' := 0) (by rw [← bI_f (by (try simp only [Int32.le_iff_toInt_le, Int32.lt_iff_toInt_lt] at *); omega)]) ?_
  show AW X 2 0 0 ad ce 5 [(0, .ref (ad (1, i, 0))), (1, .int x)] [.int 0]
  refine aw_if_eq C (tgt := 17) d_K_wearOut_5 (by decide) (fun h5 => ?_) (fun h5 => absurd (rfl) h5)
  refine aw_iconst C (v := 0) d_K_wearOut_17 (by decide) ?_
  refine aw_iret C E (rfl) (by decide) (by decide) d_K_wearOut_18 ?_
  exact ⟨rfl, rfl, rfl⟩
set_option maxRecDepth 100000 in
set_option maxHeartbeats 4000000 in
theorem c_wear_no (l : Launch) (G : aw_G) (ad : aw_Ad) (ce : aw_He) (i : Nat) (c : CarS) (hK : Car ad ce i c) (j : Nat) (hj : j < k_np c) (hw : ¬ k_wo c j = 0) : CT l G M_K_wearOut 1 21 0 0 [.ref (ad (1, i, 0)), .int (nI j)] ad ce (rN (some (.int 0)) ad ce) := by
  refine CT.of (by decide) (Nat.le_of_ble_eq_true rfl) ?_
  intro X C I E
  have hK0 := hK
  obtain ⟨hk, hby, hdu, hwo, hrd, hpt, ⟨hn1, hn2⟩, hps⟩ := hK0
  show AW X 2 0 0 ad ce 0 [(0, .ref (ad (1, i, 0))), (1, .int (nI j))] []
  refine aw_aload_n C d_K_wearOut_0 rfl (j := 0) rfl ?_
  refine aw_iload_n C d_K_wearOut_1 rfl (j := 1) rfl ?_
  refine aw_callV C I (k := (1, i, 0)) (as := [.int (nI j)]) (rest := []) (c_hasPlace l G ad ce i c hK (nI j)) g_K_51 hk rfl rfl ⟨by decide, by decide⟩ ⟨by decide, by decide⟩ rfl (Nat.le_of_ble_eq_true rfl) d_K_wearOut_2 ?_
  rintro _ _ _ ⟨rfl, rfl, rfl⟩
  show AW X 2 0 0 ad ce 5 [(0, .ref (ad (1, i, 0))), (1, .int (nI j))] [.int (bI (decide (0 ≤ (nI j) ∧ (nI j) < nI (k_np c))))]
  refine aw_topi (v' := 1) (by rw [← bI_t ⟨nI_pos' (by omega), nI_lt (by omega) (by omega)⟩]) ?_
  show AW X 2 0 0 ad ce 5 [(0, .ref (ad (1, i, 0))), (1, .int (nI j))] [.int 1]
  refine aw_if_eq C (tgt := 17) d_K_wearOut_5 (by decide) (fun h5 => absurd h5 (by decide)) (fun h5 => ?_)
  refine aw_aload_n C d_K_wearOut_8 rfl (j := 0) rfl ?_
  refine aw_get C F_K hk 4 (by decide) tw_78 rfl d_K_wearOut_9 ?_
  refine aw_iload_n C d_K_wearOut_12 rfl (j := 1) rfl ?_
  refine ar_zald C hwo (j := j) (rfl) (by omega) (by omega) d_K_wearOut_13 ?_
  refine aw_if_eq C (tgt := 19) d_K_wearOut_14 (by decide) (fun h14 => absurd h14 (hw)) (fun h14 => ?_)
  refine aw_iconst C (v := 0) d_K_wearOut_17 (by decide) ?_
  refine aw_iret C E (rfl) (by decide) (by decide) d_K_wearOut_18 ?_
  exact ⟨rfl, rfl, rfl⟩
set_option maxRecDepth 100000 in
set_option maxHeartbeats 4000000 in
theorem c_wear_ok (l : Launch) (G : aw_G) (ad : aw_Ad) (ce : aw_He) (i : Nat) (c : CarS) (hK : Car ad ce i c) (j : Nat) (hj : j < k_np c) (hw : k_wo c j = 0) : CT l G M_K_wearOut 1 21 0 0 [.ref (ad (1, i, 0)), .int (nI j)] ad ce (rK (some (.int 1)) i (k_sWo c (upd (k_wo c) j 1)) ad ce) := by
  refine CT.of (by decide) (Nat.le_of_ble_eq_true rfl) ?_
  intro X C I E
  have hK0 := hK
  obtain ⟨hk, hby, hdu, hwo, hrd, hpt, ⟨hn1, hn2⟩, hps⟩ := hK0
  show AW X 2 0 0 ad ce 0 [(0, .ref (ad (1, i, 0))), (1, .int (nI j))] []
  refine aw_aload_n C d_K_wearOut_0 rfl (j := 0) rfl ?_
  refine aw_iload_n C d_K_wearOut_1 rfl (j := 1) rfl ?_
  refine aw_callV C I (k := (1, i, 0)) (as := [.int (nI j)]) (rest := []) (c_hasPlace l G ad ce i c hK (nI j)) g_K_51 hk rfl rfl ⟨by decide, by decide⟩ ⟨by decide, by decide⟩ rfl (Nat.le_of_ble_eq_true rfl) d_K_wearOut_2 ?_
  rintro _ _ _ ⟨rfl, rfl, rfl⟩
  show AW X 2 0 0 ad ce 5 [(0, .ref (ad (1, i, 0))), (1, .int (nI j))] [.int (bI (decide (0 ≤ (nI j) ∧ (nI j) < nI (k_np c))))]
  refine aw_topi (v' := 1) (by rw [← bI_t ⟨nI_pos' (by omega), nI_lt (by omega) (by omega)⟩]) ?_
  show AW X 2 0 0 ad ce 5 [(0, .ref (ad (1, i, 0))), (1, .int (nI j))] [.int 1]
  refine aw_if_eq C (tgt := 17) d_K_wearOut_5 (by decide) (fun h5 => absurd h5 (by decide)) (fun h5 => ?_)
  refine aw_aload_n C d_K_wearOut_8 rfl (j := 0) rfl ?_
  refine aw_get C F_K hk 4 (by decide) tw_78 rfl d_K_wearOut_9 ?_
  refine aw_iload_n C d_K_wearOut_12 rfl (j := 1) rfl ?_
  refine ar_zald C hwo (j := j) (rfl) (by omega) (by omega) d_K_wearOut_13 ?_
  refine aw_if_eq C (tgt := 19) d_K_wearOut_14 (by decide) (fun h14 => ?_) (fun h14 => absurd (hw) h14)
  refine aw_aload_n C d_K_wearOut_19 rfl (j := 0) rfl ?_
  refine aw_get C F_K hk 4 (by decide) tw_78 rfl d_K_wearOut_20 ?_
  refine aw_iload_n C d_K_wearOut_23 rfl (j := 1) rfl ?_
  refine aw_iconst C (v := 1) d_K_wearOut_24 (by decide) ?_
  refine ar_zast C (v := 1) hwo (j := j) (rfl) (by omega) (by omega) rfl d_K_wearOut_25 ?_
  intro ce1 fw1 hwo
  have hk : ce1 (1, i, 0) = some (.inr (1, [.int (k_kd c), .long (k_sr c), .ref (ad (1, i, 1)), .ref (ad (1, i, 2)), .ref (ad (1, i, 3)), .ref (ad (1, i, 4)), .ref (ad (1, i, 5)), .int (nI (k_ps c)), .int (nI (cnt (k_rd c) (k_np c))), .int (k_un c), .int (k_st c), .int (k_la c)])) := (fw1 _ (by simp)).trans hk
  have hby := hby.tr (fw1 _ (by simp))
  have hdu := hdu.tr (fw1 _ (by simp))
  have hrd := hrd.tr (fw1 _ (by simp))
  have hpt := hpt.tr (fw1 _ (by simp))
  refine aw_iconst C (v := 1) d_K_wearOut_26 (by decide) ?_
  refine aw_iret C E (rfl) (by decide) (by decide) d_K_wearOut_27 ?_
  exact ⟨rfl, rfl, fr1 fw1, hk, hby, hdu, hwo, hrd, hpt, ⟨hn1, hn2⟩, hps⟩
set_option maxRecDepth 100000 in
set_option maxHeartbeats 4000000 in
theorem c_forgetReads (l : Launch) (G : aw_G) (ad : aw_Ad) (ce : aw_He) (i : Nat) (c : CarS) (hK : Car ad ce i c) : CT l G M_K_forgetReads 0 0 0 0 [.ref (ad (1, i, 0))] ad ce (rK none i (k_sFg c) ad ce) := by
  refine CT.of (by decide) (Nat.le_of_ble_eq_true rfl) ?_
  intro X C I E
  obtain ⟨hk, hby, hdu, hwo, hrd, hpt, ⟨hn1, hn2⟩, hps⟩ := hK
  have hby0 := hby
  have hdu0 := hdu
  have hwo0 := hwo
  have hpt0 := hpt
  have loop : ∀ (m a : Nat) (ce1 : aw_He) (g : Nat → Int32), a + m = k_np c → (∀ q, q ≠ (1, i, 4) → ce1 q = ce q) → arI ce1 (1, i, 4) 1 (k_np c) g → (∀ j, j < a → g j = 0) → AW X 2 0 0 ad ce1 2 [(1, .int (nI a)), (0, .ref (ad (1, i, 0)))] [] := by
    intro m
    induction m with
    | zero =>
      intro a ce1 g ha hf hrd hg
      have hk : ce1 (1, i, 0) = _ := (hf _ (by simp)).trans hk
      refine aw_iload_n C d_K_forgetReads_2 rfl (j := 0) rfl ?_
      refine aw_aload_n C d_K_forgetReads_3 rfl (j := 1) rfl ?_
      refine aw_get C F_K hk 5 (by decide) tw_79 rfl d_K_forgetReads_4 ?_
      refine ar_len C hrd (tt := .boolean) rfl d_K_forgetReads_7 ?_
      refine aw_icmp_ge C (tgt := 24) d_K_forgetReads_8 (by decide) (fun h8 => ?_) (fun h8 => absurd (nI_le (by omega) (by omega)) h8)
      refine aw_aload_n C d_K_forgetReads_24 rfl (j := 1) rfl ?_
      refine aw_iconst C (v := 0) d_K_forgetReads_25 (by decide) ?_
      refine aw_topi (v' := nI (cnt (fun _ => 0) (k_np c))) (cnt0 _) ?_
      refine ob_put C F_K hk 8 (by decide) tw_84 rfl rfl rfl (Nat.le_of_ble_eq_true rfl) (fs' := [.int (k_kd c), .long (k_sr c), .ref (ad (1, i, 1)), .ref (ad (1, i, 2)), .ref (ad (1, i, 3)), .ref (ad (1, i, 4)), .ref (ad (1, i, 5)), .int (nI (k_ps c)), .int (nI (cnt (fun _ => 0) (k_np c))), .int (k_un c), .int (k_st c), .int (k_la c)]) rfl d_K_forgetReads_26 ?_
      intro ce2 fw2 hk
      have hrd := hrd.tr (fw2 _ (by simp))
      refine aw_aload_n C d_K_forgetReads_29 rfl (j := 1) rfl ?_
      refine aw_iconst C (v := 0) d_K_forgetReads_30 (by decide) ?_
      refine ob_put C F_K hk 9 (by decide) tw_85 rfl rfl rfl (Nat.le_of_ble_eq_true rfl) (fs' := [.int (k_kd c), .long (k_sr c), .ref (ad (1, i, 1)), .ref (ad (1, i, 2)), .ref (ad (1, i, 3)), .ref (ad (1, i, 4)), .ref (ad (1, i, 5)), .int (nI (k_ps c)), .int (nI (cnt (fun _ => 0) (k_np c))), .int 0, .int (k_st c), .int (k_la c)]) rfl d_K_forgetReads_31 ?_
      intro ce3 fw3 hk
      have hrd := hrd.tr (fw3 _ (by simp))
      refine aw_vret C E (by decide) (by decide) d_K_forgetReads_34 ?_
      have hz := hrd.to (g' := fun _ => (0 : Int32)) (fun j hj => hg j (by omega))
      have fr := (fr1 hf).trans ((fr1 fw2).trans (fr1 fw3))
      exact ⟨rfl, rfl, fr, hk, hby0.tr (by rw [fw3 _ (by simp), fw2 _ (by simp), hf _ (by simp)]), hdu0.tr (by rw [fw3 _ (by simp), fw2 _ (by simp), hf _ (by simp)]), hwo0.tr (by rw [fw3 _ (by simp), fw2 _ (by simp), hf _ (by simp)]), hz, hpt0.tr (by rw [fw3 _ (by simp), fw2 _ (by simp), hf _ (by simp)]), ⟨hn1, hn2⟩, hps⟩
    | succ m ih =>
      intro a ce1 g ha hf hrd hg
      have hk : ce1 (1, i, 0) = _ := (hf _ (by simp)).trans hk
      refine aw_iload_n C d_K_forgetReads_2 rfl (j := 0) rfl ?_
      refine aw_aload_n C d_K_forgetReads_3 rfl (j := 1) rfl ?_
      refine aw_get C F_K hk 5 (by decide) tw_79 rfl d_K_forgetReads_4 ?_
      refine ar_len C hrd (tt := .boolean) rfl d_K_forgetReads_7 ?_
      refine aw_icmp_ge C (tgt := 24) d_K_forgetReads_8 (by decide) (fun h8 => absurd h8 (nI_ge (by omega) (by omega))) (fun h8 => ?_)
      refine aw_aload_n C d_K_forgetReads_11 rfl (j := 1) rfl ?_
      refine aw_get C F_K hk 5 (by decide) tw_79 rfl d_K_forgetReads_12 ?_
      refine aw_iload_n C d_K_forgetReads_15 rfl (j := 0) rfl ?_
      refine aw_iconst C (v := 0) d_K_forgetReads_16 (by decide) ?_
      refine ar_zast C (v := 0) hrd (j := a) (rfl) (by omega) (by omega) rfl d_K_forgetReads_17 ?_
      intro ce4 fw4 hrd
      have hk : ce4 (1, i, 0) = some (.inr (1, [.int (k_kd c), .long (k_sr c), .ref (ad (1, i, 1)), .ref (ad (1, i, 2)), .ref (ad (1, i, 3)), .ref (ad (1, i, 4)), .ref (ad (1, i, 5)), .int (nI (k_ps c)), .int (nI (cnt (k_rd c) (k_np c))), .int (k_un c), .int (k_st c), .int (k_la c)])) := (fw4 _ (by simp)).trans hk
      refine aw_iinc C (v := nI (a + 1)) (lv' := [(1, .int (nI (a + 1))), (0, .ref (ad (1, i, 0)))]) d_K_forgetReads_18 (j := 0) rfl (nI_1 _) (by decide) rfl ?_
      refine aw_goto C (tgt := 2) d_K_forgetReads_21 (by decide) ?_
      exact ih (a + 1) ce4 (upd g a 0) (by omega) (fun q hq => (fw4 q hq).trans (hf q hq)) hrd (fun j hj => by by_cases e : j = a <;> simp [upd, e]; exact hg j (by omega))
  show AW X 2 0 0 ad ce 0 [(0, .ref (ad (1, i, 0)))] []
  refine aw_iconst C (v := 0) d_K_forgetReads_0 (by decide) ?_
  refine aw_istore_n C (lv' := [(1, .int 0), (0, .ref (ad (1, i, 0)))]) d_K_forgetReads_1 rfl (by decide) rfl ?_
  refine aw_lv (lv' := [(1, .int (nI 0)), (0, .ref (ad (1, i, 0)))]) (by simp only [nI_0]) ?_
  exact loop (k_np c) 0 ce (k_rd c) (by omega) (fun _ _ => rfl) hrd (fun j hj => absurd hj (by omega))
