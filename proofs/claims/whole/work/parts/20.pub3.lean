set_option maxRecDepth 100000 in
set_option maxHeartbeats 4000000 in
theorem C_lost (l : Launch) (G : aw_G) (ad : aw_Ad) (ce : aw_He) (S : SysS) (hL : LayC S ad ce) (hW : ∀ j, j < s_cn S → ¬ (k_st (s_car S j) = 5 ∨ k_st (s_car S j) = 6) → s_on S < 10) (x : Int32) : CT l G M_C_lost 1 21 0 0 [.ref (ad (0, 0, 0)), .int x] ad ce (rC (some (.int (f_lost S x).1)) (f_lost S x).2 ad ce) := by
  refine CT.of (by decide) (Nat.le_of_ble_eq_true rfl) ?_
  intro X C I E
  have hL0 := hL
  obtain ⟨ho, hca, hpa, hli, hlo, hcars, hpaps, hnoc, hnop, hb1, hb2, hb3, hb4⟩ := hL0
  rcases ix_cases x (n := s_cn S) (by omega) with hx | ⟨j, hj, rfl⟩
  · skip
    show AW X 3 0 0 ad ce 0 [(0, .ref (ad (0, 0, 0))), (1, .int x)] []
    refine aw_aload_n C d_C_lost_0 rfl (j := 0) rfl ?_
    refine aw_iload_n C d_C_lost_1 rfl (j := 1) rfl ?_
    refine aw_callV C I (k := (0, 0, 0)) (as := [.int x]) (rest := []) (c_findC_out l G ad ce S hL x hx) g_C_56 ho rfl rfl ⟨by decide, by decide⟩ ⟨by decide, by decide⟩ rfl (Nat.le_of_ble_eq_true rfl) d_C_lost_2 ?_
    rintro _ _ _ ⟨rfl, rfl, rfl⟩
    show AW X 3 0 0 ad ce 5 [(0, .ref (ad (0, 0, 0))), (1, .int x)] [.null]
    refine aw_astore_nN C (lv' := [(2, .null), (0, .ref (ad (0, 0, 0))), (1, .int x)]) d_C_lost_5 rfl (by decide) rfl ?_
    refine aw_aload_nN C d_C_lost_6 rfl (j := 0) rfl ?_
    refine aw_ifnullN C (tgt := 29) d_C_lost_7 (by decide) ?_
    refine aw_iconst C (v := (-1)) d_C_lost_29 (by decide) ?_
    refine aw_iret C E (rfl) (by decide) (by decide) d_C_lost_30 ?_
    rw [show f_lost S x = (-1, S) from by simp only [f_lost, ix_out hx]]
    exact rC.of hL ⟨rfl, rfl, rfl⟩
  by_cases hg : k_st (s_car S j) = 5 ∨ k_st (s_car S j) = 6
  · skip
    show AW X 3 0 0 ad ce 0 [(0, .ref (ad (0, 0, 0))), (1, .int (nI j))] []
    refine aw_aload_n C d_C_lost_0 rfl (j := 0) rfl ?_
    refine aw_iload_n C d_C_lost_1 rfl (j := 1) rfl ?_
    refine aw_callV C I (k := (0, 0, 0)) (as := [.int (nI j)]) (rest := []) (c_findC_in l G ad ce S hL j hj) g_C_56 ho rfl rfl ⟨by decide, by decide⟩ ⟨by decide, by decide⟩ rfl (Nat.le_of_ble_eq_true rfl) d_C_lost_2 ?_
    rintro _ _ _ ⟨rfl, rfl, rfl⟩
    show AW X 3 0 0 ad ce 5 [(0, .ref (ad (0, 0, 0))), (1, .int (nI j))] [.ref (ad (1, j, 0))]
    have hK := hcars j hj
    have hK0 := hK
    obtain ⟨hk, hby, hdu, hwo, hrd, hpt, ⟨hn1, hn2⟩, hps⟩ := hK0
    refine aw_astore_n C (lv' := [(2, .ref (ad (1, j, 0))), (0, .ref (ad (0, 0, 0))), (1, .int (nI j))]) d_C_lost_5 rfl (by decide) rfl ?_
    refine aw_aload_n C d_C_lost_6 rfl (j := 0) rfl ?_
    refine aw_ifnull C d_C_lost_7 ?_
    refine aw_aload_n C d_C_lost_10 rfl (j := 0) rfl ?_
    refine aw_callV C I (k := (1, j, 0)) (as := []) (rest := []) (c_isGone l G ad ce j _ hK) g_C_81 hk rfl rfl ⟨by decide, by decide⟩ ⟨by decide, by decide⟩ rfl (Nat.le_of_ble_eq_true rfl) d_C_lost_11 ?_
    rintro _ _ _ ⟨rfl, rfl, rfl⟩
    show AW X 3 0 0 ad ce 14 [(2, .ref (ad (1, j, 0))), (0, .ref (ad (0, 0, 0))), (1, .int (nI j))] [.int (bI (decide (k_st (s_car S j) = 5 ∨ k_st (s_car S j) = 6)))]
    refine aw_topi (v' := 1) ((bI_t hg).symm) ?_
    show AW X 3 0 0 ad ce 14 [(2, .ref (ad (1, j, 0))), (0, .ref (ad (0, 0, 0))), (1, .int (nI j))] [.int 1]
    refine aw_if_ne C (tgt := 29) d_C_lost_14 (by decide) (fun h14 => ?_) (fun h14 => absurd h14 (by decide))
    refine aw_iconst C (v := (-1)) d_C_lost_29 (by decide) ?_
    refine aw_iret C E (rfl) (by decide) (by decide) d_C_lost_30 ?_
    rw [show f_lost S (nI j) = (-1, S) from by simp only [f_lost, ix_in hj (show s_cn S < 2 ^ 31 by omega), if_pos hg]]
    exact rC.of hL ⟨rfl, rfl, rfl⟩
  · have hon := hW j hj hg
    show AW X 3 0 0 ad ce 0 [(0, .ref (ad (0, 0, 0))), (1, .int (nI j))] []
    refine aw_aload_n C d_C_lost_0 rfl (j := 0) rfl ?_
    refine aw_iload_n C d_C_lost_1 rfl (j := 1) rfl ?_
    refine aw_callV C I (k := (0, 0, 0)) (as := [.int (nI j)]) (rest := []) (c_findC_in l G ad ce S hL j hj) g_C_56 ho rfl rfl ⟨by decide, by decide⟩ ⟨by decide, by decide⟩ rfl (Nat.le_of_ble_eq_true rfl) d_C_lost_2 ?_
    rintro _ _ _ ⟨rfl, rfl, rfl⟩
    show AW X 3 0 0 ad ce 5 [(0, .ref (ad (0, 0, 0))), (1, .int (nI j))] [.ref (ad (1, j, 0))]
    have hK := hcars j hj
    have hK0 := hK
    obtain ⟨hk, hby, hdu, hwo, hrd, hpt, ⟨hn1, hn2⟩, hps⟩ := hK0
    refine aw_astore_n C (lv' := [(2, .ref (ad (1, j, 0))), (0, .ref (ad (0, 0, 0))), (1, .int (nI j))]) d_C_lost_5 rfl (by decide) rfl ?_
    refine aw_aload_n C d_C_lost_6 rfl (j := 0) rfl ?_
    refine aw_ifnull C d_C_lost_7 ?_
    refine aw_aload_n C d_C_lost_10 rfl (j := 0) rfl ?_
    refine aw_callV C I (k := (1, j, 0)) (as := []) (rest := []) (c_isGone l G ad ce j _ hK) g_C_81 hk rfl rfl ⟨by decide, by decide⟩ ⟨by decide, by decide⟩ rfl (Nat.le_of_ble_eq_true rfl) d_C_lost_11 ?_
    rintro _ _ _ ⟨rfl, rfl, rfl⟩
    show AW X 3 0 0 ad ce 14 [(2, .ref (ad (1, j, 0))), (0, .ref (ad (0, 0, 0))), (1, .int (nI j))] [.int (bI (decide (k_st (s_car S j) = 5 ∨ k_st (s_car S j) = 6)))]
    refine aw_topi (v' := 0) ((bI_f hg).symm) ?_
    show AW X 3 0 0 ad ce 14 [(2, .ref (ad (1, j, 0))), (0, .ref (ad (0, 0, 0))), (1, .int (nI j))] [.int 0]
    refine aw_if_ne C (tgt := 29) d_C_lost_14 (by decide) (fun h14 => absurd h14 (by decide)) (fun h14 => ?_)
    refine aw_aload_n C d_C_lost_17 rfl (j := 1) rfl ?_
    refine aw_get C F_C ho 7 (by decide) tw_26 rfl d_C_lost_18 ?_
    refine aw_aload_n C d_C_lost_21 rfl (j := 1) rfl ?_
    refine aw_get C F_C ho 6 (by decide) tw_25 rfl d_C_lost_22 ?_
    refine ar_len C hlo (tt := .int) rfl d_C_lost_25 ?_
    refine aw_icmp_lt C (tgt := 31) d_C_lost_26 (by decide) (fun h26 => ?_) (fun h26 => absurd (nI_lt (by omega) (by omega)) h26)
    refine aw_aload_n C d_C_lost_31 rfl (j := 0) rfl ?_
    refine aw_bipush C (v := 6) d_C_lost_32 (by decide) ?_
    refine ob_put C F_K hk 10 (by decide) tw_89 rfl rfl rfl (Nat.le_of_ble_eq_true rfl) (fs' := [.int (k_kd (s_car S j)), .long (k_sr (s_car S j)), .ref (ad (1, j, 1)), .ref (ad (1, j, 2)), .ref (ad (1, j, 3)), .ref (ad (1, j, 4)), .ref (ad (1, j, 5)), .int (nI (k_ps (s_car S j))), .int (nI (cnt (k_rd (s_car S j)) (k_np (s_car S j)))), .int (k_un (s_car S j)), .int 6, .int (k_la (s_car S j))]) rfl d_C_lost_34 ?_
    intro ce7 fw7 hk
    have ho : ce7 (0, 0, 0) = some (.inr (0, [.ref (ad (0, 0, 1)), .int (nI (s_cn S)), .ref (ad (0, 0, 2)), .int (nI (s_pn S)), .ref (ad (0, 0, 3)), .int (nI (s_ln S)), .ref (ad (0, 0, 4)), .int (nI (s_on S))])) := (fw7 _ (by simp)).trans ho
    have hca := hca.tr (fw7 _ (by simp))
    have hpa := hpa.tr (fw7 _ (by simp))
    have hli := hli.tr (fw7 _ (by simp))
    have hlo := hlo.tr (fw7 _ (by simp))
    have hby := hby.tr (fw7 _ (by simp))
    have hdu := hdu.tr (fw7 _ (by simp))
    have hwo := hwo.tr (fw7 _ (by simp))
    have hrd := hrd.tr (fw7 _ (by simp))
    have hpt := hpt.tr (fw7 _ (by simp))
    refine aw_aload_n C d_C_lost_37 rfl (j := 1) rfl ?_
    refine aw_get C F_C ho 6 (by decide) tw_25 rfl d_C_lost_38 ?_
    refine aw_aload_n C d_C_lost_41 rfl (j := 1) rfl ?_
    refine aw_get C F_C ho 7 (by decide) tw_26 rfl d_C_lost_42 ?_
    refine aw_iload_n C d_C_lost_45 rfl (j := 2) rfl ?_
    refine ar_iast C hlo (j := (s_on S)) (rfl) (by omega) (by omega) d_C_lost_46 ?_
    intro ce8 fw8 hlo
    have ho : ce8 (0, 0, 0) = some (.inr (0, [.ref (ad (0, 0, 1)), .int (nI (s_cn S)), .ref (ad (0, 0, 2)), .int (nI (s_pn S)), .ref (ad (0, 0, 3)), .int (nI (s_ln S)), .ref (ad (0, 0, 4)), .int (nI (s_on S))])) := (fw8 _ (by simp)).trans ho
    have hca := hca.tr (fw8 _ (by simp))
    have hpa := hpa.tr (fw8 _ (by simp))
    have hli := hli.tr (fw8 _ (by simp))
    have hk : ce8 (1, j, 0) = some (.inr (1, [.int (k_kd (s_car S j)), .long (k_sr (s_car S j)), .ref (ad (1, j, 1)), .ref (ad (1, j, 2)), .ref (ad (1, j, 3)), .ref (ad (1, j, 4)), .ref (ad (1, j, 5)), .int (nI (k_ps (s_car S j))), .int (nI (cnt (k_rd (s_car S j)) (k_np (s_car S j)))), .int (k_un (s_car S j)), .int 6, .int (k_la (s_car S j))])) := (fw8 _ (by simp)).trans hk
    have hby := hby.tr (fw8 _ (by simp))
    have hdu := hdu.tr (fw8 _ (by simp))
    have hwo := hwo.tr (fw8 _ (by simp))
    have hrd := hrd.tr (fw8 _ (by simp))
    have hpt := hpt.tr (fw8 _ (by simp))
    refine aw_aload_n C d_C_lost_47 rfl (j := 1) rfl ?_
    refine aw_dup C d_C_lost_48 rfl ?_
    refine aw_get C F_C ho 7 (by decide) tw_26 rfl d_C_lost_49 ?_
    refine aw_iconst C (v := 1) d_C_lost_52 (by decide) ?_
    refine aw_iadd C d_C_lost_53 ?_
    refine aw_topi (v' := nI (s_on S + 1)) (nI_1 _) ?_
    refine ob_put C F_C ho 7 (by decide) tw_26 rfl rfl rfl (Nat.le_of_ble_eq_true rfl) (fs' := [.ref (ad (0, 0, 1)), .int (nI (s_cn S)), .ref (ad (0, 0, 2)), .int (nI (s_pn S)), .ref (ad (0, 0, 3)), .int (nI (s_ln S)), .ref (ad (0, 0, 4)), .int (nI (s_on S + 1))]) rfl d_C_lost_54 ?_
    intro ce9 fw9 ho
    have hca := hca.tr (fw9 _ (by simp))
    have hpa := hpa.tr (fw9 _ (by simp))
    have hli := hli.tr (fw9 _ (by simp))
    have hlo := hlo.tr (fw9 _ (by simp))
    have hk : ce9 (1, j, 0) = some (.inr (1, [.int (k_kd (s_car S j)), .long (k_sr (s_car S j)), .ref (ad (1, j, 1)), .ref (ad (1, j, 2)), .ref (ad (1, j, 3)), .ref (ad (1, j, 4)), .ref (ad (1, j, 5)), .int (nI (k_ps (s_car S j))), .int (nI (cnt (k_rd (s_car S j)) (k_np (s_car S j)))), .int (k_un (s_car S j)), .int 6, .int (k_la (s_car S j))])) := (fw9 _ (by simp)).trans hk
    have hby := hby.tr (fw9 _ (by simp))
    have hdu := hdu.tr (fw9 _ (by simp))
    have hwo := hwo.tr (fw9 _ (by simp))
    have hrd := hrd.tr (fw9 _ (by simp))
    have hpt := hpt.tr (fw9 _ (by simp))
    refine aw_aload_n C d_C_lost_57 rfl (j := 1) rfl ?_
    refine aw_get C F_C ho 7 (by decide) tw_26 rfl d_C_lost_58 ?_
    refine aw_iret C E (rfl) (by decide) (by decide) d_C_lost_61 ?_
    have fr : ∀ q : aw_Lb, q ≠ (1, j, 0) → q ≠ (0, 0, 4) → q ≠ (0, 0, 0) → ce9 q = ce q := fun q n0 n1 n2 => by rw [fw9 q n2, fw8 q n1, fw7 q n0]
    rw [show f_lost S (nI j) = (nI (s_on S + 1), s_lost S j) from by simp only [f_lost, ix_in hj (show s_cn S < 2 ^ 31 by omega), if_neg hg]]
    refine ⟨rfl, fun q hq => ⟨rfl, fr q (fun e => by subst e; simp at hq) (fun e => by subst e; simp at hq) (fun e => by subst e; simp at hq)⟩, rfl, ho, hca, hpa, hli, hlo, fun i hi => ?_, fun i hi => (hpaps i hi).tr (fun _ => rfl) (fun p => fr _ (by simp) (by simp) (by simp)), fun i p hi => (fr _ (by intro e; simp at e; have := e.1; subst this; exact absurd hj (Nat.not_lt.mpr hi)) (by simp) (by simp)).trans (hnoc i p hi), fun i p hi => (fr _ (by simp) (by simp) (by simp)).trans (hnop i p hi), hb1, hb2, hb3, by show s_on S + 1 ≤ 10; omega⟩
    by_cases e : i = j
    · subst e
      show Car ad ce9 i (va_up (s_car S) i (k_sSt (s_car S i) 6) i)
      rw [va_up_self]
      exact ⟨hk, hby, hdu, hwo, hrd, hpt, ⟨hn1, hn2⟩, hps⟩
    · show Car ad ce9 i (va_up (s_car S) j (k_sSt (s_car S j) 6) i)
      rw [va_up_ne _ _ e]
      exact (hcars i hi).tr (fun _ => rfl) (fun p => fr _ (by intro h; simp at h; exact e h.1) (by simp) (by simp))
set_option maxRecDepth 100000 in
set_option maxHeartbeats 4000000 in
theorem C_listed (l : Launch) (G : aw_G) (ad : aw_Ad) (ce : aw_He) (S : SysS) (hL : LayC S ad ce) (x : Int64) : CT l G M_C_listed 1 23 0 0 [.ref (ad (0, 0, 0)), .long x] ad ce (rC (some (.int (f_listed S x).1)) (f_listed S x).2 ad ce) := by
  refine CT.of (by decide) (Nat.le_of_ble_eq_true rfl) ?_
  intro X C I E
  have hL0 := hL
  obtain ⟨ho, hca, hpa, hli, hlo, hcars, hpaps, hnoc, hnop, hb1, hb2, hb3, hb4⟩ := hL0
  by_cases hc : (0 ≤ x ∧ x ≤ 1000000000000) ∧ hasL S x = false ∧ s_ln S < 20
  · skip
    show AW X 3 0 0 ad ce 0 [(0, .ref (ad (0, 0, 0))), (1, .long x)] []
    refine aw_lload_n C d_C_listed_0 rfl (j := 1) rfl ?_
    refine aw_callS C I (as := [.long x]) (rest := []) (c_isSerial l G ad ce x) g_C_46 ⟨by decide, by decide⟩ ⟨by decide, by decide⟩ rfl (Nat.le_of_ble_eq_true rfl) d_C_listed_1 ?_
    rintro _ _ _ ⟨rfl, rfl, rfl⟩
    show AW X 3 0 0 ad ce 4 [(0, .ref (ad (0, 0, 0))), (1, .long x)] [.int (bI (decide (0 ≤ x ∧ x ≤ 1000000000000)))]
    refine aw_topi (v' := 1) ((bI_t hc.1).symm) ?_
    show AW X 3 0 0 ad ce 4 [(0, .ref (ad (0, 0, 0))), (1, .long x)] [.int 1]
    refine aw_if_eq C (tgt := 27) d_C_listed_4 (by decide) (fun h4 => absurd h4 (by decide)) (fun h4 => ?_)
    refine aw_aload_n C d_C_listed_7 rfl (j := 0) rfl ?_
    refine aw_lload_n C d_C_listed_8 rfl (j := 1) rfl ?_
    refine aw_callV C I (k := (0, 0, 0)) (as := [.long x]) (rest := []) (c_listHas l G ad ce S hL x) g_C_136 ho rfl rfl ⟨by decide, by decide⟩ ⟨by decide, by decide⟩ rfl (Nat.le_of_ble_eq_true rfl) d_C_listed_9 ?_
    rintro _ _ _ ⟨rfl, rfl, rfl⟩
    show AW X 3 0 0 ad ce 12 [(0, .ref (ad (0, 0, 0))), (1, .long x)] [.int (bI (anyF (s_li S) x (s_ln S) 0))]
    refine aw_topi (v' := 0) (by have := hc.2.1; unfold hasL at this; rw [this]; rfl) ?_
    show AW X 3 0 0 ad ce 12 [(0, .ref (ad (0, 0, 0))), (1, .long x)] [.int 0]
    refine aw_if_ne C (tgt := 27) d_C_listed_12 (by decide) (fun h12 => absurd h12 (by decide)) (fun h12 => ?_)
    refine aw_aload_n C d_C_listed_15 rfl (j := 0) rfl ?_
    refine aw_get C F_C ho 5 (by decide) tw_24 rfl d_C_listed_16 ?_
    refine aw_aload_n C d_C_listed_19 rfl (j := 0) rfl ?_
    refine aw_get C F_C ho 4 (by decide) tw_23 rfl d_C_listed_20 ?_
    refine ar_lenJ C hli d_C_listed_23 ?_
    refine aw_icmp_lt C (tgt := 29) d_C_listed_24 (by decide) (fun h24 => ?_) (fun h24 => absurd (nI_lt (by omega) (by omega)) h24)
    refine aw_aload_n C d_C_listed_29 rfl (j := 0) rfl ?_
    refine aw_get C F_C ho 4 (by decide) tw_23 rfl d_C_listed_30 ?_
    refine aw_aload_n C d_C_listed_33 rfl (j := 0) rfl ?_
    refine aw_get C F_C ho 5 (by decide) tw_24 rfl d_C_listed_34 ?_
    refine aw_lload_n C d_C_listed_37 rfl (j := 1) rfl ?_
    refine ar_last C hli (j := (s_ln S)) (rfl) (by omega) (by omega) d_C_listed_38 ?_
    intro ce10 fw10 hli
    have ho : ce10 (0, 0, 0) = some (.inr (0, [.ref (ad (0, 0, 1)), .int (nI (s_cn S)), .ref (ad (0, 0, 2)), .int (nI (s_pn S)), .ref (ad (0, 0, 3)), .int (nI (s_ln S)), .ref (ad (0, 0, 4)), .int (nI (s_on S))])) := (fw10 _ (by simp)).trans ho
    have hca := hca.tr (fw10 _ (by simp))
    have hpa := hpa.tr (fw10 _ (by simp))
    have hlo := hlo.tr (fw10 _ (by simp))
    refine aw_aload_n C d_C_listed_39 rfl (j := 0) rfl ?_
    refine aw_dup C d_C_listed_40 rfl ?_
    refine aw_get C F_C ho 5 (by decide) tw_24 rfl d_C_listed_41 ?_
    refine aw_iconst C (v := 1) d_C_listed_44 (by decide) ?_
    refine aw_iadd C d_C_listed_45 ?_
    refine aw_topi (v' := nI (s_ln S + 1)) (nI_1 _) ?_
    refine ob_put C F_C ho 5 (by decide) tw_24 rfl rfl rfl (Nat.le_of_ble_eq_true rfl) (fs' := [.ref (ad (0, 0, 1)), .int (nI (s_cn S)), .ref (ad (0, 0, 2)), .int (nI (s_pn S)), .ref (ad (0, 0, 3)), .int (nI (s_ln S + 1)), .ref (ad (0, 0, 4)), .int (nI (s_on S))]) rfl d_C_listed_46 ?_
    intro ce11 fw11 ho
    have hca := hca.tr (fw11 _ (by simp))
    have hpa := hpa.tr (fw11 _ (by simp))
    have hli := hli.tr (fw11 _ (by simp))
    have hlo := hlo.tr (fw11 _ (by simp))
    refine aw_aload_n C d_C_listed_49 rfl (j := 0) rfl ?_
    refine aw_get C F_C ho 5 (by decide) tw_24 rfl d_C_listed_50 ?_
    refine aw_iret C E (rfl) (by decide) (by decide) d_C_listed_53 ?_
    have fr : ∀ q : aw_Lb, q ≠ (0, 0, 3) → q ≠ (0, 0, 0) → ce11 q = ce q := fun q n0 n1 => by rw [fw11 q n1, fw10 q n0]
    rw [show f_listed S x = (nI (s_ln S + 1), s_addL S x) from if_pos hc]
    exact ⟨rfl, fun q hq => ⟨rfl, fr q (fun e => by subst e; simp at hq) (fun e => by subst e; simp at hq)⟩, rfl, ho, hca, hpa, hli, hlo, fun i hi => (hcars i hi).tr (fun _ => rfl) (fun p => fr _ (by simp) (by simp)), fun i hi => (hpaps i hi).tr (fun _ => rfl) (fun p => fr _ (by simp) (by simp)), fun i p hi => (fr _ (by simp) (by simp)).trans (hnoc i p hi), fun i p hi => (fr _ (by simp) (by simp)).trans (hnop i p hi), hb1, hb2, by show s_ln S + 1 ≤ 20; omega, hb4⟩
  by_cases h1 : 0 ≤ x ∧ x ≤ 1000000000000
  · by_cases h2 : hasL S x = false
    · have h3 : s_ln S = 20 := by
        rcases Nat.lt_or_ge (s_ln S) 20 with q | q
        · exact absurd ⟨h1, h2, q⟩ hc
        · omega
      show AW X 3 0 0 ad ce 0 [(0, .ref (ad (0, 0, 0))), (1, .long x)] []
      refine aw_lload_n C d_C_listed_0 rfl (j := 1) rfl ?_
      refine aw_callS C I (as := [.long x]) (rest := []) (c_isSerial l G ad ce x) g_C_46 ⟨by decide, by decide⟩ ⟨by decide, by decide⟩ rfl (Nat.le_of_ble_eq_true rfl) d_C_listed_1 ?_
      rintro _ _ _ ⟨rfl, rfl, rfl⟩
      show AW X 3 0 0 ad ce 4 [(0, .ref (ad (0, 0, 0))), (1, .long x)] [.int (bI (decide (0 ≤ x ∧ x ≤ 1000000000000)))]
      refine aw_topi (v' := 1) ((bI_t h1).symm) ?_
      show AW X 3 0 0 ad ce 4 [(0, .ref (ad (0, 0, 0))), (1, .long x)] [.int 1]
      refine aw_if_eq C (tgt := 27) d_C_listed_4 (by decide) (fun h4 => absurd h4 (by decide)) (fun h4 => ?_)
      refine aw_aload_n C d_C_listed_7 rfl (j := 0) rfl ?_
      refine aw_lload_n C d_C_listed_8 rfl (j := 1) rfl ?_
      refine aw_callV C I (k := (0, 0, 0)) (as := [.long x]) (rest := []) (c_listHas l G ad ce S hL x) g_C_136 ho rfl rfl ⟨by decide, by decide⟩ ⟨by decide, by decide⟩ rfl (Nat.le_of_ble_eq_true rfl) d_C_listed_9 ?_
      rintro _ _ _ ⟨rfl, rfl, rfl⟩
      show AW X 3 0 0 ad ce 12 [(0, .ref (ad (0, 0, 0))), (1, .long x)] [.int (bI (anyF (s_li S) x (s_ln S) 0))]
      refine aw_topi (v' := 0) (by unfold hasL at h2; rw [h2]; rfl) ?_
      show AW X 3 0 0 ad ce 12 [(0, .ref (ad (0, 0, 0))), (1, .long x)] [.int 0]
      refine aw_if_ne C (tgt := 27) d_C_listed_12 (by decide) (fun h12 => absurd h12 (by decide)) (fun h12 => ?_)
      refine aw_aload_n C d_C_listed_15 rfl (j := 0) rfl ?_
      refine aw_get C F_C ho 5 (by decide) tw_24 rfl d_C_listed_16 ?_
      refine aw_aload_n C d_C_listed_19 rfl (j := 0) rfl ?_
      refine aw_get C F_C ho 4 (by decide) tw_23 rfl d_C_listed_20 ?_
      refine ar_lenJ C hli d_C_listed_23 ?_
      refine aw_icmp_lt C (tgt := 29) d_C_listed_24 (by decide) (fun h24 => absurd h24 (by rw [h3]; decide)) (fun h24 => ?_)
      refine aw_iconst C (v := (-1)) d_C_listed_27 (by decide) ?_
      refine aw_iret C E (rfl) (by decide) (by decide) d_C_listed_28 ?_
      rw [show f_listed S x = (-1, S) from if_neg hc]
      exact rC.of hL ⟨rfl, rfl, rfl⟩
    · have h2 : hasL S x = true := by cases h : hasL S x <;> simp_all
      show AW X 3 0 0 ad ce 0 [(0, .ref (ad (0, 0, 0))), (1, .long x)] []
      refine aw_lload_n C d_C_listed_0 rfl (j := 1) rfl ?_
      refine aw_callS C I (as := [.long x]) (rest := []) (c_isSerial l G ad ce x) g_C_46 ⟨by decide, by decide⟩ ⟨by decide, by decide⟩ rfl (Nat.le_of_ble_eq_true rfl) d_C_listed_1 ?_
      rintro _ _ _ ⟨rfl, rfl, rfl⟩
      show AW X 3 0 0 ad ce 4 [(0, .ref (ad (0, 0, 0))), (1, .long x)] [.int (bI (decide (0 ≤ x ∧ x ≤ 1000000000000)))]
      refine aw_topi (v' := 1) ((bI_t h1).symm) ?_
      show AW X 3 0 0 ad ce 4 [(0, .ref (ad (0, 0, 0))), (1, .long x)] [.int 1]
      refine aw_if_eq C (tgt := 27) d_C_listed_4 (by decide) (fun h4 => absurd h4 (by decide)) (fun h4 => ?_)
      refine aw_aload_n C d_C_listed_7 rfl (j := 0) rfl ?_
      refine aw_lload_n C d_C_listed_8 rfl (j := 1) rfl ?_
      refine aw_callV C I (k := (0, 0, 0)) (as := [.long x]) (rest := []) (c_listHas l G ad ce S hL x) g_C_136 ho rfl rfl ⟨by decide, by decide⟩ ⟨by decide, by decide⟩ rfl (Nat.le_of_ble_eq_true rfl) d_C_listed_9 ?_
      rintro _ _ _ ⟨rfl, rfl, rfl⟩
      show AW X 3 0 0 ad ce 12 [(0, .ref (ad (0, 0, 0))), (1, .long x)] [.int (bI (anyF (s_li S) x (s_ln S) 0))]
      refine aw_topi (v' := 1) (by unfold hasL at h2; rw [h2]; rfl) ?_
      show AW X 3 0 0 ad ce 12 [(0, .ref (ad (0, 0, 0))), (1, .long x)] [.int 1]
      refine aw_if_ne C (tgt := 27) d_C_listed_12 (by decide) (fun h12 => ?_) (fun h12 => absurd h12 (by decide))
      refine aw_iconst C (v := (-1)) d_C_listed_27 (by decide) ?_
      refine aw_iret C E (rfl) (by decide) (by decide) d_C_listed_28 ?_
      rw [show f_listed S x = (-1, S) from if_neg hc]
      exact rC.of hL ⟨rfl, rfl, rfl⟩
  · skip
    show AW X 3 0 0 ad ce 0 [(0, .ref (ad (0, 0, 0))), (1, .long x)] []
    refine aw_lload_n C d_C_listed_0 rfl (j := 1) rfl ?_
    refine aw_callS C I (as := [.long x]) (rest := []) (c_isSerial l G ad ce x) g_C_46 ⟨by decide, by decide⟩ ⟨by decide, by decide⟩ rfl (Nat.le_of_ble_eq_true rfl) d_C_listed_1 ?_
    rintro _ _ _ ⟨rfl, rfl, rfl⟩
    show AW X 3 0 0 ad ce 4 [(0, .ref (ad (0, 0, 0))), (1, .long x)] [.int (bI (decide (0 ≤ x ∧ x ≤ 1000000000000)))]
    refine aw_topi (v' := 0) ((bI_f h1).symm) ?_
    show AW X 3 0 0 ad ce 4 [(0, .ref (ad (0, 0, 0))), (1, .long x)] [.int 0]
    refine aw_if_eq C (tgt := 27) d_C_listed_4 (by decide) (fun h4 => ?_) (fun h4 => absurd (rfl) h4)
    refine aw_iconst C (v := (-1)) d_C_listed_27 (by decide) ?_
    refine aw_iret C E (rfl) (by decide) (by decide) d_C_listed_28 ?_
    rw [show f_listed S x = (-1, S) from if_neg hc]
    exact rC.of hL ⟨rfl, rfl, rfl⟩
set_option maxRecDepth 100000 in
set_option maxHeartbeats 4000000 in
theorem C_carrier (l : Launch) (G : aw_G) (ad : aw_Ad) (ce : aw_He) (S : SysS) (hL : LayC S ad ce) (kd : Int32) (x : Int64) (n : Int32) : CT l G M_C_carrier 2 45 6 274 [.ref (ad (0, 0, 0)), .int kd, .long x, .int n] ad ce (rC (some (.int (f_carrier S kd x n).1)) (f_carrier S kd x n).2 ad ce) := by
  refine CT.of (by decide) (Nat.le_of_ble_eq_true rfl) ?_
  intro X C I E
  have hL0 := hL
  obtain ⟨ho, hca, hpa, hli, hlo, hcars, hpaps, hnoc, hnop, hb1, hb2, hb3, hb4⟩ := hL0
  by_cases hc : (0 ≤ kd ∧ kd ≤ 3) ∧ (0 ≤ x ∧ x ≤ 1000000000000) ∧ (1 ≤ n ∧ n ≤ 64) ∧ s_cn S < 10 ∧ hasC S x = false
  · obtain ⟨n, hn0, rfl⟩ : ∃ m : Nat, m ≤ 64 ∧ n = nI m := nI_of2 (M := 64) rfl (by have := hc.2.2.1.1; (try simp only [Int32.le_iff_toInt_le, Int32.lt_iff_toInt_lt] at this ⊢); have e1 : (1 : Int32).toInt = 1 := rfl; have e0 : (0 : Int32).toInt = 0 := rfl; omega) hc.2.2.1.2
    have hn2 : n ≤ 64 := hn0
    have hn1 : 1 ≤ n := by
      rcases Nat.eq_zero_or_pos n with q | q
      · subst q; exact absurd hc.2.2.1.1 (by decide)
      · exact q
    have hcn := hc.2.2.2.1
    show AW X 5 0 0 ad ce 0 [(0, .ref (ad (0, 0, 0))), (1, .int kd), (2, .long x), (4, .int (nI n))] []
    refine aw_iload_n C d_C_carrier_0 rfl (j := 1) rfl ?_
    refine aw_iconst C (v := 0) d_C_carrier_1 (by decide) ?_
    refine aw_iconst C (v := 3) d_C_carrier_2 (by decide) ?_
    refine aw_callS C I (as := [.int kd, .int 0, .int 3]) (rest := []) (c_within l G ad ce kd 0 3) g_C_42 ⟨by decide, by decide⟩ ⟨by decide, by decide⟩ rfl (Nat.le_of_ble_eq_true rfl) d_C_carrier_3 ?_
    rintro _ _ _ ⟨rfl, rfl, rfl⟩
    show AW X 5 0 0 ad ce 6 [(0, .ref (ad (0, 0, 0))), (1, .int kd), (2, .long x), (4, .int (nI n))] [.int (bI (decide (0 ≤ kd ∧ kd ≤ 3)))]
    refine aw_topi (v' := 1) ((bI_t hc.1).symm) ?_
    show AW X 5 0 0 ad ce 6 [(0, .ref (ad (0, 0, 0))), (1, .int kd), (2, .long x), (4, .int (nI n))] [.int 1]
    refine aw_if_eq C (tgt := 27) d_C_carrier_6 (by decide) (fun h6 => absurd h6 (by decide)) (fun h6 => ?_)
    refine aw_lload_n C d_C_carrier_9 rfl (j := 2) rfl ?_
    refine aw_callS C I (as := [.long x]) (rest := []) (c_isSerial l G ad ce x) g_C_46 ⟨by decide, by decide⟩ ⟨by decide, by decide⟩ rfl (Nat.le_of_ble_eq_true rfl) d_C_carrier_10 ?_
    rintro _ _ _ ⟨rfl, rfl, rfl⟩
    show AW X 5 0 0 ad ce 13 [(0, .ref (ad (0, 0, 0))), (1, .int kd), (2, .long x), (4, .int (nI n))] [.int (bI (decide (0 ≤ x ∧ x ≤ 1000000000000)))]
    refine aw_topi (v' := 1) ((bI_t hc.2.1).symm) ?_
    show AW X 5 0 0 ad ce 13 [(0, .ref (ad (0, 0, 0))), (1, .int kd), (2, .long x), (4, .int (nI n))] [.int 1]
    refine aw_if_eq C (tgt := 27) d_C_carrier_13 (by decide) (fun h13 => absurd h13 (by decide)) (fun h13 => ?_)
    refine aw_iload C d_C_carrier_16 (j := 3) rfl ?_
    refine aw_iconst C (v := 1) d_C_carrier_18 (by decide) ?_
    refine aw_bipush C (v := 64) d_C_carrier_19 (by decide) ?_
    refine aw_callS C I (as := [.int (nI n), .int 1, .int 64]) (rest := []) (c_within l G ad ce (nI n) 1 64) g_C_42 ⟨by decide, by decide⟩ ⟨by decide, by decide⟩ rfl (Nat.le_of_ble_eq_true rfl) d_C_carrier_21 ?_
    rintro _ _ _ ⟨rfl, rfl, rfl⟩
    show AW X 5 0 0 ad ce 24 [(0, .ref (ad (0, 0, 0))), (1, .int kd), (2, .long x), (4, .int (nI n))] [.int (bI (decide (1 ≤ (nI n) ∧ (nI n) ≤ 64)))]
    refine aw_topi (v' := 1) ((bI_t hc.2.2.1).symm) ?_
    show AW X 5 0 0 ad ce 24 [(0, .ref (ad (0, 0, 0))), (1, .int kd), (2, .long x), (4, .int (nI n))] [.int 1]
    refine aw_if_ne C (tgt := 29) d_C_carrier_24 (by decide) (fun h24 => ?_) (fun h24 => absurd h24 (by decide))
    refine aw_aload_n C d_C_carrier_29 rfl (j := 0) rfl ?_
    refine aw_get C F_C ho 1 (by decide) tw_20 rfl d_C_carrier_30 ?_
    refine aw_aload_n C d_C_carrier_33 rfl (j := 0) rfl ?_
    refine aw_get C F_C ho 0 (by decide) tw_19 rfl d_C_carrier_34 ?_
    refine ar_lenQ C hca rfl d_C_carrier_37 ?_
    refine aw_icmp_ge C (tgt := 49) d_C_carrier_38 (by decide) (fun h38 => absurd h38 (nI_ge (by omega) (by omega))) (fun h38 => ?_)
    refine aw_aload_n C d_C_carrier_41 rfl (j := 0) rfl ?_
    refine aw_lload_n C d_C_carrier_42 rfl (j := 2) rfl ?_
    refine aw_callV C I (k := (0, 0, 0)) (as := [.long x]) (rest := []) (c_hasSerial l G ad ce S hL x) g_C_50 ho rfl rfl ⟨by decide, by decide⟩ ⟨by decide, by decide⟩ rfl (Nat.le_of_ble_eq_true rfl) d_C_carrier_43 ?_
    rintro _ _ _ ⟨rfl, rfl, rfl⟩
    show AW X 5 0 0 ad ce 46 [(0, .ref (ad (0, 0, 0))), (1, .int kd), (2, .long x), (4, .int (nI n))] [.int (bI (anyF (fun i => k_sr (s_car S i)) x (s_cn S) 0))]
    refine aw_topi (v' := 0) (by have := hc.2.2.2.2; unfold hasC at this; rw [this]; rfl) ?_
    show AW X 5 0 0 ad ce 46 [(0, .ref (ad (0, 0, 0))), (1, .int kd), (2, .long x), (4, .int (nI n))] [.int 0]
    refine aw_if_eq C (tgt := 51) d_C_carrier_46 (by decide) (fun h46 => ?_) (fun h46 => absurd (rfl) h46)
    refine aw_aload_n C d_C_carrier_51 rfl (j := 0) rfl ?_
    refine aw_get C F_C ho 0 (by decide) tw_19 rfl d_C_carrier_52 ?_
    refine aw_aload_n C d_C_carrier_55 rfl (j := 0) rfl ?_
    refine aw_get C F_C ho 1 (by decide) tw_20 rfl d_C_carrier_56 ?_
    refine ob_new C I F_K (1, s_cn S, 0) (hnoc _ _ (Nat.le_refl _)) tw_15 tw_65 tw_3 [.int 0, .long 0, .null, .null, .null, .null, .null, .int 0, .int 0, .int 0, .int 0, .int 0] (by decide) ⟨Nat.le_trans (m := 6) (by omega) (Nat.le_refl _), Nat.le_trans (m := 274) (by omega) (Nat.le_refl _)⟩ d_C_carrier_59 ?_
    intro ad12 ce12 ha12 fw12 hkN
    have ea12_0 : ad (0, 0, 0) = ad12 (0, 0, 0) := (ha12 _ (by simp)).symm
    have ea12_1 : ad (0, 0, 1) = ad12 (0, 0, 1) := (ha12 _ (by simp)).symm
    have ea12_2 : ad (0, 0, 2) = ad12 (0, 0, 2) := (ha12 _ (by simp)).symm
    have ea12_3 : ad (0, 0, 3) = ad12 (0, 0, 3) := (ha12 _ (by simp)).symm
    have ea12_4 : ad (0, 0, 4) = ad12 (0, 0, 4) := (ha12 _ (by simp)).symm
    rw [ea12_0, ea12_1]
    rw [ea12_1, ea12_2, ea12_3, ea12_4] at ho
    have ho : ce12 (0, 0, 0) = some (.inr (0, [.ref (ad12 (0, 0, 1)), .int (nI (s_cn S)), .ref (ad12 (0, 0, 2)), .int (nI (s_pn S)), .ref (ad12 (0, 0, 3)), .int (nI (s_ln S)), .ref (ad12 (0, 0, 4)), .int (nI (s_on S))])) := (fw12 _ (by simp)).trans ho
    have hca := hca.tr (fw12 _ (by simp))
    have hpa := hpa.tr (fw12 _ (by simp))
    have hli := hli.tr (fw12 _ (by simp))
    have hlo := hlo.tr (fw12 _ (by simp))
    refine aw_dup C d_C_carrier_62 rfl ?_
    refine aw_iload_n C d_C_carrier_63 rfl (j := 1) rfl ?_
    refine aw_lload_n C d_C_carrier_64 rfl (j := 2) rfl ?_
    refine aw_iload C d_C_carrier_65 (j := 3) rfl ?_
    refine aw_callI C I (as := [.int kd, .long x, .int (nI n)]) (rest := [.ref (ad12 (1, s_cn S, 0)), .int (nI (s_cn S)), .ref (ad12 (0, 0, 1))]) (c_Kinit l G ad12 ce12 (s_cn S) kd x n hn1 hn2 hkN (fun p hp => (fw12 _ (by simp [hp])).trans (hnoc _ _ (Nat.le_refl _)))) g_C_53 ⟨by decide, by decide⟩ ⟨by decide, by decide⟩ rfl (Nat.le_of_ble_eq_true rfl) d_C_carrier_67 ?_
    rintro _ ad9 ce9 ⟨rfl, hf9, ha9, hK9⟩
    have eb_0 : ad12 (0, 0, 0) = ad9 (0, 0, 0) := ((hf9 _ (by simp)).1).symm
    have eb_1 : ad12 (1, s_cn S, 0) = ad9 (1, s_cn S, 0) := (ha9).symm
    have eb_2 : ad12 (0, 0, 1) = ad9 (0, 0, 1) := ((hf9 _ (by simp)).1).symm
    have eb_3 : ad12 (0, 0, 2) = ad9 (0, 0, 2) := ((hf9 _ (by simp)).1).symm
    have eb_4 : ad12 (0, 0, 3) = ad9 (0, 0, 3) := ((hf9 _ (by simp)).1).symm
    have eb_5 : ad12 (0, 0, 4) = ad9 (0, 0, 4) := ((hf9 _ (by simp)).1).symm
    rw [eb_2, eb_3, eb_4, eb_5] at ho
    have ho : ce9 (0, 0, 0) = some (.inr (0, [.ref (ad9 (0, 0, 1)), .int (nI (s_cn S)), .ref (ad9 (0, 0, 2)), .int (nI (s_pn S)), .ref (ad9 (0, 0, 3)), .int (nI (s_ln S)), .ref (ad9 (0, 0, 4)), .int (nI (s_on S))])) := (hf9 _ (by simp)).2.trans ho
    have hca := hca.tr (hf9 _ (by simp)).2
    have hpa := hpa.tr (hf9 _ (by simp)).2
    have hli := hli.tr (hf9 _ (by simp)).2
    have hlo := hlo.tr (hf9 _ (by simp)).2
    rw [eb_0, eb_1, eb_2]
    have hkN := hK9.1
    show AW X 5 (0 + 1 + 5) (0 + 12 + 262) ad9 ce9 70 [(0, .ref (ad9 (0, 0, 0))), (1, .int kd), (2, .long x), (4, .int (nI n))] [.ref (ad9 (1, s_cn S, 0)), .int (nI (s_cn S)), .ref (ad9 (0, 0, 1))]
    refine ar_aast C hca rfl hkN rfl (j := (s_cn S)) (rfl) (by omega) (by omega) d_C_carrier_70 ?_
    intro ce13 fw13 hca
    have ho : ce13 (0, 0, 0) = some (.inr (0, [.ref (ad9 (0, 0, 1)), .int (nI (s_cn S)), .ref (ad9 (0, 0, 2)), .int (nI (s_pn S)), .ref (ad9 (0, 0, 3)), .int (nI (s_ln S)), .ref (ad9 (0, 0, 4)), .int (nI (s_on S))])) := (fw13 _ (by simp)).trans ho
    have hpa := hpa.tr (fw13 _ (by simp))
    have hli := hli.tr (fw13 _ (by simp))
    have hlo := hlo.tr (fw13 _ (by simp))
    have hkN : ce13 (1, s_cn S, 0) = some (.inr (1, [.int (k_kd (k_new kd x n)), .long (k_sr (k_new kd x n)), .ref (ad9 (1, (s_cn S), 1)), .ref (ad9 (1, (s_cn S), 2)), .ref (ad9 (1, (s_cn S), 3)), .ref (ad9 (1, (s_cn S), 4)), .ref (ad9 (1, (s_cn S), 5)), .int (nI (k_ps (k_new kd x n))), .int (nI (cnt (k_rd (k_new kd x n)) (k_np (k_new kd x n)))), .int (k_un (k_new kd x n)), .int (k_st (k_new kd x n)), .int (k_la (k_new kd x n))])) := (fw13 _ (by simp)).trans hkN
    refine aw_aload_n C d_C_carrier_71 rfl (j := 0) rfl ?_
    refine aw_dup C d_C_carrier_72 rfl ?_
    refine aw_get C F_C ho 1 (by decide) tw_20 rfl d_C_carrier_73 ?_
    refine aw_iconst C (v := 1) d_C_carrier_76 (by decide) ?_
    refine aw_iadd C d_C_carrier_77 ?_
    refine aw_topi (v' := nI (s_cn S + 1)) (nI_1 _) ?_
    refine ob_put C F_C ho 1 (by decide) tw_20 rfl rfl rfl (Nat.le_of_ble_eq_true rfl) (fs' := [.ref (ad9 (0, 0, 1)), .int (nI (s_cn S + 1)), .ref (ad9 (0, 0, 2)), .int (nI (s_pn S)), .ref (ad9 (0, 0, 3)), .int (nI (s_ln S)), .ref (ad9 (0, 0, 4)), .int (nI (s_on S))]) rfl d_C_carrier_78 ?_
    intro ce14 fw14 ho
    have hca := hca.tr (fw14 _ (by simp))
    have hpa := hpa.tr (fw14 _ (by simp))
    have hli := hli.tr (fw14 _ (by simp))
    have hlo := hlo.tr (fw14 _ (by simp))
    have hkN : ce14 (1, s_cn S, 0) = some (.inr (1, [.int (k_kd (k_new kd x n)), .long (k_sr (k_new kd x n)), .ref (ad9 (1, (s_cn S), 1)), .ref (ad9 (1, (s_cn S), 2)), .ref (ad9 (1, (s_cn S), 3)), .ref (ad9 (1, (s_cn S), 4)), .ref (ad9 (1, (s_cn S), 5)), .int (nI (k_ps (k_new kd x n))), .int (nI (cnt (k_rd (k_new kd x n)) (k_np (k_new kd x n)))), .int (k_un (k_new kd x n)), .int (k_st (k_new kd x n)), .int (k_la (k_new kd x n))])) := (fw14 _ (by simp)).trans hkN
    refine aw_aload_n C d_C_carrier_81 rfl (j := 0) rfl ?_
    refine aw_get C F_C ho 1 (by decide) tw_20 rfl d_C_carrier_82 ?_
    refine aw_iconst C (v := 1) d_C_carrier_85 (by decide) ?_
    refine aw_isub C d_C_carrier_86 ?_
    refine aw_topi (v' := nI (s_cn S)) (nI_pred _) ?_
    refine aw_iret C E (rfl) (by decide) (by decide) d_C_carrier_87 ?_
    have fr9 : ∀ q : aw_Lb, q ≠ (0, 0, 1) → q ≠ (0, 0, 0) → ce14 q = ce9 q := fun q n0 n1 => by rw [fw14 q n1, fw13 q n0]
    have fa : ∀ q : aw_Lb, (q.1 ≠ 1 ∨ q.2.1 ≠ s_cn S) → ad9 q = ad q := fun q hq => (hf9 q hq).1.trans (ha12 q (fun e => by subst e; simp at hq))
    have fc : ∀ q : aw_Lb, (q.1 ≠ 1 ∨ q.2.1 ≠ s_cn S) → ce9 q = ce q := fun q hq => (hf9 q hq).2.trans (fw12 q (fun e => by subst e; simp at hq))
    rw [show f_carrier S kd x (nI n) = (nI (s_cn S), s_addC S (k_new kd x n)) from by rw [f_carrier, if_pos hc, nI_clamp (by omega)]]
    refine ⟨rfl, fun q hq => ⟨fa q (Or.inl (by omega)), (fr9 q (fun e => by subst e; simp at hq) (fun e => by subst e; simp at hq)).trans (fc q (Or.inl (by omega)))⟩, fa _ (Or.inl (by simp)), ho, hca.to (fun j hj => ?_), hpa.to (fun j hj => ?_), hli, hlo, fun i hi => ?_, fun i hi => (hpaps i hi).tr (fun p => fa _ (Or.inl (by simp))) (fun p => (fr9 _ (by simp) (by simp)).trans (fc _ (Or.inl (by simp)))), fun i p hi => ?_, fun i p hi => (fr9 _ (by simp) (by simp)).trans ((fc _ (Or.inl (by simp))).trans (hnop i p hi)), by show s_cn S + 1 ≤ 10; omega, hb2, hb3, hb4⟩
    · show va_up _ (s_cn S) _ j = if j < s_cn S + 1 then some (ad9 (1, j, 0)) else none
      by_cases e : j = s_cn S
      · subst e; rw [va_up_self, if_pos (by omega)]
      · rw [va_up_ne _ _ e]
        show (if j < s_cn S then some (ad (1, j, 0)) else none) = _
        by_cases h : j < s_cn S
        · rw [if_pos h, if_pos (by omega), fa (1, j, 0) (Or.inr e)]
        · rw [if_neg h, if_neg (by omega)]
    · show (if j < s_pn S then some (ad (2, j, 0)) else none) = if j < s_pn S then some (ad9 (2, j, 0)) else none
      rw [fa (2, j, 0) (Or.inl (by simp))]
    · show Car ad9 ce14 i (va_up (s_car S) (s_cn S) (k_new kd x n) i)
      by_cases e : i = s_cn S
      · subst e
        rw [va_up_self]
        exact hK9.tr (fun _ => rfl) (fun p => fr9 _ (by simp) (by simp))
      · rw [va_up_ne _ _ e]
        have hi' : i < s_cn S + 1 := hi
        exact (hcars i (by omega)).tr (fun p => fa _ (Or.inr e)) (fun p => (fr9 _ (by simp) (by simp)).trans (fc _ (Or.inr e)))
    · have hi' : s_cn S + 1 ≤ i := hi
      exact (fr9 _ (by simp) (by simp)).trans ((fc _ (Or.inr (by show i ≠ s_cn S; omega))).trans (hnoc i p (by omega)))
  by_cases h1 : 0 ≤ kd ∧ kd ≤ 3
  · by_cases h2 : 0 ≤ x ∧ x ≤ 1000000000000
    · by_cases h3 : 1 ≤ n ∧ n ≤ 64
      · by_cases h4 : s_cn S < 10
        · have h5 : hasC S x = true := by
            cases h : hasC S x
            · exact absurd ⟨h1, h2, h3, h4, h⟩ hc
            · rfl
          show AW X 5 0 0 ad ce 0 [(0, .ref (ad (0, 0, 0))), (1, .int kd), (2, .long x), (4, .int n)] []
          refine aw_iload_n C d_C_carrier_0 rfl (j := 1) rfl ?_
          refine aw_iconst C (v := 0) d_C_carrier_1 (by decide) ?_
          refine aw_iconst C (v := 3) d_C_carrier_2 (by decide) ?_
          refine aw_callS C I (as := [.int kd, .int 0, .int 3]) (rest := []) (c_within l G ad ce kd 0 3) g_C_42 ⟨by decide, by decide⟩ ⟨by decide, by decide⟩ rfl (Nat.le_of_ble_eq_true rfl) d_C_carrier_3 ?_
          rintro _ _ _ ⟨rfl, rfl, rfl⟩
          show AW X 5 0 0 ad ce 6 [(0, .ref (ad (0, 0, 0))), (1, .int kd), (2, .long x), (4, .int n)] [.int (bI (decide (0 ≤ kd ∧ kd ≤ 3)))]
          refine aw_topi (v' := 1) ((bI_t h1).symm) ?_
          show AW X 5 0 0 ad ce 6 [(0, .ref (ad (0, 0, 0))), (1, .int kd), (2, .long x), (4, .int n)] [.int 1]
          refine aw_if_eq C (tgt := 27) d_C_carrier_6 (by decide) (fun h6 => absurd h6 (by decide)) (fun h6 => ?_)
          refine aw_lload_n C d_C_carrier_9 rfl (j := 2) rfl ?_
          refine aw_callS C I (as := [.long x]) (rest := []) (c_isSerial l G ad ce x) g_C_46 ⟨by decide, by decide⟩ ⟨by decide, by decide⟩ rfl (Nat.le_of_ble_eq_true rfl) d_C_carrier_10 ?_
          rintro _ _ _ ⟨rfl, rfl, rfl⟩
          show AW X 5 0 0 ad ce 13 [(0, .ref (ad (0, 0, 0))), (1, .int kd), (2, .long x), (4, .int n)] [.int (bI (decide (0 ≤ x ∧ x ≤ 1000000000000)))]
          refine aw_topi (v' := 1) ((bI_t h2).symm) ?_
          show AW X 5 0 0 ad ce 13 [(0, .ref (ad (0, 0, 0))), (1, .int kd), (2, .long x), (4, .int n)] [.int 1]
          refine aw_if_eq C (tgt := 27) d_C_carrier_13 (by decide) (fun h13 => absurd h13 (by decide)) (fun h13 => ?_)
          refine aw_iload C d_C_carrier_16 (j := 3) rfl ?_
          refine aw_iconst C (v := 1) d_C_carrier_18 (by decide) ?_
          refine aw_bipush C (v := 64) d_C_carrier_19 (by decide) ?_
          refine aw_callS C I (as := [.int n, .int 1, .int 64]) (rest := []) (c_within l G ad ce n 1 64) g_C_42 ⟨by decide, by decide⟩ ⟨by decide, by decide⟩ rfl (Nat.le_of_ble_eq_true rfl) d_C_carrier_21 ?_
          rintro _ _ _ ⟨rfl, rfl, rfl⟩
          show AW X 5 0 0 ad ce 24 [(0, .ref (ad (0, 0, 0))), (1, .int kd), (2, .long x), (4, .int n)] [.int (bI (decide (1 ≤ n ∧ n ≤ 64)))]
          refine aw_topi (v' := 1) ((bI_t h3).symm) ?_
          show AW X 5 0 0 ad ce 24 [(0, .ref (ad (0, 0, 0))), (1, .int kd), (2, .long x), (4, .int n)] [.int 1]
          refine aw_if_ne C (tgt := 29) d_C_carrier_24 (by decide) (fun h24 => ?_) (fun h24 => absurd h24 (by decide))
          refine aw_aload_n C d_C_carrier_29 rfl (j := 0) rfl ?_
          refine aw_get C F_C ho 1 (by decide) tw_20 rfl d_C_carrier_30 ?_
          refine aw_aload_n C d_C_carrier_33 rfl (j := 0) rfl ?_
          refine aw_get C F_C ho 0 (by decide) tw_19 rfl d_C_carrier_34 ?_
          refine ar_lenQ C hca rfl d_C_carrier_37 ?_
          refine aw_icmp_ge C (tgt := 49) d_C_carrier_38 (by decide) (fun h38 => absurd h38 (nI_ge (by omega) (by omega))) (fun h38 => ?_)
          refine aw_aload_n C d_C_carrier_41 rfl (j := 0) rfl ?_
          refine aw_lload_n C d_C_carrier_42 rfl (j := 2) rfl ?_
          refine aw_callV C I (k := (0, 0, 0)) (as := [.long x]) (rest := []) (c_hasSerial l G ad ce S hL x) g_C_50 ho rfl rfl ⟨by decide, by decide⟩ ⟨by decide, by decide⟩ rfl (Nat.le_of_ble_eq_true rfl) d_C_carrier_43 ?_
          rintro _ _ _ ⟨rfl, rfl, rfl⟩
          show AW X 5 0 0 ad ce 46 [(0, .ref (ad (0, 0, 0))), (1, .int kd), (2, .long x), (4, .int n)] [.int (bI (anyF (fun i => k_sr (s_car S i)) x (s_cn S) 0))]
          refine aw_topi (v' := 1) (by unfold hasC at h5; rw [h5]; rfl) ?_
          show AW X 5 0 0 ad ce 46 [(0, .ref (ad (0, 0, 0))), (1, .int kd), (2, .long x), (4, .int n)] [.int 1]
          refine aw_if_eq C (tgt := 51) d_C_carrier_46 (by decide) (fun h46 => absurd h46 (by decide)) (fun h46 => ?_)
          refine aw_iconst C (v := (-1)) d_C_carrier_49 (by decide) ?_
          refine aw_iret C E (rfl) (by decide) (by decide) d_C_carrier_50 ?_
          rw [show f_carrier S kd x n = (-1, S) from if_neg hc]
          exact rC.of hL ⟨rfl, rfl, rfl⟩
        · skip
          show AW X 5 0 0 ad ce 0 [(0, .ref (ad (0, 0, 0))), (1, .int kd), (2, .long x), (4, .int n)] []
          refine aw_iload_n C d_C_carrier_0 rfl (j := 1) rfl ?_
          refine aw_iconst C (v := 0) d_C_carrier_1 (by decide) ?_
          refine aw_iconst C (v := 3) d_C_carrier_2 (by decide) ?_
          refine aw_callS C I (as := [.int kd, .int 0, .int 3]) (rest := []) (c_within l G ad ce kd 0 3) g_C_42 ⟨by decide, by decide⟩ ⟨by decide, by decide⟩ rfl (Nat.le_of_ble_eq_true rfl) d_C_carrier_3 ?_
          rintro _ _ _ ⟨rfl, rfl, rfl⟩
          show AW X 5 0 0 ad ce 6 [(0, .ref (ad (0, 0, 0))), (1, .int kd), (2, .long x), (4, .int n)] [.int (bI (decide (0 ≤ kd ∧ kd ≤ 3)))]
          refine aw_topi (v' := 1) ((bI_t h1).symm) ?_
          show AW X 5 0 0 ad ce 6 [(0, .ref (ad (0, 0, 0))), (1, .int kd), (2, .long x), (4, .int n)] [.int 1]
          refine aw_if_eq C (tgt := 27) d_C_carrier_6 (by decide) (fun h6 => absurd h6 (by decide)) (fun h6 => ?_)
          refine aw_lload_n C d_C_carrier_9 rfl (j := 2) rfl ?_
          refine aw_callS C I (as := [.long x]) (rest := []) (c_isSerial l G ad ce x) g_C_46 ⟨by decide, by decide⟩ ⟨by decide, by decide⟩ rfl (Nat.le_of_ble_eq_true rfl) d_C_carrier_10 ?_
          rintro _ _ _ ⟨rfl, rfl, rfl⟩
          show AW X 5 0 0 ad ce 13 [(0, .ref (ad (0, 0, 0))), (1, .int kd), (2, .long x), (4, .int n)] [.int (bI (decide (0 ≤ x ∧ x ≤ 1000000000000)))]
          refine aw_topi (v' := 1) ((bI_t h2).symm) ?_
          show AW X 5 0 0 ad ce 13 [(0, .ref (ad (0, 0, 0))), (1, .int kd), (2, .long x), (4, .int n)] [.int 1]
          refine aw_if_eq C (tgt := 27) d_C_carrier_13 (by decide) (fun h13 => absurd h13 (by decide)) (fun h13 => ?_)
          refine aw_iload C d_C_carrier_16 (j := 3) rfl ?_
          refine aw_iconst C (v := 1) d_C_carrier_18 (by decide) ?_
          refine aw_bipush C (v := 64) d_C_carrier_19 (by decide) ?_
          refine aw_callS C I (as := [.int n, .int 1, .int 64]) (rest := []) (c_within l G ad ce n 1 64) g_C_42 ⟨by decide, by decide⟩ ⟨by decide, by decide⟩ rfl (Nat.le_of_ble_eq_true rfl) d_C_carrier_21 ?_
          rintro _ _ _ ⟨rfl, rfl, rfl⟩
          show AW X 5 0 0 ad ce 24 [(0, .ref (ad (0, 0, 0))), (1, .int kd), (2, .long x), (4, .int n)] [.int (bI (decide (1 ≤ n ∧ n ≤ 64)))]
          refine aw_topi (v' := 1) ((bI_t h3).symm) ?_
          show AW X 5 0 0 ad ce 24 [(0, .ref (ad (0, 0, 0))), (1, .int kd), (2, .long x), (4, .int n)] [.int 1]
          refine aw_if_ne C (tgt := 29) d_C_carrier_24 (by decide) (fun h24 => ?_) (fun h24 => absurd h24 (by decide))
          refine aw_aload_n C d_C_carrier_29 rfl (j := 0) rfl ?_
          refine aw_get C F_C ho 1 (by decide) tw_20 rfl d_C_carrier_30 ?_
          refine aw_aload_n C d_C_carrier_33 rfl (j := 0) rfl ?_
          refine aw_get C F_C ho 0 (by decide) tw_19 rfl d_C_carrier_34 ?_
          refine ar_lenQ C hca rfl d_C_carrier_37 ?_
          refine aw_icmp_ge C (tgt := 49) d_C_carrier_38 (by decide) (fun h38 => ?_) (fun h38 => absurd (nI_le (by omega) (by omega)) h38)
          refine aw_iconst C (v := (-1)) d_C_carrier_49 (by decide) ?_
          refine aw_iret C E (rfl) (by decide) (by decide) d_C_carrier_50 ?_
          rw [show f_carrier S kd x n = (-1, S) from if_neg hc]
          exact rC.of hL ⟨rfl, rfl, rfl⟩
      · skip
        show AW X 5 0 0 ad ce 0 [(0, .ref (ad (0, 0, 0))), (1, .int kd), (2, .long x), (4, .int n)] []
        refine aw_iload_n C d_C_carrier_0 rfl (j := 1) rfl ?_
        refine aw_iconst C (v := 0) d_C_carrier_1 (by decide) ?_
        refine aw_iconst C (v := 3) d_C_carrier_2 (by decide) ?_
        refine aw_callS C I (as := [.int kd, .int 0, .int 3]) (rest := []) (c_within l G ad ce kd 0 3) g_C_42 ⟨by decide, by decide⟩ ⟨by decide, by decide⟩ rfl (Nat.le_of_ble_eq_true rfl) d_C_carrier_3 ?_
        rintro _ _ _ ⟨rfl, rfl, rfl⟩
        show AW X 5 0 0 ad ce 6 [(0, .ref (ad (0, 0, 0))), (1, .int kd), (2, .long x), (4, .int n)] [.int (bI (decide (0 ≤ kd ∧ kd ≤ 3)))]
        refine aw_topi (v' := 1) ((bI_t h1).symm) ?_
        show AW X 5 0 0 ad ce 6 [(0, .ref (ad (0, 0, 0))), (1, .int kd), (2, .long x), (4, .int n)] [.int 1]
        refine aw_if_eq C (tgt := 27) d_C_carrier_6 (by decide) (fun h6 => absurd h6 (by decide)) (fun h6 => ?_)
        refine aw_lload_n C d_C_carrier_9 rfl (j := 2) rfl ?_
        refine aw_callS C I (as := [.long x]) (rest := []) (c_isSerial l G ad ce x) g_C_46 ⟨by decide, by decide⟩ ⟨by decide, by decide⟩ rfl (Nat.le_of_ble_eq_true rfl) d_C_carrier_10 ?_
        rintro _ _ _ ⟨rfl, rfl, rfl⟩
        show AW X 5 0 0 ad ce 13 [(0, .ref (ad (0, 0, 0))), (1, .int kd), (2, .long x), (4, .int n)] [.int (bI (decide (0 ≤ x ∧ x ≤ 1000000000000)))]
        refine aw_topi (v' := 1) ((bI_t h2).symm) ?_
        show AW X 5 0 0 ad ce 13 [(0, .ref (ad (0, 0, 0))), (1, .int kd), (2, .long x), (4, .int n)] [.int 1]
        refine aw_if_eq C (tgt := 27) d_C_carrier_13 (by decide) (fun h13 => absurd h13 (by decide)) (fun h13 => ?_)
        refine aw_iload C d_C_carrier_16 (j := 3) rfl ?_
        refine aw_iconst C (v := 1) d_C_carrier_18 (by decide) ?_
        refine aw_bipush C (v := 64) d_C_carrier_19 (by decide) ?_
        refine aw_callS C I (as := [.int n, .int 1, .int 64]) (rest := []) (c_within l G ad ce n 1 64) g_C_42 ⟨by decide, by decide⟩ ⟨by decide, by decide⟩ rfl (Nat.le_of_ble_eq_true rfl) d_C_carrier_21 ?_
        rintro _ _ _ ⟨rfl, rfl, rfl⟩
        show AW X 5 0 0 ad ce 24 [(0, .ref (ad (0, 0, 0))), (1, .int kd), (2, .long x), (4, .int n)] [.int (bI (decide (1 ≤ n ∧ n ≤ 64)))]
        refine aw_topi (v' := 0) ((bI_f h3).symm) ?_
        show AW X 5 0 0 ad ce 24 [(0, .ref (ad (0, 0, 0))), (1, .int kd), (2, .long x), (4, .int n)] [.int 0]
        refine aw_if_ne C (tgt := 29) d_C_carrier_24 (by decide) (fun h24 => absurd h24 (by decide)) (fun h24 => ?_)
        refine aw_iconst C (v := (-1)) d_C_carrier_27 (by decide) ?_
        refine aw_iret C E (rfl) (by decide) (by decide) d_C_carrier_28 ?_
        rw [show f_carrier S kd x n = (-1, S) from if_neg hc]
        exact rC.of hL ⟨rfl, rfl, rfl⟩
    · skip
      show AW X 5 0 0 ad ce 0 [(0, .ref (ad (0, 0, 0))), (1, .int kd), (2, .long x), (4, .int n)] []
      refine aw_iload_n C d_C_carrier_0 rfl (j := 1) rfl ?_
      refine aw_iconst C (v := 0) d_C_carrier_1 (by decide) ?_
      refine aw_iconst C (v := 3) d_C_carrier_2 (by decide) ?_
      refine aw_callS C I (as := [.int kd, .int 0, .int 3]) (rest := []) (c_within l G ad ce kd 0 3) g_C_42 ⟨by decide, by decide⟩ ⟨by decide, by decide⟩ rfl (Nat.le_of_ble_eq_true rfl) d_C_carrier_3 ?_
      rintro _ _ _ ⟨rfl, rfl, rfl⟩
      show AW X 5 0 0 ad ce 6 [(0, .ref (ad (0, 0, 0))), (1, .int kd), (2, .long x), (4, .int n)] [.int (bI (decide (0 ≤ kd ∧ kd ≤ 3)))]
      refine aw_topi (v' := 1) ((bI_t h1).symm) ?_
      show AW X 5 0 0 ad ce 6 [(0, .ref (ad (0, 0, 0))), (1, .int kd), (2, .long x), (4, .int n)] [.int 1]
      refine aw_if_eq C (tgt := 27) d_C_carrier_6 (by decide) (fun h6 => absurd h6 (by decide)) (fun h6 => ?_)
      refine aw_lload_n C d_C_carrier_9 rfl (j := 2) rfl ?_
      refine aw_callS C I (as := [.long x]) (rest := []) (c_isSerial l G ad ce x) g_C_46 ⟨by decide, by decide⟩ ⟨by decide, by decide⟩ rfl (Nat.le_of_ble_eq_true rfl) d_C_carrier_10 ?_
      rintro _ _ _ ⟨rfl, rfl, rfl⟩
      show AW X 5 0 0 ad ce 13 [(0, .ref (ad (0, 0, 0))), (1, .int kd), (2, .long x), (4, .int n)] [.int (bI (decide (0 ≤ x ∧ x ≤ 1000000000000)))]
      refine aw_topi (v' := 0) ((bI_f h2).symm) ?_
      show AW X 5 0 0 ad ce 13 [(0, .ref (ad (0, 0, 0))), (1, .int kd), (2, .long x), (4, .int n)] [.int 0]
      refine aw_if_eq C (tgt := 27) d_C_carrier_13 (by decide) (fun h13 => ?_) (fun h13 => absurd (rfl) h13)
      refine aw_iconst C (v := (-1)) d_C_carrier_27 (by decide) ?_
      refine aw_iret C E (rfl) (by decide) (by decide) d_C_carrier_28 ?_
      rw [show f_carrier S kd x n = (-1, S) from if_neg hc]
      exact rC.of hL ⟨rfl, rfl, rfl⟩
  · skip
    show AW X 5 0 0 ad ce 0 [(0, .ref (ad (0, 0, 0))), (1, .int kd), (2, .long x), (4, .int n)] []
    refine aw_iload_n C d_C_carrier_0 rfl (j := 1) rfl ?_
    refine aw_iconst C (v := 0) d_C_carrier_1 (by decide) ?_
    refine aw_iconst C (v := 3) d_C_carrier_2 (by decide) ?_
    refine aw_callS C I (as := [.int kd, .int 0, .int 3]) (rest := []) (c_within l G ad ce kd 0 3) g_C_42 ⟨by decide, by decide⟩ ⟨by decide, by decide⟩ rfl (Nat.le_of_ble_eq_true rfl) d_C_carrier_3 ?_
    rintro _ _ _ ⟨rfl, rfl, rfl⟩
    show AW X 5 0 0 ad ce 6 [(0, .ref (ad (0, 0, 0))), (1, .int kd), (2, .long x), (4, .int n)] [.int (bI (decide (0 ≤ kd ∧ kd ≤ 3)))]
    refine aw_topi (v' := 0) ((bI_f h1).symm) ?_
    show AW X 5 0 0 ad ce 6 [(0, .ref (ad (0, 0, 0))), (1, .int kd), (2, .long x), (4, .int n)] [.int 0]
    refine aw_if_eq C (tgt := 27) d_C_carrier_6 (by decide) (fun h6 => ?_) (fun h6 => absurd (rfl) h6)
    refine aw_iconst C (v := (-1)) d_C_carrier_27 (by decide) ?_
    refine aw_iret C E (rfl) (by decide) (by decide) d_C_carrier_28 ?_
    rw [show f_carrier S kd x n = (-1, S) from if_neg hc]
    exact rC.of hL ⟨rfl, rfl, rfl⟩
