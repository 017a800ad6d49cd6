set_option maxRecDepth 100000 in
set_option maxHeartbeats 4000000 in
theorem C_paper (l : Launch) (G : aw_G) (ad : aw_Ad) (ce : aw_He) (S : SysS) (hL : LayC S ad ce) (x a b : Int32) : CT l G M_C_paper 2 47 2 13 [.ref (ad (0, 0, 0)), .int x, .int a, .int b] ad ce (rC (some (.int (f_paper S x a b).1)) (f_paper S x a b).2 ad ce) := by
  refine CT.of (by decide) (Nat.le_of_ble_eq_true rfl) ?_
  intro X C I E
  have hL0 := hL
  obtain ⟨ho, hca, hpa, hli, hlo, hcars, hpaps, hnoc, hnop, hb1, hb2, hb3, hb4⟩ := hL0
  rcases ix_cases x (n := s_cn S) (by omega) with hx | ⟨j, hj, rfl⟩
  · skip
    show AW X 5 0 0 ad ce 0 [(0, .ref (ad (0, 0, 0))), (1, .int x), (2, .int a), (3, .int b)] []
    refine aw_aload_n C d_C_paper_0 rfl (j := 0) rfl ?_
    refine aw_iload_n C d_C_paper_1 rfl (j := 1) rfl ?_
    refine aw_callV C I (k := (0, 0, 0)) (as := [.int x]) (rest := []) (c_findC_out l G ad ce S hL x hx) g_C_56 ho rfl rfl ⟨by decide, by decide⟩ ⟨by decide, by decide⟩ rfl (Nat.le_of_ble_eq_true rfl) d_C_paper_2 ?_
    rintro _ _ _ ⟨rfl, rfl, rfl⟩
    show AW X 5 0 0 ad ce 5 [(0, .ref (ad (0, 0, 0))), (1, .int x), (2, .int a), (3, .int b)] [.null]
    refine aw_astoreN C (lv' := [(4, .null), (0, .ref (ad (0, 0, 0))), (1, .int x), (2, .int a), (3, .int b)]) d_C_paper_5 (by decide) rfl ?_
    refine aw_aloadN C d_C_paper_7 (j := 0) rfl ?_
    refine aw_ifnullN C (tgt := 31) d_C_paper_9 (by decide) ?_
    refine aw_iconst C (v := (-1)) d_C_paper_31 (by decide) ?_
    refine aw_iret C E (rfl) (by decide) (by decide) d_C_paper_32 ?_
    rw [show f_paper S x a b = (-1, S) from by simp only [f_paper, ix_out hx]]
    exact rC.of hL ⟨rfl, rfl, rfl⟩
  by_cases hc : (0 ≤ a ∧ a ≤ 9) ∧ (0 ≤ b ∧ b ≤ 9) ∧ ¬ a = b ∧ (k_st (s_car S j) = 3 ∨ k_st (s_car S j) = 5) ∧ s_pn S < 20
  · have hpn := hc.2.2.2.2
    show AW X 5 0 0 ad ce 0 [(0, .ref (ad (0, 0, 0))), (1, .int (nI j)), (2, .int a), (3, .int b)] []
    refine aw_aload_n C d_C_paper_0 rfl (j := 0) rfl ?_
    refine aw_iload_n C d_C_paper_1 rfl (j := 1) rfl ?_
    refine aw_callV C I (k := (0, 0, 0)) (as := [.int (nI j)]) (rest := []) (c_findC_in l G ad ce S hL j hj) g_C_56 ho rfl rfl ⟨by decide, by decide⟩ ⟨by decide, by decide⟩ rfl (Nat.le_of_ble_eq_true rfl) d_C_paper_2 ?_
    rintro _ _ _ ⟨rfl, rfl, rfl⟩
    show AW X 5 0 0 ad ce 5 [(0, .ref (ad (0, 0, 0))), (1, .int (nI j)), (2, .int a), (3, .int b)] [.ref (ad (1, j, 0))]
    have hK := hcars j hj
    have hK0 := hK
    obtain ⟨hk, hby, hdu, hwo, hrd, hpt, ⟨hn1, hn2⟩, hps⟩ := hK0
    refine aw_astore C (lv' := [(4, .ref (ad (1, j, 0))), (0, .ref (ad (0, 0, 0))), (1, .int (nI j)), (2, .int a), (3, .int b)]) d_C_paper_5 (by decide) rfl ?_
    refine aw_aload C d_C_paper_7 (j := 0) rfl ?_
    refine aw_ifnull C d_C_paper_9 ?_
    refine aw_iload_n C d_C_paper_12 rfl (j := 3) rfl ?_
    refine aw_callS C I (as := [.int a]) (rest := []) (c_isPerson l G ad ce a) g_C_63 ⟨by decide, by decide⟩ ⟨by decide, by decide⟩ rfl (Nat.le_of_ble_eq_true rfl) d_C_paper_13 ?_
    rintro _ _ _ ⟨rfl, rfl, rfl⟩
    show AW X 5 0 0 ad ce 16 [(4, .ref (ad (1, j, 0))), (0, .ref (ad (0, 0, 0))), (1, .int (nI j)), (2, .int a), (3, .int b)] [.int (bI (decide (0 ≤ a ∧ a ≤ 9)))]
    refine aw_topi (v' := 1) ((bI_t hc.1).symm) ?_
    show AW X 5 0 0 ad ce 16 [(4, .ref (ad (1, j, 0))), (0, .ref (ad (0, 0, 0))), (1, .int (nI j)), (2, .int a), (3, .int b)] [.int 1]
    refine aw_if_eq C (tgt := 31) d_C_paper_16 (by decide) (fun h16 => absurd h16 (by decide)) (fun h16 => ?_)
    refine aw_iload_n C d_C_paper_19 rfl (j := 4) rfl ?_
    refine aw_callS C I (as := [.int b]) (rest := []) (c_isPerson l G ad ce b) g_C_63 ⟨by decide, by decide⟩ ⟨by decide, by decide⟩ rfl (Nat.le_of_ble_eq_true rfl) d_C_paper_20 ?_
    rintro _ _ _ ⟨rfl, rfl, rfl⟩
    show AW X 5 0 0 ad ce 23 [(4, .ref (ad (1, j, 0))), (0, .ref (ad (0, 0, 0))), (1, .int (nI j)), (2, .int a), (3, .int b)] [.int (bI (decide (0 ≤ b ∧ b ≤ 9)))]
    refine aw_topi (v' := 1) ((bI_t hc.2.1).symm) ?_
    show AW X 5 0 0 ad ce 23 [(4, .ref (ad (1, j, 0))), (0, .ref (ad (0, 0, 0))), (1, .int (nI j)), (2, .int a), (3, .int b)] [.int 1]
    refine aw_if_eq C (tgt := 31) d_C_paper_23 (by decide) (fun h23 => absurd h23 (by decide)) (fun h23 => ?_)
    refine aw_iload_n C d_C_paper_26 rfl (j := 3) rfl ?_
    refine aw_iload_n C d_C_paper_27 rfl (j := 4) rfl ?_
    refine aw_icmp_ne C (tgt := 33) d_C_paper_28 (by decide) (fun h28 => ?_) (fun h28 => absurd h28 (hc.2.2.1))
    refine aw_aload C d_C_paper_33 (j := 0) rfl ?_
    refine aw_get C F_K hk 10 (by decide) tw_89 rfl d_C_paper_35 ?_
    refine aw_iconst C (v := 3) d_C_paper_38 (by decide) ?_
    refine aw_icmp_eq C (tgt := 53) d_C_paper_39 (by decide) (fun h39 => ?_) (fun h39 => ?_)
    · refine aw_aload_n C d_C_paper_53 rfl (j := 1) rfl ?_
      refine aw_get C F_C ho 3 (by decide) tw_22 rfl d_C_paper_54 ?_
      refine aw_aload_n C d_C_paper_57 rfl (j := 1) rfl ?_
      refine aw_get C F_C ho 2 (by decide) tw_21 rfl d_C_paper_58 ?_
      refine ar_lenQ C hpa rfl d_C_paper_61 ?_
      refine aw_icmp_lt C (tgt := 67) d_C_paper_62 (by decide) (fun h62 => ?_) (fun h62 => absurd (nI_lt (by omega) (by omega)) h62)
      refine aw_aload_n C d_C_paper_67 rfl (j := 1) rfl ?_
      refine aw_get C F_C ho 2 (by decide) tw_21 rfl d_C_paper_68 ?_
      refine aw_aload_n C d_C_paper_71 rfl (j := 1) rfl ?_
      refine aw_get C F_C ho 3 (by decide) tw_22 rfl d_C_paper_72 ?_
      refine ob_new C I F_P (2, s_pn S, 0) (hnop _ _ (Nat.le_refl _)) tw_17 tw_221 tw_5 [.null] (by decide) ⟨Nat.le_trans (m := 2) (by omega) (Nat.le_refl _), Nat.le_trans (m := 13) (by omega) (Nat.le_refl _)⟩ d_C_paper_75 ?_
      intro ad15 ce15 ha15 fw15 hkN
      have ea15_0 : ad (1, j, 0) = ad15 (1, j, 0) := (ha15 _ (by simp)).symm
      have ea15_1 : ad (0, 0, 0) = ad15 (0, 0, 0) := (ha15 _ (by simp)).symm
      have ea15_2 : ad (0, 0, 2) = ad15 (0, 0, 2) := (ha15 _ (by simp)).symm
      have ea15_3 : ad (0, 0, 1) = ad15 (0, 0, 1) := (ha15 _ (by simp)).symm
      have ea15_4 : ad (0, 0, 3) = ad15 (0, 0, 3) := (ha15 _ (by simp)).symm
      have ea15_5 : ad (0, 0, 4) = ad15 (0, 0, 4) := (ha15 _ (by simp)).symm
      have ea15_6 : ad (1, j, 1) = ad15 (1, j, 1) := (ha15 _ (by simp)).symm
      have ea15_7 : ad (1, j, 2) = ad15 (1, j, 2) := (ha15 _ (by simp)).symm
      have ea15_8 : ad (1, j, 3) = ad15 (1, j, 3) := (ha15 _ (by simp)).symm
      have ea15_9 : ad (1, j, 4) = ad15 (1, j, 4) := (ha15 _ (by simp)).symm
      have ea15_10 : ad (1, j, 5) = ad15 (1, j, 5) := (ha15 _ (by simp)).symm
      rw [ea15_0, ea15_1, ea15_2]
      rw [ea15_3, ea15_2, ea15_4, ea15_5] at ho
      have ho : ce15 (0, 0, 0) = some (.inr (0, [.ref (ad15 (0, 0, 1)), .int (nI (s_cn S)), .ref (ad15 (0, 0, 2)), .int (nI (s_pn S)), .ref (ad15 (0, 0, 3)), .int (nI (s_ln S)), .ref (ad15 (0, 0, 4)), .int (nI (s_on S))])) := (fw15 _ (by simp)).trans ho
      have hca := hca.tr (fw15 _ (by simp))
      have hpa := hpa.tr (fw15 _ (by simp))
      have hli := hli.tr (fw15 _ (by simp))
      have hlo := hlo.tr (fw15 _ (by simp))
      rw [ea15_6, ea15_7, ea15_8, ea15_9, ea15_10] at hk
      have hk : ce15 (1, j, 0) = some (.inr (1, [.int (k_kd (s_car S j)), .long (k_sr (s_car S j)), .ref (ad15 (1, j, 1)), .ref (ad15 (1, j, 2)), .ref (ad15 (1, j, 3)), .ref (ad15 (1, j, 4)), .ref (ad15 (1, j, 5)), .int (nI (k_ps (s_car S j))), .int (nI (cnt (k_rd (s_car S j)) (k_np (s_car S j)))), .int (k_un (s_car S j)), .int (k_st (s_car S j)), .int (k_la (s_car S j))])) := (fw15 _ (by simp)).trans hk
      have hby := hby.tr (fw15 _ (by simp))
      have hdu := hdu.tr (fw15 _ (by simp))
      have hwo := hwo.tr (fw15 _ (by simp))
      have hrd := hrd.tr (fw15 _ (by simp))
      have hpt := hpt.tr (fw15 _ (by simp))
      refine aw_dup C d_C_paper_78 rfl ?_
      refine aw_iload_n C d_C_paper_79 rfl (j := 2) rfl ?_
      refine aw_aload C d_C_paper_80 (j := 0) rfl ?_
      refine aw_iload_n C d_C_paper_82 rfl (j := 3) rfl ?_
      refine aw_iload_n C d_C_paper_83 rfl (j := 4) rfl ?_
      have hKA : Car ad15 ce15 j (s_car S j) := hK.tr (fun p => ha15 _ (by simp)) (fun p => fw15 _ (by simp))
      refine aw_callI C I (as := [.int (nI j), .ref (ad15 (1, j, 0)), .int a, .int b]) (rest := [.ref (ad15 (2, s_pn S, 0)), .int (nI (s_pn S)), .ref (ad15 (0, 0, 2))]) (c_Pinit l G ad15 ce15 j _ hKA (s_pn S) (nI j) a b hkN ((fw15 _ (by simp)).trans (hnop _ _ (Nat.le_refl _)))) g_C_120 ⟨by decide, by decide⟩ ⟨by decide, by decide⟩ rfl (Nat.le_of_ble_eq_true rfl) d_C_paper_84 ?_
      rintro _ ad9 ce9 ⟨rfl, hf9, ha9, hK9⟩
      have eb_0 : ad15 (1, j, 0) = ad9 (1, j, 0) := ((hf9 _ (by simp)).1).symm
      have eb_1 : ad15 (0, 0, 0) = ad9 (0, 0, 0) := ((hf9 _ (by simp)).1).symm
      have eb_2 : ad15 (2, s_pn S, 0) = ad9 (2, s_pn S, 0) := (ha9).symm
      have eb_3 : ad15 (0, 0, 2) = ad9 (0, 0, 2) := ((hf9 _ (by simp)).1).symm
      have eb_4 : ad15 (0, 0, 1) = ad9 (0, 0, 1) := ((hf9 _ (by simp)).1).symm
      have eb_5 : ad15 (0, 0, 3) = ad9 (0, 0, 3) := ((hf9 _ (by simp)).1).symm
      have eb_6 : ad15 (0, 0, 4) = ad9 (0, 0, 4) := ((hf9 _ (by simp)).1).symm
      have eb_7 : ad15 (1, j, 1) = ad9 (1, j, 1) := ((hf9 _ (by simp)).1).symm
      have eb_8 : ad15 (1, j, 2) = ad9 (1, j, 2) := ((hf9 _ (by simp)).1).symm
      have eb_9 : ad15 (1, j, 3) = ad9 (1, j, 3) := ((hf9 _ (by simp)).1).symm
      have eb_10 : ad15 (1, j, 4) = ad9 (1, j, 4) := ((hf9 _ (by simp)).1).symm
      have eb_11 : ad15 (1, j, 5) = ad9 (1, j, 5) := ((hf9 _ (by simp)).1).symm
      rw [eb_4, eb_3, eb_5, eb_6] at ho
      have ho : ce9 (0, 0, 0) = some (.inr (0, [.ref (ad9 (0, 0, 1)), .int (nI (s_cn S)), .ref (ad9 (0, 0, 2)), .int (nI (s_pn S)), .ref (ad9 (0, 0, 3)), .int (nI (s_ln S)), .ref (ad9 (0, 0, 4)), .int (nI (s_on S))])) := (hf9 _ (by simp)).2.trans ho
      have hca := hca.tr (hf9 _ (by simp)).2
      have hpa := hpa.tr (hf9 _ (by simp)).2
      have hli := hli.tr (hf9 _ (by simp)).2
      have hlo := hlo.tr (hf9 _ (by simp)).2
      rw [eb_7, eb_8, eb_9, eb_10, eb_11] at hk
      have hk : ce9 (1, j, 0) = some (.inr (1, [.int (k_kd (s_car S j)), .long (k_sr (s_car S j)), .ref (ad9 (1, j, 1)), .ref (ad9 (1, j, 2)), .ref (ad9 (1, j, 3)), .ref (ad9 (1, j, 4)), .ref (ad9 (1, j, 5)), .int (nI (k_ps (s_car S j))), .int (nI (cnt (k_rd (s_car S j)) (k_np (s_car S j)))), .int (k_un (s_car S j)), .int (k_st (s_car S j)), .int (k_la (s_car S j))])) := (hf9 _ (by simp)).2.trans hk
      have hby := hby.tr (hf9 _ (by simp)).2
      have hdu := hdu.tr (hf9 _ (by simp)).2
      have hwo := hwo.tr (hf9 _ (by simp)).2
      have hrd := hrd.tr (hf9 _ (by simp)).2
      have hpt := hpt.tr (hf9 _ (by simp)).2
      rw [eb_0, eb_1, eb_2, eb_3]
      have hkN := hK9.1
      show AW X 5 (0 + 1 + 1) (0 + 1 + 12) ad9 ce9 87 [(4, .ref (ad9 (1, j, 0))), (0, .ref (ad9 (0, 0, 0))), (1, .int (nI j)), (2, .int a), (3, .int b)] [.ref (ad9 (2, s_pn S, 0)), .int (nI (s_pn S)), .ref (ad9 (0, 0, 2))]
      refine ar_aast C hpa rfl hkN rfl (j := (s_pn S)) (rfl) (by omega) (by omega) d_C_paper_87 ?_
      intro ce16 fw16 hpa
      have ho : ce16 (0, 0, 0) = some (.inr (0, [.ref (ad9 (0, 0, 1)), .int (nI (s_cn S)), .ref (ad9 (0, 0, 2)), .int (nI (s_pn S)), .ref (ad9 (0, 0, 3)), .int (nI (s_ln S)), .ref (ad9 (0, 0, 4)), .int (nI (s_on S))])) := (fw16 _ (by simp)).trans ho
      have hca := hca.tr (fw16 _ (by simp))
      have hli := hli.tr (fw16 _ (by simp))
      have hlo := hlo.tr (fw16 _ (by simp))
      have hk : ce16 (1, j, 0) = some (.inr (1, [.int (k_kd (s_car S j)), .long (k_sr (s_car S j)), .ref (ad9 (1, j, 1)), .ref (ad9 (1, j, 2)), .ref (ad9 (1, j, 3)), .ref (ad9 (1, j, 4)), .ref (ad9 (1, j, 5)), .int (nI (k_ps (s_car S j))), .int (nI (cnt (k_rd (s_car S j)) (k_np (s_car S j)))), .int (k_un (s_car S j)), .int (k_st (s_car S j)), .int (k_la (s_car S j))])) := (fw16 _ (by simp)).trans hk
      have hby := hby.tr (fw16 _ (by simp))
      have hdu := hdu.tr (fw16 _ (by simp))
      have hwo := hwo.tr (fw16 _ (by simp))
      have hrd := hrd.tr (fw16 _ (by simp))
      have hpt := hpt.tr (fw16 _ (by simp))
      have hkN : ce16 (2, s_pn S, 0) = some (.inr (2, [.ref (ad9 (2, s_pn S, 1))])) := (fw16 _ (by simp)).trans hkN
      refine aw_aload_n C d_C_paper_88 rfl (j := 1) rfl ?_
      refine aw_dup C d_C_paper_89 rfl ?_
      refine aw_get C F_C ho 3 (by decide) tw_22 rfl d_C_paper_90 ?_
      refine aw_iconst C (v := 1) d_C_paper_93 (by decide) ?_
      refine aw_iadd C d_C_paper_94 ?_
      refine aw_topi (v' := nI (s_pn S + 1)) (nI_1 _) ?_
      refine ob_put C F_C ho 3 (by decide) tw_22 rfl rfl rfl (Nat.le_of_ble_eq_true rfl) (fs' := [.ref (ad9 (0, 0, 1)), .int (nI (s_cn S)), .ref (ad9 (0, 0, 2)), .int (nI (s_pn S + 1)), .ref (ad9 (0, 0, 3)), .int (nI (s_ln S)), .ref (ad9 (0, 0, 4)), .int (nI (s_on S))]) rfl d_C_paper_95 ?_
      intro ce17 fw17 ho
      have hca := hca.tr (fw17 _ (by simp))
      have hpa := hpa.tr (fw17 _ (by simp))
      have hli := hli.tr (fw17 _ (by simp))
      have hlo := hlo.tr (fw17 _ (by simp))
      have hk : ce17 (1, j, 0) = some (.inr (1, [.int (k_kd (s_car S j)), .long (k_sr (s_car S j)), .ref (ad9 (1, j, 1)), .ref (ad9 (1, j, 2)), .ref (ad9 (1, j, 3)), .ref (ad9 (1, j, 4)), .ref (ad9 (1, j, 5)), .int (nI (k_ps (s_car S j))), .int (nI (cnt (k_rd (s_car S j)) (k_np (s_car S j)))), .int (k_un (s_car S j)), .int (k_st (s_car S j)), .int (k_la (s_car S j))])) := (fw17 _ (by simp)).trans hk
      have hby := hby.tr (fw17 _ (by simp))
      have hdu := hdu.tr (fw17 _ (by simp))
      have hwo := hwo.tr (fw17 _ (by simp))
      have hrd := hrd.tr (fw17 _ (by simp))
      have hpt := hpt.tr (fw17 _ (by simp))
      have hkN : ce17 (2, s_pn S, 0) = some (.inr (2, [.ref (ad9 (2, s_pn S, 1))])) := (fw17 _ (by simp)).trans hkN
      refine aw_aload_n C d_C_paper_98 rfl (j := 1) rfl ?_
      refine aw_get C F_C ho 3 (by decide) tw_22 rfl d_C_paper_99 ?_
      refine aw_iconst C (v := 1) d_C_paper_102 (by decide) ?_
      refine aw_isub C d_C_paper_103 ?_
      refine aw_topi (v' := nI (s_pn S)) (nI_pred _) ?_
      refine aw_iret C E (rfl) (by decide) (by decide) d_C_paper_104 ?_
      have fr9 : ∀ q : aw_Lb, q ≠ (0, 0, 2) → q ≠ (0, 0, 0) → ce17 q = ce9 q := fun q n0 n1 => by rw [fw17 q n1, fw16 q n0]
      have fa : ∀ q : aw_Lb, (q.1 ≠ 2 ∨ q.2.1 ≠ s_pn S) → ad9 q = ad q := fun q hq => (hf9 q hq).1.trans (ha15 q (fun e => by subst e; simp at hq))
      have fc : ∀ q : aw_Lb, (q.1 ≠ 2 ∨ q.2.1 ≠ s_pn S) → ce9 q = ce q := fun q hq => (hf9 q hq).2.trans (fw15 q (fun e => by subst e; simp at hq))
      rw [show f_paper S (nI j) a b = (nI (s_pn S), s_addP S (6 + k_ps (s_car S j), papF (nI j) (s_car S j) a b)) from by simp only [f_paper, ix_in hj (show s_cn S < 2 ^ 31 by omega), if_pos hc]]
      refine ⟨rfl, fun q hq => ⟨fa q (Or.inl (by omega)), (fr9 q (fun e => by subst e; simp at hq) (fun e => by subst e; simp at hq)).trans (fc q (Or.inl (by omega)))⟩, fa _ (Or.inl (by simp)), ho, hca.to (fun i hi => ?_), hpa.to (fun i hi => ?_), hli, hlo, fun i hi => (hcars i hi).tr (fun p => fa _ (Or.inl (by simp))) (fun p => (fr9 _ (by simp) (by simp)).trans (fc _ (Or.inl (by simp)))), fun i hi => ?_, fun i p hi => (fr9 _ (by simp) (by simp)).trans ((fc _ (Or.inl (by simp))).trans (hnoc i p hi)), fun i p hi => ?_, hb1, by show s_pn S + 1 ≤ 20; omega, hb3, hb4⟩
      · show (if i < s_cn S then some (ad (1, i, 0)) else none) = if i < s_cn S then some (ad9 (1, i, 0)) else none
        rw [fa (1, i, 0) (Or.inl (by simp))]
      · show va_up _ (s_pn S) _ i = if i < s_pn S + 1 then some (ad9 (2, i, 0)) else none
        by_cases e : i = s_pn S
        · subst e; rw [va_up_self, if_pos (by omega)]
        · rw [va_up_ne _ _ e]
          show (if i < s_pn S then some (ad (2, i, 0)) else none) = _
          by_cases h : i < s_pn S
          · rw [if_pos h, if_pos (by omega), fa (2, i, 0) (Or.inr e)]
          · rw [if_neg h, if_neg (by omega)]
      · show Pap ad9 ce17 i (va_up (s_pap S) (s_pn S) _ i)
        by_cases e : i = s_pn S
        · subst e
          rw [va_up_self]
          exact hK9.tr (fun _ => rfl) (fun p => fr9 _ (by simp) (by simp))
        · rw [va_up_ne _ _ e]
          have hi' : i < s_pn S + 1 := hi
          exact (hpaps i (by omega)).tr (fun p => fa _ (Or.inr e)) (fun p => (fr9 _ (by simp) (by simp)).trans (fc _ (Or.inr e)))
      · have hi' : s_pn S + 1 ≤ i := hi
        exact (fr9 _ (by simp) (by simp)).trans ((fc _ (Or.inr (by show i ≠ s_pn S; omega))).trans (hnop i p (by omega)))
    · refine aw_aload C d_C_paper_42 (j := 0) rfl ?_
      refine aw_get C F_K hk 10 (by decide) tw_89 rfl d_C_paper_44 ?_
      refine aw_iconst C (v := 5) d_C_paper_47 (by decide) ?_
      refine aw_icmp_eq C (tgt := 53) d_C_paper_48 (by decide) (fun h48 => ?_) (fun h48 => ?_)
      · refine aw_aload_n C d_C_paper_53 rfl (j := 1) rfl ?_
        refine aw_get C F_C ho 3 (by decide) tw_22 rfl d_C_paper_54 ?_
        refine aw_aload_n C d_C_paper_57 rfl (j := 1) rfl ?_
        refine aw_get C F_C ho 2 (by decide) tw_21 rfl d_C_paper_58 ?_
        refine ar_lenQ C hpa rfl d_C_paper_61 ?_
        refine aw_icmp_lt C (tgt := 67) d_C_paper_62 (by decide) (fun h62 => ?_) (fun h62 => absurd (nI_lt (by omega) (by omega)) h62)
        refine aw_aload_n C d_C_paper_67 rfl (j := 1) rfl ?_
        refine aw_get C F_C ho 2 (by decide) tw_21 rfl d_C_paper_68 ?_
        refine aw_aload_n C d_C_paper_71 rfl (j := 1) rfl ?_
        refine aw_get C F_C ho 3 (by decide) tw_22 rfl d_C_paper_72 ?_
        refine ob_new C I F_P (2, s_pn S, 0) (hnop _ _ (Nat.le_refl _)) tw_17 tw_221 tw_5 [.null] (by decide) ⟨Nat.le_trans (m := 2) (by omega) (Nat.le_refl _), Nat.le_trans (m := 13) (by omega) (Nat.le_refl _)⟩ d_C_paper_75 ?_
        intro ad18 ce18 ha18 fw18 hkN
        have ea18_0 : ad (1, j, 0) = ad18 (1, j, 0) := (ha18 _ (by simp)).symm
        have ea18_1 : ad (0, 0, 0) = ad18 (0, 0, 0) := (ha18 _ (by simp)).symm
        have ea18_2 : ad (0, 0, 2) = ad18 (0, 0, 2) := (ha18 _ (by simp)).symm
        have ea18_3 : ad (0, 0, 1) = ad18 (0, 0, 1) := (ha18 _ (by simp)).symm
        have ea18_4 : ad (0, 0, 3) = ad18 (0, 0, 3) := (ha18 _ (by simp)).symm
        have ea18_5 : ad (0, 0, 4) = ad18 (0, 0, 4) := (ha18 _ (by simp)).symm
        have ea18_6 : ad (1, j, 1) = ad18 (1, j, 1) := (ha18 _ (by simp)).symm
        have ea18_7 : ad (1, j, 2) = ad18 (1, j, 2) := (ha18 _ (by simp)).symm
        have ea18_8 : ad (1, j, 3) = ad18 (1, j, 3) := (ha18 _ (by simp)).symm
        have ea18_9 : ad (1, j, 4) = ad18 (1, j, 4) := (ha18 _ (by simp)).symm
        have ea18_10 : ad (1, j, 5) = ad18 (1, j, 5) := (ha18 _ (by simp)).symm
        rw [ea18_0, ea18_1, ea18_2]
        rw [ea18_3, ea18_2, ea18_4, ea18_5] at ho
        have ho : ce18 (0, 0, 0) = some (.inr (0, [.ref (ad18 (0, 0, 1)), .int (nI (s_cn S)), .ref (ad18 (0, 0, 2)), .int (nI (s_pn S)), .ref (ad18 (0, 0, 3)), .int (nI (s_ln S)), .ref (ad18 (0, 0, 4)), .int (nI (s_on S))])) := (fw18 _ (by simp)).trans ho
        have hca := hca.tr (fw18 _ (by simp))
        have hpa := hpa.tr (fw18 _ (by simp))
        have hli := hli.tr (fw18 _ (by simp))
        have hlo := hlo.tr (fw18 _ (by simp))
        rw [ea18_6, ea18_7, ea18_8, ea18_9, ea18_10] at hk
        have hk : ce18 (1, j, 0) = some (.inr (1, [.int (k_kd (s_car S j)), .long (k_sr (s_car S j)), .ref (ad18 (1, j, 1)), .ref (ad18 (1, j, 2)), .ref (ad18 (1, j, 3)), .ref (ad18 (1, j, 4)), .ref (ad18 (1, j, 5)), .int (nI (k_ps (s_car S j))), .int (nI (cnt (k_rd (s_car S j)) (k_np (s_car S j)))), .int (k_un (s_car S j)), .int (k_st (s_car S j)), .int (k_la (s_car S j))])) := (fw18 _ (by simp)).trans hk
        have hby := hby.tr (fw18 _ (by simp))
        have hdu := hdu.tr (fw18 _ (by simp))
        have hwo := hwo.tr (fw18 _ (by simp))
        have hrd := hrd.tr (fw18 _ (by simp))
        have hpt := hpt.tr (fw18 _ (by simp))
        refine aw_dup C d_C_paper_78 rfl ?_
        refine aw_iload_n C d_C_paper_79 rfl (j := 2) rfl ?_
        refine aw_aload C d_C_paper_80 (j := 0) rfl ?_
        refine aw_iload_n C d_C_paper_82 rfl (j := 3) rfl ?_
        refine aw_iload_n C d_C_paper_83 rfl (j := 4) rfl ?_
        have hKA : Car ad18 ce18 j (s_car S j) := hK.tr (fun p => ha18 _ (by simp)) (fun p => fw18 _ (by simp))
        refine aw_callI C I (as := [.int (nI j), .ref (ad18 (1, j, 0)), .int a, .int b]) (rest := [.ref (ad18 (2, s_pn S, 0)), .int (nI (s_pn S)), .ref (ad18 (0, 0, 2))]) (c_Pinit l G ad18 ce18 j _ hKA (s_pn S) (nI j) a b hkN ((fw18 _ (by simp)).trans (hnop _ _ (Nat.le_refl _)))) g_C_120 ⟨by decide, by decide⟩ ⟨by decide, by decide⟩ rfl (Nat.le_of_ble_eq_true rfl) d_C_paper_84 ?_
        rintro _ ad9 ce9 ⟨rfl, hf9, ha9, hK9⟩
        have eb_0 : ad18 (1, j, 0) = ad9 (1, j, 0) := ((hf9 _ (by simp)).1).symm
        have eb_1 : ad18 (0, 0, 0) = ad9 (0, 0, 0) := ((hf9 _ (by simp)).1).symm
        have eb_2 : ad18 (2, s_pn S, 0) = ad9 (2, s_pn S, 0) := (ha9).symm
        have eb_3 : ad18 (0, 0, 2) = ad9 (0, 0, 2) := ((hf9 _ (by simp)).1).symm
        have eb_4 : ad18 (0, 0, 1) = ad9 (0, 0, 1) := ((hf9 _ (by simp)).1).symm
        have eb_5 : ad18 (0, 0, 3) = ad9 (0, 0, 3) := ((hf9 _ (by simp)).1).symm
        have eb_6 : ad18 (0, 0, 4) = ad9 (0, 0, 4) := ((hf9 _ (by simp)).1).symm
        have eb_7 : ad18 (1, j, 1) = ad9 (1, j, 1) := ((hf9 _ (by simp)).1).symm
        have eb_8 : ad18 (1, j, 2) = ad9 (1, j, 2) := ((hf9 _ (by simp)).1).symm
        have eb_9 : ad18 (1, j, 3) = ad9 (1, j, 3) := ((hf9 _ (by simp)).1).symm
        have eb_10 : ad18 (1, j, 4) = ad9 (1, j, 4) := ((hf9 _ (by simp)).1).symm
        have eb_11 : ad18 (1, j, 5) = ad9 (1, j, 5) := ((hf9 _ (by simp)).1).symm
        rw [eb_4, eb_3, eb_5, eb_6] at ho
        have ho : ce9 (0, 0, 0) = some (.inr (0, [.ref (ad9 (0, 0, 1)), .int (nI (s_cn S)), .ref (ad9 (0, 0, 2)), .int (nI (s_pn S)), .ref (ad9 (0, 0, 3)), .int (nI (s_ln S)), .ref (ad9 (0, 0, 4)), .int (nI (s_on S))])) := (hf9 _ (by simp)).2.trans ho
        have hca := hca.tr (hf9 _ (by simp)).2
        have hpa := hpa.tr (hf9 _ (by simp)).2
        have hli := hli.tr (hf9 _ (by simp)).2
        have hlo := hlo.tr (hf9 _ (by simp)).2
        rw [eb_7, eb_8, eb_9, eb_10, eb_11] at hk
        have hk : ce9 (1, j, 0) = some (.inr (1, [.int (k_kd (s_car S j)), .long (k_sr (s_car S j)), .ref (ad9 (1, j, 1)), .ref (ad9 (1, j, 2)), .ref (ad9 (1, j, 3)), .ref (ad9 (1, j, 4)), .ref (ad9 (1, j, 5)), .int (nI (k_ps (s_car S j))), .int (nI (cnt (k_rd (s_car S j)) (k_np (s_car S j)))), .int (k_un (s_car S j)), .int (k_st (s_car S j)), .int (k_la (s_car S j))])) := (hf9 _ (by simp)).2.trans hk
        have hby := hby.tr (hf9 _ (by simp)).2
        have hdu := hdu.tr (hf9 _ (by simp)).2
        have hwo := hwo.tr (hf9 _ (by simp)).2
        have hrd := hrd.tr (hf9 _ (by simp)).2
        have hpt := hpt.tr (hf9 _ (by simp)).2
        rw [eb_0, eb_1, eb_2, eb_3]
        have hkN := hK9.1
        show AW X 5 (0 + 1 + 1) (0 + 1 + 12) ad9 ce9 87 [(4, .ref (ad9 (1, j, 0))), (0, .ref (ad9 (0, 0, 0))), (1, .int (nI j)), (2, .int a), (3, .int b)] [.ref (ad9 (2, s_pn S, 0)), .int (nI (s_pn S)), .ref (ad9 (0, 0, 2))]
        refine ar_aast C hpa rfl hkN rfl (j := (s_pn S)) (rfl) (by omega) (by omega) d_C_paper_87 ?_
        intro ce19 fw19 hpa
        have ho : ce19 (0, 0, 0) = some (.inr (0, [.ref (ad9 (0, 0, 1)), .int (nI (s_cn S)), .ref (ad9 (0, 0, 2)), .int (nI (s_pn S)), .ref (ad9 (0, 0, 3)), .int (nI (s_ln S)), .ref (ad9 (0, 0, 4)), .int (nI (s_on S))])) := (fw19 _ (by simp)).trans ho
        have hca := hca.tr (fw19 _ (by simp))
        have hli := hli.tr (fw19 _ (by simp))
        have hlo := hlo.tr (fw19 _ (by simp))
        have hk : ce19 (1, j, 0) = some (.inr (1, [.int (k_kd (s_car S j)), .long (k_sr (s_car S j)), .ref (ad9 (1, j, 1)), .ref (ad9 (1, j, 2)), .ref (ad9 (1, j, 3)), .ref (ad9 (1, j, 4)), .ref (ad9 (1, j, 5)), .int (nI (k_ps (s_car S j))), .int (nI (cnt (k_rd (s_car S j)) (k_np (s_car S j)))), .int (k_un (s_car S j)), .int (k_st (s_car S j)), .int (k_la (s_car S j))])) := (fw19 _ (by simp)).trans hk
        have hby := hby.tr (fw19 _ (by simp))
        have hdu := hdu.tr (fw19 _ (by simp))
        have hwo := hwo.tr (fw19 _ (by simp))
        have hrd := hrd.tr (fw19 _ (by simp))
        have hpt := hpt.tr (fw19 _ (by simp))
        have hkN : ce19 (2, s_pn S, 0) = some (.inr (2, [.ref (ad9 (2, s_pn S, 1))])) := (fw19 _ (by simp)).trans hkN
        refine aw_aload_n C d_C_paper_88 rfl (j := 1) rfl ?_
        refine aw_dup C d_C_paper_89 rfl ?_
        refine aw_get C F_C ho 3 (by decide) tw_22 rfl d_C_paper_90 ?_
        refine aw_iconst C (v := 1) d_C_paper_93 (by decide) ?_
        refine aw_iadd C d_C_paper_94 ?_
        refine aw_topi (v' := nI (s_pn S + 1)) (nI_1 _) ?_
        refine ob_put C F_C ho 3 (by decide) tw_22 rfl rfl rfl (Nat.le_of_ble_eq_true rfl) (fs' := [.ref (ad9 (0, 0, 1)), .int (nI (s_cn S)), .ref (ad9 (0, 0, 2)), .int (nI (s_pn S + 1)), .ref (ad9 (0, 0, 3)), .int (nI (s_ln S)), .ref (ad9 (0, 0, 4)), .int (nI (s_on S))]) rfl d_C_paper_95 ?_
        intro ce20 fw20 ho
        have hca := hca.tr (fw20 _ (by simp))
        have hpa := hpa.tr (fw20 _ (by simp))
        have hli := hli.tr (fw20 _ (by simp))
        have hlo := hlo.tr (fw20 _ (by simp))
        have hk : ce20 (1, j, 0) = some (.inr (1, [.int (k_kd (s_car S j)), .long (k_sr (s_car S j)), .ref (ad9 (1, j, 1)), .ref (ad9 (1, j, 2)), .ref (ad9 (1, j, 3)), .ref (ad9 (1, j, 4)), .ref (ad9 (1, j, 5)), .int (nI (k_ps (s_car S j))), .int (nI (cnt (k_rd (s_car S j)) (k_np (s_car S j)))), .int (k_un (s_car S j)), .int (k_st (s_car S j)), .int (k_la (s_car S j))])) := (fw20 _ (by simp)).trans hk
        have hby := hby.tr (fw20 _ (by simp))
        have hdu := hdu.tr (fw20 _ (by simp))
        have hwo := hwo.tr (fw20 _ (by simp))
        have hrd := hrd.tr (fw20 _ (by simp))
        have hpt := hpt.tr (fw20 _ (by simp))
        have hkN : ce20 (2, s_pn S, 0) = some (.inr (2, [.ref (ad9 (2, s_pn S, 1))])) := (fw20 _ (by simp)).trans hkN
        refine aw_aload_n C d_C_paper_98 rfl (j := 1) rfl ?_
        refine aw_get C F_C ho 3 (by decide) tw_22 rfl d_C_paper_99 ?_
        refine aw_iconst C (v := 1) d_C_paper_102 (by decide) ?_
        refine aw_isub C d_C_paper_103 ?_
        refine aw_topi (v' := nI (s_pn S)) (nI_pred _) ?_
        refine aw_iret C E (rfl) (by decide) (by decide) d_C_paper_104 ?_
        have fr9 : ∀ q : aw_Lb, q ≠ (0, 0, 2) → q ≠ (0, 0, 0) → ce20 q = ce9 q := fun q n0 n1 => by rw [fw20 q n1, fw19 q n0]
        have fa : ∀ q : aw_Lb, (q.1 ≠ 2 ∨ q.2.1 ≠ s_pn S) → ad9 q = ad q := fun q hq => (hf9 q hq).1.trans (ha18 q (fun e => by subst e; simp at hq))
        have fc : ∀ q : aw_Lb, (q.1 ≠ 2 ∨ q.2.1 ≠ s_pn S) → ce9 q = ce q := fun q hq => (hf9 q hq).2.trans (fw18 q (fun e => by subst e; simp at hq))
        rw [show f_paper S (nI j) a b = (nI (s_pn S), s_addP S (6 + k_ps (s_car S j), papF (nI j) (s_car S j) a b)) from by simp only [f_paper, ix_in hj (show s_cn S < 2 ^ 31 by omega), if_pos hc]]
        refine ⟨rfl, fun q hq => ⟨fa q (Or.inl (by omega)), (fr9 q (fun e => by subst e; simp at hq) (fun e => by subst e; simp at hq)).trans (fc q (Or.inl (by omega)))⟩, fa _ (Or.inl (by simp)), ho, hca.to (fun i hi => ?_), hpa.to (fun i hi => ?_), hli, hlo, fun i hi => (hcars i hi).tr (fun p => fa _ (Or.inl (by simp))) (fun p => (fr9 _ (by simp) (by simp)).trans (fc _ (Or.inl (by simp)))), fun i hi => ?_, fun i p hi => (fr9 _ (by simp) (by simp)).trans ((fc _ (Or.inl (by simp))).trans (hnoc i p hi)), fun i p hi => ?_, hb1, by show s_pn S + 1 ≤ 20; omega, hb3, hb4⟩
        · show (if i < s_cn S then some (ad (1, i, 0)) else none) = if i < s_cn S then some (ad9 (1, i, 0)) else none
          rw [fa (1, i, 0) (Or.inl (by simp))]
        · show va_up _ (s_pn S) _ i = if i < s_pn S + 1 then some (ad9 (2, i, 0)) else none
          by_cases e : i = s_pn S
          · subst e; rw [va_up_self, if_pos (by omega)]
          · rw [va_up_ne _ _ e]
            show (if i < s_pn S then some (ad (2, i, 0)) else none) = _
            by_cases h : i < s_pn S
            · rw [if_pos h, if_pos (by omega), fa (2, i, 0) (Or.inr e)]
            · rw [if_neg h, if_neg (by omega)]
        · show Pap ad9 ce20 i (va_up (s_pap S) (s_pn S) _ i)
          by_cases e : i = s_pn S
          · subst e
            rw [va_up_self]
            exact hK9.tr (fun _ => rfl) (fun p => fr9 _ (by simp) (by simp))
          · rw [va_up_ne _ _ e]
            have hi' : i < s_pn S + 1 := hi
            exact (hpaps i (by omega)).tr (fun p => fa _ (Or.inr e)) (fun p => (fr9 _ (by simp) (by simp)).trans (fc _ (Or.inr e)))
        · have hi' : s_pn S + 1 ≤ i := hi
          exact (fr9 _ (by simp) (by simp)).trans ((fc _ (Or.inr (by show i ≠ s_pn S; omega))).trans (hnop i p (by omega)))
      · refine aw_iconst C (v := (-1)) d_C_paper_51 (by decide) ?_
        refine aw_iret C E (rfl) (by decide) (by decide) d_C_paper_52 ?_
        exact hc.2.2.2.1.elim (fun q => absurd q h39) (fun q => absurd q h48)
  by_cases h1 : 0 ≤ a ∧ a ≤ 9
  · by_cases h2 : 0 ≤ b ∧ b ≤ 9
    · skip
      show AW X 5 0 0 ad ce 0 [(0, .ref (ad (0, 0, 0))), (1, .int (nI j)), (2, .int a), (3, .int b)] []
      refine aw_aload_n C d_C_paper_0 rfl (j := 0) rfl ?_
      refine aw_iload_n C d_C_paper_1 rfl (j := 1) rfl ?_
      refine aw_callV C I (k := (0, 0, 0)) (as := [.int (nI j)]) (rest := []) (c_findC_in l G ad ce S hL j hj) g_C_56 ho rfl rfl ⟨by decide, by decide⟩ ⟨by decide, by decide⟩ rfl (Nat.le_of_ble_eq_true rfl) d_C_paper_2 ?_
      rintro _ _ _ ⟨rfl, rfl, rfl⟩
      show AW X 5 0 0 ad ce 5 [(0, .ref (ad (0, 0, 0))), (1, .int (nI j)), (2, .int a), (3, .int b)] [.ref (ad (1, j, 0))]
      have hK := hcars j hj
      have hK0 := hK
      obtain ⟨hk, hby, hdu, hwo, hrd, hpt, ⟨hn1, hn2⟩, hps⟩ := hK0
      refine aw_astore C (lv' := [(4, .ref (ad (1, j, 0))), (0, .ref (ad (0, 0, 0))), (1, .int (nI j)), (2, .int a), (3, .int b)]) d_C_paper_5 (by decide) rfl ?_
      refine aw_aload C d_C_paper_7 (j := 0) rfl ?_
      refine aw_ifnull C d_C_paper_9 ?_
      refine aw_iload_n C d_C_paper_12 rfl (j := 3) rfl ?_
      refine aw_callS C I (as := [.int a]) (rest := []) (c_isPerson l G ad ce a) g_C_63 ⟨by decide, by decide⟩ ⟨by decide, by decide⟩ rfl (Nat.le_of_ble_eq_true rfl) d_C_paper_13 ?_
      rintro _ _ _ ⟨rfl, rfl, rfl⟩
      show AW X 5 0 0 ad ce 16 [(4, .ref (ad (1, j, 0))), (0, .ref (ad (0, 0, 0))), (1, .int (nI j)), (2, .int a), (3, .int b)] [.int (bI (decide (0 ≤ a ∧ a ≤ 9)))]
      refine aw_topi (v' := 1) ((bI_t h1).symm) ?_
      show AW X 5 0 0 ad ce 16 [(4, .ref (ad (1, j, 0))), (0, .ref (ad (0, 0, 0))), (1, .int (nI j)), (2, .int a), (3, .int b)] [.int 1]
      refine aw_if_eq C (tgt := 31) d_C_paper_16 (by decide) (fun h16 => absurd h16 (by decide)) (fun h16 => ?_)
      refine aw_iload_n C d_C_paper_19 rfl (j := 4) rfl ?_
      refine aw_callS C I (as := [.int b]) (rest := []) (c_isPerson l G ad ce b) g_C_63 ⟨by decide, by decide⟩ ⟨by decide, by decide⟩ rfl (Nat.le_of_ble_eq_true rfl) d_C_paper_20 ?_
      rintro _ _ _ ⟨rfl, rfl, rfl⟩
      show AW X 5 0 0 ad ce 23 [(4, .ref (ad (1, j, 0))), (0, .ref (ad (0, 0, 0))), (1, .int (nI j)), (2, .int a), (3, .int b)] [.int (bI (decide (0 ≤ b ∧ b ≤ 9)))]
      refine aw_topi (v' := 1) ((bI_t h2).symm) ?_
      show AW X 5 0 0 ad ce 23 [(4, .ref (ad (1, j, 0))), (0, .ref (ad (0, 0, 0))), (1, .int (nI j)), (2, .int a), (3, .int b)] [.int 1]
      refine aw_if_eq C (tgt := 31) d_C_paper_23 (by decide) (fun h23 => absurd h23 (by decide)) (fun h23 => ?_)
      refine aw_iload_n C d_C_paper_26 rfl (j := 3) rfl ?_
      refine aw_iload_n C d_C_paper_27 rfl (j := 4) rfl ?_
      refine aw_icmp_ne C (tgt := 33) d_C_paper_28 (by decide) (fun h28 => ?_) (fun h28 => ?_)
      · refine aw_aload C d_C_paper_33 (j := 0) rfl ?_
        refine aw_get C F_K hk 10 (by decide) tw_89 rfl d_C_paper_35 ?_
        refine aw_iconst C (v := 3) d_C_paper_38 (by decide) ?_
        refine aw_icmp_eq C (tgt := 53) d_C_paper_39 (by decide) (fun h39 => ?_) (fun h39 => ?_)
        · refine aw_aload_n C d_C_paper_53 rfl (j := 1) rfl ?_
          refine aw_get C F_C ho 3 (by decide) tw_22 rfl d_C_paper_54 ?_
          refine aw_aload_n C d_C_paper_57 rfl (j := 1) rfl ?_
          refine aw_get C F_C ho 2 (by decide) tw_21 rfl d_C_paper_58 ?_
          refine ar_lenQ C hpa rfl d_C_paper_61 ?_
          refine aw_icmp_lt C (tgt := 67) d_C_paper_62 (by decide) (fun h62 => ?_) (fun h62 => ?_)
          · exact absurd (by
              refine ⟨h1, h2, h28, ?_, ?_⟩
              · first | exact Or.inl h39 | exact Or.inr h48
              · rcases Nat.lt_or_ge (s_pn S) 20 with q | q
                · exact q
                · exact absurd h62 (nI_nlt (by omega) (by omega))) hc
          · refine aw_iconst C (v := (-1)) d_C_paper_65 (by decide) ?_
            refine aw_iret C E (rfl) (by decide) (by decide) d_C_paper_66 ?_
            rw [show f_paper S (nI j) a b = (-1, S) from by simp only [f_paper, ix_in hj (show s_cn S < 2 ^ 31 by omega), if_neg hc]]
            exact rC.of hL ⟨rfl, rfl, rfl⟩
        · refine aw_aload C d_C_paper_42 (j := 0) rfl ?_
          refine aw_get C F_K hk 10 (by decide) tw_89 rfl d_C_paper_44 ?_
          refine aw_iconst C (v := 5) d_C_paper_47 (by decide) ?_
          refine aw_icmp_eq C (tgt := 53) d_C_paper_48 (by decide) (fun h48 => ?_) (fun h48 => ?_)
          · refine aw_aload_n C d_C_paper_53 rfl (j := 1) rfl ?_
            refine aw_get C F_C ho 3 (by decide) tw_22 rfl d_C_paper_54 ?_
            refine aw_aload_n C d_C_paper_57 rfl (j := 1) rfl ?_
            refine aw_get C F_C ho 2 (by decide) tw_21 rfl d_C_paper_58 ?_
            refine ar_lenQ C hpa rfl d_C_paper_61 ?_
            refine aw_icmp_lt C (tgt := 67) d_C_paper_62 (by decide) (fun h62 => ?_) (fun h62 => ?_)
            · exact absurd (by
                refine ⟨h1, h2, h28, ?_, ?_⟩
                · first | exact Or.inl h39 | exact Or.inr h48
                · rcases Nat.lt_or_ge (s_pn S) 20 with q | q
                  · exact q
                  · exact absurd h62 (nI_nlt (by omega) (by omega))) hc
            · refine aw_iconst C (v := (-1)) d_C_paper_65 (by decide) ?_
              refine aw_iret C E (rfl) (by decide) (by decide) d_C_paper_66 ?_
              rw [show f_paper S (nI j) a b = (-1, S) from by simp only [f_paper, ix_in hj (show s_cn S < 2 ^ 31 by omega), if_neg hc]]
              exact rC.of hL ⟨rfl, rfl, rfl⟩
          · refine aw_iconst C (v := (-1)) d_C_paper_51 (by decide) ?_
            refine aw_iret C E (rfl) (by decide) (by decide) d_C_paper_52 ?_
            rw [show f_paper S (nI j) a b = (-1, S) from by simp only [f_paper, ix_in hj (show s_cn S < 2 ^ 31 by omega), if_neg hc]]
            exact rC.of hL ⟨rfl, rfl, rfl⟩
      · refine aw_iconst C (v := (-1)) d_C_paper_31 (by decide) ?_
        refine aw_iret C E (rfl) (by decide) (by decide) d_C_paper_32 ?_
        rw [show f_paper S (nI j) a b = (-1, S) from by simp only [f_paper, ix_in hj (show s_cn S < 2 ^ 31 by omega), if_neg hc]]
        exact rC.of hL ⟨rfl, rfl, rfl⟩
    · skip
      show AW X 5 0 0 ad ce 0 [(0, .ref (ad (0, 0, 0))), (1, .int (nI j)), (2, .int a), (3, .int b)] []
      refine aw_aload_n C d_C_paper_0 rfl (j := 0) rfl ?_
      refine aw_iload_n C d_C_paper_1 rfl (j := 1) rfl ?_
      refine aw_callV C I (k := (0, 0, 0)) (as := [.int (nI j)]) (rest := []) (c_findC_in l G ad ce S hL j hj) g_C_56 ho rfl rfl ⟨by decide, by decide⟩ ⟨by decide, by decide⟩ rfl (Nat.le_of_ble_eq_true rfl) d_C_paper_2 ?_
      rintro _ _ _ ⟨rfl, rfl, rfl⟩
      show AW X 5 0 0 ad ce 5 [(0, .ref (ad (0, 0, 0))), (1, .int (nI j)), (2, .int a), (3, .int b)] [.ref (ad (1, j, 0))]
      have hK := hcars j hj
      have hK0 := hK
      obtain ⟨hk, hby, hdu, hwo, hrd, hpt, ⟨hn1, hn2⟩, hps⟩ := hK0
      refine aw_astore C (lv' := [(4, .ref (ad (1, j, 0))), (0, .ref (ad (0, 0, 0))), (1, .int (nI j)), (2, .int a), (3, .int b)]) d_C_paper_5 (by decide) rfl ?_
      refine aw_aload C d_C_paper_7 (j := 0) rfl ?_
      refine aw_ifnull C d_C_paper_9 ?_
      refine aw_iload_n C d_C_paper_12 rfl (j := 3) rfl ?_
      refine aw_callS C I (as := [.int a]) (rest := []) (c_isPerson l G ad ce a) g_C_63 ⟨by decide, by decide⟩ ⟨by decide, by decide⟩ rfl (Nat.le_of_ble_eq_true rfl) d_C_paper_13 ?_
      rintro _ _ _ ⟨rfl, rfl, rfl⟩
      show AW X 5 0 0 ad ce 16 [(4, .ref (ad (1, j, 0))), (0, .ref (ad (0, 0, 0))), (1, .int (nI j)), (2, .int a), (3, .int b)] [.int (bI (decide (0 ≤ a ∧ a ≤ 9)))]
      refine aw_topi (v' := 1) ((bI_t h1).symm) ?_
      show AW X 5 0 0 ad ce 16 [(4, .ref (ad (1, j, 0))), (0, .ref (ad (0, 0, 0))), (1, .int (nI j)), (2, .int a), (3, .int b)] [.int 1]
      refine aw_if_eq C (tgt := 31) d_C_paper_16 (by decide) (fun h16 => absurd h16 (by decide)) (fun h16 => ?_)
      refine aw_iload_n C d_C_paper_19 rfl (j := 4) rfl ?_
      refine aw_callS C I (as := [.int b]) (rest := []) (c_isPerson l G ad ce b) g_C_63 ⟨by decide, by decide⟩ ⟨by decide, by decide⟩ rfl (Nat.le_of_ble_eq_true rfl) d_C_paper_20 ?_
      rintro _ _ _ ⟨rfl, rfl, rfl⟩
      show AW X 5 0 0 ad ce 23 [(4, .ref (ad (1, j, 0))), (0, .ref (ad (0, 0, 0))), (1, .int (nI j)), (2, .int a), (3, .int b)] [.int (bI (decide (0 ≤ b ∧ b ≤ 9)))]
      refine aw_topi (v' := 0) ((bI_f h2).symm) ?_
      show AW X 5 0 0 ad ce 23 [(4, .ref (ad (1, j, 0))), (0, .ref (ad (0, 0, 0))), (1, .int (nI j)), (2, .int a), (3, .int b)] [.int 0]
      refine aw_if_eq C (tgt := 31) d_C_paper_23 (by decide) (fun h23 => ?_) (fun h23 => absurd (rfl) h23)
      refine aw_iconst C (v := (-1)) d_C_paper_31 (by decide) ?_
      refine aw_iret C E (rfl) (by decide) (by decide) d_C_paper_32 ?_
      rw [show f_paper S (nI j) a b = (-1, S) from by simp only [f_paper, ix_in hj (show s_cn S < 2 ^ 31 by omega), if_neg hc]]
      exact rC.of hL ⟨rfl, rfl, rfl⟩
  · skip
    show AW X 5 0 0 ad ce 0 [(0, .ref (ad (0, 0, 0))), (1, .int (nI j)), (2, .int a), (3, .int b)] []
    refine aw_aload_n C d_C_paper_0 rfl (j := 0) rfl ?_
    refine aw_iload_n C d_C_paper_1 rfl (j := 1) rfl ?_
    refine aw_callV C I (k := (0, 0, 0)) (as := [.int (nI j)]) (rest := []) (c_findC_in l G ad ce S hL j hj) g_C_56 ho rfl rfl ⟨by decide, by decide⟩ ⟨by decide, by decide⟩ rfl (Nat.le_of_ble_eq_true rfl) d_C_paper_2 ?_
    rintro _ _ _ ⟨rfl, rfl, rfl⟩
    show AW X 5 0 0 ad ce 5 [(0, .ref (ad (0, 0, 0))), (1, .int (nI j)), (2, .int a), (3, .int b)] [.ref (ad (1, j, 0))]
    have hK := hcars j hj
    have hK0 := hK
    obtain ⟨hk, hby, hdu, hwo, hrd, hpt, ⟨hn1, hn2⟩, hps⟩ := hK0
    refine aw_astore C (lv' := [(4, .ref (ad (1, j, 0))), (0, .ref (ad (0, 0, 0))), (1, .int (nI j)), (2, .int a), (3, .int b)]) d_C_paper_5 (by decide) rfl ?_
    refine aw_aload C d_C_paper_7 (j := 0) rfl ?_
    refine aw_ifnull C d_C_paper_9 ?_
    refine aw_iload_n C d_C_paper_12 rfl (j := 3) rfl ?_
    refine aw_callS C I (as := [.int a]) (rest := []) (c_isPerson l G ad ce a) g_C_63 ⟨by decide, by decide⟩ ⟨by decide, by decide⟩ rfl (Nat.le_of_ble_eq_true rfl) d_C_paper_13 ?_
    rintro _ _ _ ⟨rfl, rfl, rfl⟩
    show AW X 5 0 0 ad ce 16 [(4, .ref (ad (1, j, 0))), (0, .ref (ad (0, 0, 0))), (1, .int (nI j)), (2, .int a), (3, .int b)] [.int (bI (decide (0 ≤ a ∧ a ≤ 9)))]
    refine aw_topi (v' := 0) ((bI_f h1).symm) ?_
    show AW X 5 0 0 ad ce 16 [(4, .ref (ad (1, j, 0))), (0, .ref (ad (0, 0, 0))), (1, .int (nI j)), (2, .int a), (3, .int b)] [.int 0]
    refine aw_if_eq C (tgt := 31) d_C_paper_16 (by decide) (fun h16 => ?_) (fun h16 => absurd (rfl) h16)
    refine aw_iconst C (v := (-1)) d_C_paper_31 (by decide) ?_
    refine aw_iret C E (rfl) (by decide) (by decide) d_C_paper_32 ?_
    rw [show f_paper S (nI j) a b = (-1, S) from by simp only [f_paper, ix_in hj (show s_cn S < 2 ^ 31 by omega), if_neg hc]]
    exact rC.of hL ⟨rfl, rfl, rfl⟩
set_option maxRecDepth 100000 in
set_option maxHeartbeats 4000000 in
theorem C_missing (l : Launch) (G : aw_G) (ad : aw_Ad) (ce : aw_He) (S : SysS) (hL : LayC S ad ce) (k : Int32) : CT l G M_C_missing 2 45 0 0 [.ref (ad (0, 0, 0)), .int k] ad ce (rN (some (.int (f_missing S k))) ad ce) := by
  refine CT.of (by decide) (Nat.le_of_ble_eq_true rfl) ?_
  intro X C I E
  have hL0 := hL
  obtain ⟨ho, hca, hpa, hli, hlo, hcars, hpaps, hnoc, hnop, hb1, hb2, hb3, hb4⟩ := hL0
  have loop : ∀ (m a : Nat) (s : Int32), a + m = s_ln S → kth (fun i => if hasC S (s_li S i) = true then 0 else 1) k m a s = f_missing S k → AW X 4 0 0 ad ce 4 [(3, .int (nI a)), (2, .int s), (0, .ref (ad (0, 0, 0))), (1, .int k)] [] := by
    intro m
    induction m with
    | zero =>
      intro a s ha hr
      refine aw_iload_n C d_C_missing_4 rfl (j := 0) rfl ?_
      refine aw_aload_n C d_C_missing_5 rfl (j := 2) rfl ?_
      refine aw_get C F_C ho 5 (by decide) tw_24 rfl d_C_missing_6 ?_
      refine aw_icmp_ge C (tgt := 50) d_C_missing_9 (by decide) (fun h9 => ?_) (fun h9 => absurd (nI_le (by omega) (by omega)) h9)
      refine aw_iconst C (v := (-1)) d_C_missing_50 (by decide) ?_
      refine aw_iret C E (rfl) (by decide) (by decide) d_C_missing_51 ?_
      exact ⟨sI hr, rfl, rfl⟩
    | succ m ih =>
      intro a s ha hr
      simp only [kth] at hr
      refine aw_iload_n C d_C_missing_4 rfl (j := 0) rfl ?_
      refine aw_aload_n C d_C_missing_5 rfl (j := 2) rfl ?_
      refine aw_get C F_C ho 5 (by decide) tw_24 rfl d_C_missing_6 ?_
      refine aw_icmp_ge C (tgt := 50) d_C_missing_9 (by decide) (fun h9 => absurd h9 (nI_ge (by omega) (by omega))) (fun h9 => ?_)
      refine aw_iload_n C d_C_missing_12 rfl (j := 0) rfl ?_
      refine aw_aload_n C d_C_missing_13 rfl (j := 2) rfl ?_
      refine aw_get C F_C ho 4 (by decide) tw_23 rfl d_C_missing_14 ?_
      refine ar_lenJ C hli d_C_missing_17 ?_
      refine aw_icmp_ge C (tgt := 50) d_C_missing_18 (by decide) (fun h18 => absurd h18 (nI_ge (by omega) (by omega))) (fun h18 => ?_)
      refine aw_aload_n C d_C_missing_21 rfl (j := 2) rfl ?_
      refine aw_aload_n C d_C_missing_22 rfl (j := 2) rfl ?_
      refine aw_get C F_C ho 4 (by decide) tw_23 rfl d_C_missing_23 ?_
      refine aw_iload_n C d_C_missing_26 rfl (j := 0) rfl ?_
      refine ar_lald C hli (j := a) (rfl) (by omega) (by omega) d_C_missing_27 ?_
      refine aw_callV C I (k := (0, 0, 0)) (as := [.long ((s_li S) a)]) (rest := []) (c_hasSerial l G ad ce S hL (s_li S a)) g_C_50 ho rfl rfl ⟨by decide, by decide⟩ ⟨by decide, by decide⟩ rfl (Nat.le_of_ble_eq_true rfl) d_C_missing_28 ?_
      rintro _ _ _ ⟨rfl, rfl, rfl⟩
      show AW X 4 0 0 ad ce 31 [(3, .int (nI a)), (2, .int s), (0, .ref (ad (0, 0, 0))), (1, .int k)] [.int (bI (hasC S (s_li S a)))]
      refine aw_if_ne C (tgt := 44) d_C_missing_31 (by decide) (fun h31 => ?_) (fun h31 => ?_)
      · refine aw_iinc C (v := nI (a + 1)) (lv' := [(3, .int (nI (a + 1))), (2, .int s), (0, .ref (ad (0, 0, 0))), (1, .int k)]) d_C_missing_44 (j := 0) rfl (nI_1 _) (by decide) rfl ?_
        refine aw_goto C (tgt := 4) d_C_missing_47 (by decide) ?_
        refine aw_sub (lv' := [(3, .int (nI (a + 1))), (2, .int s), (0, .ref (ad (0, 0, 0))), (1, .int k)]) (by simp) ?_
        rw [bI_ne] at h31
        rw [if_pos (by show (if _ = true then (0 : Int32) else 1) = 0; rw [if_pos h31])] at hr
        exact ih (a + 1) s (by omega) hr
      · refine aw_iload_n C d_C_missing_34 rfl (j := 1) rfl ?_
        refine aw_iload_n C d_C_missing_35 rfl (j := 3) rfl ?_
        refine aw_icmp_ne C (tgt := 41) d_C_missing_36 (by decide) (fun h36 => ?_) (fun h36 => ?_)
        · refine aw_iinc C (v := s + 1) (lv' := [(2, .int (s + 1)), (3, .int (nI a)), (0, .ref (ad (0, 0, 0))), (1, .int k)]) d_C_missing_41 (j := 1) rfl (rfl) (by decide) rfl ?_
          refine aw_iinc C (v := nI (a + 1)) (lv' := [(3, .int (nI (a + 1))), (2, .int (s + 1)), (0, .ref (ad (0, 0, 0))), (1, .int k)]) d_C_missing_44 (j := 1) rfl (nI_1 _) (by decide) rfl ?_
          refine aw_goto C (tgt := 4) d_C_missing_47 (by decide) ?_
          refine aw_sub (lv' := [(3, .int (nI (a + 1))), (2, .int (s + 1)), (0, .ref (ad (0, 0, 0))), (1, .int k)]) (by simp) ?_
          rw [bI_eq] at h31
          rw [if_neg (by show ¬ (if _ = true then (0 : Int32) else 1) = 0; rw [if_neg (by rw [h31]; decide)]; decide), if_neg h36] at hr
          exact ih (a + 1) (s + 1) (by omega) hr
        · refine aw_iload_n C d_C_missing_39 rfl (j := 0) rfl ?_
          refine aw_iret C E (rfl) (by decide) (by decide) d_C_missing_40 ?_
          rw [bI_eq] at h31
          rw [if_neg (by show ¬ (if _ = true then (0 : Int32) else 1) = 0; rw [if_neg (by rw [h31]; decide)]; decide), if_pos h36] at hr
          exact ⟨sI hr, rfl, rfl⟩
  show AW X 4 0 0 ad ce 0 [(0, .ref (ad (0, 0, 0))), (1, .int k)] []
  refine aw_iconst C (v := 0) d_C_missing_0 (by decide) ?_
  refine aw_istore_n C (lv' := [(2, .int 0), (0, .ref (ad (0, 0, 0))), (1, .int k)]) d_C_missing_1 rfl (by decide) rfl ?_
  refine aw_iconst C (v := 0) d_C_missing_2 (by decide) ?_
  refine aw_istore_n C (lv' := [(3, .int 0), (2, .int 0), (0, .ref (ad (0, 0, 0))), (1, .int k)]) d_C_missing_3 rfl (by decide) rfl ?_
  refine aw_lv (lv' := [(3, .int (nI 0)), (2, .int 0), (0, .ref (ad (0, 0, 0))), (1, .int k)]) (by simp only [nI_0]) ?_
  exact loop (s_ln S) 0 0 (by omega) rfl
set_option maxRecDepth 100000 in
set_option maxHeartbeats 4000000 in
theorem C_extra (l : Launch) (G : aw_G) (ad : aw_Ad) (ce : aw_He) (S : SysS) (hL : LayC S ad ce) (k : Int32) : CT l G M_C_extra 1 23 0 0 [.ref (ad (0, 0, 0)), .int k] ad ce (rN (some (.int (f_extra S k))) ad ce) := by
  refine CT.of (by decide) (Nat.le_of_ble_eq_true rfl) ?_
  intro X C I E
  have hL0 := hL
  obtain ⟨ho, hca, hpa, hli, hlo, hcars, hpaps, hnoc, hnop, hb1, hb2, hb3, hb4⟩ := hL0
  have loop : ∀ (m a : Nat) (s : Int32), a + m = s_cn S → kth (fun i => if hasL S (k_sr (s_car S i)) = true then 0 else 1) k m a s = f_extra S k → AW X 5 0 0 ad ce 4 [(3, .int (nI a)), (2, .int s), (0, .ref (ad (0, 0, 0))), (1, .int k)] [] := by
    intro m
    induction m with
    | zero =>
      intro a s ha hr
      refine aw_iload_n C d_C_extra_4 rfl (j := 0) rfl ?_
      refine aw_aload_n C d_C_extra_5 rfl (j := 2) rfl ?_
      refine aw_get C F_C ho 1 (by decide) tw_20 rfl d_C_extra_6 ?_
      refine aw_icmp_ge C (tgt := 52) d_C_extra_9 (by decide) (fun h9 => ?_) (fun h9 => absurd (nI_le (by omega) (by omega)) h9)
      refine aw_iconst C (v := (-1)) d_C_extra_52 (by decide) ?_
      refine aw_iret C E (rfl) (by decide) (by decide) d_C_extra_53 ?_
      exact ⟨sI hr, rfl, rfl⟩
    | succ m ih =>
      intro a s ha hr
      simp only [kth] at hr
      refine aw_iload_n C d_C_extra_4 rfl (j := 0) rfl ?_
      refine aw_aload_n C d_C_extra_5 rfl (j := 2) rfl ?_
      refine aw_get C F_C ho 1 (by decide) tw_20 rfl d_C_extra_6 ?_
      refine aw_icmp_ge C (tgt := 52) d_C_extra_9 (by decide) (fun h9 => absurd h9 (nI_ge (by omega) (by omega))) (fun h9 => ?_)
      refine aw_aload_n C d_C_extra_12 rfl (j := 2) rfl ?_
      refine aw_iload_n C d_C_extra_13 rfl (j := 0) rfl ?_
      refine aw_callV C I (k := (0, 0, 0)) (as := [.int (nI a)]) (rest := []) (c_findC_in l G ad ce S hL a (by omega)) g_C_56 ho rfl rfl ⟨by decide, by decide⟩ ⟨by decide, by decide⟩ rfl (Nat.le_of_ble_eq_true rfl) d_C_extra_14 ?_
      rintro _ _ _ ⟨rfl, rfl, rfl⟩
      show AW X 5 0 0 ad ce 17 [(3, .int (nI a)), (2, .int s), (0, .ref (ad (0, 0, 0))), (1, .int k)] [.ref (ad (1, a, 0))]
      have hka := (hcars a (by omega)).1
      refine aw_astore C (lv' := [(4, .ref (ad (1, a, 0))), (3, .int (nI a)), (2, .int s), (0, .ref (ad (0, 0, 0))), (1, .int k)]) d_C_extra_17 (by decide) rfl ?_
      refine aw_aload C d_C_extra_19 (j := 0) rfl ?_
      refine aw_ifnull C d_C_extra_21 ?_
      refine aw_aload_n C d_C_extra_24 rfl (j := 3) rfl ?_
      refine aw_aload C d_C_extra_25 (j := 0) rfl ?_
      refine aw_get C F_K hka 1 (by decide) tw_74 rfl d_C_extra_27 ?_
      refine aw_callV C I (k := (0, 0, 0)) (as := [.long (k_sr (s_car S a))]) (rest := []) (c_listHas l G ad ce S hL (k_sr (s_car S a))) g_C_136 ho rfl rfl ⟨by decide, by decide⟩ ⟨by decide, by decide⟩ rfl (Nat.le_of_ble_eq_true rfl) d_C_extra_30 ?_
      rintro _ _ _ ⟨rfl, rfl, rfl⟩
      show AW X 5 0 0 ad ce 33 [(4, .ref (ad (1, a, 0))), (3, .int (nI a)), (2, .int s), (0, .ref (ad (0, 0, 0))), (1, .int k)] [.int (bI (hasL S (k_sr (s_car S a))))]
      refine aw_if_ne C (tgt := 46) d_C_extra_33 (by decide) (fun h33 => ?_) (fun h33 => ?_)
      · refine aw_iinc C (v := nI (a + 1)) (lv' := [(3, .int (nI (a + 1))), (4, .ref (ad (1, a, 0))), (2, .int s), (0, .ref (ad (0, 0, 0))), (1, .int k)]) d_C_extra_46 (j := 1) rfl (nI_1 _) (by decide) rfl ?_
        refine aw_goto C (tgt := 4) d_C_extra_49 (by decide) ?_
        refine aw_sub (lv' := [(3, .int (nI (a + 1))), (2, .int s), (0, .ref (ad (0, 0, 0))), (1, .int k)]) (by simp) ?_
        rw [bI_ne] at h33
        rw [if_pos (by show (if _ = true then (0 : Int32) else 1) = 0; rw [if_pos h33])] at hr
        exact ih (a + 1) s (by omega) hr
      · refine aw_iload_n C d_C_extra_36 rfl (j := 2) rfl ?_
        refine aw_iload_n C d_C_extra_37 rfl (j := 4) rfl ?_
        refine aw_icmp_ne C (tgt := 43) d_C_extra_38 (by decide) (fun h38 => ?_) (fun h38 => ?_)
        · refine aw_iinc C (v := s + 1) (lv' := [(2, .int (s + 1)), (4, .ref (ad (1, a, 0))), (3, .int (nI a)), (0, .ref (ad (0, 0, 0))), (1, .int k)]) d_C_extra_43 (j := 2) rfl (rfl) (by decide) rfl ?_
          refine aw_iinc C (v := nI (a + 1)) (lv' := [(3, .int (nI (a + 1))), (2, .int (s + 1)), (4, .ref (ad (1, a, 0))), (0, .ref (ad (0, 0, 0))), (1, .int k)]) d_C_extra_46 (j := 2) rfl (nI_1 _) (by decide) rfl ?_
          refine aw_goto C (tgt := 4) d_C_extra_49 (by decide) ?_
          refine aw_sub (lv' := [(3, .int (nI (a + 1))), (2, .int (s + 1)), (0, .ref (ad (0, 0, 0))), (1, .int k)]) (by simp) ?_
          rw [bI_eq] at h33
          rw [if_neg (by show ¬ (if _ = true then (0 : Int32) else 1) = 0; rw [if_neg (by rw [h33]; decide)]; decide), if_neg h38] at hr
          exact ih (a + 1) (s + 1) (by omega) hr
        · refine aw_iload_n C d_C_extra_41 rfl (j := 1) rfl ?_
          refine aw_iret C E (rfl) (by decide) (by decide) d_C_extra_42 ?_
          rw [bI_eq] at h33
          rw [if_neg (by show ¬ (if _ = true then (0 : Int32) else 1) = 0; rw [if_neg (by rw [h33]; decide)]; decide), if_pos h38] at hr
          exact ⟨sI hr, rfl, rfl⟩
  show AW X 5 0 0 ad ce 0 [(0, .ref (ad (0, 0, 0))), (1, .int k)] []
  refine aw_iconst C (v := 0) d_C_extra_0 (by decide) ?_
  refine aw_istore_n C (lv' := [(2, .int 0), (0, .ref (ad (0, 0, 0))), (1, .int k)]) d_C_extra_1 rfl (by decide) rfl ?_
  refine aw_iconst C (v := 0) d_C_extra_2 (by decide) ?_
  refine aw_istore_n C (lv' := [(3, .int 0), (2, .int 0), (0, .ref (ad (0, 0, 0))), (1, .int k)]) d_C_extra_3 rfl (by decide) rfl ?_
  refine aw_lv (lv' := [(3, .int (nI 0)), (2, .int 0), (0, .ref (ad (0, 0, 0))), (1, .int k)]) (by simp only [nI_0]) ?_
  exact loop (s_cn S) 0 0 (by omega) rfl
