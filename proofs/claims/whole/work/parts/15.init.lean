def k_new (kd : Int32) (sr : Int64) (n : Nat) : CarS := k_mk kd sr n (fun _ => 0) (fun _ => 0) (fun _ => 0) (fun _ => 0) (fun _ => 0) 0 0 0 (-1)
set_option maxRecDepth 100000 in
set_option maxHeartbeats 4000000 in
theorem c_Kinit (l : Launch) (G : aw_G) (ad : aw_Ad) (ce : aw_He) (i : Nat) (kd : Int32) (sr : Int64) (n : Nat) (hn1 : 1 ≤ n) (hn2 : n ≤ 64) (hk : ce (1, i, 0) = some (.inr (1, [.int 0, .long 0, .null, .null, .null, .null, .null, .int 0, .int 0, .int 0, .int 0, .int 0]))) (hno : ∀ p, p ≠ 0 → ce (1, i, p) = none) : CT l G M_K_init 1 20 5 262 [.ref (ad (1, i, 0)), .int kd, .long sr, .int (nI n)] ad ce (fun r ad' ce' => r = none ∧ (∀ q : aw_Lb, (q.1 ≠ 1 ∨ q.2.1 ≠ i) → ad' q = ad q ∧ ce' q = ce q) ∧ ad' (1, i, 0) = ad (1, i, 0) ∧ Car ad' ce' i (k_new kd sr n)) := by
  refine CT.of (by decide) (Nat.le_of_ble_eq_true rfl) ?_
  intro X C I E
  show AW X 5 0 0 ad ce 0 [(0, .ref (ad (1, i, 0))), (1, .int kd), (2, .long sr), (4, .int (nI n))] []
  refine aw_aload_n C d_K_init_0 rfl (j := 0) rfl ?_
  refine aw_objInit C I tw_69 tw_13 tw_14 ⟨by decide, by decide⟩ (Nat.le_of_ble_eq_true rfl) d_K_init_1 ?_
  refine aw_aload_n C d_K_init_4 rfl (j := 0) rfl ?_
  refine aw_iload_n C d_K_init_5 rfl (j := 1) rfl ?_
  refine ob_putF C E rfl F_K hk 0 (by decide) tw_70 rfl rfl rfl rfl (Nat.le_of_ble_eq_true rfl) (fs' := [.int kd, .long 0, .null, .null, .null, .null, .null, .int 0, .int 0, .int 0, .int 0, .int 0]) rfl d_K_init_6 ?_
  intro ce1 fw1 hk
  refine aw_aload_n C d_K_init_9 rfl (j := 0) rfl ?_
  refine aw_lload_n C d_K_init_10 rfl (j := 2) rfl ?_
  refine ob_putF C E rfl F_K hk 1 (by decide) tw_73 rfl rfl rfl rfl (Nat.le_of_ble_eq_true rfl) (fs' := [.int kd, .long sr, .null, .null, .null, .null, .null, .int 0, .int 0, .int 0, .int 0, .int 0]) rfl d_K_init_11 ?_
  intro ce2 fw2 hk
  refine aw_aload_n C d_K_init_14 rfl (j := 0) rfl ?_
  refine aw_iload C d_K_init_15 (j := 3) rfl ?_
  refine ar_newI C I (1, i, 1) (by rw [fw2 _ (by simp), fw1 _ (by simp)]; exact hno 1 (by decide)) tw_45 (N' := n) (rfl) (by omega) ⟨Nat.le_trans (m := 5) (by omega) (Nat.le_refl _), Nat.le_trans (m := 262) (by omega) (Nat.le_refl _)⟩ d_K_init_17 ?_
  intro ad3 ce3 ha3 fw3 hby
  have ea3_0 : ad (1, i, 0) = ad3 (1, i, 0) := (ha3 _ (by simp)).symm
  rw [ea3_0]
  have hk : ce3 (1, i, 0) = some (.inr (1, [.int kd, .long sr, .null, .null, .null, .null, .null, .int 0, .int 0, .int 0, .int 0, .int 0])) := (fw3 _ (by simp)).trans hk
  refine ob_putF C E rfl F_K hk 2 (by decide) tw_75 rfl rfl rfl rfl (Nat.le_of_ble_eq_true rfl) (fs' := [.int kd, .long sr, .ref (ad3 (1, i, 1)), .null, .null, .null, .null, .int 0, .int 0, .int 0, .int 0, .int 0]) rfl d_K_init_19 ?_
  intro ce4 fw4 hk
  have hby := hby.tr (fw4 _ (by simp))
  refine aw_aload_n C d_K_init_22 rfl (j := 0) rfl ?_
  refine aw_iload C d_K_init_23 (j := 3) rfl ?_
  refine ar_newI C I (1, i, 2) (by rw [fw4 _ (by simp), fw3 _ (by simp), fw2 _ (by simp), fw1 _ (by simp)]; exact hno 2 (by decide)) tw_45 (N' := n) (rfl) (by omega) ⟨Nat.le_trans (m := 5) (by omega) (Nat.le_refl _), Nat.le_trans (m := 262) (by omega) (Nat.le_refl _)⟩ d_K_init_25 ?_
  intro ad5 ce5 ha5 fw5 hdu
  have ea5_0 : ad3 (1, i, 0) = ad5 (1, i, 0) := (ha5 _ (by simp)).symm
  have ea5_1 : ad3 (1, i, 1) = ad5 (1, i, 1) := (ha5 _ (by simp)).symm
  rw [ea5_0]
  rw [ea5_1] at hk
  have hk : ce5 (1, i, 0) = some (.inr (1, [.int kd, .long sr, .ref (ad5 (1, i, 1)), .null, .null, .null, .null, .int 0, .int 0, .int 0, .int 0, .int 0])) := (fw5 _ (by simp)).trans hk
  have hby := hby.tr (fw5 _ (by simp))
  refine ob_putF C E rfl F_K hk 3 (by decide) tw_77 rfl rfl rfl rfl (Nat.le_of_ble_eq_true rfl) (fs' := [.int kd, .long sr, .ref (ad5 (1, i, 1)), .ref (ad5 (1, i, 2)), .null, .null, .null, .int 0, .int 0, .int 0, .int 0, .int 0]) rfl d_K_init_27 ?_
  intro ce6 fw6 hk
  have hby := hby.tr (fw6 _ (by simp))
  have hdu := hdu.tr (fw6 _ (by simp))
  refine aw_aload_n C d_K_init_30 rfl (j := 0) rfl ?_
  refine aw_iload C d_K_init_31 (j := 3) rfl ?_
  refine ar_newZ C I (1, i, 3) (by rw [fw6 _ (by simp), fw5 _ (by simp), fw4 _ (by simp), fw3 _ (by simp), fw2 _ (by simp), fw1 _ (by simp)]; exact hno 3 (by decide)) tw_117 (N' := n) (rfl) (by omega) ⟨Nat.le_trans (m := 5) (by omega) (Nat.le_refl _), Nat.le_trans (m := 262) (by omega) (Nat.le_refl _)⟩ d_K_init_33 ?_
  intro ad7 ce7 ha7 fw7 hwo
  have ea7_0 : ad5 (1, i, 0) = ad7 (1, i, 0) := (ha7 _ (by simp)).symm
  have ea7_1 : ad5 (1, i, 1) = ad7 (1, i, 1) := (ha7 _ (by simp)).symm
  have ea7_2 : ad5 (1, i, 2) = ad7 (1, i, 2) := (ha7 _ (by simp)).symm
  rw [ea7_0]
  rw [ea7_1, ea7_2] at hk
  have hk : ce7 (1, i, 0) = some (.inr (1, [.int kd, .long sr, .ref (ad7 (1, i, 1)), .ref (ad7 (1, i, 2)), .null, .null, .null, .int 0, .int 0, .int 0, .int 0, .int 0])) := (fw7 _ (by simp)).trans hk
  have hby := hby.tr (fw7 _ (by simp))
  have hdu := hdu.tr (fw7 _ (by simp))
  refine ob_putF C E rfl F_K hk 4 (by decide) tw_78 rfl rfl rfl rfl (Nat.le_of_ble_eq_true rfl) (fs' := [.int kd, .long sr, .ref (ad7 (1, i, 1)), .ref (ad7 (1, i, 2)), .ref (ad7 (1, i, 3)), .null, .null, .int 0, .int 0, .int 0, .int 0, .int 0]) rfl d_K_init_35 ?_
  intro ce8 fw8 hk
  have hby := hby.tr (fw8 _ (by simp))
  have hdu := hdu.tr (fw8 _ (by simp))
  have hwo := hwo.tr (fw8 _ (by simp))
  refine aw_aload_n C d_K_init_38 rfl (j := 0) rfl ?_
  refine aw_iload C d_K_init_39 (j := 3) rfl ?_
  refine ar_newZ C I (1, i, 4) (by rw [fw8 _ (by simp), fw7 _ (by simp), fw6 _ (by simp), fw5 _ (by simp), fw4 _ (by simp), fw3 _ (by simp), fw2 _ (by simp), fw1 _ (by simp)]; exact hno 4 (by decide)) tw_117 (N' := n) (rfl) (by omega) ⟨Nat.le_trans (m := 5) (by omega) (Nat.le_refl _), Nat.le_trans (m := 262) (by omega) (Nat.le_refl _)⟩ d_K_init_41 ?_
  intro ad9 ce9 ha9 fw9 hrd
  have ea9_0 : ad7 (1, i, 0) = ad9 (1, i, 0) := (ha9 _ (by simp)).symm
  have ea9_1 : ad7 (1, i, 1) = ad9 (1, i, 1) := (ha9 _ (by simp)).symm
  have ea9_2 : ad7 (1, i, 2) = ad9 (1, i, 2) := (ha9 _ (by simp)).symm
  have ea9_3 : ad7 (1, i, 3) = ad9 (1, i, 3) := (ha9 _ (by simp)).symm
  rw [ea9_0]
  rw [ea9_1, ea9_2, ea9_3] at hk
  have hk : ce9 (1, i, 0) = some (.inr (1, [.int kd, .long sr, .ref (ad9 (1, i, 1)), .ref (ad9 (1, i, 2)), .ref (ad9 (1, i, 3)), .null, .null, .int 0, .int 0, .int 0, .int 0, .int 0])) := (fw9 _ (by simp)).trans hk
  have hby := hby.tr (fw9 _ (by simp))
  have hdu := hdu.tr (fw9 _ (by simp))
  have hwo := hwo.tr (fw9 _ (by simp))
  refine ob_putF C E rfl F_K hk 5 (by decide) tw_79 rfl rfl rfl rfl (Nat.le_of_ble_eq_true rfl) (fs' := [.int kd, .long sr, .ref (ad9 (1, i, 1)), .ref (ad9 (1, i, 2)), .ref (ad9 (1, i, 3)), .ref (ad9 (1, i, 4)), .null, .int 0, .int 0, .int 0, .int 0, .int 0]) rfl d_K_init_43 ?_
  intro ce10 fw10 hk
  have hby := hby.tr (fw10 _ (by simp))
  have hdu := hdu.tr (fw10 _ (by simp))
  have hwo := hwo.tr (fw10 _ (by simp))
  have hrd := hrd.tr (fw10 _ (by simp))
  refine aw_aload_n C d_K_init_46 rfl (j := 0) rfl ?_
  refine aw_bipush C (v := 6) d_K_init_47 (by decide) ?_
  refine ar_newI C I (1, i, 5) (by rw [fw10 _ (by simp), fw9 _ (by simp), fw8 _ (by simp), fw7 _ (by simp), fw6 _ (by simp), fw5 _ (by simp), fw4 _ (by simp), fw3 _ (by simp), fw2 _ (by simp), fw1 _ (by simp)]; exact hno 5 (by decide)) tw_45 (N' := 6) (by decide) (by omega) ⟨Nat.le_trans (m := 5) (by omega) (Nat.le_refl _), Nat.le_trans (m := 262) (by omega) (Nat.le_refl _)⟩ d_K_init_49 ?_
  intro ad11 ce11 ha11 fw11 hpt
  have ea11_0 : ad9 (1, i, 0) = ad11 (1, i, 0) := (ha11 _ (by simp)).symm
  have ea11_1 : ad9 (1, i, 1) = ad11 (1, i, 1) := (ha11 _ (by simp)).symm
  have ea11_2 : ad9 (1, i, 2) = ad11 (1, i, 2) := (ha11 _ (by simp)).symm
  have ea11_3 : ad9 (1, i, 3) = ad11 (1, i, 3) := (ha11 _ (by simp)).symm
  have ea11_4 : ad9 (1, i, 4) = ad11 (1, i, 4) := (ha11 _ (by simp)).symm
  rw [ea11_0]
  rw [ea11_1, ea11_2, ea11_3, ea11_4] at hk
  have hk : ce11 (1, i, 0) = some (.inr (1, [.int kd, .long sr, .ref (ad11 (1, i, 1)), .ref (ad11 (1, i, 2)), .ref (ad11 (1, i, 3)), .ref (ad11 (1, i, 4)), .null, .int 0, .int 0, .int 0, .int 0, .int 0])) := (fw11 _ (by simp)).trans hk
  have hby := hby.tr (fw11 _ (by simp))
  have hdu := hdu.tr (fw11 _ (by simp))
  have hwo := hwo.tr (fw11 _ (by simp))
  have hrd := hrd.tr (fw11 _ (by simp))
  refine ob_putF C E rfl F_K hk 6 (by decide) tw_81 rfl rfl rfl rfl (Nat.le_of_ble_eq_true rfl) (fs' := [.int kd, .long sr, .ref (ad11 (1, i, 1)), .ref (ad11 (1, i, 2)), .ref (ad11 (1, i, 3)), .ref (ad11 (1, i, 4)), .ref (ad11 (1, i, 5)), .int 0, .int 0, .int 0, .int 0, .int 0]) rfl d_K_init_51 ?_
  intro ce12 fw12 hk
  have hby := hby.tr (fw12 _ (by simp))
  have hdu := hdu.tr (fw12 _ (by simp))
  have hwo := hwo.tr (fw12 _ (by simp))
  have hrd := hrd.tr (fw12 _ (by simp))
  have hpt := hpt.tr (fw12 _ (by simp))
  refine aw_aload_n C d_K_init_54 rfl (j := 0) rfl ?_
  refine aw_iconst C (v := 0) d_K_init_55 (by decide) ?_
  refine ob_put C F_K hk 7 (by decide) tw_83 rfl rfl rfl (Nat.le_of_ble_eq_true rfl) (fs' := [.int kd, .long sr, .ref (ad11 (1, i, 1)), .ref (ad11 (1, i, 2)), .ref (ad11 (1, i, 3)), .ref (ad11 (1, i, 4)), .ref (ad11 (1, i, 5)), .int 0, .int 0, .int 0, .int 0, .int 0]) rfl d_K_init_56 ?_
  intro ce13 fw13 hk
  have hby := hby.tr (fw13 _ (by simp))
  have hdu := hdu.tr (fw13 _ (by simp))
  have hwo := hwo.tr (fw13 _ (by simp))
  have hrd := hrd.tr (fw13 _ (by simp))
  have hpt := hpt.tr (fw13 _ (by simp))
  refine aw_aload_n C d_K_init_59 rfl (j := 0) rfl ?_
  refine aw_iconst C (v := 0) d_K_init_60 (by decide) ?_
  refine ob_put C F_K hk 8 (by decide) tw_84 rfl rfl rfl (Nat.le_of_ble_eq_true rfl) (fs' := [.int kd, .long sr, .ref (ad11 (1, i, 1)), .ref (ad11 (1, i, 2)), .ref (ad11 (1, i, 3)), .ref (ad11 (1, i, 4)), .ref (ad11 (1, i, 5)), .int 0, .int 0, .int 0, .int 0, .int 0]) rfl d_K_init_61 ?_
  intro ce14 fw14 hk
  have hby := hby.tr (fw14 _ (by simp))
  have hdu := hdu.tr (fw14 _ (by simp))
  have hwo := hwo.tr (fw14 _ (by simp))
  have hrd := hrd.tr (fw14 _ (by simp))
  have hpt := hpt.tr (fw14 _ (by simp))
  refine aw_aload_n C d_K_init_64 rfl (j := 0) rfl ?_
  refine aw_iconst C (v := 0) d_K_init_65 (by decide) ?_
  refine ob_put C F_K hk 9 (by decide) tw_85 rfl rfl rfl (Nat.le_of_ble_eq_true rfl) (fs' := [.int kd, .long sr, .ref (ad11 (1, i, 1)), .ref (ad11 (1, i, 2)), .ref (ad11 (1, i, 3)), .ref (ad11 (1, i, 4)), .ref (ad11 (1, i, 5)), .int 0, .int 0, .int 0, .int 0, .int 0]) rfl d_K_init_66 ?_
  intro ce15 fw15 hk
  have hby := hby.tr (fw15 _ (by simp))
  have hdu := hdu.tr (fw15 _ (by simp))
  have hwo := hwo.tr (fw15 _ (by simp))
  have hrd := hrd.tr (fw15 _ (by simp))
  have hpt := hpt.tr (fw15 _ (by simp))
  refine aw_aload_n C d_K_init_69 rfl (j := 0) rfl ?_
  refine aw_iconst C (v := 0) d_K_init_70 (by decide) ?_
  refine ob_put C F_K hk 10 (by decide) tw_87 rfl rfl rfl (Nat.le_of_ble_eq_true rfl) (fs' := [.int kd, .long sr, .ref (ad11 (1, i, 1)), .ref (ad11 (1, i, 2)), .ref (ad11 (1, i, 3)), .ref (ad11 (1, i, 4)), .ref (ad11 (1, i, 5)), .int 0, .int 0, .int 0, .int 0, .int 0]) rfl d_K_init_71 ?_
  intro ce16 fw16 hk
  have hby := hby.tr (fw16 _ (by simp))
  have hdu := hdu.tr (fw16 _ (by simp))
  have hwo := hwo.tr (fw16 _ (by simp))
  have hrd := hrd.tr (fw16 _ (by simp))
  have hpt := hpt.tr (fw16 _ (by simp))
  refine aw_aload_n C d_K_init_74 rfl (j := 0) rfl ?_
  refine aw_iconst C (v := (-1)) d_K_init_75 (by decide) ?_
  refine ob_put C F_K hk 11 (by decide) tw_90 rfl rfl rfl (Nat.le_of_ble_eq_true rfl) (fs' := [.int kd, .long sr, .ref (ad11 (1, i, 1)), .ref (ad11 (1, i, 2)), .ref (ad11 (1, i, 3)), .ref (ad11 (1, i, 4)), .ref (ad11 (1, i, 5)), .int 0, .int 0, .int 0, .int 0, .int (-1)]) rfl d_K_init_76 ?_
  intro ce17 fw17 hk
  have hby := hby.tr (fw17 _ (by simp))
  have hdu := hdu.tr (fw17 _ (by simp))
  have hwo := hwo.tr (fw17 _ (by simp))
  have hrd := hrd.tr (fw17 _ (by simp))
  have hpt := hpt.tr (fw17 _ (by simp))
  refine aw_vret C E (by decide) (by omega) d_K_init_79 ?_
  exact ⟨rfl, fun q hq => ⟨by rw [ha11 q (fun e => by subst e; simp at hq), ha9 q (fun e => by subst e; simp at hq), ha7 q (fun e => by subst e; simp at hq), ha5 q (fun e => by subst e; simp at hq), ha3 q (fun e => by subst e; simp at hq)], by rw [fw17 q (fun e => by subst e; simp at hq), fw16 q (fun e => by subst e; simp at hq), fw15 q (fun e => by subst e; simp at hq), fw14 q (fun e => by subst e; simp at hq), fw13 q (fun e => by subst e; simp at hq), fw12 q (fun e => by subst e; simp at hq), fw11 q (fun e => by subst e; simp at hq), fw10 q (fun e => by subst e; simp at hq), fw9 q (fun e => by subst e; simp at hq), fw8 q (fun e => by subst e; simp at hq), fw7 q (fun e => by subst e; simp at hq), fw6 q (fun e => by subst e; simp at hq), fw5 q (fun e => by subst e; simp at hq), fw4 q (fun e => by subst e; simp at hq), fw3 q (fun e => by subst e; simp at hq), fw2 q (fun e => by subst e; simp at hq), fw1 q (fun e => by subst e; simp at hq)]⟩, by rw [ha11 _ (by simp), ha9 _ (by simp), ha7 _ (by simp), ha5 _ (by simp), ha3 _ (by simp)], Car.of hk rfl rfl nI_0.symm (cnt0 _) rfl rfl rfl hby hdu hwo hrd hpt ⟨hn1, hn2⟩ (Nat.zero_le 6)⟩
