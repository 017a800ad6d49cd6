def k_sPs (c : CarS) (n : Nat) : CarS := k_mk (k_kd c) (k_sr c) (k_np c) (k_by c) (k_du c) (k_wo c) (k_rd c) (k_pt c) n (k_un c) (k_st c) (k_la c)
set_option maxRecDepth 100000 in
set_option maxHeartbeats 4000000 in
theorem c_forgetPasses (l : Launch) (G : aw_G) (ad : aw_Ad) (ce : aw_He) (i : Nat) (c : CarS) (hK : Car ad ce i c) : CT l G M_K_forgetPasses 1 21 0 0 [.ref (ad (1, i, 0))] ad ce (rK none i (k_sNp c) ad ce) := by
  refine CT.of (by decide) (Nat.le_of_ble_eq_true rfl) ?_
  intro X C I E
  obtain ⟨hk, hby, hdu, hwo, hrd, hpt, ⟨hn1, hn2⟩, hps⟩ := hK
  show AW X 1 0 0 ad ce 0 [(0, .ref (ad (1, i, 0)))] []
  refine aw_aload_n C d_K_forgetPasses_0 rfl (j := 0) rfl ?_
  refine aw_iconst C (v := 0) d_K_forgetPasses_1 (by decide) ?_
  refine aw_topi (v' := nI 0) (nI_0.symm) ?_
  refine ob_put C F_K hk 7 (by decide) tw_83 rfl rfl rfl (Nat.le_of_ble_eq_true rfl) (fs' := [.int (k_kd c), .long (k_sr c), .ref (ad (1, i, 1)), .ref (ad (1, i, 2)), .ref (ad (1, i, 3)), .ref (ad (1, i, 4)), .ref (ad (1, i, 5)), .int (nI 0), .int (nI (cnt (k_rd c) (k_np c))), .int (k_un c), .int (k_st c), .int (k_la c)]) rfl d_K_forgetPasses_2 ?_
  intro ce1 fw1 hk
  have hby := hby.tr (fw1 _ (by simp))
  have hdu := hdu.tr (fw1 _ (by simp))
  have hwo := hwo.tr (fw1 _ (by simp))
  have hrd := hrd.tr (fw1 _ (by simp))
  have hpt := hpt.tr (fw1 _ (by simp))
  refine aw_aload_n C d_K_forgetPasses_5 rfl (j := 0) rfl ?_
  have hK1 : Car ad ce1 i (k_sPs c 0) := ⟨hk, hby, hdu, hwo, hrd, hpt, ⟨hn1, hn2⟩, Nat.zero_le _⟩
  refine aw_callV C I (k := (1, i, 0)) (as := []) (rest := []) (c_forgetReads l G ad ce1 i _ hK1) g_K_55 hk rfl rfl ⟨by decide, by decide⟩ ⟨by decide, by decide⟩ rfl (Nat.le_of_ble_eq_true rfl) d_K_forgetPasses_6 ?_
  rintro _ _ ce9 ⟨rfl, rfl, hf2, hK2⟩
  show AW X 1 0 0 ad ce9 9 [(0, .ref (ad (1, i, 0)))] []
  refine aw_vret C E (by decide) (by decide) d_K_forgetPasses_9 ?_
  exact ⟨rfl, rfl, (fr1 fw1).trans (hf2), hK2⟩
set_option maxRecDepth 100000 in
set_option maxHeartbeats 4000000 in
theorem c_patternByte (l : Launch) (G : aw_G) (ad : aw_Ad) (ce : aw_He) (p : Int32) (j : Nat) (b : Int32) : CT l G M_C_patternByte 0 0 0 0 [.int p, .int (nI j), .int b] ad ce (rN (some (.int (pB p j b))) ad ce) := by
  refine CT.of (by decide) (Nat.le_of_ble_eq_true rfl) ?_
  intro X C I E
  show AW X 3 0 0 ad ce 0 [(0, .int p), (1, .int (nI j)), (2, .int b)] []
  refine aw_iload_n C d_C_patternByte_0 rfl (j := 0) rfl ?_
  refine aw_sipush C (v := 256) d_C_patternByte_1 (by decide) ?_
  refine aw_icmp_ne C (tgt := 18) d_C_patternByte_4 (by decide) (fun h4 => ?_) (fun h4 => ?_)
  · refine aw_iload_n C d_C_patternByte_18 rfl (j := 0) rfl ?_
    refine aw_sipush C (v := 257) d_C_patternByte_19 (by decide) ?_
    refine aw_icmp_ne C (tgt := 31) d_C_patternByte_22 (by decide) (fun h22 => ?_) (fun h22 => ?_)
    · refine aw_iload_n C d_C_patternByte_31 rfl (j := 0) rfl ?_
      refine aw_iret C E (rfl) (by decide) (by decide) d_C_patternByte_32 ?_
      exact ⟨sI (by simp [pB, *]), rfl, rfl⟩
    · refine aw_iload_n C d_C_patternByte_25 rfl (j := 2) rfl ?_
      refine aw_sipush C (v := 255) d_C_patternByte_26 (by decide) ?_
      refine aw_ixor C d_C_patternByte_29 ?_
      refine aw_iret C E (rfl) (by decide) (by decide) d_C_patternByte_30 ?_
      exact ⟨sI (by simp [pB, *]), rfl, rfl⟩
  · refine aw_bipush C (v := 7) d_C_patternByte_7 (by decide) ?_
    refine aw_iload_n C d_C_patternByte_9 rfl (j := 1) rfl ?_
    refine aw_imul C d_C_patternByte_10 ?_
    refine aw_iconst C (v := 3) d_C_patternByte_11 (by decide) ?_
    refine aw_iadd C d_C_patternByte_12 ?_
    refine aw_sipush C (v := 255) d_C_patternByte_13 (by decide) ?_
    refine aw_iand C d_C_patternByte_16 ?_
    refine aw_iret C E (rfl) (by decide) (by decide) d_C_patternByte_17 ?_
    exact ⟨sI (by simp [pB, *]), rfl, rfl⟩
set_option maxRecDepth 100000 in
set_option maxHeartbeats 4000000 in
theorem c_over_no (l : Launch) (G : aw_G) (ad : aw_Ad) (ce : aw_He) (i : Nat) (c : CarS) (hK : Car ad ce i c) (p : Int32) (h : ¬ k_st c = 2 ∨ k_ps c = 6) : CT l G M_K_overwrite 1 22 0 0 [.ref (ad (1, i, 0)), .int p] ad ce (rN (some (.int (-1))) ad ce) := by
  refine CT.of (by decide) (Nat.le_of_ble_eq_true rfl) ?_
  intro X C I E
  obtain ⟨hk, hby, hdu, hwo, hrd, hpt, ⟨hn1, hn2⟩, hps⟩ := hK
  show AW X 3 0 0 ad ce 0 [(0, .ref (ad (1, i, 0))), (1, .int p)] []
  refine aw_aload_n C d_K_overwrite_0 rfl (j := 0) rfl ?_
  refine aw_get C F_K hk 10 (by decide) tw_87 rfl d_K_overwrite_1 ?_
  refine aw_iconst C (v := 2) d_K_overwrite_4 (by decide) ?_
  refine aw_icmp_ne C (tgt := 20) d_K_overwrite_5 (by decide) (fun h5 => ?_) (fun h5 => ?_)
  · refine aw_iconst C (v := (-1)) d_K_overwrite_20 (by decide) ?_
    refine aw_iret C E (rfl) (by decide) (by decide) d_K_overwrite_21 ?_
    exact ⟨rfl, rfl, rfl⟩
  · refine aw_aload_n C d_K_overwrite_8 rfl (j := 0) rfl ?_
    refine aw_get C F_K hk 7 (by decide) tw_83 rfl d_K_overwrite_9 ?_
    refine aw_aload_n C d_K_overwrite_12 rfl (j := 0) rfl ?_
    refine aw_get C F_K hk 6 (by decide) tw_81 rfl d_K_overwrite_13 ?_
    refine ar_len C hpt (tt := .int) rfl d_K_overwrite_16 ?_
    refine aw_icmp_lt C (tgt := 22) d_K_overwrite_17 (by decide) (fun h17 => ?_) (fun h17 => ?_)
    · exact absurd h17 (by
        rcases h with h | h
        · exact absurd h5 h
        · rw [h]; decide)
    · refine aw_iconst C (v := (-1)) d_K_overwrite_20 (by decide) ?_
      refine aw_iret C E (rfl) (by decide) (by decide) d_K_overwrite_21 ?_
      exact ⟨rfl, rfl, rfl⟩
set_option maxRecDepth 100000 in
set_option maxHeartbeats 4000000 in
theorem c_over_ok (l : Launch) (G : aw_G) (ad : aw_Ad) (ce : aw_He) (i : Nat) (c : CarS) (hK : Car ad ce i c) (p : Int32) (h2 : k_st c = 2) (hp : k_ps c < 6) : CT l G M_K_overwrite 1 22 0 0 [.ref (ad (1, i, 0)), .int p] ad ce (rK (some (.int (nI (k_ps c + 1)))) i (k_pass c p) ad ce) := by
  refine CT.of (by decide) (Nat.le_of_ble_eq_true rfl) ?_
  intro X C I E
  obtain ⟨hk, hby, hdu, hwo, hrd, hpt, ⟨hn1, hn2⟩, hps⟩ := hK
  have loop : ∀ (m a : Nat) (ce1 : aw_He) (gb gd : Nat → Int32), a + m = k_np c → (∀ q, q ≠ (1, i, 1) → q ≠ (1, i, 2) → ce1 q = ce q) → arI ce1 (1, i, 1) 0 (k_np c) gb → arI ce1 (1, i, 2) 0 (k_np c) gd → (∀ j, j < a → gd j = pB p j (k_by c j)) → (∀ j, gb j = if j < a then (if k_wo c j = 0 then pB p j (k_by c j) else k_by c j) else k_by c j) → AW X 3 0 0 ad ce1 24 [(2, .int (nI a)), (0, .ref (ad (1, i, 0))), (1, .int p)] [] := by
    intro m
    induction m with
    | zero =>
      intro a ce1 gb gd ha hf hby hdu hgd hgb
      have hf' : ∀ q : aw_Lb, q ≠ (1, i, 1) ∧ q ≠ (1, i, 2) → ce1 q = ce q := fun q hq => hf q hq.1 hq.2
      have hk : ce1 (1, i, 0) = some (.inr (1, [.int (k_kd c), .long (k_sr c), .ref (ad (1, i, 1)), .ref (ad (1, i, 2)), .ref (ad (1, i, 3)), .ref (ad (1, i, 4)), .ref (ad (1, i, 5)), .int (nI (k_ps c)), .int (nI (cnt (k_rd c) (k_np c))), .int (k_un c), .int (k_st c), .int (k_la c)])) := (hf' _ (by simp)).trans hk
      have hwo := hwo.tr (hf' _ (by simp))
      have hrd := hrd.tr (hf' _ (by simp))
      have hpt := hpt.tr (hf' _ (by simp))
      refine aw_iload_n C d_K_overwrite_24 rfl (j := 0) rfl ?_
      refine aw_aload_n C d_K_overwrite_25 rfl (j := 1) rfl ?_
      refine aw_get C F_K hk 2 (by decide) tw_75 rfl d_K_overwrite_26 ?_
      refine ar_len C hby (tt := .int) rfl d_K_overwrite_29 ?_
      refine aw_icmp_ge C (tgt := 77) d_K_overwrite_30 (by decide) (fun h30 => ?_) (fun h30 => absurd (nI_le (by omega) (by omega)) h30)
      refine aw_aload_n C d_K_overwrite_77 rfl (j := 1) rfl ?_
      have hK1 : Car ad ce1 i (k_mk (k_kd c) (k_sr c) (k_np c) gb gd (k_wo c) (k_rd c) (k_pt c) (k_ps c) (k_un c) (k_st c) (k_la c)) := ⟨hk, hby, hdu, hwo, hrd, hpt, ⟨hn1, hn2⟩, hps⟩
      refine aw_callV C I (k := (1, i, 0)) (as := []) (rest := []) (c_forgetReads l G ad ce1 i _ hK1) g_K_55 hk rfl rfl ⟨by decide, by decide⟩ ⟨by decide, by decide⟩ rfl (Nat.le_of_ble_eq_true rfl) d_K_overwrite_78 ?_
      rintro _ _ ce9 ⟨rfl, rfl, hf2, hk, hby, hdu, hwo, hrd, hpt, -, -⟩
      have hk : ce9 (1, i, 0) = some (.inr (1, [.int (k_kd c), .long (k_sr c), .ref (ad (1, i, 1)), .ref (ad (1, i, 2)), .ref (ad (1, i, 3)), .ref (ad (1, i, 4)), .ref (ad (1, i, 5)), .int (nI (k_ps c)), .int (nI (cnt (fun _ => 0) (k_np c))), .int 0, .int (k_st c), .int (k_la c)])) := hk
      have hby : arI ce9 (1, i, 1) 0 (k_np c) gb := hby
      have hdu : arI ce9 (1, i, 2) 0 (k_np c) gd := hdu
      have hwo : arI ce9 (1, i, 3) 1 (k_np c) (k_wo c) := hwo
      have hrd : arI ce9 (1, i, 4) 1 (k_np c) (fun _ => 0) := hrd
      have hpt : arI ce9 (1, i, 5) 0 6 (k_pt c) := hpt
      show AW X 3 0 0 ad ce9 81 [(2, .int (nI a)), (0, .ref (ad (1, i, 0))), (1, .int p)] []
      refine aw_aload_n C d_K_overwrite_81 rfl (j := 1) rfl ?_
      refine aw_get C F_K hk 6 (by decide) tw_81 rfl d_K_overwrite_82 ?_
      refine aw_aload_n C d_K_overwrite_85 rfl (j := 1) rfl ?_
      refine aw_get C F_K hk 7 (by decide) tw_83 rfl d_K_overwrite_86 ?_
      refine aw_iload_n C d_K_overwrite_89 rfl (j := 2) rfl ?_
      refine ar_iast C hpt (j := (k_ps c)) (rfl) (by omega) (by omega) d_K_overwrite_90 ?_
      intro ce2 fw2 hpt
      have hk : ce2 (1, i, 0) = some (.inr (1, [.int (k_kd c), .long (k_sr c), .ref (ad (1, i, 1)), .ref (ad (1, i, 2)), .ref (ad (1, i, 3)), .ref (ad (1, i, 4)), .ref (ad (1, i, 5)), .int (nI (k_ps c)), .int (nI (cnt (fun _ => 0) (k_np c))), .int 0, .int (k_st c), .int (k_la c)])) := (fw2 _ (by simp)).trans hk
      have hby := hby.tr (fw2 _ (by simp))
      have hdu := hdu.tr (fw2 _ (by simp))
      have hwo := hwo.tr (fw2 _ (by simp))
      have hrd := hrd.tr (fw2 _ (by simp))
      refine aw_aload_n C d_K_overwrite_91 rfl (j := 1) rfl ?_
      refine aw_dup C d_K_overwrite_92 rfl ?_
      refine aw_get C F_K hk 7 (by decide) tw_83 rfl d_K_overwrite_93 ?_
      refine aw_iconst C (v := 1) d_K_overwrite_96 (by decide) ?_
      refine aw_iadd C d_K_overwrite_97 ?_
      refine aw_topi (v' := nI (k_ps c + 1)) (nI_1 _) ?_
      refine ob_put C F_K hk 7 (by decide) tw_83 rfl rfl rfl (Nat.le_of_ble_eq_true rfl) (fs' := [.int (k_kd c), .long (k_sr c), .ref (ad (1, i, 1)), .ref (ad (1, i, 2)), .ref (ad (1, i, 3)), .ref (ad (1, i, 4)), .ref (ad (1, i, 5)), .int (nI (k_ps c + 1)), .int (nI (cnt (fun _ => 0) (k_np c))), .int 0, .int (k_st c), .int (k_la c)]) rfl d_K_overwrite_98 ?_
      intro ce3 fw3 hk
      have hby := hby.tr (fw3 _ (by simp))
      have hdu := hdu.tr (fw3 _ (by simp))
      have hwo := hwo.tr (fw3 _ (by simp))
      have hrd := hrd.tr (fw3 _ (by simp))
      have hpt := hpt.tr (fw3 _ (by simp))
      refine aw_aload_n C d_K_overwrite_101 rfl (j := 1) rfl ?_
      refine aw_get C F_K hk 7 (by decide) tw_83 rfl d_K_overwrite_102 ?_
      refine aw_iret C E (rfl) (by decide) (by decide) d_K_overwrite_105 ?_
      have fr : frK i ce ce3 := (frK.trans (b := ce1) (fun q hq => hf q (fun e => by subst e; simp at hq) (fun e => by subst e; simp at hq)) hf2).trans ((fr1 fw2).trans (fr1 fw3))
      exact ⟨rfl, rfl, fr, hk, hby.to (fun j hj => by rw [hgb j, if_pos (by omega)]; rfl), hdu.to (fun j hj => hgd j (by omega)), hwo, hrd, hpt, ⟨hn1, hn2⟩, by show k_ps c + 1 ≤ 6; omega⟩
    | succ m ih =>
      intro a ce1 gb gd ha hf hby hdu hgd hgb
      have hf' : ∀ q : aw_Lb, q ≠ (1, i, 1) ∧ q ≠ (1, i, 2) → ce1 q = ce q := fun q hq => hf q hq.1 hq.2
      have hk : ce1 (1, i, 0) = some (.inr (1, [.int (k_kd c), .long (k_sr c), .ref (ad (1, i, 1)), .ref (ad (1, i, 2)), .ref (ad (1, i, 3)), .ref (ad (1, i, 4)), .ref (ad (1, i, 5)), .int (nI (k_ps c)), .int (nI (cnt (k_rd c) (k_np c))), .int (k_un c), .int (k_st c), .int (k_la c)])) := (hf' _ (by simp)).trans hk
      have hwo := hwo.tr (hf' _ (by simp))
      have hrd := hrd.tr (hf' _ (by simp))
      have hpt := hpt.tr (hf' _ (by simp))
      refine aw_iload_n C d_K_overwrite_24 rfl (j := 0) rfl ?_
      refine aw_aload_n C d_K_overwrite_25 rfl (j := 1) rfl ?_
      refine aw_get C F_K hk 2 (by decide) tw_75 rfl d_K_overwrite_26 ?_
      refine ar_len C hby (tt := .int) rfl d_K_overwrite_29 ?_
      refine aw_icmp_ge C (tgt := 77) d_K_overwrite_30 (by decide) (fun h30 => absurd h30 (nI_ge (by omega) (by omega))) (fun h30 => ?_)
      refine aw_aload_n C d_K_overwrite_33 rfl (j := 1) rfl ?_
      refine aw_get C F_K hk 3 (by decide) tw_77 rfl d_K_overwrite_34 ?_
      refine aw_iload_n C d_K_overwrite_37 rfl (j := 0) rfl ?_
      refine aw_iload_n C d_K_overwrite_38 rfl (j := 2) rfl ?_
      refine aw_iload_n C d_K_overwrite_39 rfl (j := 0) rfl ?_
      refine aw_aload_n C d_K_overwrite_40 rfl (j := 1) rfl ?_
      refine aw_get C F_K hk 2 (by decide) tw_75 rfl d_K_overwrite_41 ?_
      refine aw_iload_n C d_K_overwrite_44 rfl (j := 0) rfl ?_
      refine ar_iald C hby (j := a) (rfl) (by omega) (by omega) d_K_overwrite_45 ?_
      refine aw_callSN C I (as := [.int p, .int (nI a), .int (gb a)]) (rest := [.int (nI a), .ref (ad (1, i, 2))]) (c_patternByte l G ad ce1 p a (gb a)) g_K_58 ⟨by decide, by decide⟩ ⟨by decide, by decide⟩ rfl (Nat.le_of_ble_eq_true rfl) d_K_overwrite_46 ?_
      rintro _ _ _ ⟨rfl, rfl, rfl⟩
      show AW X 3 0 0 ad ce1 49 [(2, .int (nI a)), (0, .ref (ad (1, i, 0))), (1, .int p)] [.int (pB p a (gb a)), .int (nI a), .ref (ad (1, i, 2))]
      refine ar_iast C hdu (j := a) (rfl) (by omega) (by omega) d_K_overwrite_49 ?_
      intro ce4 fw4 hdu
      have hk : ce4 (1, i, 0) = some (.inr (1, [.int (k_kd c), .long (k_sr c), .ref (ad (1, i, 1)), .ref (ad (1, i, 2)), .ref (ad (1, i, 3)), .ref (ad (1, i, 4)), .ref (ad (1, i, 5)), .int (nI (k_ps c)), .int (nI (cnt (k_rd c) (k_np c))), .int (k_un c), .int (k_st c), .int (k_la c)])) := (fw4 _ (by simp)).trans hk
      have hby := hby.tr (fw4 _ (by simp))
      have hwo := hwo.tr (fw4 _ (by simp))
      have hrd := hrd.tr (fw4 _ (by simp))
      have hpt := hpt.tr (fw4 _ (by simp))
      refine aw_aload_n C d_K_overwrite_50 rfl (j := 1) rfl ?_
      refine aw_get C F_K hk 4 (by decide) tw_78 rfl d_K_overwrite_51 ?_
      refine aw_iload_n C d_K_overwrite_54 rfl (j := 0) rfl ?_
      refine ar_zald C hwo (j := a) (rfl) (by omega) (by omega) d_K_overwrite_55 ?_
      refine aw_if_ne C (tgt := 71) d_K_overwrite_56 (by decide) (fun h56 => ?_) (fun h56 => ?_)
      · refine aw_iinc C (v := nI (a + 1)) (lv' := [(2, .int (nI (a + 1))), (0, .ref (ad (1, i, 0))), (1, .int p)]) d_K_overwrite_71 (j := 0) rfl (nI_1 _) (by decide) rfl ?_
        refine aw_goto C (tgt := 24) d_K_overwrite_74 (by decide) ?_
        refine ih (a + 1) ce4 gb (upd gd a (pB p a (gb a))) (by omega) (fun q h1 h2 => by rw [fw4 q h2]; exact hf q h1 h2) hby hdu ?_ ?_
        · intro j hj
          by_cases e : j = a
          · subst e; simp [upd, hgb j]
          · simp [upd, e]; exact hgd j (by omega)
        · intro j
          by_cases e : j = a
          · subst e; simp [upd, h56, hgb j]
          · have e2 : (j < a + 1) = (j < a) := by simp; omega
            simp [upd, e, hgb j, e2]
      · refine aw_aload_n C d_K_overwrite_59 rfl (j := 1) rfl ?_
        refine aw_get C F_K hk 2 (by decide) tw_75 rfl d_K_overwrite_60 ?_
        refine aw_iload_n C d_K_overwrite_63 rfl (j := 0) rfl ?_
        refine aw_aload_n C d_K_overwrite_64 rfl (j := 1) rfl ?_
        refine aw_get C F_K hk 3 (by decide) tw_77 rfl d_K_overwrite_65 ?_
        refine aw_iload_n C d_K_overwrite_68 rfl (j := 0) rfl ?_
        refine ar_iald C hdu (j := a) (rfl) (by omega) (by omega) d_K_overwrite_69 ?_
        refine ar_iast C hby (j := a) (rfl) (by omega) (by omega) d_K_overwrite_70 ?_
        intro ce5 fw5 hby
        have hk : ce5 (1, i, 0) = some (.inr (1, [.int (k_kd c), .long (k_sr c), .ref (ad (1, i, 1)), .ref (ad (1, i, 2)), .ref (ad (1, i, 3)), .ref (ad (1, i, 4)), .ref (ad (1, i, 5)), .int (nI (k_ps c)), .int (nI (cnt (k_rd c) (k_np c))), .int (k_un c), .int (k_st c), .int (k_la c)])) := (fw5 _ (by simp)).trans hk
        have hdu := hdu.tr (fw5 _ (by simp))
        have hwo := hwo.tr (fw5 _ (by simp))
        have hrd := hrd.tr (fw5 _ (by simp))
        have hpt := hpt.tr (fw5 _ (by simp))
        refine aw_iinc C (v := nI (a + 1)) (lv' := [(2, .int (nI (a + 1))), (0, .ref (ad (1, i, 0))), (1, .int p)]) d_K_overwrite_71 (j := 0) rfl (nI_1 _) (by decide) rfl ?_
        refine aw_goto C (tgt := 24) d_K_overwrite_74 (by decide) ?_
        refine ih (a + 1) ce5 (upd gb a ((upd gd a (pB p a (gb a))) a)) (upd gd a (pB p a (gb a))) (by omega) (fun q h1 h2 => by rw [fw5 q h1, fw4 q h2]; exact hf q h1 h2) hby hdu ?_ ?_
        · intro j hj
          by_cases e : j = a
          · subst e; simp [upd, hgb j]
          · simp [upd, e]; exact hgd j (by omega)
        · intro j
          by_cases e : j = a
          · subst e; simp [upd, h56, hgb j]
          · have e2 : (j < a + 1) = (j < a) := by simp; omega
            simp [upd, e, hgb j, e2]
  show AW X 3 0 0 ad ce 0 [(0, .ref (ad (1, i, 0))), (1, .int p)] []
  refine aw_aload_n C d_K_overwrite_0 rfl (j := 0) rfl ?_
  refine aw_get C F_K hk 10 (by decide) tw_87 rfl d_K_overwrite_1 ?_
  refine aw_iconst C (v := 2) d_K_overwrite_4 (by decide) ?_
  refine aw_icmp_ne C (tgt := 20) d_K_overwrite_5 (by decide) (fun h5 => absurd h5 (fun q => q h2)) (fun h5 => ?_)
  refine aw_aload_n C d_K_overwrite_8 rfl (j := 0) rfl ?_
  refine aw_get C F_K hk 7 (by decide) tw_83 rfl d_K_overwrite_9 ?_
  refine aw_aload_n C d_K_overwrite_12 rfl (j := 0) rfl ?_
  refine aw_get C F_K hk 6 (by decide) tw_81 rfl d_K_overwrite_13 ?_
  refine ar_len C hpt (tt := .int) rfl d_K_overwrite_16 ?_
  refine aw_icmp_lt C (tgt := 22) d_K_overwrite_17 (by decide) (fun h17 => ?_) (fun h17 => absurd (nI_lt (by omega) (by omega)) h17)
  refine aw_iconst C (v := 0) d_K_overwrite_22 (by decide) ?_
  refine aw_istore_n C (lv' := [(2, .int 0), (0, .ref (ad (1, i, 0))), (1, .int p)]) d_K_overwrite_23 rfl (by decide) rfl ?_
  refine aw_lv (lv' := [(2, .int (nI 0)), (0, .ref (ad (1, i, 0))), (1, .int p)]) (by simp only [nI_0]) ?_
  exact loop (k_np c) 0 ce (k_by c) (k_du c) (by omega) (fun _ _ _ => rfl) hby hdu (fun j hj => absurd hj (by omega)) (fun j => by simp)
set_option maxRecDepth 100000 in
set_option maxHeartbeats 4000000 in
theorem c_read_out (l : Launch) (G : aw_G) (ad : aw_Ad) (ce : aw_He) (i : Nat) (c : CarS) (hK : Car ad ce i c) (x b : Int32) (h : ¬ k_st c = 2 ∨ k_ps c = 0 ∨ (x < 0 ∨ nI (k_np c) ≤ x)) : CT l G M_K_takeReading 1 21 0 0 [.ref (ad (1, i, 0)), .int x, .int b] ad ce (rN (some (.int (-1))) ad ce) := by
  refine CT.of (by decide) (Nat.le_of_ble_eq_true rfl) ?_
  intro X C I E
  have hK0 := hK
  obtain ⟨hk, hby, hdu, hwo, hrd, hpt, ⟨hn1, hn2⟩, hps⟩ := hK0
  show AW X 4 0 0 ad ce 0 [(0, .ref (ad (1, i, 0))), (1, .int x), (2, .int b)] []
  refine aw_aload_n C d_K_takeReading_0 rfl (j := 0) rfl ?_
  refine aw_get C F_K hk 10 (by decide) tw_87 rfl d_K_takeReading_1 ?_
  refine aw_iconst C (v := 2) d_K_takeReading_4 (by decide) ?_
  refine aw_icmp_ne C (tgt := 32) d_K_takeReading_5 (by decide) (fun h5 => ?_) (fun h5 => ?_)
  · refine aw_iconst C (v := (-1)) d_K_takeReading_32 (by decide) ?_
    refine aw_iret C E (rfl) (by decide) (by decide) d_K_takeReading_33 ?_
    exact ⟨rfl, rfl, rfl⟩
  · refine aw_aload_n C d_K_takeReading_8 rfl (j := 0) rfl ?_
    refine aw_get C F_K hk 7 (by decide) tw_83 rfl d_K_takeReading_9 ?_
    refine aw_if_eq C (tgt := 32) d_K_takeReading_12 (by decide) (fun h12 => ?_) (fun h12 => ?_)
    · refine aw_iconst C (v := (-1)) d_K_takeReading_32 (by decide) ?_
      refine aw_iret C E (rfl) (by decide) (by decide) d_K_takeReading_33 ?_
      exact ⟨rfl, rfl, rfl⟩
    · refine aw_aload_n C d_K_takeReading_15 rfl (j := 0) rfl ?_
      refine aw_iload_n C d_K_takeReading_16 rfl (j := 1) rfl ?_
      refine aw_callV C I (k := (1, i, 0)) (as := [.int x]) (rest := []) (c_hasPlace l G ad ce i c hK x) g_K_51 hk rfl rfl ⟨by decide, by decide⟩ ⟨by decide, by decide⟩ rfl (Nat.le_of_ble_eq_true rfl) d_K_takeReading_17 ?_
      rintro _ _ _ ⟨rfl, rfl, rfl⟩
      show AW X 4 0 0 ad ce 20 [(0, .ref (ad (1, i, 0))), (1, .int x), (2, .int b)] [.int (bI (decide (0 ≤ x ∧ x < nI (k_np c))))]
      have hx : x < 0 ∨ nI (k_np c) ≤ x := by
        rcases h with h | h | h
        · exact absurd h5 h
        · exact absurd (by rw [h]; exact nI_0) h12
        · exact h
      refine aw_topi (v' := 0) (by rw [← bI_f (by (try simp only [Int32.le_iff_toInt_le, Int32.lt_iff_toInt_lt] at hx ⊢); omega)]) ?_
      refine aw_if_eq C (tgt := 32) d_K_takeReading_20 (by decide) (fun h20 => ?_) (fun h20 => absurd (rfl) h20)
      refine aw_iconst C (v := (-1)) d_K_takeReading_32 (by decide) ?_
      refine aw_iret C E (rfl) (by decide) (by decide) d_K_takeReading_33 ?_
      exact ⟨rfl, rfl, rfl⟩
set_option maxRecDepth 100000 in
set_option maxHeartbeats 4000000 in
theorem c_read_no (l : Launch) (G : aw_G) (ad : aw_Ad) (ce : aw_He) (i : Nat) (c : CarS) (hK : Car ad ce i c) (j : Nat) (hj : j < k_np c) (b : Int32) (h : ¬ k_st c = 2 ∨ k_ps c = 0 ∨ ¬ k_rd c j = 0) : CT l G M_K_takeReading 1 21 0 0 [.ref (ad (1, i, 0)), .int (nI j), .int b] ad ce (rN (some (.int (-1))) ad ce) := by
  refine CT.of (by decide) (Nat.le_of_ble_eq_true rfl) ?_
  intro X C I E
  have hK0 := hK
  obtain ⟨hk, hby, hdu, hwo, hrd, hpt, ⟨hn1, hn2⟩, hps⟩ := hK0
  show AW X 4 0 0 ad ce 0 [(0, .ref (ad (1, i, 0))), (1, .int (nI j)), (2, .int b)] []
  refine aw_aload_n C d_K_takeReading_0 rfl (j := 0) rfl ?_
  refine aw_get C F_K hk 10 (by decide) tw_87 rfl d_K_takeReading_1 ?_
  refine aw_iconst C (v := 2) d_K_takeReading_4 (by decide) ?_
  refine aw_icmp_ne C (tgt := 32) d_K_takeReading_5 (by decide) (fun h5 => ?_) (fun h5 => ?_)
  · refine aw_iconst C (v := (-1)) d_K_takeReading_32 (by decide) ?_
    refine aw_iret C E (rfl) (by decide) (by decide) d_K_takeReading_33 ?_
    exact ⟨rfl, rfl, rfl⟩
  · refine aw_aload_n C d_K_takeReading_8 rfl (j := 0) rfl ?_
    refine aw_get C F_K hk 7 (by decide) tw_83 rfl d_K_takeReading_9 ?_
    refine aw_if_eq C (tgt := 32) d_K_takeReading_12 (by decide) (fun h12 => ?_) (fun h12 => ?_)
    · refine aw_iconst C (v := (-1)) d_K_takeReading_32 (by decide) ?_
      refine aw_iret C E (rfl) (by decide) (by decide) d_K_takeReading_33 ?_
      exact ⟨rfl, rfl, rfl⟩
    · refine aw_aload_n C d_K_takeReading_15 rfl (j := 0) rfl ?_
      refine aw_iload_n C d_K_takeReading_16 rfl (j := 1) rfl ?_
      refine aw_callV C I (k := (1, i, 0)) (as := [.int (nI j)]) (rest := []) (c_hasPlace l G ad ce i c hK (nI j)) g_K_51 hk rfl rfl ⟨by decide, by decide⟩ ⟨by decide, by decide⟩ rfl (Nat.le_of_ble_eq_true rfl) d_K_takeReading_17 ?_
      rintro _ _ _ ⟨rfl, rfl, rfl⟩
      show AW X 4 0 0 ad ce 20 [(0, .ref (ad (1, i, 0))), (1, .int (nI j)), (2, .int b)] [.int (bI (decide (0 ≤ (nI j) ∧ (nI j) < nI (k_np c))))]
      refine aw_topi (v' := 1) (by rw [← bI_t ⟨nI_pos' (by omega), nI_lt (by omega) (by omega)⟩]) ?_
      show AW X 4 0 0 ad ce 20 [(0, .ref (ad (1, i, 0))), (1, .int (nI j)), (2, .int b)] [.int 1]
      refine aw_if_eq C (tgt := 32) d_K_takeReading_20 (by decide) (fun h20 => absurd h20 (by decide)) (fun h20 => ?_)
      refine aw_aload_n C d_K_takeReading_23 rfl (j := 0) rfl ?_
      refine aw_get C F_K hk 5 (by decide) tw_79 rfl d_K_takeReading_24 ?_
      refine aw_iload_n C d_K_takeReading_27 rfl (j := 1) rfl ?_
      refine ar_zald C hrd (j := j) (rfl) (by omega) (by omega) d_K_takeReading_28 ?_
      have hx : ¬ k_rd c j = 0 := by
        rcases h with h | h | h
        · exact absurd h5 h
        · exact absurd (by rw [h]; exact nI_0) h12
        · exact h
      refine aw_if_eq C (tgt := 34) d_K_takeReading_29 (by decide) (fun h29 => absurd h29 (hx)) (fun h29 => ?_)
      refine aw_iconst C (v := (-1)) d_K_takeReading_32 (by decide) ?_
      refine aw_iret C E (rfl) (by decide) (by decide) d_K_takeReading_33 ?_
      exact ⟨rfl, rfl, rfl⟩
set_option maxRecDepth 100000 in
set_option maxHeartbeats 4000000 in
theorem c_read_ok (l : Launch) (G : aw_G) (ad : aw_Ad) (ce : aw_He) (i : Nat) (c : CarS) (hK : Car ad ce i c) (j : Nat) (hj : j < k_np c) (b : Int32) (h2 : k_st c = 2) (hp : ¬ k_ps c = 0) (hr : k_rd c j = 0) : CT l G M_K_takeReading 1 21 0 0 [.ref (ad (1, i, 0)), .int (nI j), .int b] ad ce (rK (some (.int (if b = k_du c j then 1 else 0))) i (k_read c j b) ad ce) := by
  refine CT.of (by decide) (Nat.le_of_ble_eq_true rfl) ?_
  intro X C I E
  have hK0 := hK
  obtain ⟨hk, hby, hdu, hwo, hrd, hpt, ⟨hn1, hn2⟩, hps⟩ := hK0
  show AW X 4 0 0 ad ce 0 [(0, .ref (ad (1, i, 0))), (1, .int (nI j)), (2, .int b)] []
  refine aw_aload_n C d_K_takeReading_0 rfl (j := 0) rfl ?_
  refine aw_get C F_K hk 10 (by decide) tw_87 rfl d_K_takeReading_1 ?_
  refine aw_iconst C (v := 2) d_K_takeReading_4 (by decide) ?_
  refine aw_icmp_ne C (tgt := 32) d_K_takeReading_5 (by decide) (fun h5 => absurd h5 (fun q => q h2)) (fun h5 => ?_)
  refine aw_aload_n C d_K_takeReading_8 rfl (j := 0) rfl ?_
  refine aw_get C F_K hk 7 (by decide) tw_83 rfl d_K_takeReading_9 ?_
  refine aw_if_eq C (tgt := 32) d_K_takeReading_12 (by decide) (fun h12 => absurd h12 (nI_ne0 (by omega) (by omega))) (fun h12 => ?_)
  refine aw_aload_n C d_K_takeReading_15 rfl (j := 0) rfl ?_
  refine aw_iload_n C d_K_takeReading_16 rfl (j := 1) rfl ?_
  refine aw_callV C I (k := (1, i, 0)) (as := [.int (nI j)]) (rest := []) (c_hasPlace l G ad ce i c hK (nI j)) g_K_51 hk rfl rfl ⟨by decide, by decide⟩ ⟨by decide, by decide⟩ rfl (Nat.le_of_ble_eq_true rfl) d_K_takeReading_17 ?_
  rintro _ _ _ ⟨rfl, rfl, rfl⟩
  show AW X 4 0 0 ad ce 20 [(0, .ref (ad (1, i, 0))), (1, .int (nI j)), (2, .int b)] [.int (bI (decide (0 ≤ (nI j) ∧ (nI j) < nI (k_np c))))]
  refine aw_topi (v' := 1) (by rw [← bI_t ⟨nI_pos' (by omega), nI_lt (by omega) (by omega)⟩]) ?_
  show AW X 4 0 0 ad ce 20 [(0, .ref (ad (1, i, 0))), (1, .int (nI j)), (2, .int b)] [.int 1]
  refine aw_if_eq C (tgt := 32) d_K_takeReading_20 (by decide) (fun h20 => absurd h20 (by decide)) (fun h20 => ?_)
  refine aw_aload_n C d_K_takeReading_23 rfl (j := 0) rfl ?_
  refine aw_get C F_K hk 5 (by decide) tw_79 rfl d_K_takeReading_24 ?_
  refine aw_iload_n C d_K_takeReading_27 rfl (j := 1) rfl ?_
  refine ar_zald C hrd (j := j) (rfl) (by omega) (by omega) d_K_takeReading_28 ?_
  refine aw_if_eq C (tgt := 34) d_K_takeReading_29 (by decide) (fun h29 => ?_) (fun h29 => absurd (hr) h29)
  refine aw_aload_n C d_K_takeReading_34 rfl (j := 0) rfl ?_
  refine aw_get C F_K hk 5 (by decide) tw_79 rfl d_K_takeReading_35 ?_
  refine aw_iload_n C d_K_takeReading_38 rfl (j := 1) rfl ?_
  refine aw_iconst C (v := 1) d_K_takeReading_39 (by decide) ?_
  refine ar_zast C (v := 1) hrd (j := j) (rfl) (by omega) (by omega) rfl d_K_takeReading_40 ?_
  intro ce6 fw6 hrd
  have hk : ce6 (1, i, 0) = some (.inr (1, [.int (k_kd c), .long (k_sr c), .ref (ad (1, i, 1)), .ref (ad (1, i, 2)), .ref (ad (1, i, 3)), .ref (ad (1, i, 4)), .ref (ad (1, i, 5)), .int (nI (k_ps c)), .int (nI (cnt (k_rd c) (k_np c))), .int (k_un c), .int (k_st c), .int (k_la c)])) := (fw6 _ (by simp)).trans hk
  have hby := hby.tr (fw6 _ (by simp))
  have hdu := hdu.tr (fw6 _ (by simp))
  have hwo := hwo.tr (fw6 _ (by simp))
  have hpt := hpt.tr (fw6 _ (by simp))
  refine aw_aload_n C d_K_takeReading_41 rfl (j := 0) rfl ?_
  refine aw_dup C d_K_takeReading_42 rfl ?_
  refine aw_get C F_K hk 8 (by decide) tw_84 rfl d_K_takeReading_43 ?_
  refine aw_iconst C (v := 1) d_K_takeReading_46 (by decide) ?_
  refine aw_iadd C d_K_takeReading_47 ?_
  refine aw_topi (v' := nI (cnt (upd (k_rd c) j 1) (k_np c))) (by rw [cnt_upd hj hr (by decide)]; exact nI_1 _) ?_
  refine ob_put C F_K hk 8 (by decide) tw_84 rfl rfl rfl (Nat.le_of_ble_eq_true rfl) (fs' := [.int (k_kd c), .long (k_sr c), .ref (ad (1, i, 1)), .ref (ad (1, i, 2)), .ref (ad (1, i, 3)), .ref (ad (1, i, 4)), .ref (ad (1, i, 5)), .int (nI (k_ps c)), .int (nI (cnt (upd (k_rd c) j 1) (k_np c))), .int (k_un c), .int (k_st c), .int (k_la c)]) rfl d_K_takeReading_48 ?_
  intro ce7 fw7 hk
  have hby := hby.tr (fw7 _ (by simp))
  have hdu := hdu.tr (fw7 _ (by simp))
  have hwo := hwo.tr (fw7 _ (by simp))
  have hrd := hrd.tr (fw7 _ (by simp))
  have hpt := hpt.tr (fw7 _ (by simp))
  refine aw_iload_n C d_K_takeReading_51 rfl (j := 2) rfl ?_
  refine aw_aload_n C d_K_takeReading_52 rfl (j := 0) rfl ?_
  refine aw_get C F_K hk 3 (by decide) tw_77 rfl d_K_takeReading_53 ?_
  refine aw_iload_n C d_K_takeReading_56 rfl (j := 1) rfl ?_
  refine ar_iald C hdu (j := j) (rfl) (by omega) (by omega) d_K_takeReading_57 ?_
  refine aw_icmp_ne C (tgt := 65) d_K_takeReading_58 (by decide) (fun h58 => ?_) (fun h58 => ?_)
  · refine aw_iconst C (v := 0) d_K_takeReading_65 (by decide) ?_
    refine aw_istore_n C (lv' := [(3, .int 0), (0, .ref (ad (1, i, 0))), (1, .int (nI j)), (2, .int b)]) d_K_takeReading_66 rfl (by decide) rfl ?_
    refine aw_iload_n C d_K_takeReading_67 rfl (j := 0) rfl ?_
    refine aw_if_ne C (tgt := 81) d_K_takeReading_68 (by decide) (fun h68 => absurd h68 (by decide)) (fun h68 => ?_)
    refine aw_aload_n C d_K_takeReading_71 rfl (j := 1) rfl ?_
    refine aw_dup C d_K_takeReading_72 rfl ?_
    refine aw_get C F_K hk 9 (by decide) tw_85 rfl d_K_takeReading_73 ?_
    refine aw_iconst C (v := 1) d_K_takeReading_76 (by decide) ?_
    refine aw_iadd C d_K_takeReading_77 ?_
    refine ob_put C F_K hk 9 (by decide) tw_85 rfl rfl rfl (Nat.le_of_ble_eq_true rfl) (fs' := [.int (k_kd c), .long (k_sr c), .ref (ad (1, i, 1)), .ref (ad (1, i, 2)), .ref (ad (1, i, 3)), .ref (ad (1, i, 4)), .ref (ad (1, i, 5)), .int (nI (k_ps c)), .int (nI (cnt (upd (k_rd c) j 1) (k_np c))), .int ((k_un c) + 1), .int (k_st c), .int (k_la c)]) rfl d_K_takeReading_78 ?_
    intro ce8 fw8 hk
    have hby := hby.tr (fw8 _ (by simp))
    have hdu := hdu.tr (fw8 _ (by simp))
    have hwo := hwo.tr (fw8 _ (by simp))
    have hrd := hrd.tr (fw8 _ (by simp))
    have hpt := hpt.tr (fw8 _ (by simp))
    refine aw_aload_n C d_K_takeReading_81 rfl (j := 1) rfl ?_
    refine aw_get C F_K hk 8 (by decide) tw_84 rfl d_K_takeReading_82 ?_
    refine aw_aload_n C d_K_takeReading_85 rfl (j := 1) rfl ?_
    refine aw_get C F_K hk 2 (by decide) tw_75 rfl d_K_takeReading_86 ?_
    refine ar_len C hby (tt := .int) rfl d_K_takeReading_89 ?_
    refine aw_icmp_ne C (tgt := 105) d_K_takeReading_90 (by decide) (fun h90 => ?_) (fun h90 => ?_)
    · refine aw_iload_n C d_K_takeReading_105 rfl (j := 0) rfl ?_
      refine aw_if_eq C (tgt := 113) d_K_takeReading_106 (by decide) (fun h106 => ?_) (fun h106 => absurd (rfl) h106)
      refine aw_iconst C (v := 0) d_K_takeReading_113 (by decide) ?_
      refine aw_iret C E (rfl) (by decide) (by decide) d_K_takeReading_114 ?_
      have e5 : k_rdU c j b = k_un c + 1 := by simp [k_rdU, h58]
      have e6 : k_st c = k_st (k_read c j b) := (if_neg (fun q => h90 (by rw [q.1]))).symm
      exact ⟨sI (by simp [h58]), rfl, ((fr1 fw6).trans (fr1 fw7)).trans (fr1 fw8), Car.of hk rfl rfl rfl rfl e5.symm e6 rfl hby hdu hwo hrd hpt ⟨hn1, hn2⟩ hps⟩
    · refine aw_aload_n C d_K_takeReading_93 rfl (j := 1) rfl ?_
      refine aw_get C F_K hk 9 (by decide) tw_85 rfl d_K_takeReading_94 ?_
      refine aw_if_ne C (tgt := 105) d_K_takeReading_97 (by decide) (fun h97 => ?_) (fun h97 => ?_)
      · refine aw_iload_n C d_K_takeReading_105 rfl (j := 0) rfl ?_
        refine aw_if_eq C (tgt := 113) d_K_takeReading_106 (by decide) (fun h106 => ?_) (fun h106 => absurd (rfl) h106)
        refine aw_iconst C (v := 0) d_K_takeReading_113 (by decide) ?_
        refine aw_iret C E (rfl) (by decide) (by decide) d_K_takeReading_114 ?_
        have e5 : k_rdU c j b = k_un c + 1 := by simp [k_rdU, h58]
        have e6 : k_st c = k_st (k_read c j b) := (if_neg (fun q => h97 (by rw [← e5]; exact q.2))).symm
        exact ⟨sI (by simp [h58]), rfl, ((fr1 fw6).trans (fr1 fw7)).trans (fr1 fw8), Car.of hk rfl rfl rfl rfl e5.symm e6 rfl hby hdu hwo hrd hpt ⟨hn1, hn2⟩ hps⟩
      · refine aw_aload_n C d_K_takeReading_100 rfl (j := 1) rfl ?_
        refine aw_iconst C (v := 3) d_K_takeReading_101 (by decide) ?_
        refine ob_put C F_K hk 10 (by decide) tw_87 rfl rfl rfl (Nat.le_of_ble_eq_true rfl) (fs' := [.int (k_kd c), .long (k_sr c), .ref (ad (1, i, 1)), .ref (ad (1, i, 2)), .ref (ad (1, i, 3)), .ref (ad (1, i, 4)), .ref (ad (1, i, 5)), .int (nI (k_ps c)), .int (nI (cnt (upd (k_rd c) j 1) (k_np c))), .int ((k_un c) + 1), .int 3, .int (k_la c)]) rfl d_K_takeReading_102 ?_
        intro ce9 fw9 hk
        have hby := hby.tr (fw9 _ (by simp))
        have hdu := hdu.tr (fw9 _ (by simp))
        have hwo := hwo.tr (fw9 _ (by simp))
        have hrd := hrd.tr (fw9 _ (by simp))
        have hpt := hpt.tr (fw9 _ (by simp))
        refine aw_iload_n C d_K_takeReading_105 rfl (j := 0) rfl ?_
        refine aw_if_eq C (tgt := 113) d_K_takeReading_106 (by decide) (fun h106 => ?_) (fun h106 => absurd (rfl) h106)
        refine aw_iconst C (v := 0) d_K_takeReading_113 (by decide) ?_
        refine aw_iret C E (rfl) (by decide) (by decide) d_K_takeReading_114 ?_
        have e5 : k_rdU c j b = k_un c + 1 := by simp [k_rdU, h58]
        have hc := cnt_le (upd (k_rd c) j 1) (k_np c)
        have e6 : (3 : Int32) = k_st (k_read c j b) := (if_pos ⟨(nI_eq (by omega) (by omega)).mp h90, by rw [e5]; exact h97⟩).symm
        exact ⟨sI (by simp [h58]), rfl, (((fr1 fw6).trans (fr1 fw7)).trans (fr1 fw8)).trans (fr1 fw9), Car.of hk rfl rfl rfl rfl e5.symm e6 rfl hby hdu hwo hrd hpt ⟨hn1, hn2⟩ hps⟩
  · refine aw_iconst C (v := 1) d_K_takeReading_61 (by decide) ?_
    refine aw_goto C (tgt := 66) d_K_takeReading_62 (by decide) ?_
    refine aw_istore_n C (lv' := [(3, .int 1), (0, .ref (ad (1, i, 0))), (1, .int (nI j)), (2, .int b)]) d_K_takeReading_66 rfl (by decide) rfl ?_
    refine aw_iload_n C d_K_takeReading_67 rfl (j := 0) rfl ?_
    refine aw_if_ne C (tgt := 81) d_K_takeReading_68 (by decide) (fun h68 => ?_) (fun h68 => absurd h68 (by decide))
    refine aw_aload_n C d_K_takeReading_81 rfl (j := 1) rfl ?_
    refine aw_get C F_K hk 8 (by decide) tw_84 rfl d_K_takeReading_82 ?_
    refine aw_aload_n C d_K_takeReading_85 rfl (j := 1) rfl ?_
    refine aw_get C F_K hk 2 (by decide) tw_75 rfl d_K_takeReading_86 ?_
    refine ar_len C hby (tt := .int) rfl d_K_takeReading_89 ?_
    refine aw_icmp_ne C (tgt := 105) d_K_takeReading_90 (by decide) (fun h90 => ?_) (fun h90 => ?_)
    · refine aw_iload_n C d_K_takeReading_105 rfl (j := 0) rfl ?_
      refine aw_if_eq C (tgt := 113) d_K_takeReading_106 (by decide) (fun h106 => absurd h106 (by decide)) (fun h106 => ?_)
      refine aw_iconst C (v := 1) d_K_takeReading_109 (by decide) ?_
      refine aw_goto C (tgt := 114) d_K_takeReading_110 (by decide) ?_
      refine aw_iret C E (rfl) (by decide) (by decide) d_K_takeReading_114 ?_
      have e5 : k_rdU c j b = k_un c := by simp [k_rdU, h58]
      have e6 : k_st c = k_st (k_read c j b) := (if_neg (fun q => h90 (by rw [q.1]))).symm
      exact ⟨sI (by simp [h58]), rfl, (fr1 fw6).trans (fr1 fw7), Car.of hk rfl rfl rfl rfl e5.symm e6 rfl hby hdu hwo hrd hpt ⟨hn1, hn2⟩ hps⟩
    · refine aw_aload_n C d_K_takeReading_93 rfl (j := 1) rfl ?_
      refine aw_get C F_K hk 9 (by decide) tw_85 rfl d_K_takeReading_94 ?_
      refine aw_if_ne C (tgt := 105) d_K_takeReading_97 (by decide) (fun h97 => ?_) (fun h97 => ?_)
      · refine aw_iload_n C d_K_takeReading_105 rfl (j := 0) rfl ?_
        refine aw_if_eq C (tgt := 113) d_K_takeReading_106 (by decide) (fun h106 => absurd h106 (by decide)) (fun h106 => ?_)
        refine aw_iconst C (v := 1) d_K_takeReading_109 (by decide) ?_
        refine aw_goto C (tgt := 114) d_K_takeReading_110 (by decide) ?_
        refine aw_iret C E (rfl) (by decide) (by decide) d_K_takeReading_114 ?_
        have e5 : k_rdU c j b = k_un c := by simp [k_rdU, h58]
        have e6 : k_st c = k_st (k_read c j b) := (if_neg (fun q => h97 (by rw [← e5]; exact q.2))).symm
        exact ⟨sI (by simp [h58]), rfl, (fr1 fw6).trans (fr1 fw7), Car.of hk rfl rfl rfl rfl e5.symm e6 rfl hby hdu hwo hrd hpt ⟨hn1, hn2⟩ hps⟩
      · refine aw_aload_n C d_K_takeReading_100 rfl (j := 1) rfl ?_
        refine aw_iconst C (v := 3) d_K_takeReading_101 (by decide) ?_
        refine ob_put C F_K hk 10 (by decide) tw_87 rfl rfl rfl (Nat.le_of_ble_eq_true rfl) (fs' := [.int (k_kd c), .long (k_sr c), .ref (ad (1, i, 1)), .ref (ad (1, i, 2)), .ref (ad (1, i, 3)), .ref (ad (1, i, 4)), .ref (ad (1, i, 5)), .int (nI (k_ps c)), .int (nI (cnt (upd (k_rd c) j 1) (k_np c))), .int (k_un c), .int 3, .int (k_la c)]) rfl d_K_takeReading_102 ?_
        intro ce10 fw10 hk
        have hby := hby.tr (fw10 _ (by simp))
        have hdu := hdu.tr (fw10 _ (by simp))
        have hwo := hwo.tr (fw10 _ (by simp))
        have hrd := hrd.tr (fw10 _ (by simp))
        have hpt := hpt.tr (fw10 _ (by simp))
        refine aw_iload_n C d_K_takeReading_105 rfl (j := 0) rfl ?_
        refine aw_if_eq C (tgt := 113) d_K_takeReading_106 (by decide) (fun h106 => absurd h106 (by decide)) (fun h106 => ?_)
        refine aw_iconst C (v := 1) d_K_takeReading_109 (by decide) ?_
        refine aw_goto C (tgt := 114) d_K_takeReading_110 (by decide) ?_
        refine aw_iret C E (rfl) (by decide) (by decide) d_K_takeReading_114 ?_
        have e5 : k_rdU c j b = k_un c := by simp [k_rdU, h58]
        have hc := cnt_le (upd (k_rd c) j 1) (k_np c)
        have e6 : (3 : Int32) = k_st (k_read c j b) := (if_pos ⟨(nI_eq (by omega) (by omega)).mp h90, by rw [e5]; exact h97⟩).symm
        exact ⟨sI (by simp [h58]), rfl, ((fr1 fw6).trans (fr1 fw7)).trans (fr1 fw10), Car.of hk rfl rfl rfl rfl e5.symm e6 rfl hby hdu hwo hrd hpt ⟨hn1, hn2⟩ hps⟩
