def allF (f : Nat → Int32) : Nat → Nat → Bool
  | 0, _ => true
  | m + 1, a => decide (¬ f a = 0) && allF f m (a + 1)
theorem allF_iff {f : Nat → Int32} : ∀ (m a : Nat), allF f m a = true ↔ ∀ k, a ≤ k → k < a + m → ¬ f k = 0 := by
  intro m
  induction m with
  | zero => intro a; simp only [allF, true_iff]; intro k h1 h2; omega
  | succ m ih =>
    intro a
    simp only [allF, Bool.and_eq_true, decide_eq_true_eq, ih (a + 1)]
    constructor
    · rintro ⟨h1, h2⟩ k h3 h4
      by_cases e : k = a
      · subst e; exact h1
      · exact h2 k (by omega) (by omega)
    · intro h
      exact ⟨h a (Nat.le_refl a) (by omega), fun k h1 h2 => h k (by omega) (by omega)⟩
set_option maxRecDepth 100000 in
set_option maxHeartbeats 4000000 in
theorem R_read (l : Launch) (G : aw_G) (ad : aw_Ad) (ce : aw_He) (S : SysS) (hS : LayR S ad ce) (x y b : Int32) : CT l G M_R_read 2 43 0 0 [.ref (ad (3, 0, 0)), .int x, .int y, .int b] ad ce (rR (some (.int (f_read S x y b).1)) (f_read S x y b).2 ad ce) := by
  refine CT.of (by decide) (Nat.le_of_ble_eq_true rfl) ?_
  intro X C I E
  obtain ⟨kd, sr, np, st, la, gby, gdu, gwo, grd, un, ps, gpt, gff, gfc, hR, hE, hW⟩ := hS
  have hE0 := hE
  obtain ⟨hE1, hE2, hE3, hE4, hE5, hE6, hE7⟩ := hE0
  have hW0 := hW
  obtain ⟨⟨hb1, hb2, hb3, hb4⟩, hW2, hW3⟩ := hW0
  have hR0 := hR
  obtain ⟨r0, r1, r2, r3, r4, r5, r6, r7, r8, r9, r10, r11, r12, r14, r15, r17, r19⟩ := hR0
  rcases ix_cases x (n := s_cn S) (by omega) with hx | ⟨j, hj, rfl⟩
  · skip
    show AW X 7 0 0 ad ce 0 [(0, .ref (ad (3, 0, 0))), (1, .int x), (2, .int y), (3, .int b)] []
    refine aw_aload_n C d_R_read_0 rfl (j := 0) rfl ?_
    refine aw_iload_n C d_R_read_1 rfl (j := 1) rfl ?_
    refine aw_iload_n C d_R_read_2 rfl (j := 2) rfl ?_
    refine aw_callV C I (k := (3, 0, 0)) (as := [.int x, .int y]) (rest := []) (r_isPlace_out l G ad ce (s_cn S) (s_pn S) (s_ln S) (s_on S) kd sr np st la gby gdu gwo grd un ps gpt gff gfc (s_li S) (s_lo S) hR x y hx) g_R_92 r0 rfl rfl ⟨by decide, by decide⟩ ⟨by decide, by decide⟩ rfl (Nat.le_of_ble_eq_true rfl) d_R_read_3 ?_
    rintro _ _ _ ⟨rfl, rfl, rfl⟩
    show AW X 7 0 0 ad ce 6 [(0, .ref (ad (3, 0, 0))), (1, .int x), (2, .int y), (3, .int b)] [.int 0]
    refine aw_if_eq C (tgt := 54) d_R_read_6 (by decide) (fun h6 => ?_) (fun h6 => absurd (rfl) h6)
    refine aw_iconst C (v := (-1)) d_R_read_54 (by decide) ?_
    refine aw_iret C E (rfl) (by decide) (by decide) d_R_read_55 ?_
    rw [show f_read S x y b = (-1, S) from by simp only [f_read, ix_out hx]]
    exact ⟨rfl, rfl, frR.rf, ⟨kd, sr, np, st, la, gby, gdu, gwo, grd, un, ps, gpt, gff, gfc, hR, hE, hW⟩⟩
  · skip
    obtain ⟨e_kd, e_sr, e_np, e_st, e_la, e_un, e_ps⟩ := hE1 j (by omega)
    obtain ⟨⟨hn1, hn2⟩, hps⟩ := hW2 j hj
    rcases ix_cases y (n := k_np (s_car S j)) (by omega) with hy | ⟨p, hp0, rfl⟩
    · skip
      show AW X 7 0 0 ad ce 0 [(0, .ref (ad (3, 0, 0))), (1, .int (nI j)), (2, .int y), (3, .int b)] []
      refine aw_aload_n C d_R_read_0 rfl (j := 0) rfl ?_
      refine aw_iload_n C d_R_read_1 rfl (j := 1) rfl ?_
      refine aw_iload_n C d_R_read_2 rfl (j := 2) rfl ?_
      refine aw_callV C I (k := (3, 0, 0)) (as := [.int (nI j), .int y]) (rest := []) (r_isPlace l G ad ce (s_cn S) (s_pn S) (s_ln S) (s_on S) kd sr np st la gby gdu gwo grd un ps gpt gff gfc (s_li S) (s_lo S) hR j _ hj hb1 e_np y) g_R_92 r0 rfl rfl ⟨by decide, by decide⟩ ⟨by decide, by decide⟩ rfl (Nat.le_of_ble_eq_true rfl) d_R_read_3 ?_
      rintro _ _ _ ⟨rfl, rfl, rfl⟩
      show AW X 7 0 0 ad ce 6 [(0, .ref (ad (3, 0, 0))), (1, .int (nI j)), (2, .int y), (3, .int b)] [.int (bI (decide (0 ≤ y ∧ y < nI (k_np (s_car S j)))))]
      refine aw_topi (v' := 0) ((bI_f (by (try simp only [Int32.le_iff_toInt_le, Int32.lt_iff_toInt_lt] at hy ⊢); omega)).symm) ?_
      show AW X 7 0 0 ad ce 6 [(0, .ref (ad (3, 0, 0))), (1, .int (nI j)), (2, .int y), (3, .int b)] [.int 0]
      refine aw_if_eq C (tgt := 54) d_R_read_6 (by decide) (fun h6 => ?_) (fun h6 => absurd (rfl) h6)
      refine aw_iconst C (v := (-1)) d_R_read_54 (by decide) ?_
      refine aw_iret C E (rfl) (by decide) (by decide) d_R_read_55 ?_
      rw [show f_read S (nI j) y b = (-1, S) from by simp only [f_read, ix_in hj (show s_cn S < 2 ^ 31 by omega), ix_out hy]]
      exact ⟨rfl, rfl, frR.rf, ⟨kd, sr, np, st, la, gby, gdu, gwo, grd, un, ps, gpt, gff, gfc, hR, hE, hW⟩⟩
    by_cases hc : (0 ≤ b ∧ b ≤ 255) ∧ k_st (s_car S j) = 2 ∧ ¬ k_ps (s_car S j) = 0 ∧ k_rd (s_car S j) p = 0
    · skip
      have hrdn : ∀ k, k < k_np (s_car S j) → upd grd (64 * j + p) 1 (64 * j + k) = upd (k_rd (s_car S j)) p 1 k := by
        intro k hk
        by_cases e : k = p
        · subst e; simp [upd]
        · rw [updn (by omega), updn e]; exact (hE2 j k hj hk).2.2.2
      show AW X 7 0 0 ad ce 0 [(0, .ref (ad (3, 0, 0))), (1, .int (nI j)), (2, .int (nI p)), (3, .int b)] []
      refine aw_aload_n C d_R_read_0 rfl (j := 0) rfl ?_
      refine aw_iload_n C d_R_read_1 rfl (j := 1) rfl ?_
      refine aw_iload_n C d_R_read_2 rfl (j := 2) rfl ?_
      refine aw_callV C I (k := (3, 0, 0)) (as := [.int (nI j), .int (nI p)]) (rest := []) (r_isPlace l G ad ce (s_cn S) (s_pn S) (s_ln S) (s_on S) kd sr np st la gby gdu gwo grd un ps gpt gff gfc (s_li S) (s_lo S) hR j _ hj hb1 e_np (nI p)) g_R_92 r0 rfl rfl ⟨by decide, by decide⟩ ⟨by decide, by decide⟩ rfl (Nat.le_of_ble_eq_true rfl) d_R_read_3 ?_
      rintro _ _ _ ⟨rfl, rfl, rfl⟩
      show AW X 7 0 0 ad ce 6 [(0, .ref (ad (3, 0, 0))), (1, .int (nI j)), (2, .int (nI p)), (3, .int b)] [.int (bI (decide (0 ≤ nI p ∧ nI p < nI (k_np (s_car S j)))))]
      refine aw_topi (v' := 1) ((bI_t ⟨nI_pos' (by omega), nI_lt (by omega) (by omega)⟩).symm) ?_
      show AW X 7 0 0 ad ce 6 [(0, .ref (ad (3, 0, 0))), (1, .int (nI j)), (2, .int (nI p)), (3, .int b)] [.int 1]
      refine aw_if_eq C (tgt := 54) d_R_read_6 (by decide) (fun h6 => absurd h6 (by decide)) (fun h6 => ?_)
      refine aw_iload_n C d_R_read_9 rfl (j := 3) rfl ?_
      refine aw_i2l C d_R_read_10 ?_
      refine aw_lconst C (v := 0) d_R_read_11 (by decide) ?_
      refine aw_ldc2 C tw_427 d_R_read_12 ?_
      refine aw_callS C I (as := [.long (Int32.toInt64 b), .long 0, .long 255]) (rest := []) (r_isIn l G ad ce (Int32.toInt64 b) 0 255) g_R_70 ⟨by decide, by decide⟩ ⟨by decide, by decide⟩ rfl (Nat.le_of_ble_eq_true rfl) d_R_read_15 ?_
      rintro _ _ _ ⟨rfl, rfl, rfl⟩
      show AW X 7 0 0 ad ce 18 [(0, .ref (ad (3, 0, 0))), (1, .int (nI j)), (2, .int (nI p)), (3, .int b)] [.int (bI (decide (0 ≤ Int32.toInt64 b ∧ Int32.toInt64 b ≤ 255)))]
      refine aw_topi (v' := 1) ((bI_t ((in32 rfl rfl).mpr hc.1)).symm) ?_
      show AW X 7 0 0 ad ce 18 [(0, .ref (ad (3, 0, 0))), (1, .int (nI j)), (2, .int (nI p)), (3, .int b)] [.int 1]
      refine aw_if_eq C (tgt := 54) d_R_read_18 (by decide) (fun h18 => absurd h18 (by decide)) (fun h18 => ?_)
      refine aw_aload_n C d_R_read_21 rfl (j := 0) rfl ?_
      refine aw_get C F_R r0 4 (by decide) tw_303 rfl d_R_read_22 ?_
      refine aw_iload_n C d_R_read_25 rfl (j := 1) rfl ?_
      refine ar_iald C r4 (j := j) (rfl) (by omega) (by omega) d_R_read_26 ?_
      refine aw_topi (v' := k_st (s_car S j)) (e_st) ?_
      refine aw_iconst C (v := 2) d_R_read_27 (by decide) ?_
      refine aw_icmp_ne C (tgt := 54) d_R_read_28 (by decide) (fun h28 => absurd h28 (fun q => q hc.2.1)) (fun h28 => ?_)
      refine aw_aload_n C d_R_read_31 rfl (j := 0) rfl ?_
      refine aw_get C F_R r0 11 (by decide) tw_310 rfl d_R_read_32 ?_
      refine aw_iload_n C d_R_read_35 rfl (j := 1) rfl ?_
      refine ar_iald C r11 (j := j) (rfl) (by omega) (by omega) d_R_read_36 ?_
      refine aw_topi (v' := nI (k_ps (s_car S j))) (e_ps) ?_
      refine aw_if_eq C (tgt := 54) d_R_read_37 (by decide) (fun h37 => absurd h37 (nI_ne0 (by have := hc.2.2.1; omega) (by omega))) (fun h37 => ?_)
      refine aw_aload_n C d_R_read_40 rfl (j := 0) rfl ?_
      refine aw_get C F_R r0 9 (by decide) tw_308 rfl d_R_read_41 ?_
      refine aw_bipush C (v := 64) d_R_read_44 (by decide) ?_
      refine aw_iload_n C d_R_read_46 rfl (j := 1) rfl ?_
      refine aw_imul C d_R_read_47 ?_
      refine aw_iload_n C d_R_read_48 rfl (j := 2) rfl ?_
      refine aw_iadd C d_R_read_49 ?_
      refine aw_topi (v' := nI (64 * j + p)) (k64 _ _) ?_
      refine ar_zald C r9 (j := (64 * j + p)) (rfl) (by omega) (by omega) d_R_read_50 ?_
      refine aw_topi (v' := k_rd (s_car S j) p) ((hE2 j p hj hp0).2.2.2) ?_
      refine aw_if_eq C (tgt := 56) d_R_read_51 (by decide) (fun h51 => ?_) (fun h51 => absurd (hc.2.2.2) h51)
      refine aw_aload_n C d_R_read_56 rfl (j := 0) rfl ?_
      refine aw_get C F_R r0 9 (by decide) tw_308 rfl d_R_read_57 ?_
      refine aw_bipush C (v := 64) d_R_read_60 (by decide) ?_
      refine aw_iload_n C d_R_read_62 rfl (j := 1) rfl ?_
      refine aw_imul C d_R_read_63 ?_
      refine aw_iload_n C d_R_read_64 rfl (j := 2) rfl ?_
      refine aw_iadd C d_R_read_65 ?_
      refine aw_topi (v' := nI (64 * j + p)) (k64 _ _) ?_
      refine aw_iconst C (v := 1) d_R_read_66 (by decide) ?_
      refine ar_zast C (v := 1) r9 (j := (64 * j + p)) (rfl) (by omega) (by omega) rfl d_R_read_67 ?_
      intro ce25 fw25 r9
      have r0 : ce25 (3, 0, 0) = some (.inr (3, [.int (nI (s_cn S)), .ref (ad (3, 0, 1)), .ref (ad (3, 0, 2)), .ref (ad (3, 0, 3)), .ref (ad (3, 0, 4)), .ref (ad (3, 0, 5)), .ref (ad (3, 0, 6)), .ref (ad (3, 0, 7)), .ref (ad (3, 0, 8)), .ref (ad (3, 0, 9)), .ref (ad (3, 0, 10)), .ref (ad (3, 0, 11)), .ref (ad (3, 0, 12)), .int (nI (s_pn S)), .ref (ad (3, 0, 14)), .ref (ad (3, 0, 15)), .int (nI (s_ln S)), .ref (ad (3, 0, 17)), .int (nI (s_on S)), .ref (ad (3, 0, 19))])) := (fw25 _ (by simp)).trans r0
      have r1 := r1.tr (fw25 _ (by simp))
      have r2 := r2.tr (fw25 _ (by simp))
      have r3 := r3.tr (fw25 _ (by simp))
      have r4 := r4.tr (fw25 _ (by simp))
      have r5 := r5.tr (fw25 _ (by simp))
      have r6 := r6.tr (fw25 _ (by simp))
      have r7 := r7.tr (fw25 _ (by simp))
      have r8 := r8.tr (fw25 _ (by simp))
      have r10 := r10.tr (fw25 _ (by simp))
      have r11 := r11.tr (fw25 _ (by simp))
      have r12 := r12.tr (fw25 _ (by simp))
      have r14 := r14.tr (fw25 _ (by simp))
      have r15 := r15.tr (fw25 _ (by simp))
      have r17 := r17.tr (fw25 _ (by simp))
      have r19 := r19.tr (fw25 _ (by simp))
      refine aw_iload_n C d_R_read_68 rfl (j := 3) rfl ?_
      refine aw_aload_n C d_R_read_69 rfl (j := 0) rfl ?_
      refine aw_get C F_R r0 7 (by decide) tw_306 rfl d_R_read_70 ?_
      refine aw_bipush C (v := 64) d_R_read_73 (by decide) ?_
      refine aw_iload_n C d_R_read_75 rfl (j := 1) rfl ?_
      refine aw_imul C d_R_read_76 ?_
      refine aw_iload_n C d_R_read_77 rfl (j := 2) rfl ?_
      refine aw_iadd C d_R_read_78 ?_
      refine aw_topi (v' := nI (64 * j + p)) (k64 _ _) ?_
      refine ar_iald C r7 (j := (64 * j + p)) (rfl) (by omega) (by omega) d_R_read_79 ?_
      refine aw_topi (v' := k_du (s_car S j) p) ((hE2 j p hj hp0).2.1) ?_
      refine aw_icmp_ne C (tgt := 87) d_R_read_80 (by decide) (fun h80 => ?_) (fun h80 => ?_)
      · refine aw_iconst C (v := 0) d_R_read_87 (by decide) ?_
        refine aw_istore C (lv' := [(4, .int 0), (0, .ref (ad (3, 0, 0))), (1, .int (nI j)), (2, .int (nI p)), (3, .int b)]) d_R_read_88 (by decide) rfl ?_
        refine aw_aload_n C d_R_read_90 rfl (j := 1) rfl ?_
        refine aw_get C F_R r0 10 (by decide) tw_309 rfl d_R_read_91 ?_
        refine aw_iload_n C d_R_read_94 rfl (j := 2) rfl ?_
        refine aw_dup2_11 C d_R_read_95 rfl rfl ?_
        refine ar_iald C r10 (j := j) (rfl) (by omega) (by omega) d_R_read_96 ?_
        refine aw_topi (v' := k_un (s_car S j)) (e_un) ?_
        refine aw_iload C d_R_read_97 (j := 0) rfl ?_
        refine aw_if_eq C (tgt := 106) d_R_read_99 (by decide) (fun h99 => ?_) (fun h99 => absurd (rfl) h99)
        refine aw_iconst C (v := 1) d_R_read_106 (by decide) ?_
        refine aw_iadd C d_R_read_107 ?_
        refine aw_topi (v' := k_rdU (s_car S j) p b) (by simp [k_rdU, h80]) ?_
        refine ar_iast C r10 (j := j) (rfl) (by omega) (by omega) d_R_read_108 ?_
        intro ce26 fw26 r10
        have r0 : ce26 (3, 0, 0) = some (.inr (3, [.int (nI (s_cn S)), .ref (ad (3, 0, 1)), .ref (ad (3, 0, 2)), .ref (ad (3, 0, 3)), .ref (ad (3, 0, 4)), .ref (ad (3, 0, 5)), .ref (ad (3, 0, 6)), .ref (ad (3, 0, 7)), .ref (ad (3, 0, 8)), .ref (ad (3, 0, 9)), .ref (ad (3, 0, 10)), .ref (ad (3, 0, 11)), .ref (ad (3, 0, 12)), .int (nI (s_pn S)), .ref (ad (3, 0, 14)), .ref (ad (3, 0, 15)), .int (nI (s_ln S)), .ref (ad (3, 0, 17)), .int (nI (s_on S)), .ref (ad (3, 0, 19))])) := (fw26 _ (by simp)).trans r0
        have r1 := r1.tr (fw26 _ (by simp))
        have r2 := r2.tr (fw26 _ (by simp))
        have r3 := r3.tr (fw26 _ (by simp))
        have r4 := r4.tr (fw26 _ (by simp))
        have r5 := r5.tr (fw26 _ (by simp))
        have r6 := r6.tr (fw26 _ (by simp))
        have r7 := r7.tr (fw26 _ (by simp))
        have r8 := r8.tr (fw26 _ (by simp))
        have r9 := r9.tr (fw26 _ (by simp))
        have r11 := r11.tr (fw26 _ (by simp))
        have r12 := r12.tr (fw26 _ (by simp))
        have r14 := r14.tr (fw26 _ (by simp))
        have r15 := r15.tr (fw26 _ (by simp))
        have r17 := r17.tr (fw26 _ (by simp))
        have r19 := r19.tr (fw26 _ (by simp))
        refine aw_aload_n C d_R_read_109 rfl (j := 1) rfl ?_
        refine aw_get C F_R r0 10 (by decide) tw_309 rfl d_R_read_110 ?_
        refine aw_iload_n C d_R_read_113 rfl (j := 2) rfl ?_
        refine ar_iald C r10 (j := j) (rfl) (by omega) (by omega) d_R_read_114 ?_
        refine aw_topi (v' := k_rdU (s_car S j) p b) (by simp [upd]) ?_
        refine aw_if_ne C (tgt := 122) d_R_read_115 (by decide) (fun h115 => ?_) (fun h115 => ?_)
        · refine aw_iconst C (v := 0) d_R_read_122 (by decide) ?_
          refine aw_istore C (lv' := [(5, .int 0), (4, .int 0), (0, .ref (ad (3, 0, 0))), (1, .int (nI j)), (2, .int (nI p)), (3, .int b)]) d_R_read_123 (by decide) rfl ?_
          refine aw_iconst C (v := 0) d_R_read_125 (by decide) ?_
          refine aw_istore C (lv' := [(6, .int 0), (5, .int 0), (4, .int 0), (0, .ref (ad (3, 0, 0))), (1, .int (nI j)), (2, .int (nI p)), (3, .int b)]) d_R_read_126 (by decide) rfl ?_
          have loop : ∀ (m a : Nat) (h : Bool), a + m = k_np (s_car S j) → (h && allF (upd (k_rd (s_car S j)) p 1) m a) = (decide (k_rdU (s_car S j) p b = 0) && allF (upd (k_rd (s_car S j)) p 1) (k_np (s_car S j)) 0) → AW X 7 0 0 ad ce26 128 [(6, .int (nI a)), (5, .int (bI h)), (4, .int 0), (0, .ref (ad (3, 0, 0))), (1, .int (nI j)), (2, .int (nI p)), (3, .int b)] [] := by
            intro m
            induction m with
            | zero =>
              intro a h ha hr
              refine aw_iload C d_R_read_128 (j := 0) rfl ?_
              refine aw_aload_n C d_R_read_130 rfl (j := 3) rfl ?_
              refine aw_get C F_R r0 3 (by decide) tw_302 rfl d_R_read_131 ?_
              refine aw_iload_n C d_R_read_134 rfl (j := 4) rfl ?_
              refine ar_iald C r3 (j := j) (rfl) (by omega) (by omega) d_R_read_135 ?_
              refine aw_topi (v' := nI (k_np (s_car S j))) (e_np) ?_
              refine aw_icmp_ge C (tgt := 172) d_R_read_136 (by decide) (fun h136 => ?_) (fun h136 => absurd (nI_le (by omega) (by omega)) h136)
              refine aw_aload_n C d_R_read_172 rfl (j := 3) rfl ?_
              refine aw_get C F_R r0 4 (by decide) tw_303 rfl d_R_read_173 ?_
              refine aw_iload_n C d_R_read_176 rfl (j := 4) rfl ?_
              refine aw_iload C d_R_read_177 (j := 1) rfl ?_
              refine aw_if_eq C (tgt := 186) d_R_read_179 (by decide) (fun h179 => ?_) (fun h179 => ?_)
              · refine aw_iconst C (v := 2) d_R_read_186 (by decide) ?_
                refine ar_iast C r4 (j := j) (rfl) (by omega) (by omega) d_R_read_187 ?_
                intro ce27 fw27 r4
                have r0 : ce27 (3, 0, 0) = some (.inr (3, [.int (nI (s_cn S)), .ref (ad (3, 0, 1)), .ref (ad (3, 0, 2)), .ref (ad (3, 0, 3)), .ref (ad (3, 0, 4)), .ref (ad (3, 0, 5)), .ref (ad (3, 0, 6)), .ref (ad (3, 0, 7)), .ref (ad (3, 0, 8)), .ref (ad (3, 0, 9)), .ref (ad (3, 0, 10)), .ref (ad (3, 0, 11)), .ref (ad (3, 0, 12)), .int (nI (s_pn S)), .ref (ad (3, 0, 14)), .ref (ad (3, 0, 15)), .int (nI (s_ln S)), .ref (ad (3, 0, 17)), .int (nI (s_on S)), .ref (ad (3, 0, 19))])) := (fw27 _ (by simp)).trans r0
                have r1 := r1.tr (fw27 _ (by simp))
                have r2 := r2.tr (fw27 _ (by simp))
                have r3 := r3.tr (fw27 _ (by simp))
                have r5 := r5.tr (fw27 _ (by simp))
                have r6 := r6.tr (fw27 _ (by simp))
                have r7 := r7.tr (fw27 _ (by simp))
                have r8 := r8.tr (fw27 _ (by simp))
                have r9 := r9.tr (fw27 _ (by simp))
                have r10 := r10.tr (fw27 _ (by simp))
                have r11 := r11.tr (fw27 _ (by simp))
                have r12 := r12.tr (fw27 _ (by simp))
                have r14 := r14.tr (fw27 _ (by simp))
                have r15 := r15.tr (fw27 _ (by simp))
                have r17 := r17.tr (fw27 _ (by simp))
                have r19 := r19.tr (fw27 _ (by simp))
                refine aw_iload C d_R_read_188 (j := 2) rfl ?_
                refine aw_if_eq C (tgt := 197) d_R_read_190 (by decide) (fun h190 => ?_) (fun h190 => absurd (rfl) h190)
                refine aw_iconst C (v := 0) d_R_read_197 (by decide) ?_
                refine aw_iret C E (rfl) (by decide) (by decide) d_R_read_198 ?_
                rw [bI_eq] at h179
                have hall : h = true ↔ (cnt (upd (k_rd (s_car S j)) p 1) (k_np (s_car S j)) = k_np (s_car S j) ∧ k_rdU (s_car S j) p b = 0) := by
                  rw [show h = (decide (k_rdU (s_car S j) p b = 0) && allF (upd (k_rd (s_car S j)) p 1) (k_np (s_car S j)) 0) from by rw [← hr]; simp [allF]]
                  rw [Bool.and_eq_true, decide_eq_true_eq, allF_iff, cnt_full]
                  constructor
                  · rintro ⟨q1, q2⟩; exact ⟨fun k hk => q2 k (Nat.zero_le k) (by omega), q1⟩
                  · rintro ⟨q1, q2⟩; exact ⟨q2, fun k _ hk => q1 k (by omega)⟩
                have e6 : (2 : Int32) = k_st (k_read (s_car S j) p b) := by
                  rw [← hc.2.1]
                  exact (if_neg (fun q => absurd (hall.mpr q) (by rw [h179]; decide))).symm
                rw [show f_read S (nI j) (nI p) b = ((if b = k_du (s_car S j) p then 1 else 0), s_set S j (k_read (s_car S j) p b)) from by simp only [f_read, ix_in hj (show s_cn S < 2 ^ 31 by omega), ix_in hp0 (show k_np (s_car S j) < 2 ^ 31 by omega), if_pos hc]]
                exact ⟨sI (by simp [h80]), rfl, ((fr3 fw25).trans (fr3 fw26)).trans (fr3 fw27), _, _, _, _, _, _, _, _, _, _, _, _, _, _, ⟨r0, r1, r2, r3, r4, r5, r6, r7, r8, r9, r10, r11, r12, r14, r15, r17, r19⟩, hE.set hW hj (k_read (s_car S j) p b) rfl rfl rfl (fun i _ => ifu e6) (fun i _ => ifs e_la) (fun i _ => ifu rfl) (fun i _ => ifs e_ps) ⟨fun k hk => (hE2 j k hj hk).1, fun _ _ => rfl⟩ ⟨fun k hk => (hE2 j k hj hk).2.1, fun _ _ => rfl⟩ ⟨fun k hk => (hE2 j k hj hk).2.2.1, fun _ _ => rfl⟩ ⟨fun k hk => hrdn k hk, fun q hq => updn (by omega)⟩ ⟨fun k hk => hE4 j k hj hk, fun _ _ => rfl⟩, hW.set ⟨hn1, hn2⟩ hps⟩
              · refine aw_iconst C (v := 3) d_R_read_182 (by decide) ?_
                refine aw_goto C (tgt := 187) d_R_read_183 (by decide) ?_
                refine ar_iast C r4 (j := j) (rfl) (by omega) (by omega) d_R_read_187 ?_
                intro ce28 fw28 r4
                have r0 : ce28 (3, 0, 0) = some (.inr (3, [.int (nI (s_cn S)), .ref (ad (3, 0, 1)), .ref (ad (3, 0, 2)), .ref (ad (3, 0, 3)), .ref (ad (3, 0, 4)), .ref (ad (3, 0, 5)), .ref (ad (3, 0, 6)), .ref (ad (3, 0, 7)), .ref (ad (3, 0, 8)), .ref (ad (3, 0, 9)), .ref (ad (3, 0, 10)), .ref (ad (3, 0, 11)), .ref (ad (3, 0, 12)), .int (nI (s_pn S)), .ref (ad (3, 0, 14)), .ref (ad (3, 0, 15)), .int (nI (s_ln S)), .ref (ad (3, 0, 17)), .int (nI (s_on S)), .ref (ad (3, 0, 19))])) := (fw28 _ (by simp)).trans r0
                have r1 := r1.tr (fw28 _ (by simp))
                have r2 := r2.tr (fw28 _ (by simp))
                have r3 := r3.tr (fw28 _ (by simp))
                have r5 := r5.tr (fw28 _ (by simp))
                have r6 := r6.tr (fw28 _ (by simp))
                have r7 := r7.tr (fw28 _ (by simp))
                have r8 := r8.tr (fw28 _ (by simp))
                have r9 := r9.tr (fw28 _ (by simp))
                have r10 := r10.tr (fw28 _ (by simp))
                have r11 := r11.tr (fw28 _ (by simp))
                have r12 := r12.tr (fw28 _ (by simp))
                have r14 := r14.tr (fw28 _ (by simp))
                have r15 := r15.tr (fw28 _ (by simp))
                have r17 := r17.tr (fw28 _ (by simp))
                have r19 := r19.tr (fw28 _ (by simp))
                refine aw_iload C d_R_read_188 (j := 2) rfl ?_
                refine aw_if_eq C (tgt := 197) d_R_read_190 (by decide) (fun h190 => ?_) (fun h190 => absurd (rfl) h190)
                refine aw_iconst C (v := 0) d_R_read_197 (by decide) ?_
                refine aw_iret C E (rfl) (by decide) (by decide) d_R_read_198 ?_
                rw [bI_ne] at h179
                have hall : h = true ↔ (cnt (upd (k_rd (s_car S j)) p 1) (k_np (s_car S j)) = k_np (s_car S j) ∧ k_rdU (s_car S j) p b = 0) := by
                  rw [show h = (decide (k_rdU (s_car S j) p b = 0) && allF (upd (k_rd (s_car S j)) p 1) (k_np (s_car S j)) 0) from by rw [← hr]; simp [allF]]
                  rw [Bool.and_eq_true, decide_eq_true_eq, allF_iff, cnt_full]
                  constructor
                  · rintro ⟨q1, q2⟩; exact ⟨fun k hk => q2 k (Nat.zero_le k) (by omega), q1⟩
                  · rintro ⟨q1, q2⟩; exact ⟨q2, fun k _ hk => q1 k (by omega)⟩
                have e6 : (3 : Int32) = k_st (k_read (s_car S j) p b) := (if_pos (hall.mp h179)).symm
                rw [show f_read S (nI j) (nI p) b = ((if b = k_du (s_car S j) p then 1 else 0), s_set S j (k_read (s_car S j) p b)) from by simp only [f_read, ix_in hj (show s_cn S < 2 ^ 31 by omega), ix_in hp0 (show k_np (s_car S j) < 2 ^ 31 by omega), if_pos hc]]
                exact ⟨sI (by simp [h80]), rfl, ((fr3 fw25).trans (fr3 fw26)).trans (fr3 fw28), _, _, _, _, _, _, _, _, _, _, _, _, _, _, ⟨r0, r1, r2, r3, r4, r5, r6, r7, r8, r9, r10, r11, r12, r14, r15, r17, r19⟩, hE.set hW hj (k_read (s_car S j) p b) rfl rfl rfl (fun i _ => ifu e6) (fun i _ => ifs e_la) (fun i _ => ifu rfl) (fun i _ => ifs e_ps) ⟨fun k hk => (hE2 j k hj hk).1, fun _ _ => rfl⟩ ⟨fun k hk => (hE2 j k hj hk).2.1, fun _ _ => rfl⟩ ⟨fun k hk => (hE2 j k hj hk).2.2.1, fun _ _ => rfl⟩ ⟨fun k hk => hrdn k hk, fun q hq => updn (by omega)⟩ ⟨fun k hk => hE4 j k hj hk, fun _ _ => rfl⟩, hW.set ⟨hn1, hn2⟩ hps⟩
            | succ m ih =>
              intro a h ha hr
              refine aw_iload C d_R_read_128 (j := 0) rfl ?_
              refine aw_aload_n C d_R_read_130 rfl (j := 3) rfl ?_
              refine aw_get C F_R r0 3 (by decide) tw_302 rfl d_R_read_131 ?_
              refine aw_iload_n C d_R_read_134 rfl (j := 4) rfl ?_
              refine ar_iald C r3 (j := j) (rfl) (by omega) (by omega) d_R_read_135 ?_
              refine aw_topi (v' := nI (k_np (s_car S j))) (e_np) ?_
              refine aw_icmp_ge C (tgt := 172) d_R_read_136 (by decide) (fun h136 => absurd h136 (nI_ge (by omega) (by omega))) (fun h136 => ?_)
              refine aw_iload C d_R_read_139 (j := 1) rfl ?_
              refine aw_if_eq C (tgt := 163) d_R_read_141 (by decide) (fun h141 => ?_) (fun h141 => ?_)
              · refine aw_iconst C (v := 0) d_R_read_163 (by decide) ?_
                refine aw_istore C (lv' := [(5, .int 0), (6, .int (nI a)), (4, .int 0), (0, .ref (ad (3, 0, 0))), (1, .int (nI j)), (2, .int (nI p)), (3, .int b)]) d_R_read_164 (by decide) rfl ?_
                refine aw_iinc C (v := nI (a + 1)) (lv' := [(6, .int (nI (a + 1))), (5, .int 0), (4, .int 0), (0, .ref (ad (3, 0, 0))), (1, .int (nI j)), (2, .int (nI p)), (3, .int b)]) d_R_read_166 (j := 1) rfl (nI_1 _) (by decide) rfl ?_
                refine aw_goto C (tgt := 128) d_R_read_169 (by decide) ?_
                refine aw_lv (lv' := [(6, .int (nI (a + 1))), (5, .int (bI false)), (4, .int 0), (0, .ref (ad (3, 0, 0))), (1, .int (nI j)), (2, .int (nI p)), (3, .int b)]) rfl ?_
                exact ih (a + 1) false (by omega) (by rw [← hr]; rw [bI_eq] at h141; subst h141; simp [allF])
              · refine aw_aload_n C d_R_read_144 rfl (j := 3) rfl ?_
                refine aw_get C F_R r0 9 (by decide) tw_308 rfl d_R_read_145 ?_
                refine aw_bipush C (v := 64) d_R_read_148 (by decide) ?_
                refine aw_iload_n C d_R_read_150 rfl (j := 4) rfl ?_
                refine aw_imul C d_R_read_151 ?_
                refine aw_iload C d_R_read_152 (j := 0) rfl ?_
                refine aw_iadd C d_R_read_154 ?_
                refine aw_topi (v' := nI (64 * j + a)) (k64 _ _) ?_
                refine ar_zald C r9 (j := (64 * j + a)) (rfl) (by omega) (by omega) d_R_read_155 ?_
                refine aw_topi (v' := upd (k_rd (s_car S j)) p 1 a) (hrdn a (by omega)) ?_
                refine aw_if_eq C (tgt := 163) d_R_read_156 (by decide) (fun h156 => ?_) (fun h156 => ?_)
                · refine aw_iconst C (v := 0) d_R_read_163 (by decide) ?_
                  refine aw_istore C (lv' := [(5, .int 0), (6, .int (nI a)), (4, .int 0), (0, .ref (ad (3, 0, 0))), (1, .int (nI j)), (2, .int (nI p)), (3, .int b)]) d_R_read_164 (by decide) rfl ?_
                  refine aw_iinc C (v := nI (a + 1)) (lv' := [(6, .int (nI (a + 1))), (5, .int 0), (4, .int 0), (0, .ref (ad (3, 0, 0))), (1, .int (nI j)), (2, .int (nI p)), (3, .int b)]) d_R_read_166 (j := 1) rfl (nI_1 _) (by decide) rfl ?_
                  refine aw_goto C (tgt := 128) d_R_read_169 (by decide) ?_
                  refine aw_lv (lv' := [(6, .int (nI (a + 1))), (5, .int (bI false)), (4, .int 0), (0, .ref (ad (3, 0, 0))), (1, .int (nI j)), (2, .int (nI p)), (3, .int b)]) rfl ?_
                  exact ih (a + 1) false (by omega) (by rw [← hr]; rw [bI_ne] at h141; subst h141; simp [allF, h156])
                · refine aw_iconst C (v := 1) d_R_read_159 (by decide) ?_
                  refine aw_goto C (tgt := 164) d_R_read_160 (by decide) ?_
                  refine aw_istore C (lv' := [(5, .int 1), (6, .int (nI a)), (4, .int 0), (0, .ref (ad (3, 0, 0))), (1, .int (nI j)), (2, .int (nI p)), (3, .int b)]) d_R_read_164 (by decide) rfl ?_
                  refine aw_iinc C (v := nI (a + 1)) (lv' := [(6, .int (nI (a + 1))), (5, .int 1), (4, .int 0), (0, .ref (ad (3, 0, 0))), (1, .int (nI j)), (2, .int (nI p)), (3, .int b)]) d_R_read_166 (j := 1) rfl (nI_1 _) (by decide) rfl ?_
                  refine aw_goto C (tgt := 128) d_R_read_169 (by decide) ?_
                  refine aw_lv (lv' := [(6, .int (nI (a + 1))), (5, .int (bI true)), (4, .int 0), (0, .ref (ad (3, 0, 0))), (1, .int (nI j)), (2, .int (nI p)), (3, .int b)]) rfl ?_
                  exact ih (a + 1) true (by omega) (by rw [← hr]; rw [bI_ne] at h141; subst h141; simp [allF, h156])
          refine aw_lv (lv' := [(6, .int (nI 0)), (5, .int (bI false)), (4, .int 0), (0, .ref (ad (3, 0, 0))), (1, .int (nI j)), (2, .int (nI p)), (3, .int b)]) (by simp only [nI_0]; rfl) ?_
          exact loop (k_np (s_car S j)) 0 false (by omega) (by simp [h115])
        · refine aw_iconst C (v := 1) d_R_read_118 (by decide) ?_
          refine aw_goto C (tgt := 123) d_R_read_119 (by decide) ?_
          refine aw_istore C (lv' := [(5, .int 1), (4, .int 0), (0, .ref (ad (3, 0, 0))), (1, .int (nI j)), (2, .int (nI p)), (3, .int b)]) d_R_read_123 (by decide) rfl ?_
          refine aw_iconst C (v := 0) d_R_read_125 (by decide) ?_
          refine aw_istore C (lv' := [(6, .int 0), (5, .int 1), (4, .int 0), (0, .ref (ad (3, 0, 0))), (1, .int (nI j)), (2, .int (nI p)), (3, .int b)]) d_R_read_126 (by decide) rfl ?_
          have loop : ∀ (m a : Nat) (h : Bool), a + m = k_np (s_car S j) → (h && allF (upd (k_rd (s_car S j)) p 1) m a) = (decide (k_rdU (s_car S j) p b = 0) && allF (upd (k_rd (s_car S j)) p 1) (k_np (s_car S j)) 0) → AW X 7 0 0 ad ce26 128 [(6, .int (nI a)), (5, .int (bI h)), (4, .int 0), (0, .ref (ad (3, 0, 0))), (1, .int (nI j)), (2, .int (nI p)), (3, .int b)] [] := by
            intro m
            induction m with
            | zero =>
              intro a h ha hr
              refine aw_iload C d_R_read_128 (j := 0) rfl ?_
              refine aw_aload_n C d_R_read_130 rfl (j := 3) rfl ?_
              refine aw_get C F_R r0 3 (by decide) tw_302 rfl d_R_read_131 ?_
              refine aw_iload_n C d_R_read_134 rfl (j := 4) rfl ?_
              refine ar_iald C r3 (j := j) (rfl) (by omega) (by omega) d_R_read_135 ?_
              refine aw_topi (v' := nI (k_np (s_car S j))) (e_np) ?_
              refine aw_icmp_ge C (tgt := 172) d_R_read_136 (by decide) (fun h136 => ?_) (fun h136 => absurd (nI_le (by omega) (by omega)) h136)
              refine aw_aload_n C d_R_read_172 rfl (j := 3) rfl ?_
              refine aw_get C F_R r0 4 (by decide) tw_303 rfl d_R_read_173 ?_
              refine aw_iload_n C d_R_read_176 rfl (j := 4) rfl ?_
              refine aw_iload C d_R_read_177 (j := 1) rfl ?_
              refine aw_if_eq C (tgt := 186) d_R_read_179 (by decide) (fun h179 => ?_) (fun h179 => ?_)
              · refine aw_iconst C (v := 2) d_R_read_186 (by decide) ?_
                refine ar_iast C r4 (j := j) (rfl) (by omega) (by omega) d_R_read_187 ?_
                intro ce29 fw29 r4
                have r0 : ce29 (3, 0, 0) = some (.inr (3, [.int (nI (s_cn S)), .ref (ad (3, 0, 1)), .ref (ad (3, 0, 2)), .ref (ad (3, 0, 3)), .ref (ad (3, 0, 4)), .ref (ad (3, 0, 5)), .ref (ad (3, 0, 6)), .ref (ad (3, 0, 7)), .ref (ad (3, 0, 8)), .ref (ad (3, 0, 9)), .ref (ad (3, 0, 10)), .ref (ad (3, 0, 11)), .ref (ad (3, 0, 12)), .int (nI (s_pn S)), .ref (ad (3, 0, 14)), .ref (ad (3, 0, 15)), .int (nI (s_ln S)), .ref (ad (3, 0, 17)), .int (nI (s_on S)), .ref (ad (3, 0, 19))])) := (fw29 _ (by simp)).trans r0
                have r1 := r1.tr (fw29 _ (by simp))
                have r2 := r2.tr (fw29 _ (by simp))
                have r3 := r3.tr (fw29 _ (by simp))
                have r5 := r5.tr (fw29 _ (by simp))
                have r6 := r6.tr (fw29 _ (by simp))
                have r7 := r7.tr (fw29 _ (by simp))
                have r8 := r8.tr (fw29 _ (by simp))
                have r9 := r9.tr (fw29 _ (by simp))
                have r10 := r10.tr (fw29 _ (by simp))
                have r11 := r11.tr (fw29 _ (by simp))
                have r12 := r12.tr (fw29 _ (by simp))
                have r14 := r14.tr (fw29 _ (by simp))
                have r15 := r15.tr (fw29 _ (by simp))
                have r17 := r17.tr (fw29 _ (by simp))
                have r19 := r19.tr (fw29 _ (by simp))
                refine aw_iload C d_R_read_188 (j := 2) rfl ?_
                refine aw_if_eq C (tgt := 197) d_R_read_190 (by decide) (fun h190 => ?_) (fun h190 => absurd (rfl) h190)
                refine aw_iconst C (v := 0) d_R_read_197 (by decide) ?_
                refine aw_iret C E (rfl) (by decide) (by decide) d_R_read_198 ?_
                rw [bI_eq] at h179
                have hall : h = true ↔ (cnt (upd (k_rd (s_car S j)) p 1) (k_np (s_car S j)) = k_np (s_car S j) ∧ k_rdU (s_car S j) p b = 0) := by
                  rw [show h = (decide (k_rdU (s_car S j) p b = 0) && allF (upd (k_rd (s_car S j)) p 1) (k_np (s_car S j)) 0) from by rw [← hr]; simp [allF]]
                  rw [Bool.and_eq_true, decide_eq_true_eq, allF_iff, cnt_full]
                  constructor
                  · rintro ⟨q1, q2⟩; exact ⟨fun k hk => q2 k (Nat.zero_le k) (by omega), q1⟩
                  · rintro ⟨q1, q2⟩; exact ⟨q2, fun k _ hk => q1 k (by omega)⟩
                have e6 : (2 : Int32) = k_st (k_read (s_car S j) p b) := by
                  rw [← hc.2.1]
                  exact (if_neg (fun q => absurd (hall.mpr q) (by rw [h179]; decide))).symm
                rw [show f_read S (nI j) (nI p) b = ((if b = k_du (s_car S j) p then 1 else 0), s_set S j (k_read (s_car S j) p b)) from by simp only [f_read, ix_in hj (show s_cn S < 2 ^ 31 by omega), ix_in hp0 (show k_np (s_car S j) < 2 ^ 31 by omega), if_pos hc]]
                exact ⟨sI (by simp [h80]), rfl, ((fr3 fw25).trans (fr3 fw26)).trans (fr3 fw29), _, _, _, _, _, _, _, _, _, _, _, _, _, _, ⟨r0, r1, r2, r3, r4, r5, r6, r7, r8, r9, r10, r11, r12, r14, r15, r17, r19⟩, hE.set hW hj (k_read (s_car S j) p b) rfl rfl rfl (fun i _ => ifu e6) (fun i _ => ifs e_la) (fun i _ => ifu rfl) (fun i _ => ifs e_ps) ⟨fun k hk => (hE2 j k hj hk).1, fun _ _ => rfl⟩ ⟨fun k hk => (hE2 j k hj hk).2.1, fun _ _ => rfl⟩ ⟨fun k hk => (hE2 j k hj hk).2.2.1, fun _ _ => rfl⟩ ⟨fun k hk => hrdn k hk, fun q hq => updn (by omega)⟩ ⟨fun k hk => hE4 j k hj hk, fun _ _ => rfl⟩, hW.set ⟨hn1, hn2⟩ hps⟩
              · refine aw_iconst C (v := 3) d_R_read_182 (by decide) ?_
                refine aw_goto C (tgt := 187) d_R_read_183 (by decide) ?_
                refine ar_iast C r4 (j := j) (rfl) (by omega) (by omega) d_R_read_187 ?_
                intro ce30 fw30 r4
                have r0 : ce30 (3, 0, 0) = some (.inr (3, [.int (nI (s_cn S)), .ref (ad (3, 0, 1)), .ref (ad (3, 0, 2)), .ref (ad (3, 0, 3)), .ref (ad (3, 0, 4)), .ref (ad (3, 0, 5)), .ref (ad (3, 0, 6)), .ref (ad (3, 0, 7)), .ref (ad (3, 0, 8)), .ref (ad (3, 0, 9)), .ref (ad (3, 0, 10)), .ref (ad (3, 0, 11)), .ref (ad (3, 0, 12)), .int (nI (s_pn S)), .ref (ad (3, 0, 14)), .ref (ad (3, 0, 15)), .int (nI (s_ln S)), .ref (ad (3, 0, 17)), .int (nI (s_on S)), .ref (ad (3, 0, 19))])) := (fw30 _ (by simp)).trans r0
                have r1 := r1.tr (fw30 _ (by simp))
                have r2 := r2.tr (fw30 _ (by simp))
                have r3 := r3.tr (fw30 _ (by simp))
                have r5 := r5.tr (fw30 _ (by simp))
                have r6 := r6.tr (fw30 _ (by simp))
                have r7 := r7.tr (fw30 _ (by simp))
                have r8 := r8.tr (fw30 _ (by simp))
                have r9 := r9.tr (fw30 _ (by simp))
                have r10 := r10.tr (fw30 _ (by simp))
                have r11 := r11.tr (fw30 _ (by simp))
                have r12 := r12.tr (fw30 _ (by simp))
                have r14 := r14.tr (fw30 _ (by simp))
                have r15 := r15.tr (fw30 _ (by simp))
                have r17 := r17.tr (fw30 _ (by simp))
                have r19 := r19.tr (fw30 _ (by simp))
                refine aw_iload C d_R_read_188 (j := 2) rfl ?_
                refine aw_if_eq C (tgt := 197) d_R_read_190 (by decide) (fun h190 => ?_) (fun h190 => absurd (rfl) h190)
                refine aw_iconst C (v := 0) d_R_read_197 (by decide) ?_
                refine aw_iret C E (rfl) (by decide) (by decide) d_R_read_198 ?_
                rw [bI_ne] at h179
                have hall : h = true ↔ (cnt (upd (k_rd (s_car S j)) p 1) (k_np (s_car S j)) = k_np (s_car S j) ∧ k_rdU (s_car S j) p b = 0) := by
                  rw [show h = (decide (k_rdU (s_car S j) p b = 0) && allF (upd (k_rd (s_car S j)) p 1) (k_np (s_car S j)) 0) from by rw [← hr]; simp [allF]]
                  rw [Bool.and_eq_true, decide_eq_true_eq, allF_iff, cnt_full]
                  constructor
                  · rintro ⟨q1, q2⟩; exact ⟨fun k hk => q2 k (Nat.zero_le k) (by omega), q1⟩
                  · rintro ⟨q1, q2⟩; exact ⟨q2, fun k _ hk => q1 k (by omega)⟩
                have e6 : (3 : Int32) = k_st (k_read (s_car S j) p b) := (if_pos (hall.mp h179)).symm
                rw [show f_read S (nI j) (nI p) b = ((if b = k_du (s_car S j) p then 1 else 0), s_set S j (k_read (s_car S j) p b)) from by simp only [f_read, ix_in hj (show s_cn S < 2 ^ 31 by omega), ix_in hp0 (show k_np (s_car S j) < 2 ^ 31 by omega), if_pos hc]]
                exact ⟨sI (by simp [h80]), rfl, ((fr3 fw25).trans (fr3 fw26)).trans (fr3 fw30), _, _, _, _, _, _, _, _, _, _, _, _, _, _, ⟨r0, r1, r2, r3, r4, r5, r6, r7, r8, r9, r10, r11, r12, r14, r15, r17, r19⟩, hE.set hW hj (k_read (s_car S j) p b) rfl rfl rfl (fun i _ => ifu e6) (fun i _ => ifs e_la) (fun i _ => ifu rfl) (fun i _ => ifs e_ps) ⟨fun k hk => (hE2 j k hj hk).1, fun _ _ => rfl⟩ ⟨fun k hk => (hE2 j k hj hk).2.1, fun _ _ => rfl⟩ ⟨fun k hk => (hE2 j k hj hk).2.2.1, fun _ _ => rfl⟩ ⟨fun k hk => hrdn k hk, fun q hq => updn (by omega)⟩ ⟨fun k hk => hE4 j k hj hk, fun _ _ => rfl⟩, hW.set ⟨hn1, hn2⟩ hps⟩
            | succ m ih =>
              intro a h ha hr
              refine aw_iload C d_R_read_128 (j := 0) rfl ?_
              refine aw_aload_n C d_R_read_130 rfl (j := 3) rfl ?_
              refine aw_get C F_R r0 3 (by decide) tw_302 rfl d_R_read_131 ?_
              refine aw_iload_n C d_R_read_134 rfl (j := 4) rfl ?_
              refine ar_iald C r3 (j := j) (rfl) (by omega) (by omega) d_R_read_135 ?_
              refine aw_topi (v' := nI (k_np (s_car S j))) (e_np) ?_
              refine aw_icmp_ge C (tgt := 172) d_R_read_136 (by decide) (fun h136 => absurd h136 (nI_ge (by omega) (by omega))) (fun h136 => ?_)
              refine aw_iload C d_R_read_139 (j := 1) rfl ?_
              refine aw_if_eq C (tgt := 163) d_R_read_141 (by decide) (fun h141 => ?_) (fun h141 => ?_)
              · refine aw_iconst C (v := 0) d_R_read_163 (by decide) ?_
                refine aw_istore C (lv' := [(5, .int 0), (6, .int (nI a)), (4, .int 0), (0, .ref (ad (3, 0, 0))), (1, .int (nI j)), (2, .int (nI p)), (3, .int b)]) d_R_read_164 (by decide) rfl ?_
                refine aw_iinc C (v := nI (a + 1)) (lv' := [(6, .int (nI (a + 1))), (5, .int 0), (4, .int 0), (0, .ref (ad (3, 0, 0))), (1, .int (nI j)), (2, .int (nI p)), (3, .int b)]) d_R_read_166 (j := 1) rfl (nI_1 _) (by decide) rfl ?_
                refine aw_goto C (tgt := 128) d_R_read_169 (by decide) ?_
                refine aw_lv (lv' := [(6, .int (nI (a + 1))), (5, .int (bI false)), (4, .int 0), (0, .ref (ad (3, 0, 0))), (1, .int (nI j)), (2, .int (nI p)), (3, .int b)]) rfl ?_
                exact ih (a + 1) false (by omega) (by rw [← hr]; rw [bI_eq] at h141; subst h141; simp [allF])
              · refine aw_aload_n C d_R_read_144 rfl (j := 3) rfl ?_
                refine aw_get C F_R r0 9 (by decide) tw_308 rfl d_R_read_145 ?_
                refine aw_bipush C (v := 64) d_R_read_148 (by decide) ?_
                refine aw_iload_n C d_R_read_150 rfl (j := 4) rfl ?_
                refine aw_imul C d_R_read_151 ?_
                refine aw_iload C d_R_read_152 (j := 0) rfl ?_
                refine aw_iadd C d_R_read_154 ?_
                refine aw_topi (v' := nI (64 * j + a)) (k64 _ _) ?_
                refine ar_zald C r9 (j := (64 * j + a)) (rfl) (by omega) (by omega) d_R_read_155 ?_
                refine aw_topi (v' := upd (k_rd (s_car S j)) p 1 a) (hrdn a (by omega)) ?_
                refine aw_if_eq C (tgt := 163) d_R_read_156 (by decide) (fun h156 => ?_) (fun h156 => ?_)
                · refine aw_iconst C (v := 0) d_R_read_163 (by decide) ?_
                  refine aw_istore C (lv' := [(5, .int 0), (6, .int (nI a)), (4, .int 0), (0, .ref (ad (3, 0, 0))), (1, .int (nI j)), (2, .int (nI p)), (3, .int b)]) d_R_read_164 (by decide) rfl ?_
                  refine aw_iinc C (v := nI (a + 1)) (lv' := [(6, .int (nI (a + 1))), (5, .int 0), (4, .int 0), (0, .ref (ad (3, 0, 0))), (1, .int (nI j)), (2, .int (nI p)), (3, .int b)]) d_R_read_166 (j := 1) rfl (nI_1 _) (by decide) rfl ?_
                  refine aw_goto C (tgt := 128) d_R_read_169 (by decide) ?_
                  refine aw_lv (lv' := [(6, .int (nI (a + 1))), (5, .int (bI false)), (4, .int 0), (0, .ref (ad (3, 0, 0))), (1, .int (nI j)), (2, .int (nI p)), (3, .int b)]) rfl ?_
                  exact ih (a + 1) false (by omega) (by rw [← hr]; rw [bI_ne] at h141; subst h141; simp [allF, h156])
                · refine aw_iconst C (v := 1) d_R_read_159 (by decide) ?_
                  refine aw_goto C (tgt := 164) d_R_read_160 (by decide) ?_
                  refine aw_istore C (lv' := [(5, .int 1), (6, .int (nI a)), (4, .int 0), (0, .ref (ad (3, 0, 0))), (1, .int (nI j)), (2, .int (nI p)), (3, .int b)]) d_R_read_164 (by decide) rfl ?_
                  refine aw_iinc C (v := nI (a + 1)) (lv' := [(6, .int (nI (a + 1))), (5, .int 1), (4, .int 0), (0, .ref (ad (3, 0, 0))), (1, .int (nI j)), (2, .int (nI p)), (3, .int b)]) d_R_read_166 (j := 1) rfl (nI_1 _) (by decide) rfl ?_
                  refine aw_goto C (tgt := 128) d_R_read_169 (by decide) ?_
                  refine aw_lv (lv' := [(6, .int (nI (a + 1))), (5, .int (bI true)), (4, .int 0), (0, .ref (ad (3, 0, 0))), (1, .int (nI j)), (2, .int (nI p)), (3, .int b)]) rfl ?_
                  exact ih (a + 1) true (by omega) (by rw [← hr]; rw [bI_ne] at h141; subst h141; simp [allF, h156])
          refine aw_lv (lv' := [(6, .int (nI 0)), (5, .int (bI true)), (4, .int 0), (0, .ref (ad (3, 0, 0))), (1, .int (nI j)), (2, .int (nI p)), (3, .int b)]) (by simp only [nI_0]; rfl) ?_
          exact loop (k_np (s_car S j)) 0 true (by omega) (by simp [h115])
      · refine aw_iconst C (v := 1) d_R_read_83 (by decide) ?_
        refine aw_goto C (tgt := 88) d_R_read_84 (by decide) ?_
        refine aw_istore C (lv' := [(4, .int 1), (0, .ref (ad (3, 0, 0))), (1, .int (nI j)), (2, .int (nI p)), (3, .int b)]) d_R_read_88 (by decide) rfl ?_
        refine aw_aload_n C d_R_read_90 rfl (j := 1) rfl ?_
        refine aw_get C F_R r0 10 (by decide) tw_309 rfl d_R_read_91 ?_
        refine aw_iload_n C d_R_read_94 rfl (j := 2) rfl ?_
        refine aw_dup2_11 C d_R_read_95 rfl rfl ?_
        refine ar_iald C r10 (j := j) (rfl) (by omega) (by omega) d_R_read_96 ?_
        refine aw_topi (v' := k_un (s_car S j)) (e_un) ?_
        refine aw_iload C d_R_read_97 (j := 0) rfl ?_
        refine aw_if_eq C (tgt := 106) d_R_read_99 (by decide) (fun h99 => absurd h99 (by decide)) (fun h99 => ?_)
        refine aw_iconst C (v := 0) d_R_read_102 (by decide) ?_
        refine aw_goto C (tgt := 107) d_R_read_103 (by decide) ?_
        refine aw_iadd C d_R_read_107 ?_
        refine aw_topi (v' := k_rdU (s_car S j) p b) (by simp [k_rdU, h80]) ?_
        refine ar_iast C r10 (j := j) (rfl) (by omega) (by omega) d_R_read_108 ?_
        intro ce31 fw31 r10
        have r0 : ce31 (3, 0, 0) = some (.inr (3, [.int (nI (s_cn S)), .ref (ad (3, 0, 1)), .ref (ad (3, 0, 2)), .ref (ad (3, 0, 3)), .ref (ad (3, 0, 4)), .ref (ad (3, 0, 5)), .ref (ad (3, 0, 6)), .ref (ad (3, 0, 7)), .ref (ad (3, 0, 8)), .ref (ad (3, 0, 9)), .ref (ad (3, 0, 10)), .ref (ad (3, 0, 11)), .ref (ad (3, 0, 12)), .int (nI (s_pn S)), .ref (ad (3, 0, 14)), .ref (ad (3, 0, 15)), .int (nI (s_ln S)), .ref (ad (3, 0, 17)), .int (nI (s_on S)), .ref (ad (3, 0, 19))])) := (fw31 _ (by simp)).trans r0
        have r1 := r1.tr (fw31 _ (by simp))
        have r2 := r2.tr (fw31 _ (by simp))
        have r3 := r3.tr (fw31 _ (by simp))
        have r4 := r4.tr (fw31 _ (by simp))
        have r5 := r5.tr (fw31 _ (by simp))
        have r6 := r6.tr (fw31 _ (by simp))
        have r7 := r7.tr (fw31 _ (by simp))
        have r8 := r8.tr (fw31 _ (by simp))
        have r9 := r9.tr (fw31 _ (by simp))
        have r11 := r11.tr (fw31 _ (by simp))
        have r12 := r12.tr (fw31 _ (by simp))
        have r14 := r14.tr (fw31 _ (by simp))
        have r15 := r15.tr (fw31 _ (by simp))
        have r17 := r17.tr (fw31 _ (by simp))
        have r19 := r19.tr (fw31 _ (by simp))
        refine aw_aload_n C d_R_read_109 rfl (j := 1) rfl ?_
        refine aw_get C F_R r0 10 (by decide) tw_309 rfl d_R_read_110 ?_
        refine aw_iload_n C d_R_read_113 rfl (j := 2) rfl ?_
        refine ar_iald C r10 (j := j) (rfl) (by omega) (by omega) d_R_read_114 ?_
        refine aw_topi (v' := k_rdU (s_car S j) p b) (by simp [upd]) ?_
        refine aw_if_ne C (tgt := 122) d_R_read_115 (by decide) (fun h115 => ?_) (fun h115 => ?_)
        · refine aw_iconst C (v := 0) d_R_read_122 (by decide) ?_
          refine aw_istore C (lv' := [(5, .int 0), (4, .int 1), (0, .ref (ad (3, 0, 0))), (1, .int (nI j)), (2, .int (nI p)), (3, .int b)]) d_R_read_123 (by decide) rfl ?_
          refine aw_iconst C (v := 0) d_R_read_125 (by decide) ?_
          refine aw_istore C (lv' := [(6, .int 0), (5, .int 0), (4, .int 1), (0, .ref (ad (3, 0, 0))), (1, .int (nI j)), (2, .int (nI p)), (3, .int b)]) d_R_read_126 (by decide) rfl ?_
          have loop : ∀ (m a : Nat) (h : Bool), a + m = k_np (s_car S j) → (h && allF (upd (k_rd (s_car S j)) p 1) m a) = (decide (k_rdU (s_car S j) p b = 0) && allF (upd (k_rd (s_car S j)) p 1) (k_np (s_car S j)) 0) → AW X 7 0 0 ad ce31 128 [(6, .int (nI a)), (5, .int (bI h)), (4, .int 1), (0, .ref (ad (3, 0, 0))), (1, .int (nI j)), (2, .int (nI p)), (3, .int b)] [] := by
            intro m
            induction m with
            | zero =>
              intro a h ha hr
              refine aw_iload C d_R_read_128 (j := 0) rfl ?_
              refine aw_aload_n C d_R_read_130 rfl (j := 3) rfl ?_
              refine aw_get C F_R r0 3 (by decide) tw_302 rfl d_R_read_131 ?_
              refine aw_iload_n C d_R_read_134 rfl (j := 4) rfl ?_
              refine ar_iald C r3 (j := j) (rfl) (by omega) (by omega) d_R_read_135 ?_
              refine aw_topi (v' := nI (k_np (s_car S j))) (e_np) ?_
              refine aw_icmp_ge C (tgt := 172) d_R_read_136 (by decide) (fun h136 => ?_) (fun h136 => absurd (nI_le (by omega) (by omega)) h136)
              refine aw_aload_n C d_R_read_172 rfl (j := 3) rfl ?_
              refine aw_get C F_R r0 4 (by decide) tw_303 rfl d_R_read_173 ?_
              refine aw_iload_n C d_R_read_176 rfl (j := 4) rfl ?_
              refine aw_iload C d_R_read_177 (j := 1) rfl ?_
              refine aw_if_eq C (tgt := 186) d_R_read_179 (by decide) (fun h179 => ?_) (fun h179 => ?_)
              · refine aw_iconst C (v := 2) d_R_read_186 (by decide) ?_
                refine ar_iast C r4 (j := j) (rfl) (by omega) (by omega) d_R_read_187 ?_
                intro ce32 fw32 r4
                have r0 : ce32 (3, 0, 0) = some (.inr (3, [.int (nI (s_cn S)), .ref (ad (3, 0, 1)), .ref (ad (3, 0, 2)), .ref (ad (3, 0, 3)), .ref (ad (3, 0, 4)), .ref (ad (3, 0, 5)), .ref (ad (3, 0, 6)), .ref (ad (3, 0, 7)), .ref (ad (3, 0, 8)), .ref (ad (3, 0, 9)), .ref (ad (3, 0, 10)), .ref (ad (3, 0, 11)), .ref (ad (3, 0, 12)), .int (nI (s_pn S)), .ref (ad (3, 0, 14)), .ref (ad (3, 0, 15)), .int (nI (s_ln S)), .ref (ad (3, 0, 17)), .int (nI (s_on S)), .ref (ad (3, 0, 19))])) := (fw32 _ (by simp)).trans r0
                have r1 := r1.tr (fw32 _ (by simp))
                have r2 := r2.tr (fw32 _ (by simp))
                have r3 := r3.tr (fw32 _ (by simp))
                have r5 := r5.tr (fw32 _ (by simp))
                have r6 := r6.tr (fw32 _ (by simp))
                have r7 := r7.tr (fw32 _ (by simp))
                have r8 := r8.tr (fw32 _ (by simp))
                have r9 := r9.tr (fw32 _ (by simp))
                have r10 := r10.tr (fw32 _ (by simp))
                have r11 := r11.tr (fw32 _ (by simp))
                have r12 := r12.tr (fw32 _ (by simp))
                have r14 := r14.tr (fw32 _ (by simp))
                have r15 := r15.tr (fw32 _ (by simp))
                have r17 := r17.tr (fw32 _ (by simp))
                have r19 := r19.tr (fw32 _ (by simp))
                refine aw_iload C d_R_read_188 (j := 2) rfl ?_
                refine aw_if_eq C (tgt := 197) d_R_read_190 (by decide) (fun h190 => absurd h190 (by decide)) (fun h190 => ?_)
                refine aw_iconst C (v := 1) d_R_read_193 (by decide) ?_
                refine aw_goto C (tgt := 198) d_R_read_194 (by decide) ?_
                refine aw_iret C E (rfl) (by decide) (by decide) d_R_read_198 ?_
                rw [bI_eq] at h179
                have hall : h = true ↔ (cnt (upd (k_rd (s_car S j)) p 1) (k_np (s_car S j)) = k_np (s_car S j) ∧ k_rdU (s_car S j) p b = 0) := by
                  rw [show h = (decide (k_rdU (s_car S j) p b = 0) && allF (upd (k_rd (s_car S j)) p 1) (k_np (s_car S j)) 0) from by rw [← hr]; simp [allF]]
                  rw [Bool.and_eq_true, decide_eq_true_eq, allF_iff, cnt_full]
                  constructor
                  · rintro ⟨q1, q2⟩; exact ⟨fun k hk => q2 k (Nat.zero_le k) (by omega), q1⟩
                  · rintro ⟨q1, q2⟩; exact ⟨q2, fun k _ hk => q1 k (by omega)⟩
                have e6 : (2 : Int32) = k_st (k_read (s_car S j) p b) := by
                  rw [← hc.2.1]
                  exact (if_neg (fun q => absurd (hall.mpr q) (by rw [h179]; decide))).symm
                rw [show f_read S (nI j) (nI p) b = ((if b = k_du (s_car S j) p then 1 else 0), s_set S j (k_read (s_car S j) p b)) from by simp only [f_read, ix_in hj (show s_cn S < 2 ^ 31 by omega), ix_in hp0 (show k_np (s_car S j) < 2 ^ 31 by omega), if_pos hc]]
                exact ⟨sI (by simp [h80]), rfl, ((fr3 fw25).trans (fr3 fw31)).trans (fr3 fw32), _, _, _, _, _, _, _, _, _, _, _, _, _, _, ⟨r0, r1, r2, r3, r4, r5, r6, r7, r8, r9, r10, r11, r12, r14, r15, r17, r19⟩, hE.set hW hj (k_read (s_car S j) p b) rfl rfl rfl (fun i _ => ifu e6) (fun i _ => ifs e_la) (fun i _ => ifu rfl) (fun i _ => ifs e_ps) ⟨fun k hk => (hE2 j k hj hk).1, fun _ _ => rfl⟩ ⟨fun k hk => (hE2 j k hj hk).2.1, fun _ _ => rfl⟩ ⟨fun k hk => (hE2 j k hj hk).2.2.1, fun _ _ => rfl⟩ ⟨fun k hk => hrdn k hk, fun q hq => updn (by omega)⟩ ⟨fun k hk => hE4 j k hj hk, fun _ _ => rfl⟩, hW.set ⟨hn1, hn2⟩ hps⟩
              · refine aw_iconst C (v := 3) d_R_read_182 (by decide) ?_
                refine aw_goto C (tgt := 187) d_R_read_183 (by decide) ?_
                refine ar_iast C r4 (j := j) (rfl) (by omega) (by omega) d_R_read_187 ?_
                intro ce33 fw33 r4
                have r0 : ce33 (3, 0, 0) = some (.inr (3, [.int (nI (s_cn S)), .ref (ad (3, 0, 1)), .ref (ad (3, 0, 2)), .ref (ad (3, 0, 3)), .ref (ad (3, 0, 4)), .ref (ad (3, 0, 5)), .ref (ad (3, 0, 6)), .ref (ad (3, 0, 7)), .ref (ad (3, 0, 8)), .ref (ad (3, 0, 9)), .ref (ad (3, 0, 10)), .ref (ad (3, 0, 11)), .ref (ad (3, 0, 12)), .int (nI (s_pn S)), .ref (ad (3, 0, 14)), .ref (ad (3, 0, 15)), .int (nI (s_ln S)), .ref (ad (3, 0, 17)), .int (nI (s_on S)), .ref (ad (3, 0, 19))])) := (fw33 _ (by simp)).trans r0
                have r1 := r1.tr (fw33 _ (by simp))
                have r2 := r2.tr (fw33 _ (by simp))
                have r3 := r3.tr (fw33 _ (by simp))
                have r5 := r5.tr (fw33 _ (by simp))
                have r6 := r6.tr (fw33 _ (by simp))
                have r7 := r7.tr (fw33 _ (by simp))
                have r8 := r8.tr (fw33 _ (by simp))
                have r9 := r9.tr (fw33 _ (by simp))
                have r10 := r10.tr (fw33 _ (by simp))
                have r11 := r11.tr (fw33 _ (by simp))
                have r12 := r12.tr (fw33 _ (by simp))
                have r14 := r14.tr (fw33 _ (by simp))
                have r15 := r15.tr (fw33 _ (by simp))
                have r17 := r17.tr (fw33 _ (by simp))
                have r19 := r19.tr (fw33 _ (by simp))
                refine aw_iload C d_R_read_188 (j := 2) rfl ?_
                refine aw_if_eq C (tgt := 197) d_R_read_190 (by decide) (fun h190 => absurd h190 (by decide)) (fun h190 => ?_)
                refine aw_iconst C (v := 1) d_R_read_193 (by decide) ?_
                refine aw_goto C (tgt := 198) d_R_read_194 (by decide) ?_
                refine aw_iret C E (rfl) (by decide) (by decide) d_R_read_198 ?_
                rw [bI_ne] at h179
                have hall : h = true ↔ (cnt (upd (k_rd (s_car S j)) p 1) (k_np (s_car S j)) = k_np (s_car S j) ∧ k_rdU (s_car S j) p b = 0) := by
                  rw [show h = (decide (k_rdU (s_car S j) p b = 0) && allF (upd (k_rd (s_car S j)) p 1) (k_np (s_car S j)) 0) from by rw [← hr]; simp [allF]]
                  rw [Bool.and_eq_true, decide_eq_true_eq, allF_iff, cnt_full]
                  constructor
                  · rintro ⟨q1, q2⟩; exact ⟨fun k hk => q2 k (Nat.zero_le k) (by omega), q1⟩
                  · rintro ⟨q1, q2⟩; exact ⟨q2, fun k _ hk => q1 k (by omega)⟩
                have e6 : (3 : Int32) = k_st (k_read (s_car S j) p b) := (if_pos (hall.mp h179)).symm
                rw [show f_read S (nI j) (nI p) b = ((if b = k_du (s_car S j) p then 1 else 0), s_set S j (k_read (s_car S j) p b)) from by simp only [f_read, ix_in hj (show s_cn S < 2 ^ 31 by omega), ix_in hp0 (show k_np (s_car S j) < 2 ^ 31 by omega), if_pos hc]]
                exact ⟨sI (by simp [h80]), rfl, ((fr3 fw25).trans (fr3 fw31)).trans (fr3 fw33), _, _, _, _, _, _, _, _, _, _, _, _, _, _, ⟨r0, r1, r2, r3, r4, r5, r6, r7, r8, r9, r10, r11, r12, r14, r15, r17, r19⟩, hE.set hW hj (k_read (s_car S j) p b) rfl rfl rfl (fun i _ => ifu e6) (fun i _ => ifs e_la) (fun i _ => ifu rfl) (fun i _ => ifs e_ps) ⟨fun k hk => (hE2 j k hj hk).1, fun _ _ => rfl⟩ ⟨fun k hk => (hE2 j k hj hk).2.1, fun _ _ => rfl⟩ ⟨fun k hk => (hE2 j k hj hk).2.2.1, fun _ _ => rfl⟩ ⟨fun k hk => hrdn k hk, fun q hq => updn (by omega)⟩ ⟨fun k hk => hE4 j k hj hk, fun _ _ => rfl⟩, hW.set ⟨hn1, hn2⟩ hps⟩
            | succ m ih =>
              intro a h ha hr
              refine aw_iload C d_R_read_128 (j := 0) rfl ?_
              refine aw_aload_n C d_R_read_130 rfl (j := 3) rfl ?_
              refine aw_get C F_R r0 3 (by decide) tw_302 rfl d_R_read_131 ?_
              refine aw_iload_n C d_R_read_134 rfl (j := 4) rfl ?_
              refine ar_iald C r3 (j := j) (rfl) (by omega) (by omega) d_R_read_135 ?_
              refine aw_topi (v' := nI (k_np (s_car S j))) (e_np) ?_
              refine aw_icmp_ge C (tgt := 172) d_R_read_136 (by decide) (fun h136 => absurd h136 (nI_ge (by omega) (by omega))) (fun h136 => ?_)
              refine aw_iload C d_R_read_139 (j := 1) rfl ?_
              refine aw_if_eq C (tgt := 163) d_R_read_141 (by decide) (fun h141 => ?_) (fun h141 => ?_)
              · refine aw_iconst C (v := 0) d_R_read_163 (by decide) ?_
                refine aw_istore C (lv' := [(5, .int 0), (6, .int (nI a)), (4, .int 1), (0, .ref (ad (3, 0, 0))), (1, .int (nI j)), (2, .int (nI p)), (3, .int b)]) d_R_read_164 (by decide) rfl ?_
                refine aw_iinc C (v := nI (a + 1)) (lv' := [(6, .int (nI (a + 1))), (5, .int 0), (4, .int 1), (0, .ref (ad (3, 0, 0))), (1, .int (nI j)), (2, .int (nI p)), (3, .int b)]) d_R_read_166 (j := 1) rfl (nI_1 _) (by decide) rfl ?_
                refine aw_goto C (tgt := 128) d_R_read_169 (by decide) ?_
                refine aw_lv (lv' := [(6, .int (nI (a + 1))), (5, .int (bI false)), (4, .int 1), (0, .ref (ad (3, 0, 0))), (1, .int (nI j)), (2, .int (nI p)), (3, .int b)]) rfl ?_
                exact ih (a + 1) false (by omega) (by rw [← hr]; rw [bI_eq] at h141; subst h141; simp [allF])
              · refine aw_aload_n C d_R_read_144 rfl (j := 3) rfl ?_
                refine aw_get C F_R r0 9 (by decide) tw_308 rfl d_R_read_145 ?_
                refine aw_bipush C (v := 64) d_R_read_148 (by decide) ?_
                refine aw_iload_n C d_R_read_150 rfl (j := 4) rfl ?_
                refine aw_imul C d_R_read_151 ?_
                refine aw_iload C d_R_read_152 (j := 0) rfl ?_
                refine aw_iadd C d_R_read_154 ?_
                refine aw_topi (v' := nI (64 * j + a)) (k64 _ _) ?_
                refine ar_zald C r9 (j := (64 * j + a)) (rfl) (by omega) (by omega) d_R_read_155 ?_
                refine aw_topi (v' := upd (k_rd (s_car S j)) p 1 a) (hrdn a (by omega)) ?_
                refine aw_if_eq C (tgt := 163) d_R_read_156 (by decide) (fun h156 => ?_) (fun h156 => ?_)
                · refine aw_iconst C (v := 0) d_R_read_163 (by decide) ?_
                  refine aw_istore C (lv' := [(5, .int 0), (6, .int (nI a)), (4, .int 1), (0, .ref (ad (3, 0, 0))), (1, .int (nI j)), (2, .int (nI p)), (3, .int b)]) d_R_read_164 (by decide) rfl ?_
                  refine aw_iinc C (v := nI (a + 1)) (lv' := [(6, .int (nI (a + 1))), (5, .int 0), (4, .int 1), (0, .ref (ad (3, 0, 0))), (1, .int (nI j)), (2, .int (nI p)), (3, .int b)]) d_R_read_166 (j := 1) rfl (nI_1 _) (by decide) rfl ?_
                  refine aw_goto C (tgt := 128) d_R_read_169 (by decide) ?_
                  refine aw_lv (lv' := [(6, .int (nI (a + 1))), (5, .int (bI false)), (4, .int 1), (0, .ref (ad (3, 0, 0))), (1, .int (nI j)), (2, .int (nI p)), (3, .int b)]) rfl ?_
                  exact ih (a + 1) false (by omega) (by rw [← hr]; rw [bI_ne] at h141; subst h141; simp [allF, h156])
                · refine aw_iconst C (v := 1) d_R_read_159 (by decide) ?_
                  refine aw_goto C (tgt := 164) d_R_read_160 (by decide) ?_
                  refine aw_istore C (lv' := [(5, .int 1), (6, .int (nI a)), (4, .int 1), (0, .ref (ad (3, 0, 0))), (1, .int (nI j)), (2, .int (nI p)), (3, .int b)]) d_R_read_164 (by decide) rfl ?_
                  refine aw_iinc C (v := nI (a + 1)) (lv' := [(6, .int (nI (a + 1))), (5, .int 1), (4, .int 1), (0, .ref (ad (3, 0, 0))), (1, .int (nI j)), (2, .int (nI p)), (3, .int b)]) d_R_read_166 (j := 1) rfl (nI_1 _) (by decide) rfl ?_
                  refine aw_goto C (tgt := 128) d_R_read_169 (by decide) ?_
                  refine aw_lv (lv' := [(6, .int (nI (a + 1))), (5, .int (bI true)), (4, .int 1), (0, .ref (ad (3, 0, 0))), (1, .int (nI j)), (2, .int (nI p)), (3, .int b)]) rfl ?_
                  exact ih (a + 1) true (by omega) (by rw [← hr]; rw [bI_ne] at h141; subst h141; simp [allF, h156])
          refine aw_lv (lv' := [(6, .int (nI 0)), (5, .int (bI false)), (4, .int 1), (0, .ref (ad (3, 0, 0))), (1, .int (nI j)), (2, .int (nI p)), (3, .int b)]) (by simp only [nI_0]; rfl) ?_
          exact loop (k_np (s_car S j)) 0 false (by omega) (by simp [h115])
        · refine aw_iconst C (v := 1) d_R_read_118 (by decide) ?_
          refine aw_goto C (tgt := 123) d_R_read_119 (by decide) ?_
          refine aw_istore C (lv' := [(5, .int 1), (4, .int 1), (0, .ref (ad (3, 0, 0))), (1, .int (nI j)), (2, .int (nI p)), (3, .int b)]) d_R_read_123 (by decide) rfl ?_
          refine aw_iconst C (v := 0) d_R_read_125 (by decide) ?_
          refine aw_istore C (lv' := [(6, .int 0), (5, .int 1), (4, .int 1), (0, .ref (ad (3, 0, 0))), (1, .int (nI j)), (2, .int (nI p)), (3, .int b)]) d_R_read_126 (by decide) rfl ?_
          have loop : ∀ (m a : Nat) (h : Bool), a + m = k_np (s_car S j) → (h && allF (upd (k_rd (s_car S j)) p 1) m a) = (decide (k_rdU (s_car S j) p b = 0) && allF (upd (k_rd (s_car S j)) p 1) (k_np (s_car S j)) 0) → AW X 7 0 0 ad ce31 128 [(6, .int (nI a)), (5, .int (bI h)), (4, .int 1), (0, .ref (ad (3, 0, 0))), (1, .int (nI j)), (2, .int (nI p)), (3, .int b)] [] := by
            intro m
            induction m with
            | zero =>
              intro a h ha hr
              refine aw_iload C d_R_read_128 (j := 0) rfl ?_
              refine aw_aload_n C d_R_read_130 rfl (j := 3) rfl ?_
              refine aw_get C F_R r0 3 (by decide) tw_302 rfl d_R_read_131 ?_
              refine aw_iload_n C d_R_read_134 rfl (j := 4) rfl ?_
              refine ar_iald C r3 (j := j) (rfl) (by omega) (by omega) d_R_read_135 ?_
              refine aw_topi (v' := nI (k_np (s_car S j))) (e_np) ?_
              refine aw_icmp_ge C (tgt := 172) d_R_read_136 (by decide) (fun h136 => ?_) (fun h136 => absurd (nI_le (by omega) (by omega)) h136)
              refine aw_aload_n C d_R_read_172 rfl (j := 3) rfl ?_
              refine aw_get C F_R r0 4 (by decide) tw_303 rfl d_R_read_173 ?_
              refine aw_iload_n C d_R_read_176 rfl (j := 4) rfl ?_
              refine aw_iload C d_R_read_177 (j := 1) rfl ?_
              refine aw_if_eq C (tgt := 186) d_R_read_179 (by decide) (fun h179 => ?_) (fun h179 => ?_)
              · refine aw_iconst C (v := 2) d_R_read_186 (by decide) ?_
                refine ar_iast C r4 (j := j) (rfl) (by omega) (by omega) d_R_read_187 ?_
                intro ce34 fw34 r4
                have r0 : ce34 (3, 0, 0) = some (.inr (3, [.int (nI (s_cn S)), .ref (ad (3, 0, 1)), .ref (ad (3, 0, 2)), .ref (ad (3, 0, 3)), .ref (ad (3, 0, 4)), .ref (ad (3, 0, 5)), .ref (ad (3, 0, 6)), .ref (ad (3, 0, 7)), .ref (ad (3, 0, 8)), .ref (ad (3, 0, 9)), .ref (ad (3, 0, 10)), .ref (ad (3, 0, 11)), .ref (ad (3, 0, 12)), .int (nI (s_pn S)), .ref (ad (3, 0, 14)), .ref (ad (3, 0, 15)), .int (nI (s_ln S)), .ref (ad (3, 0, 17)), .int (nI (s_on S)), .ref (ad (3, 0, 19))])) := (fw34 _ (by simp)).trans r0
                have r1 := r1.tr (fw34 _ (by simp))
                have r2 := r2.tr (fw34 _ (by simp))
                have r3 := r3.tr (fw34 _ (by simp))
                have r5 := r5.tr (fw34 _ (by simp))
                have r6 := r6.tr (fw34 _ (by simp))
                have r7 := r7.tr (fw34 _ (by simp))
                have r8 := r8.tr (fw34 _ (by simp))
                have r9 := r9.tr (fw34 _ (by simp))
                have r10 := r10.tr (fw34 _ (by simp))
                have r11 := r11.tr (fw34 _ (by simp))
                have r12 := r12.tr (fw34 _ (by simp))
                have r14 := r14.tr (fw34 _ (by simp))
                have r15 := r15.tr (fw34 _ (by simp))
                have r17 := r17.tr (fw34 _ (by simp))
                have r19 := r19.tr (fw34 _ (by simp))
                refine aw_iload C d_R_read_188 (j := 2) rfl ?_
                refine aw_if_eq C (tgt := 197) d_R_read_190 (by decide) (fun h190 => absurd h190 (by decide)) (fun h190 => ?_)
                refine aw_iconst C (v := 1) d_R_read_193 (by decide) ?_
                refine aw_goto C (tgt := 198) d_R_read_194 (by decide) ?_
                refine aw_iret C E (rfl) (by decide) (by decide) d_R_read_198 ?_
                rw [bI_eq] at h179
                have hall : h = true ↔ (cnt (upd (k_rd (s_car S j)) p 1) (k_np (s_car S j)) = k_np (s_car S j) ∧ k_rdU (s_car S j) p b = 0) := by
                  rw [show h = (decide (k_rdU (s_car S j) p b = 0) && allF (upd (k_rd (s_car S j)) p 1) (k_np (s_car S j)) 0) from by rw [← hr]; simp [allF]]
                  rw [Bool.and_eq_true, decide_eq_true_eq, allF_iff, cnt_full]
                  constructor
                  · rintro ⟨q1, q2⟩; exact ⟨fun k hk => q2 k (Nat.zero_le k) (by omega), q1⟩
                  · rintro ⟨q1, q2⟩; exact ⟨q2, fun k _ hk => q1 k (by omega)⟩
                have e6 : (2 : Int32) = k_st (k_read (s_car S j) p b) := by
                  rw [← hc.2.1]
                  exact (if_neg (fun q => absurd (hall.mpr q) (by rw [h179]; decide))).symm
                rw [show f_read S (nI j) (nI p) b = ((if b = k_du (s_car S j) p then 1 else 0), s_set S j (k_read (s_car S j) p b)) from by simp only [f_read, ix_in hj (show s_cn S < 2 ^ 31 by omega), ix_in hp0 (show k_np (s_car S j) < 2 ^ 31 by omega), if_pos hc]]
                exact ⟨sI (by simp [h80]), rfl, ((fr3 fw25).trans (fr3 fw31)).trans (fr3 fw34), _, _, _, _, _, _, _, _, _, _, _, _, _, _, ⟨r0, r1, r2, r3, r4, r5, r6, r7, r8, r9, r10, r11, r12, r14, r15, r17, r19⟩, hE.set hW hj (k_read (s_car S j) p b) rfl rfl rfl (fun i _ => ifu e6) (fun i _ => ifs e_la) (fun i _ => ifu rfl) (fun i _ => ifs e_ps) ⟨fun k hk => (hE2 j k hj hk).1, fun _ _ => rfl⟩ ⟨fun k hk => (hE2 j k hj hk).2.1, fun _ _ => rfl⟩ ⟨fun k hk => (hE2 j k hj hk).2.2.1, fun _ _ => rfl⟩ ⟨fun k hk => hrdn k hk, fun q hq => updn (by omega)⟩ ⟨fun k hk => hE4 j k hj hk, fun _ _ => rfl⟩, hW.set ⟨hn1, hn2⟩ hps⟩
              · refine aw_iconst C (v := 3) d_R_read_182 (by decide) ?_
                refine aw_goto C (tgt := 187) d_R_read_183 (by decide) ?_
                refine ar_iast C r4 (j := j) (rfl) (by omega) (by omega) d_R_read_187 ?_
                intro ce35 fw35 r4
                have r0 : ce35 (3, 0, 0) = some (.inr (3, [.int (nI (s_cn S)), .ref (ad (3, 0, 1)), .ref (ad (3, 0, 2)), .ref (ad (3, 0, 3)), .ref (ad (3, 0, 4)), .ref (ad (3, 0, 5)), .ref (ad (3, 0, 6)), .ref (ad (3, 0, 7)), .ref (ad (3, 0, 8)), .ref (ad (3, 0, 9)), .ref (ad (3, 0, 10)), .ref (ad (3, 0, 11)), .ref (ad (3, 0, 12)), .int (nI (s_pn S)), .ref (ad (3, 0, 14)), .ref (ad (3, 0, 15)), .int (nI (s_ln S)), .ref (ad (3, 0, 17)), .int (nI (s_on S)), .ref (ad (3, 0, 19))])) := (fw35 _ (by simp)).trans r0
                have r1 := r1.tr (fw35 _ (by simp))
                have r2 := r2.tr (fw35 _ (by simp))
                have r3 := r3.tr (fw35 _ (by simp))
                have r5 := r5.tr (fw35 _ (by simp))
                have r6 := r6.tr (fw35 _ (by simp))
                have r7 := r7.tr (fw35 _ (by simp))
                have r8 := r8.tr (fw35 _ (by simp))
                have r9 := r9.tr (fw35 _ (by simp))
                have r10 := r10.tr (fw35 _ (by simp))
                have r11 := r11.tr (fw35 _ (by simp))
                have r12 := r12.tr (fw35 _ (by simp))
                have r14 := r14.tr (fw35 _ (by simp))
                have r15 := r15.tr (fw35 _ (by simp))
                have r17 := r17.tr (fw35 _ (by simp))
                have r19 := r19.tr (fw35 _ (by simp))
                refine aw_iload C d_R_read_188 (j := 2) rfl ?_
                refine aw_if_eq C (tgt := 197) d_R_read_190 (by decide) (fun h190 => absurd h190 (by decide)) (fun h190 => ?_)
                refine aw_iconst C (v := 1) d_R_read_193 (by decide) ?_
                refine aw_goto C (tgt := 198) d_R_read_194 (by decide) ?_
                refine aw_iret C E (rfl) (by decide) (by decide) d_R_read_198 ?_
                rw [bI_ne] at h179
                have hall : h = true ↔ (cnt (upd (k_rd (s_car S j)) p 1) (k_np (s_car S j)) = k_np (s_car S j) ∧ k_rdU (s_car S j) p b = 0) := by
                  rw [show h = (decide (k_rdU (s_car S j) p b = 0) && allF (upd (k_rd (s_car S j)) p 1) (k_np (s_car S j)) 0) from by rw [← hr]; simp [allF]]
                  rw [Bool.and_eq_true, decide_eq_true_eq, allF_iff, cnt_full]
                  constructor
                  · rintro ⟨q1, q2⟩; exact ⟨fun k hk => q2 k (Nat.zero_le k) (by omega), q1⟩
                  · rintro ⟨q1, q2⟩; exact ⟨q2, fun k _ hk => q1 k (by omega)⟩
                have e6 : (3 : Int32) = k_st (k_read (s_car S j) p b) := (if_pos (hall.mp h179)).symm
                rw [show f_read S (nI j) (nI p) b = ((if b = k_du (s_car S j) p then 1 else 0), s_set S j (k_read (s_car S j) p b)) from by simp only [f_read, ix_in hj (show s_cn S < 2 ^ 31 by omega), ix_in hp0 (show k_np (s_car S j) < 2 ^ 31 by omega), if_pos hc]]
                exact ⟨sI (by simp [h80]), rfl, ((fr3 fw25).trans (fr3 fw31)).trans (fr3 fw35), _, _, _, _, _, _, _, _, _, _, _, _, _, _, ⟨r0, r1, r2, r3, r4, r5, r6, r7, r8, r9, r10, r11, r12, r14, r15, r17, r19⟩, hE.set hW hj (k_read (s_car S j) p b) rfl rfl rfl (fun i _ => ifu e6) (fun i _ => ifs e_la) (fun i _ => ifu rfl) (fun i _ => ifs e_ps) ⟨fun k hk => (hE2 j k hj hk).1, fun _ _ => rfl⟩ ⟨fun k hk => (hE2 j k hj hk).2.1, fun _ _ => rfl⟩ ⟨fun k hk => (hE2 j k hj hk).2.2.1, fun _ _ => rfl⟩ ⟨fun k hk => hrdn k hk, fun q hq => updn (by omega)⟩ ⟨fun k hk => hE4 j k hj hk, fun _ _ => rfl⟩, hW.set ⟨hn1, hn2⟩ hps⟩
            | succ m ih =>
              intro a h ha hr
              refine aw_iload C d_R_read_128 (j := 0) rfl ?_
              refine aw_aload_n C d_R_read_130 rfl (j := 3) rfl ?_
              refine aw_get C F_R r0 3 (by decide) tw_302 rfl d_R_read_131 ?_
              refine aw_iload_n C d_R_read_134 rfl (j := 4) rfl ?_
              refine ar_iald C r3 (j := j) (rfl) (by omega) (by omega) d_R_read_135 ?_
              refine aw_topi (v' := nI (k_np (s_car S j))) (e_np) ?_
              refine aw_icmp_ge C (tgt := 172) d_R_read_136 (by decide) (fun h136 => absurd h136 (nI_ge (by omega) (by omega))) (fun h136 => ?_)
              refine aw_iload C d_R_read_139 (j := 1) rfl ?_
              refine aw_if_eq C (tgt := 163) d_R_read_141 (by decide) (fun h141 => ?_) (fun h141 => ?_)
              · refine aw_iconst C (v := 0) d_R_read_163 (by decide) ?_
                refine aw_istore C (lv' := [(5, .int 0), (6, .int (nI a)), (4, .int 1), (0, .ref (ad (3, 0, 0))), (1, .int (nI j)), (2, .int (nI p)), (3, .int b)]) d_R_read_164 (by decide) rfl ?_
                refine aw_iinc C (v := nI (a + 1)) (lv' := [(6, .int (nI (a + 1))), (5, .int 0), (4, .int 1), (0, .ref (ad (3, 0, 0))), (1, .int (nI j)), (2, .int (nI p)), (3, .int b)]) d_R_read_166 (j := 1) rfl (nI_1 _) (by decide) rfl ?_
                refine aw_goto C (tgt := 128) d_R_read_169 (by decide) ?_
                refine aw_lv (lv' := [(6, .int (nI (a + 1))), (5, .int (bI false)), (4, .int 1), (0, .ref (ad (3, 0, 0))), (1, .int (nI j)), (2, .int (nI p)), (3, .int b)]) rfl ?_
                exact ih (a + 1) false (by omega) (by rw [← hr]; rw [bI_eq] at h141; subst h141; simp [allF])
              · refine aw_aload_n C d_R_read_144 rfl (j := 3) rfl ?_
                refine aw_get C F_R r0 9 (by decide) tw_308 rfl d_R_read_145 ?_
                refine aw_bipush C (v := 64) d_R_read_148 (by decide) ?_
                refine aw_iload_n C d_R_read_150 rfl (j := 4) rfl ?_
                refine aw_imul C d_R_read_151 ?_
                refine aw_iload C d_R_read_152 (j := 0) rfl ?_
                refine aw_iadd C d_R_read_154 ?_
                refine aw_topi (v' := nI (64 * j + a)) (k64 _ _) ?_
                refine ar_zald C r9 (j := (64 * j + a)) (rfl) (by omega) (by omega) d_R_read_155 ?_
                refine aw_topi (v' := upd (k_rd (s_car S j)) p 1 a) (hrdn a (by omega)) ?_
                refine aw_if_eq C (tgt := 163) d_R_read_156 (by decide) (fun h156 => ?_) (fun h156 => ?_)
                · refine aw_iconst C (v := 0) d_R_read_163 (by decide) ?_
                  refine aw_istore C (lv' := [(5, .int 0), (6, .int (nI a)), (4, .int 1), (0, .ref (ad (3, 0, 0))), (1, .int (nI j)), (2, .int (nI p)), (3, .int b)]) d_R_read_164 (by decide) rfl ?_
                  refine aw_iinc C (v := nI (a + 1)) (lv' := [(6, .int (nI (a + 1))), (5, .int 0), (4, .int 1), (0, .ref (ad (3, 0, 0))), (1, .int (nI j)), (2, .int (nI p)), (3, .int b)]) d_R_read_166 (j := 1) rfl (nI_1 _) (by decide) rfl ?_
                  refine aw_goto C (tgt := 128) d_R_read_169 (by decide) ?_
                  refine aw_lv (lv' := [(6, .int (nI (a + 1))), (5, .int (bI false)), (4, .int 1), (0, .ref (ad (3, 0, 0))), (1, .int (nI j)), (2, .int (nI p)), (3, .int b)]) rfl ?_
                  exact ih (a + 1) false (by omega) (by rw [← hr]; rw [bI_ne] at h141; subst h141; simp [allF, h156])
                · refine aw_iconst C (v := 1) d_R_read_159 (by decide) ?_
                  refine aw_goto C (tgt := 164) d_R_read_160 (by decide) ?_
                  refine aw_istore C (lv' := [(5, .int 1), (6, .int (nI a)), (4, .int 1), (0, .ref (ad (3, 0, 0))), (1, .int (nI j)), (2, .int (nI p)), (3, .int b)]) d_R_read_164 (by decide) rfl ?_
                  refine aw_iinc C (v := nI (a + 1)) (lv' := [(6, .int (nI (a + 1))), (5, .int 1), (4, .int 1), (0, .ref (ad (3, 0, 0))), (1, .int (nI j)), (2, .int (nI p)), (3, .int b)]) d_R_read_166 (j := 1) rfl (nI_1 _) (by decide) rfl ?_
                  refine aw_goto C (tgt := 128) d_R_read_169 (by decide) ?_
                  refine aw_lv (lv' := [(6, .int (nI (a + 1))), (5, .int (bI true)), (4, .int 1), (0, .ref (ad (3, 0, 0))), (1, .int (nI j)), (2, .int (nI p)), (3, .int b)]) rfl ?_
                  exact ih (a + 1) true (by omega) (by rw [← hr]; rw [bI_ne] at h141; subst h141; simp [allF, h156])
          refine aw_lv (lv' := [(6, .int (nI 0)), (5, .int (bI true)), (4, .int 1), (0, .ref (ad (3, 0, 0))), (1, .int (nI j)), (2, .int (nI p)), (3, .int b)]) (by simp only [nI_0]; rfl) ?_
          exact loop (k_np (s_car S j)) 0 true (by omega) (by simp [h115])
    by_cases h1 : 0 ≤ b ∧ b ≤ 255
    · skip
      show AW X 7 0 0 ad ce 0 [(0, .ref (ad (3, 0, 0))), (1, .int (nI j)), (2, .int (nI p)), (3, .int b)] []
      refine aw_aload_n C d_R_read_0 rfl (j := 0) rfl ?_
      refine aw_iload_n C d_R_read_1 rfl (j := 1) rfl ?_
      refine aw_iload_n C d_R_read_2 rfl (j := 2) rfl ?_
      refine aw_callV C I (k := (3, 0, 0)) (as := [.int (nI j), .int (nI p)]) (rest := []) (r_isPlace l G ad ce (s_cn S) (s_pn S) (s_ln S) (s_on S) kd sr np st la gby gdu gwo grd un ps gpt gff gfc (s_li S) (s_lo S) hR j _ hj hb1 e_np (nI p)) g_R_92 r0 rfl rfl ⟨by decide, by decide⟩ ⟨by decide, by decide⟩ rfl (Nat.le_of_ble_eq_true rfl) d_R_read_3 ?_
      rintro _ _ _ ⟨rfl, rfl, rfl⟩
      show AW X 7 0 0 ad ce 6 [(0, .ref (ad (3, 0, 0))), (1, .int (nI j)), (2, .int (nI p)), (3, .int b)] [.int (bI (decide (0 ≤ nI p ∧ nI p < nI (k_np (s_car S j)))))]
      refine aw_topi (v' := 1) ((bI_t ⟨nI_pos' (by omega), nI_lt (by omega) (by omega)⟩).symm) ?_
      show AW X 7 0 0 ad ce 6 [(0, .ref (ad (3, 0, 0))), (1, .int (nI j)), (2, .int (nI p)), (3, .int b)] [.int 1]
      refine aw_if_eq C (tgt := 54) d_R_read_6 (by decide) (fun h6 => absurd h6 (by decide)) (fun h6 => ?_)
      refine aw_iload_n C d_R_read_9 rfl (j := 3) rfl ?_
      refine aw_i2l C d_R_read_10 ?_
      refine aw_lconst C (v := 0) d_R_read_11 (by decide) ?_
      refine aw_ldc2 C tw_427 d_R_read_12 ?_
      refine aw_callS C I (as := [.long (Int32.toInt64 b), .long 0, .long 255]) (rest := []) (r_isIn l G ad ce (Int32.toInt64 b) 0 255) g_R_70 ⟨by decide, by decide⟩ ⟨by decide, by decide⟩ rfl (Nat.le_of_ble_eq_true rfl) d_R_read_15 ?_
      rintro _ _ _ ⟨rfl, rfl, rfl⟩
      show AW X 7 0 0 ad ce 18 [(0, .ref (ad (3, 0, 0))), (1, .int (nI j)), (2, .int (nI p)), (3, .int b)] [.int (bI (decide (0 ≤ Int32.toInt64 b ∧ Int32.toInt64 b ≤ 255)))]
      refine aw_topi (v' := 1) ((bI_t ((in32 rfl rfl).mpr h1)).symm) ?_
      show AW X 7 0 0 ad ce 18 [(0, .ref (ad (3, 0, 0))), (1, .int (nI j)), (2, .int (nI p)), (3, .int b)] [.int 1]
      refine aw_if_eq C (tgt := 54) d_R_read_18 (by decide) (fun h18 => absurd h18 (by decide)) (fun h18 => ?_)
      refine aw_aload_n C d_R_read_21 rfl (j := 0) rfl ?_
      refine aw_get C F_R r0 4 (by decide) tw_303 rfl d_R_read_22 ?_
      refine aw_iload_n C d_R_read_25 rfl (j := 1) rfl ?_
      refine ar_iald C r4 (j := j) (rfl) (by omega) (by omega) d_R_read_26 ?_
      refine aw_topi (v' := k_st (s_car S j)) (e_st) ?_
      refine aw_iconst C (v := 2) d_R_read_27 (by decide) ?_
      refine aw_icmp_ne C (tgt := 54) d_R_read_28 (by decide) (fun h28 => ?_) (fun h28 => ?_)
      · refine aw_iconst C (v := (-1)) d_R_read_54 (by decide) ?_
        refine aw_iret C E (rfl) (by decide) (by decide) d_R_read_55 ?_
        rw [show f_read S (nI j) (nI p) b = (-1, S) from by simp only [f_read, ix_in hj (show s_cn S < 2 ^ 31 by omega), ix_in hp0 (show k_np (s_car S j) < 2 ^ 31 by omega), if_neg hc]]
        exact ⟨rfl, rfl, frR.rf, ⟨kd, sr, np, st, la, gby, gdu, gwo, grd, un, ps, gpt, gff, gfc, hR, hE, hW⟩⟩
      · refine aw_aload_n C d_R_read_31 rfl (j := 0) rfl ?_
        refine aw_get C F_R r0 11 (by decide) tw_310 rfl d_R_read_32 ?_
        refine aw_iload_n C d_R_read_35 rfl (j := 1) rfl ?_
        refine ar_iald C r11 (j := j) (rfl) (by omega) (by omega) d_R_read_36 ?_
        refine aw_topi (v' := nI (k_ps (s_car S j))) (e_ps) ?_
        refine aw_if_eq C (tgt := 54) d_R_read_37 (by decide) (fun h37 => ?_) (fun h37 => ?_)
        · refine aw_iconst C (v := (-1)) d_R_read_54 (by decide) ?_
          refine aw_iret C E (rfl) (by decide) (by decide) d_R_read_55 ?_
          rw [show f_read S (nI j) (nI p) b = (-1, S) from by simp only [f_read, ix_in hj (show s_cn S < 2 ^ 31 by omega), ix_in hp0 (show k_np (s_car S j) < 2 ^ 31 by omega), if_neg hc]]
          exact ⟨rfl, rfl, frR.rf, ⟨kd, sr, np, st, la, gby, gdu, gwo, grd, un, ps, gpt, gff, gfc, hR, hE, hW⟩⟩
        · refine aw_aload_n C d_R_read_40 rfl (j := 0) rfl ?_
          refine aw_get C F_R r0 9 (by decide) tw_308 rfl d_R_read_41 ?_
          refine aw_bipush C (v := 64) d_R_read_44 (by decide) ?_
          refine aw_iload_n C d_R_read_46 rfl (j := 1) rfl ?_
          refine aw_imul C d_R_read_47 ?_
          refine aw_iload_n C d_R_read_48 rfl (j := 2) rfl ?_
          refine aw_iadd C d_R_read_49 ?_
          refine aw_topi (v' := nI (64 * j + p)) (k64 _ _) ?_
          refine ar_zald C r9 (j := (64 * j + p)) (rfl) (by omega) (by omega) d_R_read_50 ?_
          refine aw_topi (v' := k_rd (s_car S j) p) ((hE2 j p hj hp0).2.2.2) ?_
          refine aw_if_eq C (tgt := 56) d_R_read_51 (by decide) (fun h51 => ?_) (fun h51 => ?_)
          · exact absurd ⟨h1, h28, fun q => h37 (by rw [q]; exact nI_0), h51⟩ hc
          · refine aw_iconst C (v := (-1)) d_R_read_54 (by decide) ?_
            refine aw_iret C E (rfl) (by decide) (by decide) d_R_read_55 ?_
            rw [show f_read S (nI j) (nI p) b = (-1, S) from by simp only [f_read, ix_in hj (show s_cn S < 2 ^ 31 by omega), ix_in hp0 (show k_np (s_car S j) < 2 ^ 31 by omega), if_neg hc]]
            exact ⟨rfl, rfl, frR.rf, ⟨kd, sr, np, st, la, gby, gdu, gwo, grd, un, ps, gpt, gff, gfc, hR, hE, hW⟩⟩
    · skip
      show AW X 7 0 0 ad ce 0 [(0, .ref (ad (3, 0, 0))), (1, .int (nI j)), (2, .int (nI p)), (3, .int b)] []
      refine aw_aload_n C d_R_read_0 rfl (j := 0) rfl ?_
      refine aw_iload_n C d_R_read_1 rfl (j := 1) rfl ?_
      refine aw_iload_n C d_R_read_2 rfl (j := 2) rfl ?_
      refine aw_callV C I (k := (3, 0, 0)) (as := [.int (nI j), .int (nI p)]) (rest := []) (r_isPlace l G ad ce (s_cn S) (s_pn S) (s_ln S) (s_on S) kd sr np st la gby gdu gwo grd un ps gpt gff gfc (s_li S) (s_lo S) hR j _ hj hb1 e_np (nI p)) g_R_92 r0 rfl rfl ⟨by decide, by decide⟩ ⟨by decide, by decide⟩ rfl (Nat.le_of_ble_eq_true rfl) d_R_read_3 ?_
      rintro _ _ _ ⟨rfl, rfl, rfl⟩
      show AW X 7 0 0 ad ce 6 [(0, .ref (ad (3, 0, 0))), (1, .int (nI j)), (2, .int (nI p)), (3, .int b)] [.int (bI (decide (0 ≤ nI p ∧ nI p < nI (k_np (s_car S j)))))]
      refine aw_topi (v' := 1) ((bI_t ⟨nI_pos' (by omega), nI_lt (by omega) (by omega)⟩).symm) ?_
      show AW X 7 0 0 ad ce 6 [(0, .ref (ad (3, 0, 0))), (1, .int (nI j)), (2, .int (nI p)), (3, .int b)] [.int 1]
      refine aw_if_eq C (tgt := 54) d_R_read_6 (by decide) (fun h6 => absurd h6 (by decide)) (fun h6 => ?_)
      refine aw_iload_n C d_R_read_9 rfl (j := 3) rfl ?_
      refine aw_i2l C d_R_read_10 ?_
      refine aw_lconst C (v := 0) d_R_read_11 (by decide) ?_
      refine aw_ldc2 C tw_427 d_R_read_12 ?_
      refine aw_callS C I (as := [.long (Int32.toInt64 b), .long 0, .long 255]) (rest := []) (r_isIn l G ad ce (Int32.toInt64 b) 0 255) g_R_70 ⟨by decide, by decide⟩ ⟨by decide, by decide⟩ rfl (Nat.le_of_ble_eq_true rfl) d_R_read_15 ?_
      rintro _ _ _ ⟨rfl, rfl, rfl⟩
      show AW X 7 0 0 ad ce 18 [(0, .ref (ad (3, 0, 0))), (1, .int (nI j)), (2, .int (nI p)), (3, .int b)] [.int (bI (decide (0 ≤ Int32.toInt64 b ∧ Int32.toInt64 b ≤ 255)))]
      refine aw_topi (v' := 0) ((bI_f (fun q => h1 ((in32 rfl rfl).mp q))).symm) ?_
      show AW X 7 0 0 ad ce 18 [(0, .ref (ad (3, 0, 0))), (1, .int (nI j)), (2, .int (nI p)), (3, .int b)] [.int 0]
      refine aw_if_eq C (tgt := 54) d_R_read_18 (by decide) (fun h18 => ?_) (fun h18 => absurd (rfl) h18)
      refine aw_iconst C (v := (-1)) d_R_read_54 (by decide) ?_
      refine aw_iret C E (rfl) (by decide) (by decide) d_R_read_55 ?_
      rw [show f_read S (nI j) (nI p) b = (-1, S) from by simp only [f_read, ix_in hj (show s_cn S < 2 ^ 31 by omega), ix_in hp0 (show k_np (s_car S j) < 2 ^ 31 by omega), if_neg hc]]
      exact ⟨rfl, rfl, frR.rf, ⟨kd, sr, np, st, la, gby, gdu, gwo, grd, un, ps, gpt, gff, gfc, hR, hE, hW⟩⟩
set_option maxRecDepth 100000 in
set_option maxHeartbeats 4000000 in
theorem R_failed (l : Launch) (G : aw_G) (ad : aw_Ad) (ce : aw_He) (S : SysS) (hS : LayR S ad ce) (x k : Int32) : CT l G M_R_failed 2 43 0 0 [.ref (ad (3, 0, 0)), .int x, .int k] ad ce (rN (some (.int (f_failed S x k))) ad ce) := by
  refine CT.of (by decide) (Nat.le_of_ble_eq_true rfl) ?_
  intro X C I E
  obtain ⟨kd, sr, np, st, la, gby, gdu, gwo, grd, un, ps, gpt, gff, gfc, hR, hE, hW⟩ := hS
  have hE0 := hE
  obtain ⟨hE1, hE2, hE3, hE4, hE5, hE6, hE7⟩ := hE0
  have hW0 := hW
  obtain ⟨⟨hb1, hb2, hb3, hb4⟩, hW2, hW3⟩ := hW0
  have hR0 := hR
  obtain ⟨r0, r1, r2, r3, r4, r5, r6, r7, r8, r9, r10, r11, r12, r14, r15, r17, r19⟩ := hR0
  rcases ix_cases x (n := s_cn S) (by omega) with hx | ⟨j, hj, rfl⟩
  · show AW X 5 0 0 ad ce 0 [(0, .ref (ad (3, 0, 0))), (1, .int x), (2, .int k)] []
    refine aw_iconst C (v := 0) d_R_failed_0 (by decide) ?_
    refine aw_istore_n C (lv' := [(3, .int 0), (0, .ref (ad (3, 0, 0))), (1, .int x), (2, .int k)]) d_R_failed_1 rfl (by decide) rfl ?_
    refine aw_iconst C (v := 0) d_R_failed_2 (by decide) ?_
    refine aw_istore C (lv' := [(4, .int 0), (3, .int 0), (0, .ref (ad (3, 0, 0))), (1, .int x), (2, .int k)]) d_R_failed_3 (by decide) rfl ?_
    refine aw_aload_n C d_R_failed_5 rfl (j := 2) rfl ?_
    refine aw_iload_n C d_R_failed_6 rfl (j := 3) rfl ?_
    refine aw_iload C d_R_failed_7 (j := 0) rfl ?_
    refine aw_callV C I (k := (3, 0, 0)) (as := [.int x, .int 0]) (rest := []) (r_isPlace_out l G ad ce (s_cn S) (s_pn S) (s_ln S) (s_on S) kd sr np st la gby gdu gwo grd un ps gpt gff gfc (s_li S) (s_lo S) hR x 0 hx) g_R_92 r0 rfl rfl ⟨by decide, by decide⟩ ⟨by decide, by decide⟩ rfl (Nat.le_of_ble_eq_true rfl) d_R_failed_9 ?_
    rintro _ _ _ ⟨rfl, rfl, rfl⟩
    show AW X 5 0 0 ad ce 12 [(4, .int 0), (3, .int 0), (0, .ref (ad (3, 0, 0))), (1, .int x), (2, .int k)] [.int 0]
    refine aw_if_eq C (tgt := 47) d_R_failed_12 (by decide) (fun h12 => ?_) (fun h12 => absurd (rfl) h12)
    refine aw_iconst C (v := (-1)) d_R_failed_47 (by decide) ?_
    refine aw_iret C E (rfl) (by decide) (by decide) d_R_failed_48 ?_
    exact ⟨sI (by simp only [f_failed, ix_out hx]), rfl, rfl⟩
  · skip
    obtain ⟨e_kd, e_sr, e_np, e_st, e_la, e_un, e_ps⟩ := hE1 j (by omega)
    obtain ⟨⟨hn1, hn2⟩, hps⟩ := hW2 j hj
    have loop : ∀ (m a : Nat) (s : Int32), a + m = k_np (s_car S j) → kth (k_wo (s_car S j)) k m a s = f_failed S (nI j) k → AW X 5 0 0 ad ce 5 [(4, .int (nI a)), (3, .int s), (0, .ref (ad (3, 0, 0))), (1, .int (nI j)), (2, .int k)] [] := by
      intro m
      induction m with
      | zero =>
        intro a s ha hr
        refine aw_aload_n C d_R_failed_5 rfl (j := 2) rfl ?_
        refine aw_iload_n C d_R_failed_6 rfl (j := 3) rfl ?_
        refine aw_iload C d_R_failed_7 (j := 0) rfl ?_
        refine aw_callV C I (k := (3, 0, 0)) (as := [.int (nI j), .int (nI a)]) (rest := []) (r_isPlace l G ad ce (s_cn S) (s_pn S) (s_ln S) (s_on S) kd sr np st la gby gdu gwo grd un ps gpt gff gfc (s_li S) (s_lo S) hR j _ hj hb1 e_np (nI a)) g_R_92 r0 rfl rfl ⟨by decide, by decide⟩ ⟨by decide, by decide⟩ rfl (Nat.le_of_ble_eq_true rfl) d_R_failed_9 ?_
        rintro _ _ _ ⟨rfl, rfl, rfl⟩
        show AW X 5 0 0 ad ce 12 [(4, .int (nI a)), (3, .int s), (0, .ref (ad (3, 0, 0))), (1, .int (nI j)), (2, .int k)] [.int (bI (decide (0 ≤ nI a ∧ nI a < nI (k_np (s_car S j)))))]
        refine aw_topi (v' := 0) ((bI_f (fun q => nI_nlt (by omega) (by omega) q.2)).symm) ?_
        show AW X 5 0 0 ad ce 12 [(4, .int (nI a)), (3, .int s), (0, .ref (ad (3, 0, 0))), (1, .int (nI j)), (2, .int k)] [.int 0]
        refine aw_if_eq C (tgt := 47) d_R_failed_12 (by decide) (fun h12 => ?_) (fun h12 => absurd (rfl) h12)
        refine aw_iconst C (v := (-1)) d_R_failed_47 (by decide) ?_
        refine aw_iret C E (rfl) (by decide) (by decide) d_R_failed_48 ?_
        exact ⟨sI hr, rfl, rfl⟩
      | succ m ih =>
        intro a s ha hr
        simp only [kth] at hr
        refine aw_aload_n C d_R_failed_5 rfl (j := 2) rfl ?_
        refine aw_iload_n C d_R_failed_6 rfl (j := 3) rfl ?_
        refine aw_iload C d_R_failed_7 (j := 0) rfl ?_
        refine aw_callV C I (k := (3, 0, 0)) (as := [.int (nI j), .int (nI a)]) (rest := []) (r_isPlace l G ad ce (s_cn S) (s_pn S) (s_ln S) (s_on S) kd sr np st la gby gdu gwo grd un ps gpt gff gfc (s_li S) (s_lo S) hR j _ hj hb1 e_np (nI a)) g_R_92 r0 rfl rfl ⟨by decide, by decide⟩ ⟨by decide, by decide⟩ rfl (Nat.le_of_ble_eq_true rfl) d_R_failed_9 ?_
        rintro _ _ _ ⟨rfl, rfl, rfl⟩
        show AW X 5 0 0 ad ce 12 [(4, .int (nI a)), (3, .int s), (0, .ref (ad (3, 0, 0))), (1, .int (nI j)), (2, .int k)] [.int (bI (decide (0 ≤ nI a ∧ nI a < nI (k_np (s_car S j)))))]
        refine aw_topi (v' := 1) ((bI_t ⟨nI_pos' (by omega), nI_lt (by omega) (by omega)⟩).symm) ?_
        show AW X 5 0 0 ad ce 12 [(4, .int (nI a)), (3, .int s), (0, .ref (ad (3, 0, 0))), (1, .int (nI j)), (2, .int k)] [.int 1]
        refine aw_if_eq C (tgt := 47) d_R_failed_12 (by decide) (fun h12 => absurd h12 (by decide)) (fun h12 => ?_)
        refine aw_aload_n C d_R_failed_15 rfl (j := 2) rfl ?_
        refine aw_get C F_R r0 8 (by decide) tw_307 rfl d_R_failed_16 ?_
        refine aw_bipush C (v := 64) d_R_failed_19 (by decide) ?_
        refine aw_iload_n C d_R_failed_21 rfl (j := 3) rfl ?_
        refine aw_imul C d_R_failed_22 ?_
        refine aw_iload C d_R_failed_23 (j := 0) rfl ?_
        refine aw_iadd C d_R_failed_25 ?_
        refine aw_topi (v' := nI (64 * j + a)) (k64 _ _) ?_
        refine ar_zald C r8 (j := (64 * j + a)) (rfl) (by omega) (by omega) d_R_failed_26 ?_
        refine aw_topi (v' := k_wo (s_car S j) a) ((hE2 j a hj (by omega)).2.2.1) ?_
        refine aw_if_eq C (tgt := 41) d_R_failed_27 (by decide) (fun h27 => ?_) (fun h27 => ?_)
        · refine aw_iinc C (v := nI (a + 1)) (lv' := [(4, .int (nI (a + 1))), (3, .int s), (0, .ref (ad (3, 0, 0))), (1, .int (nI j)), (2, .int k)]) d_R_failed_41 (j := 0) rfl (nI_1 _) (by decide) rfl ?_
          refine aw_goto C (tgt := 5) d_R_failed_44 (by decide) ?_
          rw [if_pos h27] at hr
          exact ih (a + 1) s (by omega) hr
        · refine aw_iload_n C d_R_failed_30 rfl (j := 1) rfl ?_
          refine aw_iload_n C d_R_failed_31 rfl (j := 4) rfl ?_
          refine aw_icmp_ne C (tgt := 38) d_R_failed_32 (by decide) (fun h32 => ?_) (fun h32 => ?_)
          · refine aw_iinc C (v := s + 1) (lv' := [(3, .int (s + 1)), (4, .int (nI a)), (0, .ref (ad (3, 0, 0))), (1, .int (nI j)), (2, .int k)]) d_R_failed_38 (j := 1) rfl (rfl) (by decide) rfl ?_
            refine aw_iinc C (v := nI (a + 1)) (lv' := [(4, .int (nI (a + 1))), (3, .int (s + 1)), (0, .ref (ad (3, 0, 0))), (1, .int (nI j)), (2, .int k)]) d_R_failed_41 (j := 1) rfl (nI_1 _) (by decide) rfl ?_
            refine aw_goto C (tgt := 5) d_R_failed_44 (by decide) ?_
            rw [if_neg h27, if_neg h32] at hr
            exact ih (a + 1) (s + 1) (by omega) hr
          · refine aw_iload C d_R_failed_35 (j := 0) rfl ?_
            refine aw_iret C E (rfl) (by decide) (by decide) d_R_failed_37 ?_
            exact ⟨sI (by rw [← hr, if_neg h27, if_pos h32]), rfl, rfl⟩
    show AW X 5 0 0 ad ce 0 [(0, .ref (ad (3, 0, 0))), (1, .int (nI j)), (2, .int k)] []
    refine aw_iconst C (v := 0) d_R_failed_0 (by decide) ?_
    refine aw_istore_n C (lv' := [(3, .int 0), (0, .ref (ad (3, 0, 0))), (1, .int (nI j)), (2, .int k)]) d_R_failed_1 rfl (by decide) rfl ?_
    refine aw_iconst C (v := 0) d_R_failed_2 (by decide) ?_
    refine aw_istore C (lv' := [(4, .int 0), (3, .int 0), (0, .ref (ad (3, 0, 0))), (1, .int (nI j)), (2, .int k)]) d_R_failed_3 (by decide) rfl ?_
    refine aw_lv (lv' := [(4, .int (nI 0)), (3, .int 0), (0, .ref (ad (3, 0, 0))), (1, .int (nI j)), (2, .int k)]) (by simp only [nI_0]) ?_
    exact loop (k_np (s_car S j)) 0 0 (by omega) (by simp only [f_failed, ix_in hj (show s_cn S < 2 ^ 31 by omega)])
theorem anyF_congr {f g : Nat → Int64} {x : Int64} : ∀ {m a : Nat}, (∀ i, a ≤ i → i < a + m → f i = g i) → anyF f x m a = anyF g x m a := by
  intro m
  induction m with
  | zero => intro a _; rfl
  | succ m ih =>
    intro a h
    simp only [anyF]
    rw [h a (Nat.le_refl a) (by omega), ih (fun i h1 h2 => h i (by omega) (by omega))]
set_option maxRecDepth 100000 in
set_option maxHeartbeats 4000000 in
theorem R_missing (l : Launch) (G : aw_G) (ad : aw_Ad) (ce : aw_He) (S : SysS) (hS : LayR S ad ce) (k : Int32) : CT l G M_R_missing 1 24 0 0 [.ref (ad (3, 0, 0)), .int k] ad ce (rN (some (.int (f_missing S k))) ad ce) := by
  refine CT.of (by decide) (Nat.le_of_ble_eq_true rfl) ?_
  intro X C I E
  obtain ⟨kd, sr, np, st, la, gby, gdu, gwo, grd, un, ps, gpt, gff, gfc, hR, hE, hW⟩ := hS
  have hE0 := hE
  obtain ⟨hE1, hE2, hE3, hE4, hE5, hE6, hE7⟩ := hE0
  have hW0 := hW
  obtain ⟨⟨hb1, hb2, hb3, hb4⟩, hW2, hW3⟩ := hW0
  have hR0 := hR
  obtain ⟨r0, r1, r2, r3, r4, r5, r6, r7, r8, r9, r10, r11, r12, r14, r15, r17, r19⟩ := hR0
  have hsr : ∀ x, anyF sr x (s_cn S) 0 = hasC S x := fun x => anyF_congr (fun i _ hi => (hE1 i (by omega)).2.1)
  have loop : ∀ (m a : Nat) (s : Int32), a + m = s_ln S → kth (fun i => if hasC S (s_li S i) = true then 0 else 1) k m a s = f_missing S k → AW X 4 0 0 ad ce 4 [(3, .int (nI a)), (2, .int s), (0, .ref (ad (3, 0, 0))), (1, .int k)] [] := by
    intro m
    induction m with
    | zero =>
      intro a s ha hr
      refine aw_iload_n C d_R_missing_4 rfl (j := 0) rfl ?_
      refine aw_aload_n C d_R_missing_5 rfl (j := 2) rfl ?_
      refine aw_get C F_R r0 16 (by decide) tw_315 rfl d_R_missing_6 ?_
      refine aw_icmp_ge C (tgt := 41) d_R_missing_9 (by decide) (fun h9 => ?_) (fun h9 => absurd (nI_le (by omega) (by omega)) h9)
      refine aw_iconst C (v := (-1)) d_R_missing_41 (by decide) ?_
      refine aw_iret C E (rfl) (by decide) (by decide) d_R_missing_42 ?_
      exact ⟨sI hr, rfl, rfl⟩
    | succ m ih =>
      intro a s ha hr
      simp only [kth] at hr
      refine aw_iload_n C d_R_missing_4 rfl (j := 0) rfl ?_
      refine aw_aload_n C d_R_missing_5 rfl (j := 2) rfl ?_
      refine aw_get C F_R r0 16 (by decide) tw_315 rfl d_R_missing_6 ?_
      refine aw_icmp_ge C (tgt := 41) d_R_missing_9 (by decide) (fun h9 => absurd h9 (nI_ge (by omega) (by omega))) (fun h9 => ?_)
      refine aw_aload_n C d_R_missing_12 rfl (j := 2) rfl ?_
      refine aw_aload_n C d_R_missing_13 rfl (j := 2) rfl ?_
      refine aw_get C F_R r0 17 (by decide) tw_316 rfl d_R_missing_14 ?_
      refine aw_iload_n C d_R_missing_17 rfl (j := 0) rfl ?_
      refine ar_lald C r17 (j := a) (rfl) (by omega) (by omega) d_R_missing_18 ?_
      refine aw_callV C I (k := (3, 0, 0)) (as := [.long ((s_li S) a)]) (rest := []) (r_hasSerial l G ad ce (s_cn S) (s_pn S) (s_ln S) (s_on S) kd sr np st la gby gdu gwo grd un ps gpt gff gfc (s_li S) (s_lo S) hR hb1 (s_li S a)) g_R_78 r0 rfl rfl ⟨by decide, by decide⟩ ⟨by decide, by decide⟩ rfl (Nat.le_of_ble_eq_true rfl) d_R_missing_19 ?_
      rintro _ _ _ ⟨rfl, rfl, rfl⟩
      show AW X 4 0 0 ad ce 22 [(3, .int (nI a)), (2, .int s), (0, .ref (ad (3, 0, 0))), (1, .int k)] [.int (bI (anyF sr (s_li S a) (s_cn S) 0))]
      refine aw_topi (v' := bI (hasC S (s_li S a))) (by rw [hsr]) ?_
      show AW X 4 0 0 ad ce 22 [(3, .int (nI a)), (2, .int s), (0, .ref (ad (3, 0, 0))), (1, .int k)] [.int (bI (hasC S (s_li S a)))]
      refine aw_if_ne C (tgt := 35) d_R_missing_22 (by decide) (fun h22 => ?_) (fun h22 => ?_)
      · refine aw_iinc C (v := nI (a + 1)) (lv' := [(3, .int (nI (a + 1))), (2, .int s), (0, .ref (ad (3, 0, 0))), (1, .int k)]) d_R_missing_35 (j := 0) rfl (nI_1 _) (by decide) rfl ?_
        refine aw_goto C (tgt := 4) d_R_missing_38 (by decide) ?_
        rw [bI_ne] at h22
        rw [if_pos (by show (if _ = true then (0 : Int32) else 1) = 0; rw [if_pos h22])] at hr
        exact ih (a + 1) s (by omega) hr
      · refine aw_iload_n C d_R_missing_25 rfl (j := 1) rfl ?_
        refine aw_iload_n C d_R_missing_26 rfl (j := 3) rfl ?_
        refine aw_icmp_ne C (tgt := 32) d_R_missing_27 (by decide) (fun h27 => ?_) (fun h27 => ?_)
        · refine aw_iinc C (v := s + 1) (lv' := [(2, .int (s + 1)), (3, .int (nI a)), (0, .ref (ad (3, 0, 0))), (1, .int k)]) d_R_missing_32 (j := 1) rfl (rfl) (by decide) rfl ?_
          refine aw_iinc C (v := nI (a + 1)) (lv' := [(3, .int (nI (a + 1))), (2, .int (s + 1)), (0, .ref (ad (3, 0, 0))), (1, .int k)]) d_R_missing_35 (j := 1) rfl (nI_1 _) (by decide) rfl ?_
          refine aw_goto C (tgt := 4) d_R_missing_38 (by decide) ?_
          rw [bI_eq] at h22
          rw [if_neg (by show ¬ (if _ = true then (0 : Int32) else 1) = 0; rw [if_neg (by rw [h22]; decide)]; decide), if_neg h27] at hr
          exact ih (a + 1) (s + 1) (by omega) hr
        · refine aw_iload_n C d_R_missing_30 rfl (j := 0) rfl ?_
          refine aw_iret C E (rfl) (by decide) (by decide) d_R_missing_31 ?_
          rw [bI_eq] at h22
          rw [if_neg (by show ¬ (if _ = true then (0 : Int32) else 1) = 0; rw [if_neg (by rw [h22]; decide)]; decide), if_pos h27] at hr
          exact ⟨sI hr, rfl, rfl⟩
  show AW X 4 0 0 ad ce 0 [(0, .ref (ad (3, 0, 0))), (1, .int k)] []
  refine aw_iconst C (v := 0) d_R_missing_0 (by decide) ?_
  refine aw_istore_n C (lv' := [(2, .int 0), (0, .ref (ad (3, 0, 0))), (1, .int k)]) d_R_missing_1 rfl (by decide) rfl ?_
  refine aw_iconst C (v := 0) d_R_missing_2 (by decide) ?_
  refine aw_istore_n C (lv' := [(3, .int 0), (2, .int 0), (0, .ref (ad (3, 0, 0))), (1, .int k)]) d_R_missing_3 rfl (by decide) rfl ?_
  refine aw_lv (lv' := [(3, .int (nI 0)), (2, .int 0), (0, .ref (ad (3, 0, 0))), (1, .int k)]) (by simp only [nI_0]) ?_
  exact loop (s_ln S) 0 0 (by omega) rfl
set_option maxRecDepth 100000 in
set_option maxHeartbeats 4000000 in
theorem R_extra (l : Launch) (G : aw_G) (ad : aw_Ad) (ce : aw_He) (S : SysS) (hS : LayR S ad ce) (k : Int32) : CT l G M_R_extra 1 24 0 0 [.ref (ad (3, 0, 0)), .int k] ad ce (rN (some (.int (f_extra S k))) ad ce) := by
  refine CT.of (by decide) (Nat.le_of_ble_eq_true rfl) ?_
  intro X C I E
  obtain ⟨kd, sr, np, st, la, gby, gdu, gwo, grd, un, ps, gpt, gff, gfc, hR, hE, hW⟩ := hS
  have hE0 := hE
  obtain ⟨hE1, hE2, hE3, hE4, hE5, hE6, hE7⟩ := hE0
  have hW0 := hW
  obtain ⟨⟨hb1, hb2, hb3, hb4⟩, hW2, hW3⟩ := hW0
  have hR0 := hR
  obtain ⟨r0, r1, r2, r3, r4, r5, r6, r7, r8, r9, r10, r11, r12, r14, r15, r17, r19⟩ := hR0
  have hsr : ∀ x, anyF sr x (s_cn S) 0 = hasC S x := fun x => anyF_congr (fun i _ hi => (hE1 i (by omega)).2.1)
  have loop : ∀ (m a : Nat) (s : Int32), a + m = s_cn S → kth (fun i => if hasL S (k_sr (s_car S i)) = true then 0 else 1) k m a s = f_extra S k → AW X 4 0 0 ad ce 4 [(3, .int (nI a)), (2, .int s), (0, .ref (ad (3, 0, 0))), (1, .int k)] [] := by
    intro m
    induction m with
    | zero =>
      intro a s ha hr
      refine aw_iload_n C d_R_extra_4 rfl (j := 0) rfl ?_
      refine aw_aload_n C d_R_extra_5 rfl (j := 2) rfl ?_
      refine aw_get C F_R r0 0 (by decide) tw_299 rfl d_R_extra_6 ?_
      refine aw_icmp_ge C (tgt := 41) d_R_extra_9 (by decide) (fun h9 => ?_) (fun h9 => absurd (nI_le (by omega) (by omega)) h9)
      refine aw_iconst C (v := (-1)) d_R_extra_41 (by decide) ?_
      refine aw_iret C E (rfl) (by decide) (by decide) d_R_extra_42 ?_
      exact ⟨sI hr, rfl, rfl⟩
    | succ m ih =>
      intro a s ha hr
      simp only [kth] at hr
      refine aw_iload_n C d_R_extra_4 rfl (j := 0) rfl ?_
      refine aw_aload_n C d_R_extra_5 rfl (j := 2) rfl ?_
      refine aw_get C F_R r0 0 (by decide) tw_299 rfl d_R_extra_6 ?_
      refine aw_icmp_ge C (tgt := 41) d_R_extra_9 (by decide) (fun h9 => absurd h9 (nI_ge (by omega) (by omega))) (fun h9 => ?_)
      refine aw_aload_n C d_R_extra_12 rfl (j := 2) rfl ?_
      refine aw_aload_n C d_R_extra_13 rfl (j := 2) rfl ?_
      refine aw_get C F_R r0 2 (by decide) tw_301 rfl d_R_extra_14 ?_
      refine aw_iload_n C d_R_extra_17 rfl (j := 0) rfl ?_
      refine ar_lald C r2 (j := a) (rfl) (by omega) (by omega) d_R_extra_18 ?_
      refine aw_topl (v' := k_sr (s_car S a)) ((hE1 a (by omega)).2.1) ?_
      refine aw_callV C I (k := (3, 0, 0)) (as := [.long (k_sr (s_car S a))]) (rest := []) (r_isListed l G ad ce (s_cn S) (s_pn S) (s_ln S) (s_on S) kd sr np st la gby gdu gwo grd un ps gpt gff gfc (s_li S) (s_lo S) hR hb3 (k_sr (s_car S a))) g_R_134 r0 rfl rfl ⟨by decide, by decide⟩ ⟨by decide, by decide⟩ rfl (Nat.le_of_ble_eq_true rfl) d_R_extra_19 ?_
      rintro _ _ _ ⟨rfl, rfl, rfl⟩
      show AW X 4 0 0 ad ce 22 [(3, .int (nI a)), (2, .int s), (0, .ref (ad (3, 0, 0))), (1, .int k)] [.int (bI (hasL S (k_sr (s_car S a))))]
      refine aw_if_ne C (tgt := 35) d_R_extra_22 (by decide) (fun h22 => ?_) (fun h22 => ?_)
      · refine aw_iinc C (v := nI (a + 1)) (lv' := [(3, .int (nI (a + 1))), (2, .int s), (0, .ref (ad (3, 0, 0))), (1, .int k)]) d_R_extra_35 (j := 0) rfl (nI_1 _) (by decide) rfl ?_
        refine aw_goto C (tgt := 4) d_R_extra_38 (by decide) ?_
        rw [bI_ne] at h22
        rw [if_pos (by show (if _ = true then (0 : Int32) else 1) = 0; rw [if_pos h22])] at hr
        exact ih (a + 1) s (by omega) hr
      · refine aw_iload_n C d_R_extra_25 rfl (j := 1) rfl ?_
        refine aw_iload_n C d_R_extra_26 rfl (j := 3) rfl ?_
        refine aw_icmp_ne C (tgt := 32) d_R_extra_27 (by decide) (fun h27 => ?_) (fun h27 => ?_)
        · refine aw_iinc C (v := s + 1) (lv' := [(2, .int (s + 1)), (3, .int (nI a)), (0, .ref (ad (3, 0, 0))), (1, .int k)]) d_R_extra_32 (j := 1) rfl (rfl) (by decide) rfl ?_
          refine aw_iinc C (v := nI (a + 1)) (lv' := [(3, .int (nI (a + 1))), (2, .int (s + 1)), (0, .ref (ad (3, 0, 0))), (1, .int k)]) d_R_extra_35 (j := 1) rfl (nI_1 _) (by decide) rfl ?_
          refine aw_goto C (tgt := 4) d_R_extra_38 (by decide) ?_
          rw [bI_eq] at h22
          rw [if_neg (by show ¬ (if _ = true then (0 : Int32) else 1) = 0; rw [if_neg (by rw [h22]; decide)]; decide), if_neg h27] at hr
          exact ih (a + 1) (s + 1) (by omega) hr
        · refine aw_iload_n C d_R_extra_30 rfl (j := 0) rfl ?_
          refine aw_iret C E (rfl) (by decide) (by decide) d_R_extra_31 ?_
          rw [bI_eq] at h22
          rw [if_neg (by show ¬ (if _ = true then (0 : Int32) else 1) = 0; rw [if_neg (by rw [h22]; decide)]; decide), if_pos h27] at hr
          exact ⟨sI hr, rfl, rfl⟩
  show AW X 4 0 0 ad ce 0 [(0, .ref (ad (3, 0, 0))), (1, .int k)] []
  refine aw_iconst C (v := 0) d_R_extra_0 (by decide) ?_
  refine aw_istore_n C (lv' := [(2, .int 0), (0, .ref (ad (3, 0, 0))), (1, .int k)]) d_R_extra_1 rfl (by decide) rfl ?_
  refine aw_iconst C (v := 0) d_R_extra_2 (by decide) ?_
  refine aw_istore_n C (lv' := [(3, .int 0), (2, .int 0), (0, .ref (ad (3, 0, 0))), (1, .int k)]) d_R_extra_3 rfl (by decide) rfl ?_
  refine aw_lv (lv' := [(3, .int (nI 0)), (2, .int 0), (0, .ref (ad (3, 0, 0))), (1, .int k)]) (by simp only [nI_0]) ?_
  exact loop (s_cn S) 0 0 (by omega) rfl
