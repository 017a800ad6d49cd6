/-! Int64 as an unsigned number (begun from the kit's laws for pasting) -/
def uN (x : Int64) : Nat := x.toUInt64.toNat
theorem uN_lt (x : Int64) : uN x < 18446744073709551616 := x.toUInt64.toNat_lt
theorem uN_inj {x y : Int64} (h : uN x = uN y) : x = y := congrArg UInt64.toInt64 (UInt64.toNat_inj.mp h)
theorem uN_shr (x : Int64) (s : UInt64) : uN (x.toUInt64 >>> s).toInt64 = uN x / 2 ^ (s.toNat % 64) := by
  show (x.toUInt64 >>> s).toNat = _
  rw [UInt64.toNat_shiftRight, Nat.shiftRight_eq_div_pow]
  rfl
theorem uN_255 (x : Int64) : uN (x &&& 255) = uN x % 256 := by
  show (x.toUInt64 &&& Int64.toUInt64 255).toNat = _
  rw [UInt64.toNat_and]
  exact Nat.and_two_pow_sub_one_eq_mod _ 8
theorem mkB_nat (x : Int64) (s : Int32) (t : Nat) (h : ((Int32.toInt64 s).toUInt64 &&& Int64.toUInt64 63).toNat % 64 = t) : (mkB x s).toBitVec.toNat = uN x / 2 ^ t % 256 := by
  have e : (mkB x s).toBitVec.toNat = uN ((Int64.toUInt64 x >>> ((Int32.toInt64 s).toUInt64 &&& Int64.toUInt64 63)).toInt64 &&& 255) % 2 ^ 32 := by
    show (BitVec.signExtend 32 (Int64.toBitVec ((Int64.toUInt64 x >>> ((Int32.toInt64 s).toUInt64 &&& Int64.toUInt64 63)).toInt64 &&& 255))).toNat = _
    rw [BitVec.signExtend_eq_setWidth_of_le _ (by decide), BitVec.toNat_setWidth]
    rfl
  rw [e, uN_255, uN_shr, h]
  omega
theorem mk_sh : ∀ a, a < 8 → ((Int32.toInt64 (56 - 8 * nI a)).toUInt64 &&& Int64.toUInt64 63).toNat % 64 = 56 - 8 * a := by decide +kernel
theorem mkB_inj {x y : Int64} (h : ∀ a, a < 8 → mkB x (56 - 8 * nI a) = mkB y (56 - 8 * nI a)) : x = y := by
  have g : ∀ a, a < 8 → uN x / 2 ^ (56 - 8 * a) % 256 = uN y / 2 ^ (56 - 8 * a) % 256 := by
    intro a ha
    rw [← mkB_nat x _ _ (mk_sh a ha), ← mkB_nat y _ _ (mk_sh a ha), h a ha]
  have g0 := g 0 (by decide)
  have g1 := g 1 (by decide)
  have g2 := g 2 (by decide)
  have g3 := g 3 (by decide)
  have g4 := g 4 (by decide)
  have g5 := g 5 (by decide)
  have g6 := g 6 (by decide)
  have g7 := g 7 (by decide)
  have hx := uN_lt x
  have hy := uN_lt y
  apply uN_inj
  simp only [Nat.mul_zero, Nat.sub_zero, Nat.reducePow, Nat.reduceMul, Nat.reduceSub] at g0 g1 g2 g3 g4 g5 g6 g7
  generalize uN x = a at *
  generalize uN y = b at *
  omega
def eqF (x y : Int64) : Nat → Nat → Bool
  | 0, _ => true
  | m + 1, a => decide (mkB x (56 - 8 * nI a) = mkB y (56 - 8 * nI a)) && eqF x y m (a + 1)
theorem eqF_iff {x y : Int64} : ∀ (m a : Nat), eqF x y m a = true ↔ ∀ k, a ≤ k → k < a + m → mkB x (56 - 8 * nI k) = mkB y (56 - 8 * nI k) := by
  intro m
  induction m with
  | zero => intro a; simp only [eqF, true_iff]; intro k h1 h2; omega
  | succ m ih =>
    intro a
    simp only [eqF, Bool.and_eq_true, decide_eq_true_eq, ih (a + 1)]
    constructor
    · rintro ⟨h1, h2⟩ k h3 h4
      by_cases e : k = a
      · subst e; exact h1
      · exact h2 k (by omega) (by omega)
    · intro h
      exact ⟨h a (Nat.le_refl a) (by omega), fun k h1 h2 => h k (by omega) (by omega)⟩
theorem eqF8 (x y : Int64) : eqF x y 8 0 = decide (x = y) := by
  by_cases h : x = y
  · subst h; rw [decide_eq_true rfl, eqF_iff]; intro _ _ _; rfl
  · rw [decide_eq_false h]
    cases hh : eqF x y 8 0
    · rfl
    · exact absurd (mkB_inj (fun a ha => (eqF_iff 8 0).mp hh a (Nat.zero_le a) (by omega))) h
set_option maxRecDepth 100000 in
set_option maxHeartbeats 4000000 in
theorem R_check (l : Launch) (G : aw_G) (ad : aw_Ad) (ce : aw_He) (S : SysS) (hS : LayR S ad ce) (x : Int32) (key b : Int64) : CT l G M_R_check 2 50 0 0 [.ref (ad (3, 0, 0)), .int x, .long key, .long b] ad ce (rN (some (.int (f_check S x key b))) ad ce) := by
  refine CT.of (by decide) (Nat.le_of_ble_eq_true rfl) ?_
  intro X C I E
  have hS1 := hS
  obtain ⟨kd, sr, np, st, la, gby, gdu, gwo, grd, un, ps, gpt, gff, gfc, hR, hE, hW⟩ := hS1
  have hE0 := hE
  obtain ⟨hE1, hE2, hE3, hE4, hE5, hE6, hE7⟩ := hE0
  have hW0 := hW
  obtain ⟨⟨hb1, hb2, hb3, hb4⟩, hW2, hW3⟩ := hW0
  have hR0 := hR
  obtain ⟨r0, r1, r2, r3, r4, r5, r6, r7, r8, r9, r10, r11, r12, r14, r15, r17, r19⟩ := hR0
  rcases ix_cases x (n := s_pn S) (by omega) with hx | ⟨j, hj, rfl⟩
  · show AW X 8 0 0 ad ce 0 [(0, .ref (ad (3, 0, 0))), (1, .int x), (2, .long key), (4, .long b)] []
    refine aw_aload_n C d_R_check_0 rfl (j := 0) rfl ?_
    refine aw_iload_n C d_R_check_1 rfl (j := 1) rfl ?_
    refine aw_callV C I (k := (3, 0, 0)) (as := [.int x]) (rest := []) (r_isPaper l G ad ce (s_cn S) (s_pn S) (s_ln S) (s_on S) kd sr np st la gby gdu gwo grd un ps gpt gff gfc (s_li S) (s_lo S) hR x) g_R_116 r0 rfl rfl ⟨by decide, by decide⟩ ⟨by decide, by decide⟩ rfl (Nat.le_of_ble_eq_true rfl) d_R_check_2 ?_
    rintro _ _ _ ⟨rfl, rfl, rfl⟩
    show AW X 8 0 0 ad ce 5 [(0, .ref (ad (3, 0, 0))), (1, .int x), (2, .long key), (4, .long b)] [.int (bI (decide (0 ≤ x ∧ x < nI (s_pn S))))]
    refine aw_topi (v' := 0) ((bI_f (by (try simp only [Int32.le_iff_toInt_le, Int32.lt_iff_toInt_lt] at hx ⊢); omega)).symm) ?_
    show AW X 8 0 0 ad ce 5 [(0, .ref (ad (3, 0, 0))), (1, .int x), (2, .long key), (4, .long b)] [.int 0]
    refine aw_istore C (lv' := [(6, .int 0), (0, .ref (ad (3, 0, 0))), (1, .int x), (2, .long key), (4, .long b)]) d_R_check_5 (by decide) rfl ?_
    refine aw_iconst C (v := 0) d_R_check_7 (by decide) ?_
    refine aw_istore C (lv' := [(7, .int 0), (6, .int 0), (0, .ref (ad (3, 0, 0))), (1, .int x), (2, .long key), (4, .long b)]) d_R_check_8 (by decide) rfl ?_
    refine aw_iload C d_R_check_10 (j := 0) rfl ?_
    refine aw_bipush C (v := 8) d_R_check_12 (by decide) ?_
    refine aw_icmp_ge C (tgt := 62) d_R_check_14 (by decide) (fun h14 => absurd h14 (by decide)) (fun h14 => ?_)
    refine aw_iload C d_R_check_17 (j := 1) rfl ?_
    refine aw_if_eq C (tgt := 62) d_R_check_19 (by decide) (fun h19 => ?_) (fun h19 => absurd (rfl) h19)
    refine aw_iload C d_R_check_62 (j := 1) rfl ?_
    refine aw_iret C E (rfl) (by decide) (by decide) d_R_check_64 ?_
    exact ⟨sI (by simp only [f_check, ix_out hx]), rfl, rfl⟩
  · have loop : ∀ (m a : Nat) (h : Bool), a + m = 8 → bI (h && eqF (mkOf (s_pap S j) key) b m a) = f_check S (nI j) key b → AW X 8 0 0 ad ce 10 [(7, .int (nI a)), (6, .int (bI h)), (0, .ref (ad (3, 0, 0))), (1, .int (nI j)), (2, .long key), (4, .long b)] [] := by
      intro m
      induction m with
      | zero =>
        intro a h ha hr
        refine aw_iload C d_R_check_10 (j := 0) rfl ?_
        refine aw_bipush C (v := 8) d_R_check_12 (by decide) ?_
        refine aw_icmp_ge C (tgt := 62) d_R_check_14 (by decide) (fun h14 => ?_) (fun h14 => absurd (nI_le (a := 8) (by omega) (by omega)) h14)
        refine aw_iload C d_R_check_62 (j := 1) rfl ?_
        refine aw_iret C E (nar_bI _) (by decide) (by decide) d_R_check_64 ?_
        exact ⟨sI (by rw [← hr]; simp [eqF]), rfl, rfl⟩
      | succ m ih =>
        intro a h ha hr
        refine aw_iload C d_R_check_10 (j := 0) rfl ?_
        refine aw_bipush C (v := 8) d_R_check_12 (by decide) ?_
        refine aw_icmp_ge C (tgt := 62) d_R_check_14 (by decide) (fun h14 => absurd h14 (nI_ge (b := 8) (by omega) (by omega))) (fun h14 => ?_)
        refine aw_iload C d_R_check_17 (j := 1) rfl ?_
        refine aw_if_eq C (tgt := 62) d_R_check_19 (by decide) (fun h19 => ?_) (fun h19 => ?_)
        · refine aw_iload C d_R_check_62 (j := 1) rfl ?_
          refine aw_iret C E (nar_bI _) (by decide) (by decide) d_R_check_64 ?_
          rw [bI_eq] at h19
          exact ⟨sI (by rw [← hr]; subst h19; simp), rfl, rfl⟩
        · refine aw_aload_n C d_R_check_22 rfl (j := 2) rfl ?_
          refine aw_iload_n C d_R_check_23 rfl (j := 3) rfl ?_
          refine aw_lload_n C d_R_check_24 rfl (j := 4) rfl ?_
          refine aw_iload C d_R_check_25 (j := 0) rfl ?_
          refine aw_callV C I (k := (3, 0, 0)) (as := [.int (nI j), .long key, .int (nI a)]) (rest := []) (R_mark l G ad ce S hS (nI j) key (nI a)) g_R_127 r0 rfl rfl ⟨by decide, by decide⟩ ⟨by decide, by decide⟩ rfl (Nat.le_of_ble_eq_true rfl) d_R_check_27 ?_
          rintro _ _ _ ⟨rfl, rfl, rfl⟩
          show AW X 8 0 0 ad ce 30 [(7, .int (nI a)), (6, .int (bI h)), (0, .ref (ad (3, 0, 0))), (1, .int (nI j)), (2, .long key), (4, .long b)] [.int (f_mark S (nI j) key (nI a))]
          refine aw_topi (v' := mkB (mkOf (s_pap S j) key) (56 - 8 * nI a)) (by simp only [f_mark, ix_in hj (show s_pn S < 2 ^ 31 by omega)]; exact if_pos ⟨nI_pos' (by omega), nI_leI (b := 7) (by omega) (by omega) |>.mpr (by omega)⟩) ?_
          refine aw_lload C d_R_check_30 (j := 5) rfl ?_
          refine aw_bipush C (v := 56) d_R_check_32 (by decide) ?_
          refine aw_bipush C (v := 8) d_R_check_34 (by decide) ?_
          refine aw_iload C d_R_check_36 (j := 0) rfl ?_
          refine aw_imul C d_R_check_38 ?_
          refine aw_isub C d_R_check_39 ?_
          refine aw_lushr C d_R_check_40 ?_
          refine aw_ldc2 C tw_427 d_R_check_41 ?_
          refine aw_land C d_R_check_44 ?_
          refine aw_l2i C d_R_check_45 ?_
          refine aw_topi (v' := mkB b (56 - 8 * nI a)) (by simp only [mkB]) ?_
          refine aw_icmp_ne C (tgt := 53) d_R_check_46 (by decide) (fun h46 => ?_) (fun h46 => ?_)
          · refine aw_iconst C (v := 0) d_R_check_53 (by decide) ?_
            refine aw_istore C (lv' := [(6, .int 0), (7, .int (nI a)), (0, .ref (ad (3, 0, 0))), (1, .int (nI j)), (2, .long key), (4, .long b)]) d_R_check_54 (by decide) rfl ?_
            refine aw_iinc C (v := nI (a + 1)) (lv' := [(7, .int (nI (a + 1))), (6, .int 0), (0, .ref (ad (3, 0, 0))), (1, .int (nI j)), (2, .long key), (4, .long b)]) d_R_check_56 (j := 1) rfl (nI_1 _) (by decide) rfl ?_
            refine aw_goto C (tgt := 10) d_R_check_59 (by decide) ?_
            refine aw_lv (lv' := [(7, .int (nI (a + 1))), (6, .int (bI false)), (0, .ref (ad (3, 0, 0))), (1, .int (nI j)), (2, .long key), (4, .long b)]) rfl ?_
            exact ih (a + 1) false (by omega) (by rw [← hr]; rw [bI_ne] at h19; subst h19; simp [eqF, h46])
          · refine aw_iconst C (v := 1) d_R_check_49 (by decide) ?_
            refine aw_goto C (tgt := 54) d_R_check_50 (by decide) ?_
            refine aw_istore C (lv' := [(6, .int 1), (7, .int (nI a)), (0, .ref (ad (3, 0, 0))), (1, .int (nI j)), (2, .long key), (4, .long b)]) d_R_check_54 (by decide) rfl ?_
            refine aw_iinc C (v := nI (a + 1)) (lv' := [(7, .int (nI (a + 1))), (6, .int 1), (0, .ref (ad (3, 0, 0))), (1, .int (nI j)), (2, .long key), (4, .long b)]) d_R_check_56 (j := 1) rfl (nI_1 _) (by decide) rfl ?_
            refine aw_goto C (tgt := 10) d_R_check_59 (by decide) ?_
            refine aw_lv (lv' := [(7, .int (nI (a + 1))), (6, .int (bI true)), (0, .ref (ad (3, 0, 0))), (1, .int (nI j)), (2, .long key), (4, .long b)]) rfl ?_
            exact ih (a + 1) true (by omega) (by rw [← hr]; rw [bI_ne] at h19; subst h19; simp [eqF, h46])
    show AW X 8 0 0 ad ce 0 [(0, .ref (ad (3, 0, 0))), (1, .int (nI j)), (2, .long key), (4, .long b)] []
    refine aw_aload_n C d_R_check_0 rfl (j := 0) rfl ?_
    refine aw_iload_n C d_R_check_1 rfl (j := 1) rfl ?_
    refine aw_callV C I (k := (3, 0, 0)) (as := [.int (nI j)]) (rest := []) (r_isPaper l G ad ce (s_cn S) (s_pn S) (s_ln S) (s_on S) kd sr np st la gby gdu gwo grd un ps gpt gff gfc (s_li S) (s_lo S) hR (nI j)) g_R_116 r0 rfl rfl ⟨by decide, by decide⟩ ⟨by decide, by decide⟩ rfl (Nat.le_of_ble_eq_true rfl) d_R_check_2 ?_
    rintro _ _ _ ⟨rfl, rfl, rfl⟩
    show AW X 8 0 0 ad ce 5 [(0, .ref (ad (3, 0, 0))), (1, .int (nI j)), (2, .long key), (4, .long b)] [.int (bI (decide (0 ≤ nI j ∧ nI j < nI (s_pn S))))]
    refine aw_topi (v' := 1) ((bI_t ⟨nI_pos' (by omega), nI_lt (by omega) (by omega)⟩).symm) ?_
    show AW X 8 0 0 ad ce 5 [(0, .ref (ad (3, 0, 0))), (1, .int (nI j)), (2, .long key), (4, .long b)] [.int 1]
    refine aw_istore C (lv' := [(6, .int 1), (0, .ref (ad (3, 0, 0))), (1, .int (nI j)), (2, .long key), (4, .long b)]) d_R_check_5 (by decide) rfl ?_
    refine aw_iconst C (v := 0) d_R_check_7 (by decide) ?_
    refine aw_istore C (lv' := [(7, .int 0), (6, .int 1), (0, .ref (ad (3, 0, 0))), (1, .int (nI j)), (2, .long key), (4, .long b)]) d_R_check_8 (by decide) rfl ?_
    refine aw_lv (lv' := [(7, .int (nI 0)), (6, .int (bI true)), (0, .ref (ad (3, 0, 0))), (1, .int (nI j)), (2, .long key), (4, .long b)]) (by simp only [nI_0]; rfl) ?_
    exact loop 8 0 true (by omega) (by rw [Bool.true_and, eqF8]; simp only [f_check, ix_in hj (show s_pn S < 2 ^ 31 by omega), bI, decide_eq_true_eq])
theorem Rel_new : Rel S_new (fun _ => 0) (fun _ => 0) (fun _ => 0) (fun _ => 0) (fun _ => 0) (fun _ => 0) (fun _ => 0) (fun _ => 0) (fun _ => 0) (fun _ => 0) (fun _ => 0) (fun _ => 0) (fun _ => 0) (fun _ => 0) :=
  ⟨fun _ _ => ⟨rfl, rfl, nI_0.symm, rfl, rfl, rfl, nI_0.symm⟩, fun _ _ h => absurd h (Nat.not_lt_zero _), fun _ _ _ _ _ => ⟨rfl, rfl, rfl, rfl⟩, fun _ _ h => absurd h (Nat.not_lt_zero _), fun _ _ h => absurd h (Nat.not_lt_zero _), fun _ h => absurd h (Nat.not_lt_zero _), fun _ _ => rfl⟩
theorem WFS_new : WFS S_new := ⟨by decide, fun _ h => absurd h (Nat.not_lt_zero _), fun _ h => absurd h (Nat.not_lt_zero _)⟩
set_option maxRecDepth 100000 in
set_option maxHeartbeats 4000000 in
theorem R_init (l : Launch) (G : aw_G) (ad : aw_Ad) (ce : aw_He) (r0 : ce (3, 0, 0) = some (.inr (3, [.int 0, .null, .null, .null, .null, .null, .null, .null, .null, .null, .null, .null, .null, .int 0, .null, .null, .int 0, .null, .int 0, .null]))) (hno : ∀ p, p ≠ 0 → ce (3, 0, p) = none) : CT l G M_R_init 1 20 16 2980 [.ref (ad (3, 0, 0))] ad ce (fun r ad' ce' => r = none ∧ (∀ q : aw_Lb, q.1 ≠ 3 → ad' q = ad q ∧ ce' q = ce q) ∧ ad' (3, 0, 0) = ad (3, 0, 0) ∧ LayR S_new ad' ce') := by
  refine CT.of (by decide) (Nat.le_of_ble_eq_true rfl) ?_
  intro X C I E
  show AW X 1 0 0 ad ce 0 [(0, .ref (ad (3, 0, 0)))] []
  refine aw_aload_n C d_R_init_0 rfl (j := 0) rfl ?_
  refine aw_objInit C I tw_298 tw_13 tw_14 ⟨by decide, by decide⟩ (Nat.le_of_ble_eq_true rfl) d_R_init_1 ?_
  refine aw_aload_n C d_R_init_4 rfl (j := 0) rfl ?_
  refine aw_bipush C (v := 10) d_R_init_5 (by decide) ?_
  refine ar_newI C I (3, 0, 1) (hno 1 (by decide)) tw_45 (N' := 10) (by decide) (by omega) ⟨Nat.le_trans (m := 16) (by omega) (Nat.le_refl _), Nat.le_trans (m := 2980) (by omega) (Nat.le_refl _)⟩ d_R_init_7 ?_
  intro ad59 ce59 ha59 fw59 r1
  have ea59_0 : ad (3, 0, 0) = ad59 (3, 0, 0) := (ha59 _ (by simp)).symm
  rw [ea59_0]
  have r0 : ce59 (3, 0, 0) = some (.inr (3, [.int 0, .null, .null, .null, .null, .null, .null, .null, .null, .null, .null, .null, .null, .int 0, .null, .null, .int 0, .null, .int 0, .null])) := (fw59 _ (by simp)).trans r0
  refine ob_putF C E rfl F_R r0 1 (by decide) tw_300 rfl rfl rfl rfl (Nat.le_of_ble_eq_true rfl) (fs' := [.int 0, .ref (ad59 (3, 0, 1)), .null, .null, .null, .null, .null, .null, .null, .null, .null, .null, .null, .int 0, .null, .null, .int 0, .null, .int 0, .null]) rfl d_R_init_9 ?_
  intro ce60 fw60 r0
  have r1 := r1.tr (fw60 _ (by simp))
  refine aw_aload_n C d_R_init_12 rfl (j := 0) rfl ?_
  refine aw_bipush C (v := 10) d_R_init_13 (by decide) ?_
  refine ar_newJ C I (3, 0, 2) (by rw [fw60 _ (by simp), fw59 _ (by simp)]; exact hno 2 (by decide)) tw_44 (N' := 10) (by decide) (by omega) ⟨Nat.le_trans (m := 16) (by omega) (Nat.le_refl _), Nat.le_trans (m := 2980) (by omega) (Nat.le_refl _)⟩ d_R_init_15 ?_
  intro ad61 ce61 ha61 fw61 r2
  have ea61_0 : ad59 (3, 0, 0) = ad61 (3, 0, 0) := (ha61 _ (by simp)).symm
  have ea61_1 : ad59 (3, 0, 1) = ad61 (3, 0, 1) := (ha61 _ (by simp)).symm
  rw [ea61_0]
  rw [ea61_1] at r0
  have r0 : ce61 (3, 0, 0) = some (.inr (3, [.int 0, .ref (ad61 (3, 0, 1)), .null, .null, .null, .null, .null, .null, .null, .null, .null, .null, .null, .int 0, .null, .null, .int 0, .null, .int 0, .null])) := (fw61 _ (by simp)).trans r0
  have r1 := r1.tr (fw61 _ (by simp))
  refine ob_putF C E rfl F_R r0 2 (by decide) tw_301 rfl rfl rfl rfl (Nat.le_of_ble_eq_true rfl) (fs' := [.int 0, .ref (ad61 (3, 0, 1)), .ref (ad61 (3, 0, 2)), .null, .null, .null, .null, .null, .null, .null, .null, .null, .null, .int 0, .null, .null, .int 0, .null, .int 0, .null]) rfl d_R_init_17 ?_
  intro ce62 fw62 r0
  have r1 := r1.tr (fw62 _ (by simp))
  have r2 := r2.tr (fw62 _ (by simp))
  refine aw_aload_n C d_R_init_20 rfl (j := 0) rfl ?_
  refine aw_bipush C (v := 10) d_R_init_21 (by decide) ?_
  refine ar_newI C I (3, 0, 3) (by rw [fw62 _ (by simp), fw61 _ (by simp), fw60 _ (by simp), fw59 _ (by simp)]; exact hno 3 (by decide)) tw_45 (N' := 10) (by decide) (by omega) ⟨Nat.le_trans (m := 16) (by omega) (Nat.le_refl _), Nat.le_trans (m := 2980) (by omega) (Nat.le_refl _)⟩ d_R_init_23 ?_
  intro ad63 ce63 ha63 fw63 r3
  have ea63_0 : ad61 (3, 0, 0) = ad63 (3, 0, 0) := (ha63 _ (by simp)).symm
  have ea63_1 : ad61 (3, 0, 1) = ad63 (3, 0, 1) := (ha63 _ (by simp)).symm
  have ea63_2 : ad61 (3, 0, 2) = ad63 (3, 0, 2) := (ha63 _ (by simp)).symm
  rw [ea63_0]
  rw [ea63_1, ea63_2] at r0
  have r0 : ce63 (3, 0, 0) = some (.inr (3, [.int 0, .ref (ad63 (3, 0, 1)), .ref (ad63 (3, 0, 2)), .null, .null, .null, .null, .null, .null, .null, .null, .null, .null, .int 0, .null, .null, .int 0, .null, .int 0, .null])) := (fw63 _ (by simp)).trans r0
  have r1 := r1.tr (fw63 _ (by simp))
  have r2 := r2.tr (fw63 _ (by simp))
  refine ob_putF C E rfl F_R r0 3 (by decide) tw_302 rfl rfl rfl rfl (Nat.le_of_ble_eq_true rfl) (fs' := [.int 0, .ref (ad63 (3, 0, 1)), .ref (ad63 (3, 0, 2)), .ref (ad63 (3, 0, 3)), .null, .null, .null, .null, .null, .null, .null, .null, .null, .int 0, .null, .null, .int 0, .null, .int 0, .null]) rfl d_R_init_25 ?_
  intro ce64 fw64 r0
  have r1 := r1.tr (fw64 _ (by simp))
  have r2 := r2.tr (fw64 _ (by simp))
  have r3 := r3.tr (fw64 _ (by simp))
  refine aw_aload_n C d_R_init_28 rfl (j := 0) rfl ?_
  refine aw_bipush C (v := 10) d_R_init_29 (by decide) ?_
  refine ar_newI C I (3, 0, 4) (by rw [fw64 _ (by simp), fw63 _ (by simp), fw62 _ (by simp), fw61 _ (by simp), fw60 _ (by simp), fw59 _ (by simp)]; exact hno 4 (by decide)) tw_45 (N' := 10) (by decide) (by omega) ⟨Nat.le_trans (m := 16) (by omega) (Nat.le_refl _), Nat.le_trans (m := 2980) (by omega) (Nat.le_refl _)⟩ d_R_init_31 ?_
  intro ad65 ce65 ha65 fw65 r4
  have ea65_0 : ad63 (3, 0, 0) = ad65 (3, 0, 0) := (ha65 _ (by simp)).symm
  have ea65_1 : ad63 (3, 0, 1) = ad65 (3, 0, 1) := (ha65 _ (by simp)).symm
  have ea65_2 : ad63 (3, 0, 2) = ad65 (3, 0, 2) := (ha65 _ (by simp)).symm
  have ea65_3 : ad63 (3, 0, 3) = ad65 (3, 0, 3) := (ha65 _ (by simp)).symm
  rw [ea65_0]
  rw [ea65_1, ea65_2, ea65_3] at r0
  have r0 : ce65 (3, 0, 0) = some (.inr (3, [.int 0, .ref (ad65 (3, 0, 1)), .ref (ad65 (3, 0, 2)), .ref (ad65 (3, 0, 3)), .null, .null, .null, .null, .null, .null, .null, .null, .null, .int 0, .null, .null, .int 0, .null, .int 0, .null])) := (fw65 _ (by simp)).trans r0
  have r1 := r1.tr (fw65 _ (by simp))
  have r2 := r2.tr (fw65 _ (by simp))
  have r3 := r3.tr (fw65 _ (by simp))
  refine ob_putF C E rfl F_R r0 4 (by decide) tw_303 rfl rfl rfl rfl (Nat.le_of_ble_eq_true rfl) (fs' := [.int 0, .ref (ad65 (3, 0, 1)), .ref (ad65 (3, 0, 2)), .ref (ad65 (3, 0, 3)), .ref (ad65 (3, 0, 4)), .null, .null, .null, .null, .null, .null, .null, .null, .int 0, .null, .null, .int 0, .null, .int 0, .null]) rfl d_R_init_33 ?_
  intro ce66 fw66 r0
  have r1 := r1.tr (fw66 _ (by simp))
  have r2 := r2.tr (fw66 _ (by simp))
  have r3 := r3.tr (fw66 _ (by simp))
  have r4 := r4.tr (fw66 _ (by simp))
  refine aw_aload_n C d_R_init_36 rfl (j := 0) rfl ?_
  refine aw_bipush C (v := 10) d_R_init_37 (by decide) ?_
  refine ar_newI C I (3, 0, 5) (by rw [fw66 _ (by simp), fw65 _ (by simp), fw64 _ (by simp), fw63 _ (by simp), fw62 _ (by simp), fw61 _ (by simp), fw60 _ (by simp), fw59 _ (by simp)]; exact hno 5 (by decide)) tw_45 (N' := 10) (by decide) (by omega) ⟨Nat.le_trans (m := 16) (by omega) (Nat.le_refl _), Nat.le_trans (m := 2980) (by omega) (Nat.le_refl _)⟩ d_R_init_39 ?_
  intro ad67 ce67 ha67 fw67 r5
  have ea67_0 : ad65 (3, 0, 0) = ad67 (3, 0, 0) := (ha67 _ (by simp)).symm
  have ea67_1 : ad65 (3, 0, 1) = ad67 (3, 0, 1) := (ha67 _ (by simp)).symm
  have ea67_2 : ad65 (3, 0, 2) = ad67 (3, 0, 2) := (ha67 _ (by simp)).symm
  have ea67_3 : ad65 (3, 0, 3) = ad67 (3, 0, 3) := (ha67 _ (by simp)).symm
  have ea67_4 : ad65 (3, 0, 4) = ad67 (3, 0, 4) := (ha67 _ (by simp)).symm
  rw [ea67_0]
  rw [ea67_1, ea67_2, ea67_3, ea67_4] at r0
  have r0 : ce67 (3, 0, 0) = some (.inr (3, [.int 0, .ref (ad67 (3, 0, 1)), .ref (ad67 (3, 0, 2)), .ref (ad67 (3, 0, 3)), .ref (ad67 (3, 0, 4)), .null, .null, .null, .null, .null, .null, .null, .null, .int 0, .null, .null, .int 0, .null, .int 0, .null])) := (fw67 _ (by simp)).trans r0
  have r1 := r1.tr (fw67 _ (by simp))
  have r2 := r2.tr (fw67 _ (by simp))
  have r3 := r3.tr (fw67 _ (by simp))
  have r4 := r4.tr (fw67 _ (by simp))
  refine ob_putF C E rfl F_R r0 5 (by decide) tw_304 rfl rfl rfl rfl (Nat.le_of_ble_eq_true rfl) (fs' := [.int 0, .ref (ad67 (3, 0, 1)), .ref (ad67 (3, 0, 2)), .ref (ad67 (3, 0, 3)), .ref (ad67 (3, 0, 4)), .ref (ad67 (3, 0, 5)), .null, .null, .null, .null, .null, .null, .null, .int 0, .null, .null, .int 0, .null, .int 0, .null]) rfl d_R_init_41 ?_
  intro ce68 fw68 r0
  have r1 := r1.tr (fw68 _ (by simp))
  have r2 := r2.tr (fw68 _ (by simp))
  have r3 := r3.tr (fw68 _ (by simp))
  have r4 := r4.tr (fw68 _ (by simp))
  have r5 := r5.tr (fw68 _ (by simp))
  refine aw_aload_n C d_R_init_44 rfl (j := 0) rfl ?_
  refine aw_sipush C (v := 640) d_R_init_45 (by decide) ?_
  refine ar_newI C I (3, 0, 6) (by rw [fw68 _ (by simp), fw67 _ (by simp), fw66 _ (by simp), fw65 _ (by simp), fw64 _ (by simp), fw63 _ (by simp), fw62 _ (by simp), fw61 _ (by simp), fw60 _ (by simp), fw59 _ (by simp)]; exact hno 6 (by decide)) tw_45 (N' := 640) (by decide) (by omega) ⟨Nat.le_trans (m := 16) (by omega) (Nat.le_refl _), Nat.le_trans (m := 2980) (by omega) (Nat.le_refl _)⟩ d_R_init_48 ?_
  intro ad69 ce69 ha69 fw69 r6
  have ea69_0 : ad67 (3, 0, 0) = ad69 (3, 0, 0) := (ha69 _ (by simp)).symm
  have ea69_1 : ad67 (3, 0, 1) = ad69 (3, 0, 1) := (ha69 _ (by simp)).symm
  have ea69_2 : ad67 (3, 0, 2) = ad69 (3, 0, 2) := (ha69 _ (by simp)).symm
  have ea69_3 : ad67 (3, 0, 3) = ad69 (3, 0, 3) := (ha69 _ (by simp)).symm
  have ea69_4 : ad67 (3, 0, 4) = ad69 (3, 0, 4) := (ha69 _ (by simp)).symm
  have ea69_5 : ad67 (3, 0, 5) = ad69 (3, 0, 5) := (ha69 _ (by simp)).symm
  rw [ea69_0]
  rw [ea69_1, ea69_2, ea69_3, ea69_4, ea69_5] at r0
  have r0 : ce69 (3, 0, 0) = some (.inr (3, [.int 0, .ref (ad69 (3, 0, 1)), .ref (ad69 (3, 0, 2)), .ref (ad69 (3, 0, 3)), .ref (ad69 (3, 0, 4)), .ref (ad69 (3, 0, 5)), .null, .null, .null, .null, .null, .null, .null, .int 0, .null, .null, .int 0, .null, .int 0, .null])) := (fw69 _ (by simp)).trans r0
  have r1 := r1.tr (fw69 _ (by simp))
  have r2 := r2.tr (fw69 _ (by simp))
  have r3 := r3.tr (fw69 _ (by simp))
  have r4 := r4.tr (fw69 _ (by simp))
  have r5 := r5.tr (fw69 _ (by simp))
  refine ob_putF C E rfl F_R r0 6 (by decide) tw_305 rfl rfl rfl rfl (Nat.le_of_ble_eq_true rfl) (fs' := [.int 0, .ref (ad69 (3, 0, 1)), .ref (ad69 (3, 0, 2)), .ref (ad69 (3, 0, 3)), .ref (ad69 (3, 0, 4)), .ref (ad69 (3, 0, 5)), .ref (ad69 (3, 0, 6)), .null, .null, .null, .null, .null, .null, .int 0, .null, .null, .int 0, .null, .int 0, .null]) rfl d_R_init_50 ?_
  intro ce70 fw70 r0
  have r1 := r1.tr (fw70 _ (by simp))
  have r2 := r2.tr (fw70 _ (by simp))
  have r3 := r3.tr (fw70 _ (by simp))
  have r4 := r4.tr (fw70 _ (by simp))
  have r5 := r5.tr (fw70 _ (by simp))
  have r6 := r6.tr (fw70 _ (by simp))
  refine aw_aload_n C d_R_init_53 rfl (j := 0) rfl ?_
  refine aw_sipush C (v := 640) d_R_init_54 (by decide) ?_
  refine ar_newI C I (3, 0, 7) (by rw [fw70 _ (by simp), fw69 _ (by simp), fw68 _ (by simp), fw67 _ (by simp), fw66 _ (by simp), fw65 _ (by simp), fw64 _ (by simp), fw63 _ (by simp), fw62 _ (by simp), fw61 _ (by simp), fw60 _ (by simp), fw59 _ (by simp)]; exact hno 7 (by decide)) tw_45 (N' := 640) (by decide) (by omega) ⟨Nat.le_trans (m := 16) (by omega) (Nat.le_refl _), Nat.le_trans (m := 2980) (by omega) (Nat.le_refl _)⟩ d_R_init_57 ?_
  intro ad71 ce71 ha71 fw71 r7
  have ea71_0 : ad69 (3, 0, 0) = ad71 (3, 0, 0) := (ha71 _ (by simp)).symm
  have ea71_1 : ad69 (3, 0, 1) = ad71 (3, 0, 1) := (ha71 _ (by simp)).symm
  have ea71_2 : ad69 (3, 0, 2) = ad71 (3, 0, 2) := (ha71 _ (by simp)).symm
  have ea71_3 : ad69 (3, 0, 3) = ad71 (3, 0, 3) := (ha71 _ (by simp)).symm
  have ea71_4 : ad69 (3, 0, 4) = ad71 (3, 0, 4) := (ha71 _ (by simp)).symm
  have ea71_5 : ad69 (3, 0, 5) = ad71 (3, 0, 5) := (ha71 _ (by simp)).symm
  have ea71_6 : ad69 (3, 0, 6) = ad71 (3, 0, 6) := (ha71 _ (by simp)).symm
  rw [ea71_0]
  rw [ea71_1, ea71_2, ea71_3, ea71_4, ea71_5, ea71_6] at r0
  have r0 : ce71 (3, 0, 0) = some (.inr (3, [.int 0, .ref (ad71 (3, 0, 1)), .ref (ad71 (3, 0, 2)), .ref (ad71 (3, 0, 3)), .ref (ad71 (3, 0, 4)), .ref (ad71 (3, 0, 5)), .ref (ad71 (3, 0, 6)), .null, .null, .null, .null, .null, .null, .int 0, .null, .null, .int 0, .null, .int 0, .null])) := (fw71 _ (by simp)).trans r0
  have r1 := r1.tr (fw71 _ (by simp))
  have r2 := r2.tr (fw71 _ (by simp))
  have r3 := r3.tr (fw71 _ (by simp))
  have r4 := r4.tr (fw71 _ (by simp))
  have r5 := r5.tr (fw71 _ (by simp))
  have r6 := r6.tr (fw71 _ (by simp))
  refine ob_putF C E rfl F_R r0 7 (by decide) tw_306 rfl rfl rfl rfl (Nat.le_of_ble_eq_true rfl) (fs' := [.int 0, .ref (ad71 (3, 0, 1)), .ref (ad71 (3, 0, 2)), .ref (ad71 (3, 0, 3)), .ref (ad71 (3, 0, 4)), .ref (ad71 (3, 0, 5)), .ref (ad71 (3, 0, 6)), .ref (ad71 (3, 0, 7)), .null, .null, .null, .null, .null, .int 0, .null, .null, .int 0, .null, .int 0, .null]) rfl d_R_init_59 ?_
  intro ce72 fw72 r0
  have r1 := r1.tr (fw72 _ (by simp))
  have r2 := r2.tr (fw72 _ (by simp))
  have r3 := r3.tr (fw72 _ (by simp))
  have r4 := r4.tr (fw72 _ (by simp))
  have r5 := r5.tr (fw72 _ (by simp))
  have r6 := r6.tr (fw72 _ (by simp))
  have r7 := r7.tr (fw72 _ (by simp))
  refine aw_aload_n C d_R_init_62 rfl (j := 0) rfl ?_
  refine aw_sipush C (v := 640) d_R_init_63 (by decide) ?_
  refine ar_newZ C I (3, 0, 8) (by rw [fw72 _ (by simp), fw71 _ (by simp), fw70 _ (by simp), fw69 _ (by simp), fw68 _ (by simp), fw67 _ (by simp), fw66 _ (by simp), fw65 _ (by simp), fw64 _ (by simp), fw63 _ (by simp), fw62 _ (by simp), fw61 _ (by simp), fw60 _ (by simp), fw59 _ (by simp)]; exact hno 8 (by decide)) tw_117 (N' := 640) (by decide) (by omega) ⟨Nat.le_trans (m := 16) (by omega) (Nat.le_refl _), Nat.le_trans (m := 2980) (by omega) (Nat.le_refl _)⟩ d_R_init_66 ?_
  intro ad73 ce73 ha73 fw73 r8
  have ea73_0 : ad71 (3, 0, 0) = ad73 (3, 0, 0) := (ha73 _ (by simp)).symm
  have ea73_1 : ad71 (3, 0, 1) = ad73 (3, 0, 1) := (ha73 _ (by simp)).symm
  have ea73_2 : ad71 (3, 0, 2) = ad73 (3, 0, 2) := (ha73 _ (by simp)).symm
  have ea73_3 : ad71 (3, 0, 3) = ad73 (3, 0, 3) := (ha73 _ (by simp)).symm
  have ea73_4 : ad71 (3, 0, 4) = ad73 (3, 0, 4) := (ha73 _ (by simp)).symm
  have ea73_5 : ad71 (3, 0, 5) = ad73 (3, 0, 5) := (ha73 _ (by simp)).symm
  have ea73_6 : ad71 (3, 0, 6) = ad73 (3, 0, 6) := (ha73 _ (by simp)).symm
  have ea73_7 : ad71 (3, 0, 7) = ad73 (3, 0, 7) := (ha73 _ (by simp)).symm
  rw [ea73_0]
  rw [ea73_1, ea73_2, ea73_3, ea73_4, ea73_5, ea73_6, ea73_7] at r0
  have r0 : ce73 (3, 0, 0) = some (.inr (3, [.int 0, .ref (ad73 (3, 0, 1)), .ref (ad73 (3, 0, 2)), .ref (ad73 (3, 0, 3)), .ref (ad73 (3, 0, 4)), .ref (ad73 (3, 0, 5)), .ref (ad73 (3, 0, 6)), .ref (ad73 (3, 0, 7)), .null, .null, .null, .null, .null, .int 0, .null, .null, .int 0, .null, .int 0, .null])) := (fw73 _ (by simp)).trans r0
  have r1 := r1.tr (fw73 _ (by simp))
  have r2 := r2.tr (fw73 _ (by simp))
  have r3 := r3.tr (fw73 _ (by simp))
  have r4 := r4.tr (fw73 _ (by simp))
  have r5 := r5.tr (fw73 _ (by simp))
  have r6 := r6.tr (fw73 _ (by simp))
  have r7 := r7.tr (fw73 _ (by simp))
  refine ob_putF C E rfl F_R r0 8 (by decide) tw_307 rfl rfl rfl rfl (Nat.le_of_ble_eq_true rfl) (fs' := [.int 0, .ref (ad73 (3, 0, 1)), .ref (ad73 (3, 0, 2)), .ref (ad73 (3, 0, 3)), .ref (ad73 (3, 0, 4)), .ref (ad73 (3, 0, 5)), .ref (ad73 (3, 0, 6)), .ref (ad73 (3, 0, 7)), .ref (ad73 (3, 0, 8)), .null, .null, .null, .null, .int 0, .null, .null, .int 0, .null, .int 0, .null]) rfl d_R_init_68 ?_
  intro ce74 fw74 r0
  have r1 := r1.tr (fw74 _ (by simp))
  have r2 := r2.tr (fw74 _ (by simp))
  have r3 := r3.tr (fw74 _ (by simp))
  have r4 := r4.tr (fw74 _ (by simp))
  have r5 := r5.tr (fw74 _ (by simp))
  have r6 := r6.tr (fw74 _ (by simp))
  have r7 := r7.tr (fw74 _ (by simp))
  have r8 := r8.tr (fw74 _ (by simp))
  refine aw_aload_n C d_R_init_71 rfl (j := 0) rfl ?_
  refine aw_sipush C (v := 640) d_R_init_72 (by decide) ?_
  refine ar_newZ C I (3, 0, 9) (by rw [fw74 _ (by simp), fw73 _ (by simp), fw72 _ (by simp), fw71 _ (by simp), fw70 _ (by simp), fw69 _ (by simp), fw68 _ (by simp), fw67 _ (by simp), fw66 _ (by simp), fw65 _ (by simp), fw64 _ (by simp), fw63 _ (by simp), fw62 _ (by simp), fw61 _ (by simp), fw60 _ (by simp), fw59 _ (by simp)]; exact hno 9 (by decide)) tw_117 (N' := 640) (by decide) (by omega) ⟨Nat.le_trans (m := 16) (by omega) (Nat.le_refl _), Nat.le_trans (m := 2980) (by omega) (Nat.le_refl _)⟩ d_R_init_75 ?_
  intro ad75 ce75 ha75 fw75 r9
  have ea75_0 : ad73 (3, 0, 0) = ad75 (3, 0, 0) := (ha75 _ (by simp)).symm
  have ea75_1 : ad73 (3, 0, 1) = ad75 (3, 0, 1) := (ha75 _ (by simp)).symm
  have ea75_2 : ad73 (3, 0, 2) = ad75 (3, 0, 2) := (ha75 _ (by simp)).symm
  have ea75_3 : ad73 (3, 0, 3) = ad75 (3, 0, 3) := (ha75 _ (by simp)).symm
  have ea75_4 : ad73 (3, 0, 4) = ad75 (3, 0, 4) := (ha75 _ (by simp)).symm
  have ea75_5 : ad73 (3, 0, 5) = ad75 (3, 0, 5) := (ha75 _ (by simp)).symm
  have ea75_6 : ad73 (3, 0, 6) = ad75 (3, 0, 6) := (ha75 _ (by simp)).symm
  have ea75_7 : ad73 (3, 0, 7) = ad75 (3, 0, 7) := (ha75 _ (by simp)).symm
  have ea75_8 : ad73 (3, 0, 8) = ad75 (3, 0, 8) := (ha75 _ (by simp)).symm
  rw [ea75_0]
  rw [ea75_1, ea75_2, ea75_3, ea75_4, ea75_5, ea75_6, ea75_7, ea75_8] at r0
  have r0 : ce75 (3, 0, 0) = some (.inr (3, [.int 0, .ref (ad75 (3, 0, 1)), .ref (ad75 (3, 0, 2)), .ref (ad75 (3, 0, 3)), .ref (ad75 (3, 0, 4)), .ref (ad75 (3, 0, 5)), .ref (ad75 (3, 0, 6)), .ref (ad75 (3, 0, 7)), .ref (ad75 (3, 0, 8)), .null, .null, .null, .null, .int 0, .null, .null, .int 0, .null, .int 0, .null])) := (fw75 _ (by simp)).trans r0
  have r1 := r1.tr (fw75 _ (by simp))
  have r2 := r2.tr (fw75 _ (by simp))
  have r3 := r3.tr (fw75 _ (by simp))
  have r4 := r4.tr (fw75 _ (by simp))
  have r5 := r5.tr (fw75 _ (by simp))
  have r6 := r6.tr (fw75 _ (by simp))
  have r7 := r7.tr (fw75 _ (by simp))
  have r8 := r8.tr (fw75 _ (by simp))
  refine ob_putF C E rfl F_R r0 9 (by decide) tw_308 rfl rfl rfl rfl (Nat.le_of_ble_eq_true rfl) (fs' := [.int 0, .ref (ad75 (3, 0, 1)), .ref (ad75 (3, 0, 2)), .ref (ad75 (3, 0, 3)), .ref (ad75 (3, 0, 4)), .ref (ad75 (3, 0, 5)), .ref (ad75 (3, 0, 6)), .ref (ad75 (3, 0, 7)), .ref (ad75 (3, 0, 8)), .ref (ad75 (3, 0, 9)), .null, .null, .null, .int 0, .null, .null, .int 0, .null, .int 0, .null]) rfl d_R_init_77 ?_
  intro ce76 fw76 r0
  have r1 := r1.tr (fw76 _ (by simp))
  have r2 := r2.tr (fw76 _ (by simp))
  have r3 := r3.tr (fw76 _ (by simp))
  have r4 := r4.tr (fw76 _ (by simp))
  have r5 := r5.tr (fw76 _ (by simp))
  have r6 := r6.tr (fw76 _ (by simp))
  have r7 := r7.tr (fw76 _ (by simp))
  have r8 := r8.tr (fw76 _ (by simp))
  have r9 := r9.tr (fw76 _ (by simp))
  refine aw_aload_n C d_R_init_80 rfl (j := 0) rfl ?_
  refine aw_bipush C (v := 10) d_R_init_81 (by decide) ?_
  refine ar_newI C I (3, 0, 10) (by rw [fw76 _ (by simp), fw75 _ (by simp), fw74 _ (by simp), fw73 _ (by simp), fw72 _ (by simp), fw71 _ (by simp), fw70 _ (by simp), fw69 _ (by simp), fw68 _ (by simp), fw67 _ (by simp), fw66 _ (by simp), fw65 _ (by simp), fw64 _ (by simp), fw63 _ (by simp), fw62 _ (by simp), fw61 _ (by simp), fw60 _ (by simp), fw59 _ (by simp)]; exact hno 10 (by decide)) tw_45 (N' := 10) (by decide) (by omega) ⟨Nat.le_trans (m := 16) (by omega) (Nat.le_refl _), Nat.le_trans (m := 2980) (by omega) (Nat.le_refl _)⟩ d_R_init_83 ?_
  intro ad77 ce77 ha77 fw77 r10
  have ea77_0 : ad75 (3, 0, 0) = ad77 (3, 0, 0) := (ha77 _ (by simp)).symm
  have ea77_1 : ad75 (3, 0, 1) = ad77 (3, 0, 1) := (ha77 _ (by simp)).symm
  have ea77_2 : ad75 (3, 0, 2) = ad77 (3, 0, 2) := (ha77 _ (by simp)).symm
  have ea77_3 : ad75 (3, 0, 3) = ad77 (3, 0, 3) := (ha77 _ (by simp)).symm
  have ea77_4 : ad75 (3, 0, 4) = ad77 (3, 0, 4) := (ha77 _ (by simp)).symm
  have ea77_5 : ad75 (3, 0, 5) = ad77 (3, 0, 5) := (ha77 _ (by simp)).symm
  have ea77_6 : ad75 (3, 0, 6) = ad77 (3, 0, 6) := (ha77 _ (by simp)).symm
  have ea77_7 : ad75 (3, 0, 7) = ad77 (3, 0, 7) := (ha77 _ (by simp)).symm
  have ea77_8 : ad75 (3, 0, 8) = ad77 (3, 0, 8) := (ha77 _ (by simp)).symm
  have ea77_9 : ad75 (3, 0, 9) = ad77 (3, 0, 9) := (ha77 _ (by simp)).symm
  rw [ea77_0]
  rw [ea77_1, ea77_2, ea77_3, ea77_4, ea77_5, ea77_6, ea77_7, ea77_8, ea77_9] at r0
  have r0 : ce77 (3, 0, 0) = some (.inr (3, [.int 0, .ref (ad77 (3, 0, 1)), .ref (ad77 (3, 0, 2)), .ref (ad77 (3, 0, 3)), .ref (ad77 (3, 0, 4)), .ref (ad77 (3, 0, 5)), .ref (ad77 (3, 0, 6)), .ref (ad77 (3, 0, 7)), .ref (ad77 (3, 0, 8)), .ref (ad77 (3, 0, 9)), .null, .null, .null, .int 0, .null, .null, .int 0, .null, .int 0, .null])) := (fw77 _ (by simp)).trans r0
  have r1 := r1.tr (fw77 _ (by simp))
  have r2 := r2.tr (fw77 _ (by simp))
  have r3 := r3.tr (fw77 _ (by simp))
  have r4 := r4.tr (fw77 _ (by simp))
  have r5 := r5.tr (fw77 _ (by simp))
  have r6 := r6.tr (fw77 _ (by simp))
  have r7 := r7.tr (fw77 _ (by simp))
  have r8 := r8.tr (fw77 _ (by simp))
  have r9 := r9.tr (fw77 _ (by simp))
  refine ob_putF C E rfl F_R r0 10 (by decide) tw_309 rfl rfl rfl rfl (Nat.le_of_ble_eq_true rfl) (fs' := [.int 0, .ref (ad77 (3, 0, 1)), .ref (ad77 (3, 0, 2)), .ref (ad77 (3, 0, 3)), .ref (ad77 (3, 0, 4)), .ref (ad77 (3, 0, 5)), .ref (ad77 (3, 0, 6)), .ref (ad77 (3, 0, 7)), .ref (ad77 (3, 0, 8)), .ref (ad77 (3, 0, 9)), .ref (ad77 (3, 0, 10)), .null, .null, .int 0, .null, .null, .int 0, .null, .int 0, .null]) rfl d_R_init_85 ?_
  intro ce78 fw78 r0
  have r1 := r1.tr (fw78 _ (by simp))
  have r2 := r2.tr (fw78 _ (by simp))
  have r3 := r3.tr (fw78 _ (by simp))
  have r4 := r4.tr (fw78 _ (by simp))
  have r5 := r5.tr (fw78 _ (by simp))
  have r6 := r6.tr (fw78 _ (by simp))
  have r7 := r7.tr (fw78 _ (by simp))
  have r8 := r8.tr (fw78 _ (by simp))
  have r9 := r9.tr (fw78 _ (by simp))
  have r10 := r10.tr (fw78 _ (by simp))
  refine aw_aload_n C d_R_init_88 rfl (j := 0) rfl ?_
  refine aw_bipush C (v := 10) d_R_init_89 (by decide) ?_
  refine ar_newI C I (3, 0, 11) (by rw [fw78 _ (by simp), fw77 _ (by simp), fw76 _ (by simp), fw75 _ (by simp), fw74 _ (by simp), fw73 _ (by simp), fw72 _ (by simp), fw71 _ (by simp), fw70 _ (by simp), fw69 _ (by simp), fw68 _ (by simp), fw67 _ (by simp), fw66 _ (by simp), fw65 _ (by simp), fw64 _ (by simp), fw63 _ (by simp), fw62 _ (by simp), fw61 _ (by simp), fw60 _ (by simp), fw59 _ (by simp)]; exact hno 11 (by decide)) tw_45 (N' := 10) (by decide) (by omega) ⟨Nat.le_trans (m := 16) (by omega) (Nat.le_refl _), Nat.le_trans (m := 2980) (by omega) (Nat.le_refl _)⟩ d_R_init_91 ?_
  intro ad79 ce79 ha79 fw79 r11
  have ea79_0 : ad77 (3, 0, 0) = ad79 (3, 0, 0) := (ha79 _ (by simp)).symm
  have ea79_1 : ad77 (3, 0, 1) = ad79 (3, 0, 1) := (ha79 _ (by simp)).symm
  have ea79_2 : ad77 (3, 0, 2) = ad79 (3, 0, 2) := (ha79 _ (by simp)).symm
  have ea79_3 : ad77 (3, 0, 3) = ad79 (3, 0, 3) := (ha79 _ (by simp)).symm
  have ea79_4 : ad77 (3, 0, 4) = ad79 (3, 0, 4) := (ha79 _ (by simp)).symm
  have ea79_5 : ad77 (3, 0, 5) = ad79 (3, 0, 5) := (ha79 _ (by simp)).symm
  have ea79_6 : ad77 (3, 0, 6) = ad79 (3, 0, 6) := (ha79 _ (by simp)).symm
  have ea79_7 : ad77 (3, 0, 7) = ad79 (3, 0, 7) := (ha79 _ (by simp)).symm
  have ea79_8 : ad77 (3, 0, 8) = ad79 (3, 0, 8) := (ha79 _ (by simp)).symm
  have ea79_9 : ad77 (3, 0, 9) = ad79 (3, 0, 9) := (ha79 _ (by simp)).symm
  have ea79_10 : ad77 (3, 0, 10) = ad79 (3, 0, 10) := (ha79 _ (by simp)).symm
  rw [ea79_0]
  rw [ea79_1, ea79_2, ea79_3, ea79_4, ea79_5, ea79_6, ea79_7, ea79_8, ea79_9, ea79_10] at r0
  have r0 : ce79 (3, 0, 0) = some (.inr (3, [.int 0, .ref (ad79 (3, 0, 1)), .ref (ad79 (3, 0, 2)), .ref (ad79 (3, 0, 3)), .ref (ad79 (3, 0, 4)), .ref (ad79 (3, 0, 5)), .ref (ad79 (3, 0, 6)), .ref (ad79 (3, 0, 7)), .ref (ad79 (3, 0, 8)), .ref (ad79 (3, 0, 9)), .ref (ad79 (3, 0, 10)), .null, .null, .int 0, .null, .null, .int 0, .null, .int 0, .null])) := (fw79 _ (by simp)).trans r0
  have r1 := r1.tr (fw79 _ (by simp))
  have r2 := r2.tr (fw79 _ (by simp))
  have r3 := r3.tr (fw79 _ (by simp))
  have r4 := r4.tr (fw79 _ (by simp))
  have r5 := r5.tr (fw79 _ (by simp))
  have r6 := r6.tr (fw79 _ (by simp))
  have r7 := r7.tr (fw79 _ (by simp))
  have r8 := r8.tr (fw79 _ (by simp))
  have r9 := r9.tr (fw79 _ (by simp))
  have r10 := r10.tr (fw79 _ (by simp))
  refine ob_putF C E rfl F_R r0 11 (by decide) tw_310 rfl rfl rfl rfl (Nat.le_of_ble_eq_true rfl) (fs' := [.int 0, .ref (ad79 (3, 0, 1)), .ref (ad79 (3, 0, 2)), .ref (ad79 (3, 0, 3)), .ref (ad79 (3, 0, 4)), .ref (ad79 (3, 0, 5)), .ref (ad79 (3, 0, 6)), .ref (ad79 (3, 0, 7)), .ref (ad79 (3, 0, 8)), .ref (ad79 (3, 0, 9)), .ref (ad79 (3, 0, 10)), .ref (ad79 (3, 0, 11)), .null, .int 0, .null, .null, .int 0, .null, .int 0, .null]) rfl d_R_init_93 ?_
  intro ce80 fw80 r0
  have r1 := r1.tr (fw80 _ (by simp))
  have r2 := r2.tr (fw80 _ (by simp))
  have r3 := r3.tr (fw80 _ (by simp))
  have r4 := r4.tr (fw80 _ (by simp))
  have r5 := r5.tr (fw80 _ (by simp))
  have r6 := r6.tr (fw80 _ (by simp))
  have r7 := r7.tr (fw80 _ (by simp))
  have r8 := r8.tr (fw80 _ (by simp))
  have r9 := r9.tr (fw80 _ (by simp))
  have r10 := r10.tr (fw80 _ (by simp))
  have r11 := r11.tr (fw80 _ (by simp))
  refine aw_aload_n C d_R_init_96 rfl (j := 0) rfl ?_
  refine aw_bipush C (v := 60) d_R_init_97 (by decide) ?_
  refine ar_newI C I (3, 0, 12) (by rw [fw80 _ (by simp), fw79 _ (by simp), fw78 _ (by simp), fw77 _ (by simp), fw76 _ (by simp), fw75 _ (by simp), fw74 _ (by simp), fw73 _ (by simp), fw72 _ (by simp), fw71 _ (by simp), fw70 _ (by simp), fw69 _ (by simp), fw68 _ (by simp), fw67 _ (by simp), fw66 _ (by simp), fw65 _ (by simp), fw64 _ (by simp), fw63 _ (by simp), fw62 _ (by simp), fw61 _ (by simp), fw60 _ (by simp), fw59 _ (by simp)]; exact hno 12 (by decide)) tw_45 (N' := 60) (by decide) (by omega) ⟨Nat.le_trans (m := 16) (by omega) (Nat.le_refl _), Nat.le_trans (m := 2980) (by omega) (Nat.le_refl _)⟩ d_R_init_99 ?_
  intro ad81 ce81 ha81 fw81 r12
  have ea81_0 : ad79 (3, 0, 0) = ad81 (3, 0, 0) := (ha81 _ (by simp)).symm
  have ea81_1 : ad79 (3, 0, 1) = ad81 (3, 0, 1) := (ha81 _ (by simp)).symm
  have ea81_2 : ad79 (3, 0, 2) = ad81 (3, 0, 2) := (ha81 _ (by simp)).symm
  have ea81_3 : ad79 (3, 0, 3) = ad81 (3, 0, 3) := (ha81 _ (by simp)).symm
  have ea81_4 : ad79 (3, 0, 4) = ad81 (3, 0, 4) := (ha81 _ (by simp)).symm
  have ea81_5 : ad79 (3, 0, 5) = ad81 (3, 0, 5) := (ha81 _ (by simp)).symm
  have ea81_6 : ad79 (3, 0, 6) = ad81 (3, 0, 6) := (ha81 _ (by simp)).symm
  have ea81_7 : ad79 (3, 0, 7) = ad81 (3, 0, 7) := (ha81 _ (by simp)).symm
  have ea81_8 : ad79 (3, 0, 8) = ad81 (3, 0, 8) := (ha81 _ (by simp)).symm
  have ea81_9 : ad79 (3, 0, 9) = ad81 (3, 0, 9) := (ha81 _ (by simp)).symm
  have ea81_10 : ad79 (3, 0, 10) = ad81 (3, 0, 10) := (ha81 _ (by simp)).symm
  have ea81_11 : ad79 (3, 0, 11) = ad81 (3, 0, 11) := (ha81 _ (by simp)).symm
  rw [ea81_0]
  rw [ea81_1, ea81_2, ea81_3, ea81_4, ea81_5, ea81_6, ea81_7, ea81_8, ea81_9, ea81_10, ea81_11] at r0
  have r0 : ce81 (3, 0, 0) = some (.inr (3, [.int 0, .ref (ad81 (3, 0, 1)), .ref (ad81 (3, 0, 2)), .ref (ad81 (3, 0, 3)), .ref (ad81 (3, 0, 4)), .ref (ad81 (3, 0, 5)), .ref (ad81 (3, 0, 6)), .ref (ad81 (3, 0, 7)), .ref (ad81 (3, 0, 8)), .ref (ad81 (3, 0, 9)), .ref (ad81 (3, 0, 10)), .ref (ad81 (3, 0, 11)), .null, .int 0, .null, .null, .int 0, .null, .int 0, .null])) := (fw81 _ (by simp)).trans r0
  have r1 := r1.tr (fw81 _ (by simp))
  have r2 := r2.tr (fw81 _ (by simp))
  have r3 := r3.tr (fw81 _ (by simp))
  have r4 := r4.tr (fw81 _ (by simp))
  have r5 := r5.tr (fw81 _ (by simp))
  have r6 := r6.tr (fw81 _ (by simp))
  have r7 := r7.tr (fw81 _ (by simp))
  have r8 := r8.tr (fw81 _ (by simp))
  have r9 := r9.tr (fw81 _ (by simp))
  have r10 := r10.tr (fw81 _ (by simp))
  have r11 := r11.tr (fw81 _ (by simp))
  refine ob_putF C E rfl F_R r0 12 (by decide) tw_311 rfl rfl rfl rfl (Nat.le_of_ble_eq_true rfl) (fs' := [.int 0, .ref (ad81 (3, 0, 1)), .ref (ad81 (3, 0, 2)), .ref (ad81 (3, 0, 3)), .ref (ad81 (3, 0, 4)), .ref (ad81 (3, 0, 5)), .ref (ad81 (3, 0, 6)), .ref (ad81 (3, 0, 7)), .ref (ad81 (3, 0, 8)), .ref (ad81 (3, 0, 9)), .ref (ad81 (3, 0, 10)), .ref (ad81 (3, 0, 11)), .ref (ad81 (3, 0, 12)), .int 0, .null, .null, .int 0, .null, .int 0, .null]) rfl d_R_init_101 ?_
  intro ce82 fw82 r0
  have r1 := r1.tr (fw82 _ (by simp))
  have r2 := r2.tr (fw82 _ (by simp))
  have r3 := r3.tr (fw82 _ (by simp))
  have r4 := r4.tr (fw82 _ (by simp))
  have r5 := r5.tr (fw82 _ (by simp))
  have r6 := r6.tr (fw82 _ (by simp))
  have r7 := r7.tr (fw82 _ (by simp))
  have r8 := r8.tr (fw82 _ (by simp))
  have r9 := r9.tr (fw82 _ (by simp))
  have r10 := r10.tr (fw82 _ (by simp))
  have r11 := r11.tr (fw82 _ (by simp))
  have r12 := r12.tr (fw82 _ (by simp))
  refine aw_aload_n C d_R_init_104 rfl (j := 0) rfl ?_
  refine aw_sipush C (v := 240) d_R_init_105 (by decide) ?_
  refine ar_newI C I (3, 0, 14) (by rw [fw82 _ (by simp), fw81 _ (by simp), fw80 _ (by simp), fw79 _ (by simp), fw78 _ (by simp), fw77 _ (by simp), fw76 _ (by simp), fw75 _ (by simp), fw74 _ (by simp), fw73 _ (by simp), fw72 _ (by simp), fw71 _ (by simp), fw70 _ (by simp), fw69 _ (by simp), fw68 _ (by simp), fw67 _ (by simp), fw66 _ (by simp), fw65 _ (by simp), fw64 _ (by simp), fw63 _ (by simp), fw62 _ (by simp), fw61 _ (by simp), fw60 _ (by simp), fw59 _ (by simp)]; exact hno 14 (by decide)) tw_45 (N' := 240) (by decide) (by omega) ⟨Nat.le_trans (m := 16) (by omega) (Nat.le_refl _), Nat.le_trans (m := 2980) (by omega) (Nat.le_refl _)⟩ d_R_init_108 ?_
  intro ad83 ce83 ha83 fw83 r14
  have ea83_0 : ad81 (3, 0, 0) = ad83 (3, 0, 0) := (ha83 _ (by simp)).symm
  have ea83_1 : ad81 (3, 0, 1) = ad83 (3, 0, 1) := (ha83 _ (by simp)).symm
  have ea83_2 : ad81 (3, 0, 2) = ad83 (3, 0, 2) := (ha83 _ (by simp)).symm
  have ea83_3 : ad81 (3, 0, 3) = ad83 (3, 0, 3) := (ha83 _ (by simp)).symm
  have ea83_4 : ad81 (3, 0, 4) = ad83 (3, 0, 4) := (ha83 _ (by simp)).symm
  have ea83_5 : ad81 (3, 0, 5) = ad83 (3, 0, 5) := (ha83 _ (by simp)).symm
  have ea83_6 : ad81 (3, 0, 6) = ad83 (3, 0, 6) := (ha83 _ (by simp)).symm
  have ea83_7 : ad81 (3, 0, 7) = ad83 (3, 0, 7) := (ha83 _ (by simp)).symm
  have ea83_8 : ad81 (3, 0, 8) = ad83 (3, 0, 8) := (ha83 _ (by simp)).symm
  have ea83_9 : ad81 (3, 0, 9) = ad83 (3, 0, 9) := (ha83 _ (by simp)).symm
  have ea83_10 : ad81 (3, 0, 10) = ad83 (3, 0, 10) := (ha83 _ (by simp)).symm
  have ea83_11 : ad81 (3, 0, 11) = ad83 (3, 0, 11) := (ha83 _ (by simp)).symm
  have ea83_12 : ad81 (3, 0, 12) = ad83 (3, 0, 12) := (ha83 _ (by simp)).symm
  rw [ea83_0]
  rw [ea83_1, ea83_2, ea83_3, ea83_4, ea83_5, ea83_6, ea83_7, ea83_8, ea83_9, ea83_10, ea83_11, ea83_12] at r0
  have r0 : ce83 (3, 0, 0) = some (.inr (3, [.int 0, .ref (ad83 (3, 0, 1)), .ref (ad83 (3, 0, 2)), .ref (ad83 (3, 0, 3)), .ref (ad83 (3, 0, 4)), .ref (ad83 (3, 0, 5)), .ref (ad83 (3, 0, 6)), .ref (ad83 (3, 0, 7)), .ref (ad83 (3, 0, 8)), .ref (ad83 (3, 0, 9)), .ref (ad83 (3, 0, 10)), .ref (ad83 (3, 0, 11)), .ref (ad83 (3, 0, 12)), .int 0, .null, .null, .int 0, .null, .int 0, .null])) := (fw83 _ (by simp)).trans r0
  have r1 := r1.tr (fw83 _ (by simp))
  have r2 := r2.tr (fw83 _ (by simp))
  have r3 := r3.tr (fw83 _ (by simp))
  have r4 := r4.tr (fw83 _ (by simp))
  have r5 := r5.tr (fw83 _ (by simp))
  have r6 := r6.tr (fw83 _ (by simp))
  have r7 := r7.tr (fw83 _ (by simp))
  have r8 := r8.tr (fw83 _ (by simp))
  have r9 := r9.tr (fw83 _ (by simp))
  have r10 := r10.tr (fw83 _ (by simp))
  have r11 := r11.tr (fw83 _ (by simp))
  have r12 := r12.tr (fw83 _ (by simp))
  refine ob_putF C E rfl F_R r0 14 (by decide) tw_313 rfl rfl rfl rfl (Nat.le_of_ble_eq_true rfl) (fs' := [.int 0, .ref (ad83 (3, 0, 1)), .ref (ad83 (3, 0, 2)), .ref (ad83 (3, 0, 3)), .ref (ad83 (3, 0, 4)), .ref (ad83 (3, 0, 5)), .ref (ad83 (3, 0, 6)), .ref (ad83 (3, 0, 7)), .ref (ad83 (3, 0, 8)), .ref (ad83 (3, 0, 9)), .ref (ad83 (3, 0, 10)), .ref (ad83 (3, 0, 11)), .ref (ad83 (3, 0, 12)), .int 0, .ref (ad83 (3, 0, 14)), .null, .int 0, .null, .int 0, .null]) rfl d_R_init_110 ?_
  intro ce84 fw84 r0
  have r1 := r1.tr (fw84 _ (by simp))
  have r2 := r2.tr (fw84 _ (by simp))
  have r3 := r3.tr (fw84 _ (by simp))
  have r4 := r4.tr (fw84 _ (by simp))
  have r5 := r5.tr (fw84 _ (by simp))
  have r6 := r6.tr (fw84 _ (by simp))
  have r7 := r7.tr (fw84 _ (by simp))
  have r8 := r8.tr (fw84 _ (by simp))
  have r9 := r9.tr (fw84 _ (by simp))
  have r10 := r10.tr (fw84 _ (by simp))
  have r11 := r11.tr (fw84 _ (by simp))
  have r12 := r12.tr (fw84 _ (by simp))
  have r14 := r14.tr (fw84 _ (by simp))
  refine aw_aload_n C d_R_init_113 rfl (j := 0) rfl ?_
  refine aw_bipush C (v := 20) d_R_init_114 (by decide) ?_
  refine ar_newI C I (3, 0, 15) (by rw [fw84 _ (by simp), fw83 _ (by simp), fw82 _ (by simp), fw81 _ (by simp), fw80 _ (by simp), fw79 _ (by simp), fw78 _ (by simp), fw77 _ (by simp), fw76 _ (by simp), fw75 _ (by simp), fw74 _ (by simp), fw73 _ (by simp), fw72 _ (by simp), fw71 _ (by simp), fw70 _ (by simp), fw69 _ (by simp), fw68 _ (by simp), fw67 _ (by simp), fw66 _ (by simp), fw65 _ (by simp), fw64 _ (by simp), fw63 _ (by simp), fw62 _ (by simp), fw61 _ (by simp), fw60 _ (by simp), fw59 _ (by simp)]; exact hno 15 (by decide)) tw_45 (N' := 20) (by decide) (by omega) ⟨Nat.le_trans (m := 16) (by omega) (Nat.le_refl _), Nat.le_trans (m := 2980) (by omega) (Nat.le_refl _)⟩ d_R_init_116 ?_
  intro ad85 ce85 ha85 fw85 r15
  have ea85_0 : ad83 (3, 0, 0) = ad85 (3, 0, 0) := (ha85 _ (by simp)).symm
  have ea85_1 : ad83 (3, 0, 1) = ad85 (3, 0, 1) := (ha85 _ (by simp)).symm
  have ea85_2 : ad83 (3, 0, 2) = ad85 (3, 0, 2) := (ha85 _ (by simp)).symm
  have ea85_3 : ad83 (3, 0, 3) = ad85 (3, 0, 3) := (ha85 _ (by simp)).symm
  have ea85_4 : ad83 (3, 0, 4) = ad85 (3, 0, 4) := (ha85 _ (by simp)).symm
  have ea85_5 : ad83 (3, 0, 5) = ad85 (3, 0, 5) := (ha85 _ (by simp)).symm
  have ea85_6 : ad83 (3, 0, 6) = ad85 (3, 0, 6) := (ha85 _ (by simp)).symm
  have ea85_7 : ad83 (3, 0, 7) = ad85 (3, 0, 7) := (ha85 _ (by simp)).symm
  have ea85_8 : ad83 (3, 0, 8) = ad85 (3, 0, 8) := (ha85 _ (by simp)).symm
  have ea85_9 : ad83 (3, 0, 9) = ad85 (3, 0, 9) := (ha85 _ (by simp)).symm
  have ea85_10 : ad83 (3, 0, 10) = ad85 (3, 0, 10) := (ha85 _ (by simp)).symm
  have ea85_11 : ad83 (3, 0, 11) = ad85 (3, 0, 11) := (ha85 _ (by simp)).symm
  have ea85_12 : ad83 (3, 0, 12) = ad85 (3, 0, 12) := (ha85 _ (by simp)).symm
  have ea85_13 : ad83 (3, 0, 14) = ad85 (3, 0, 14) := (ha85 _ (by simp)).symm
  rw [ea85_0]
  rw [ea85_1, ea85_2, ea85_3, ea85_4, ea85_5, ea85_6, ea85_7, ea85_8, ea85_9, ea85_10, ea85_11, ea85_12, ea85_13] at r0
  have r0 : ce85 (3, 0, 0) = some (.inr (3, [.int 0, .ref (ad85 (3, 0, 1)), .ref (ad85 (3, 0, 2)), .ref (ad85 (3, 0, 3)), .ref (ad85 (3, 0, 4)), .ref (ad85 (3, 0, 5)), .ref (ad85 (3, 0, 6)), .ref (ad85 (3, 0, 7)), .ref (ad85 (3, 0, 8)), .ref (ad85 (3, 0, 9)), .ref (ad85 (3, 0, 10)), .ref (ad85 (3, 0, 11)), .ref (ad85 (3, 0, 12)), .int 0, .ref (ad85 (3, 0, 14)), .null, .int 0, .null, .int 0, .null])) := (fw85 _ (by simp)).trans r0
  have r1 := r1.tr (fw85 _ (by simp))
  have r2 := r2.tr (fw85 _ (by simp))
  have r3 := r3.tr (fw85 _ (by simp))
  have r4 := r4.tr (fw85 _ (by simp))
  have r5 := r5.tr (fw85 _ (by simp))
  have r6 := r6.tr (fw85 _ (by simp))
  have r7 := r7.tr (fw85 _ (by simp))
  have r8 := r8.tr (fw85 _ (by simp))
  have r9 := r9.tr (fw85 _ (by simp))
  have r10 := r10.tr (fw85 _ (by simp))
  have r11 := r11.tr (fw85 _ (by simp))
  have r12 := r12.tr (fw85 _ (by simp))
  have r14 := r14.tr (fw85 _ (by simp))
  refine ob_putF C E rfl F_R r0 15 (by decide) tw_314 rfl rfl rfl rfl (Nat.le_of_ble_eq_true rfl) (fs' := [.int 0, .ref (ad85 (3, 0, 1)), .ref (ad85 (3, 0, 2)), .ref (ad85 (3, 0, 3)), .ref (ad85 (3, 0, 4)), .ref (ad85 (3, 0, 5)), .ref (ad85 (3, 0, 6)), .ref (ad85 (3, 0, 7)), .ref (ad85 (3, 0, 8)), .ref (ad85 (3, 0, 9)), .ref (ad85 (3, 0, 10)), .ref (ad85 (3, 0, 11)), .ref (ad85 (3, 0, 12)), .int 0, .ref (ad85 (3, 0, 14)), .ref (ad85 (3, 0, 15)), .int 0, .null, .int 0, .null]) rfl d_R_init_118 ?_
  intro ce86 fw86 r0
  have r1 := r1.tr (fw86 _ (by simp))
  have r2 := r2.tr (fw86 _ (by simp))
  have r3 := r3.tr (fw86 _ (by simp))
  have r4 := r4.tr (fw86 _ (by simp))
  have r5 := r5.tr (fw86 _ (by simp))
  have r6 := r6.tr (fw86 _ (by simp))
  have r7 := r7.tr (fw86 _ (by simp))
  have r8 := r8.tr (fw86 _ (by simp))
  have r9 := r9.tr (fw86 _ (by simp))
  have r10 := r10.tr (fw86 _ (by simp))
  have r11 := r11.tr (fw86 _ (by simp))
  have r12 := r12.tr (fw86 _ (by simp))
  have r14 := r14.tr (fw86 _ (by simp))
  have r15 := r15.tr (fw86 _ (by simp))
  refine aw_aload_n C d_R_init_121 rfl (j := 0) rfl ?_
  refine aw_bipush C (v := 20) d_R_init_122 (by decide) ?_
  refine ar_newJ C I (3, 0, 17) (by rw [fw86 _ (by simp), fw85 _ (by simp), fw84 _ (by simp), fw83 _ (by simp), fw82 _ (by simp), fw81 _ (by simp), fw80 _ (by simp), fw79 _ (by simp), fw78 _ (by simp), fw77 _ (by simp), fw76 _ (by simp), fw75 _ (by simp), fw74 _ (by simp), fw73 _ (by simp), fw72 _ (by simp), fw71 _ (by simp), fw70 _ (by simp), fw69 _ (by simp), fw68 _ (by simp), fw67 _ (by simp), fw66 _ (by simp), fw65 _ (by simp), fw64 _ (by simp), fw63 _ (by simp), fw62 _ (by simp), fw61 _ (by simp), fw60 _ (by simp), fw59 _ (by simp)]; exact hno 17 (by decide)) tw_44 (N' := 20) (by decide) (by omega) ⟨Nat.le_trans (m := 16) (by omega) (Nat.le_refl _), Nat.le_trans (m := 2980) (by omega) (Nat.le_refl _)⟩ d_R_init_124 ?_
  intro ad87 ce87 ha87 fw87 r17
  have ea87_0 : ad85 (3, 0, 0) = ad87 (3, 0, 0) := (ha87 _ (by simp)).symm
  have ea87_1 : ad85 (3, 0, 1) = ad87 (3, 0, 1) := (ha87 _ (by simp)).symm
  have ea87_2 : ad85 (3, 0, 2) = ad87 (3, 0, 2) := (ha87 _ (by simp)).symm
  have ea87_3 : ad85 (3, 0, 3) = ad87 (3, 0, 3) := (ha87 _ (by simp)).symm
  have ea87_4 : ad85 (3, 0, 4) = ad87 (3, 0, 4) := (ha87 _ (by simp)).symm
  have ea87_5 : ad85 (3, 0, 5) = ad87 (3, 0, 5) := (ha87 _ (by simp)).symm
  have ea87_6 : ad85 (3, 0, 6) = ad87 (3, 0, 6) := (ha87 _ (by simp)).symm
  have ea87_7 : ad85 (3, 0, 7) = ad87 (3, 0, 7) := (ha87 _ (by simp)).symm
  have ea87_8 : ad85 (3, 0, 8) = ad87 (3, 0, 8) := (ha87 _ (by simp)).symm
  have ea87_9 : ad85 (3, 0, 9) = ad87 (3, 0, 9) := (ha87 _ (by simp)).symm
  have ea87_10 : ad85 (3, 0, 10) = ad87 (3, 0, 10) := (ha87 _ (by simp)).symm
  have ea87_11 : ad85 (3, 0, 11) = ad87 (3, 0, 11) := (ha87 _ (by simp)).symm
  have ea87_12 : ad85 (3, 0, 12) = ad87 (3, 0, 12) := (ha87 _ (by simp)).symm
  have ea87_13 : ad85 (3, 0, 14) = ad87 (3, 0, 14) := (ha87 _ (by simp)).symm
  have ea87_14 : ad85 (3, 0, 15) = ad87 (3, 0, 15) := (ha87 _ (by simp)).symm
  rw [ea87_0]
  rw [ea87_1, ea87_2, ea87_3, ea87_4, ea87_5, ea87_6, ea87_7, ea87_8, ea87_9, ea87_10, ea87_11, ea87_12, ea87_13, ea87_14] at r0
  have r0 : ce87 (3, 0, 0) = some (.inr (3, [.int 0, .ref (ad87 (3, 0, 1)), .ref (ad87 (3, 0, 2)), .ref (ad87 (3, 0, 3)), .ref (ad87 (3, 0, 4)), .ref (ad87 (3, 0, 5)), .ref (ad87 (3, 0, 6)), .ref (ad87 (3, 0, 7)), .ref (ad87 (3, 0, 8)), .ref (ad87 (3, 0, 9)), .ref (ad87 (3, 0, 10)), .ref (ad87 (3, 0, 11)), .ref (ad87 (3, 0, 12)), .int 0, .ref (ad87 (3, 0, 14)), .ref (ad87 (3, 0, 15)), .int 0, .null, .int 0, .null])) := (fw87 _ (by simp)).trans r0
  have r1 := r1.tr (fw87 _ (by simp))
  have r2 := r2.tr (fw87 _ (by simp))
  have r3 := r3.tr (fw87 _ (by simp))
  have r4 := r4.tr (fw87 _ (by simp))
  have r5 := r5.tr (fw87 _ (by simp))
  have r6 := r6.tr (fw87 _ (by simp))
  have r7 := r7.tr (fw87 _ (by simp))
  have r8 := r8.tr (fw87 _ (by simp))
  have r9 := r9.tr (fw87 _ (by simp))
  have r10 := r10.tr (fw87 _ (by simp))
  have r11 := r11.tr (fw87 _ (by simp))
  have r12 := r12.tr (fw87 _ (by simp))
  have r14 := r14.tr (fw87 _ (by simp))
  have r15 := r15.tr (fw87 _ (by simp))
  refine ob_putF C E rfl F_R r0 17 (by decide) tw_316 rfl rfl rfl rfl (Nat.le_of_ble_eq_true rfl) (fs' := [.int 0, .ref (ad87 (3, 0, 1)), .ref (ad87 (3, 0, 2)), .ref (ad87 (3, 0, 3)), .ref (ad87 (3, 0, 4)), .ref (ad87 (3, 0, 5)), .ref (ad87 (3, 0, 6)), .ref (ad87 (3, 0, 7)), .ref (ad87 (3, 0, 8)), .ref (ad87 (3, 0, 9)), .ref (ad87 (3, 0, 10)), .ref (ad87 (3, 0, 11)), .ref (ad87 (3, 0, 12)), .int 0, .ref (ad87 (3, 0, 14)), .ref (ad87 (3, 0, 15)), .int 0, .ref (ad87 (3, 0, 17)), .int 0, .null]) rfl d_R_init_126 ?_
  intro ce88 fw88 r0
  have r1 := r1.tr (fw88 _ (by simp))
  have r2 := r2.tr (fw88 _ (by simp))
  have r3 := r3.tr (fw88 _ (by simp))
  have r4 := r4.tr (fw88 _ (by simp))
  have r5 := r5.tr (fw88 _ (by simp))
  have r6 := r6.tr (fw88 _ (by simp))
  have r7 := r7.tr (fw88 _ (by simp))
  have r8 := r8.tr (fw88 _ (by simp))
  have r9 := r9.tr (fw88 _ (by simp))
  have r10 := r10.tr (fw88 _ (by simp))
  have r11 := r11.tr (fw88 _ (by simp))
  have r12 := r12.tr (fw88 _ (by simp))
  have r14 := r14.tr (fw88 _ (by simp))
  have r15 := r15.tr (fw88 _ (by simp))
  have r17 := r17.tr (fw88 _ (by simp))
  refine aw_aload_n C d_R_init_129 rfl (j := 0) rfl ?_
  refine aw_bipush C (v := 10) d_R_init_130 (by decide) ?_
  refine ar_newI C I (3, 0, 19) (by rw [fw88 _ (by simp), fw87 _ (by simp), fw86 _ (by simp), fw85 _ (by simp), fw84 _ (by simp), fw83 _ (by simp), fw82 _ (by simp), fw81 _ (by simp), fw80 _ (by simp), fw79 _ (by simp), fw78 _ (by simp), fw77 _ (by simp), fw76 _ (by simp), fw75 _ (by simp), fw74 _ (by simp), fw73 _ (by simp), fw72 _ (by simp), fw71 _ (by simp), fw70 _ (by simp), fw69 _ (by simp), fw68 _ (by simp), fw67 _ (by simp), fw66 _ (by simp), fw65 _ (by simp), fw64 _ (by simp), fw63 _ (by simp), fw62 _ (by simp), fw61 _ (by simp), fw60 _ (by simp), fw59 _ (by simp)]; exact hno 19 (by decide)) tw_45 (N' := 10) (by decide) (by omega) ⟨Nat.le_trans (m := 16) (by omega) (Nat.le_refl _), Nat.le_trans (m := 2980) (by omega) (Nat.le_refl _)⟩ d_R_init_132 ?_
  intro ad89 ce89 ha89 fw89 r19
  have ea89_0 : ad87 (3, 0, 0) = ad89 (3, 0, 0) := (ha89 _ (by simp)).symm
  have ea89_1 : ad87 (3, 0, 1) = ad89 (3, 0, 1) := (ha89 _ (by simp)).symm
  have ea89_2 : ad87 (3, 0, 2) = ad89 (3, 0, 2) := (ha89 _ (by simp)).symm
  have ea89_3 : ad87 (3, 0, 3) = ad89 (3, 0, 3) := (ha89 _ (by simp)).symm
  have ea89_4 : ad87 (3, 0, 4) = ad89 (3, 0, 4) := (ha89 _ (by simp)).symm
  have ea89_5 : ad87 (3, 0, 5) = ad89 (3, 0, 5) := (ha89 _ (by simp)).symm
  have ea89_6 : ad87 (3, 0, 6) = ad89 (3, 0, 6) := (ha89 _ (by simp)).symm
  have ea89_7 : ad87 (3, 0, 7) = ad89 (3, 0, 7) := (ha89 _ (by simp)).symm
  have ea89_8 : ad87 (3, 0, 8) = ad89 (3, 0, 8) := (ha89 _ (by simp)).symm
  have ea89_9 : ad87 (3, 0, 9) = ad89 (3, 0, 9) := (ha89 _ (by simp)).symm
  have ea89_10 : ad87 (3, 0, 10) = ad89 (3, 0, 10) := (ha89 _ (by simp)).symm
  have ea89_11 : ad87 (3, 0, 11) = ad89 (3, 0, 11) := (ha89 _ (by simp)).symm
  have ea89_12 : ad87 (3, 0, 12) = ad89 (3, 0, 12) := (ha89 _ (by simp)).symm
  have ea89_13 : ad87 (3, 0, 14) = ad89 (3, 0, 14) := (ha89 _ (by simp)).symm
  have ea89_14 : ad87 (3, 0, 15) = ad89 (3, 0, 15) := (ha89 _ (by simp)).symm
  have ea89_15 : ad87 (3, 0, 17) = ad89 (3, 0, 17) := (ha89 _ (by simp)).symm
  rw [ea89_0]
  rw [ea89_1, ea89_2, ea89_3, ea89_4, ea89_5, ea89_6, ea89_7, ea89_8, ea89_9, ea89_10, ea89_11, ea89_12, ea89_13, ea89_14, ea89_15] at r0
  have r0 : ce89 (3, 0, 0) = some (.inr (3, [.int 0, .ref (ad89 (3, 0, 1)), .ref (ad89 (3, 0, 2)), .ref (ad89 (3, 0, 3)), .ref (ad89 (3, 0, 4)), .ref (ad89 (3, 0, 5)), .ref (ad89 (3, 0, 6)), .ref (ad89 (3, 0, 7)), .ref (ad89 (3, 0, 8)), .ref (ad89 (3, 0, 9)), .ref (ad89 (3, 0, 10)), .ref (ad89 (3, 0, 11)), .ref (ad89 (3, 0, 12)), .int 0, .ref (ad89 (3, 0, 14)), .ref (ad89 (3, 0, 15)), .int 0, .ref (ad89 (3, 0, 17)), .int 0, .null])) := (fw89 _ (by simp)).trans r0
  have r1 := r1.tr (fw89 _ (by simp))
  have r2 := r2.tr (fw89 _ (by simp))
  have r3 := r3.tr (fw89 _ (by simp))
  have r4 := r4.tr (fw89 _ (by simp))
  have r5 := r5.tr (fw89 _ (by simp))
  have r6 := r6.tr (fw89 _ (by simp))
  have r7 := r7.tr (fw89 _ (by simp))
  have r8 := r8.tr (fw89 _ (by simp))
  have r9 := r9.tr (fw89 _ (by simp))
  have r10 := r10.tr (fw89 _ (by simp))
  have r11 := r11.tr (fw89 _ (by simp))
  have r12 := r12.tr (fw89 _ (by simp))
  have r14 := r14.tr (fw89 _ (by simp))
  have r15 := r15.tr (fw89 _ (by simp))
  have r17 := r17.tr (fw89 _ (by simp))
  refine ob_putF C E rfl F_R r0 19 (by decide) tw_318 rfl rfl rfl rfl (Nat.le_of_ble_eq_true rfl) (fs' := [.int 0, .ref (ad89 (3, 0, 1)), .ref (ad89 (3, 0, 2)), .ref (ad89 (3, 0, 3)), .ref (ad89 (3, 0, 4)), .ref (ad89 (3, 0, 5)), .ref (ad89 (3, 0, 6)), .ref (ad89 (3, 0, 7)), .ref (ad89 (3, 0, 8)), .ref (ad89 (3, 0, 9)), .ref (ad89 (3, 0, 10)), .ref (ad89 (3, 0, 11)), .ref (ad89 (3, 0, 12)), .int 0, .ref (ad89 (3, 0, 14)), .ref (ad89 (3, 0, 15)), .int 0, .ref (ad89 (3, 0, 17)), .int 0, .ref (ad89 (3, 0, 19))]) rfl d_R_init_134 ?_
  intro ce90 fw90 r0
  have r1 := r1.tr (fw90 _ (by simp))
  have r2 := r2.tr (fw90 _ (by simp))
  have r3 := r3.tr (fw90 _ (by simp))
  have r4 := r4.tr (fw90 _ (by simp))
  have r5 := r5.tr (fw90 _ (by simp))
  have r6 := r6.tr (fw90 _ (by simp))
  have r7 := r7.tr (fw90 _ (by simp))
  have r8 := r8.tr (fw90 _ (by simp))
  have r9 := r9.tr (fw90 _ (by simp))
  have r10 := r10.tr (fw90 _ (by simp))
  have r11 := r11.tr (fw90 _ (by simp))
  have r12 := r12.tr (fw90 _ (by simp))
  have r14 := r14.tr (fw90 _ (by simp))
  have r15 := r15.tr (fw90 _ (by simp))
  have r17 := r17.tr (fw90 _ (by simp))
  have r19 := r19.tr (fw90 _ (by simp))
  refine aw_vret C E (by decide) (by decide) d_R_init_137 ?_
  exact ⟨rfl, fun q hq => ⟨by rw [ha89 q (fun e => by subst e; simp at hq), ha87 q (fun e => by subst e; simp at hq), ha85 q (fun e => by subst e; simp at hq), ha83 q (fun e => by subst e; simp at hq), ha81 q (fun e => by subst e; simp at hq), ha79 q (fun e => by subst e; simp at hq), ha77 q (fun e => by subst e; simp at hq), ha75 q (fun e => by subst e; simp at hq), ha73 q (fun e => by subst e; simp at hq), ha71 q (fun e => by subst e; simp at hq), ha69 q (fun e => by subst e; simp at hq), ha67 q (fun e => by subst e; simp at hq), ha65 q (fun e => by subst e; simp at hq), ha63 q (fun e => by subst e; simp at hq), ha61 q (fun e => by subst e; simp at hq), ha59 q (fun e => by subst e; simp at hq)], by rw [fw90 q (fun e => by subst e; simp at hq), fw89 q (fun e => by subst e; simp at hq), fw88 q (fun e => by subst e; simp at hq), fw87 q (fun e => by subst e; simp at hq), fw86 q (fun e => by subst e; simp at hq), fw85 q (fun e => by subst e; simp at hq), fw84 q (fun e => by subst e; simp at hq), fw83 q (fun e => by subst e; simp at hq), fw82 q (fun e => by subst e; simp at hq), fw81 q (fun e => by subst e; simp at hq), fw80 q (fun e => by subst e; simp at hq), fw79 q (fun e => by subst e; simp at hq), fw78 q (fun e => by subst e; simp at hq), fw77 q (fun e => by subst e; simp at hq), fw76 q (fun e => by subst e; simp at hq), fw75 q (fun e => by subst e; simp at hq), fw74 q (fun e => by subst e; simp at hq), fw73 q (fun e => by subst e; simp at hq), fw72 q (fun e => by subst e; simp at hq), fw71 q (fun e => by subst e; simp at hq), fw70 q (fun e => by subst e; simp at hq), fw69 q (fun e => by subst e; simp at hq), fw68 q (fun e => by subst e; simp at hq), fw67 q (fun e => by subst e; simp at hq), fw66 q (fun e => by subst e; simp at hq), fw65 q (fun e => by subst e; simp at hq), fw64 q (fun e => by subst e; simp at hq), fw63 q (fun e => by subst e; simp at hq), fw62 q (fun e => by subst e; simp at hq), fw61 q (fun e => by subst e; simp at hq), fw60 q (fun e => by subst e; simp at hq), fw59 q (fun e => by subst e; simp at hq)]⟩, by rw [ha89 _ (by simp), ha87 _ (by simp), ha85 _ (by simp), ha83 _ (by simp), ha81 _ (by simp), ha79 _ (by simp), ha77 _ (by simp), ha75 _ (by simp), ha73 _ (by simp), ha71 _ (by simp), ha69 _ (by simp), ha67 _ (by simp), ha65 _ (by simp), ha63 _ (by simp), ha61 _ (by simp), ha59 _ (by simp)], _, _, _, _, _, _, _, _, _, _, _, _, _, _, ⟨r0, r1, r2, r3, r4, r5, r6, r7, r8, r9, r10, r11, r12, r14, r15, r17, r19⟩, Rel_new, WFS_new⟩
