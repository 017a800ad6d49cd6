theorem aw_sub {X : aw_X} {nL cells slots : Nat} {ad : aw_Ad} {ce : aw_He} {pc : Nat} {lv lv' : List (Nat × Value)} {st : List Value} (h : ∀ q ∈ lv', q ∈ lv) (k : AW X nL cells slots ad ce pc lv' st) : AW X nL cells slots ad ce pc lv st := by
  obtain ⟨p, l, e, R, s, m, args, below, meth, c, Q, G⟩ := X
  intro H locs ls hH hS hl
  exact k H locs ls hH hS ⟨hl.1, hl.2.1, fun q hq => hl.2.2 q (h q hq)⟩
set_option maxRecDepth 100000 in
set_option maxHeartbeats 4000000 in
theorem c_leadsFrom (l : Launch) (G : aw_G) (ad : aw_Ad) (ce : aw_He) (x s : Int32) (hs : 0 ≤ s) : CT l G M_C_leadsFrom 1 22 0 0 [.int x, .int s] ad ce (rN (some (.int (bI (decide (0 ≤ evTo x s))))) ad ce) := by
  refine CT.of (by decide) (Nat.le_of_ble_eq_true rfl) ?_
  intro X C I E
  by_cases h0 : x = 0
  · subst h0
    show AW X 2 0 0 ad ce 0 [(0, .int 0), (1, .int s)] []
    refine aw_iload_n C d_C_leadsFrom_0 rfl (j := 0) rfl ?_
    refine aw_tableIn C (tgt := 36) d_C_leadsFrom_1 (by decide) (by decide) rfl (by decide) ?_
    refine aw_iload_n C d_C_leadsFrom_36 rfl (j := 1) rfl ?_
    refine aw_if_ne C (tgt := 44) d_C_leadsFrom_37 (by decide) (fun h37 => ?_) (fun h37 => ?_)
    · refine aw_iconst C (v := 0) d_C_leadsFrom_44 (by decide) ?_
      refine aw_iret C E (rfl) (by decide) (by decide) d_C_leadsFrom_45 ?_
      exact ⟨sI (by rw [show evTo 0 s = -1 from by simp [evTo, h37]]; decide), rfl, rfl⟩
    · refine aw_iconst C (v := 1) d_C_leadsFrom_40 (by decide) ?_
      refine aw_goto C (tgt := 45) d_C_leadsFrom_41 (by decide) ?_
      refine aw_iret C E (rfl) (by decide) (by decide) d_C_leadsFrom_45 ?_
      exact ⟨sI (by rw [show evTo 0 s = 1 from by simp [evTo, h37]]; decide), rfl, rfl⟩
  by_cases h1 : x = 1
  · subst h1
    show AW X 2 0 0 ad ce 0 [(0, .int 1), (1, .int s)] []
    refine aw_iload_n C d_C_leadsFrom_0 rfl (j := 0) rfl ?_
    refine aw_tableIn C (tgt := 46) d_C_leadsFrom_1 (by decide) (by decide) rfl (by decide) ?_
    refine aw_iload_n C d_C_leadsFrom_46 rfl (j := 1) rfl ?_
    refine aw_iconst C (v := 1) d_C_leadsFrom_47 (by decide) ?_
    refine aw_icmp_ne C (tgt := 55) d_C_leadsFrom_48 (by decide) (fun h48 => ?_) (fun h48 => ?_)
    · refine aw_iconst C (v := 0) d_C_leadsFrom_55 (by decide) ?_
      refine aw_iret C E (rfl) (by decide) (by decide) d_C_leadsFrom_56 ?_
      exact ⟨sI (by rw [show evTo 1 s = -1 from by simp [evTo, h48]]; decide), rfl, rfl⟩
    · refine aw_iconst C (v := 1) d_C_leadsFrom_51 (by decide) ?_
      refine aw_goto C (tgt := 56) d_C_leadsFrom_52 (by decide) ?_
      refine aw_iret C E (rfl) (by decide) (by decide) d_C_leadsFrom_56 ?_
      exact ⟨sI (by rw [show evTo 1 s = 0 from by simp [evTo, h48]]; decide), rfl, rfl⟩
  by_cases h2 : x = 2
  · subst h2
    show AW X 2 0 0 ad ce 0 [(0, .int 2), (1, .int s)] []
    refine aw_iload_n C d_C_leadsFrom_0 rfl (j := 0) rfl ?_
    refine aw_tableIn C (tgt := 57) d_C_leadsFrom_1 (by decide) (by decide) rfl (by decide) ?_
    refine aw_iload_n C d_C_leadsFrom_57 rfl (j := 1) rfl ?_
    refine aw_iconst C (v := 0) d_C_leadsFrom_58 (by decide) ?_
    refine aw_iconst C (v := 3) d_C_leadsFrom_59 (by decide) ?_
    refine aw_callS C I (as := [.int s, .int 0, .int 3]) (rest := []) (c_within l G ad ce s 0 3) g_C_42 ⟨by decide, by decide⟩ ⟨by decide, by decide⟩ rfl (Nat.le_of_ble_eq_true rfl) d_C_leadsFrom_60 ?_
    rintro _ _ _ ⟨rfl, rfl, rfl⟩
    show AW X 2 0 0 ad ce 63 [(0, .int 2), (1, .int s)] [.int (bI (decide (0 ≤ s ∧ s ≤ 3)))]
    refine aw_iret C E (nar_bI _) (by decide) (by decide) d_C_leadsFrom_63 ?_
    refine ⟨sI ?_, rfl, rfl⟩
    by_cases h : s ≤ 3
    · rw [show evTo 2 s = 4 from by simp [evTo, h]]; simp [hs, h]
    · rw [show evTo 2 s = -1 from by simp [evTo, h]]; simp [h]
  by_cases h3 : x = 3
  · subst h3
    show AW X 2 0 0 ad ce 0 [(0, .int 3), (1, .int s)] []
    refine aw_iload_n C d_C_leadsFrom_0 rfl (j := 0) rfl ?_
    refine aw_tableIn C (tgt := 46) d_C_leadsFrom_1 (by decide) (by decide) rfl (by decide) ?_
    refine aw_iload_n C d_C_leadsFrom_46 rfl (j := 1) rfl ?_
    refine aw_iconst C (v := 1) d_C_leadsFrom_47 (by decide) ?_
    refine aw_icmp_ne C (tgt := 55) d_C_leadsFrom_48 (by decide) (fun h48 => ?_) (fun h48 => ?_)
    · refine aw_iconst C (v := 0) d_C_leadsFrom_55 (by decide) ?_
      refine aw_iret C E (rfl) (by decide) (by decide) d_C_leadsFrom_56 ?_
      exact ⟨sI (by rw [show evTo 3 s = -1 from by simp [evTo, h48]]; decide), rfl, rfl⟩
    · refine aw_iconst C (v := 1) d_C_leadsFrom_51 (by decide) ?_
      refine aw_goto C (tgt := 56) d_C_leadsFrom_52 (by decide) ?_
      refine aw_iret C E (rfl) (by decide) (by decide) d_C_leadsFrom_56 ?_
      exact ⟨sI (by rw [show evTo 3 s = 2 from by simp [evTo, h48]]; decide), rfl, rfl⟩
  by_cases h4 : x = 4
  · subst h4
    show AW X 2 0 0 ad ce 0 [(0, .int 4), (1, .int s)] []
    refine aw_iload_n C d_C_leadsFrom_0 rfl (j := 0) rfl ?_
    refine aw_tableIn C (tgt := 64) d_C_leadsFrom_1 (by decide) (by decide) rfl (by decide) ?_
    refine aw_iload_n C d_C_leadsFrom_64 rfl (j := 1) rfl ?_
    refine aw_iconst C (v := 3) d_C_leadsFrom_65 (by decide) ?_
    refine aw_icmp_ne C (tgt := 73) d_C_leadsFrom_66 (by decide) (fun h66 => ?_) (fun h66 => ?_)
    · refine aw_iconst C (v := 0) d_C_leadsFrom_73 (by decide) ?_
      refine aw_iret C E (rfl) (by decide) (by decide) d_C_leadsFrom_74 ?_
      exact ⟨sI (by rw [show evTo 4 s = -1 from by simp [evTo, h66]]; decide), rfl, rfl⟩
    · refine aw_iconst C (v := 1) d_C_leadsFrom_69 (by decide) ?_
      refine aw_goto C (tgt := 74) d_C_leadsFrom_70 (by decide) ?_
      refine aw_iret C E (rfl) (by decide) (by decide) d_C_leadsFrom_74 ?_
      exact ⟨sI (by rw [show evTo 4 s = 1 from by simp [evTo, h66]]; decide), rfl, rfl⟩
  have hout := sw5 h0 h1 h2 h3 h4
  show AW X 2 0 0 ad ce 0 [(0, .int x), (1, .int s)] []
  refine aw_iload_n C d_C_leadsFrom_0 rfl (j := 0) rfl ?_
  refine aw_tableOut C (tgt := 75) d_C_leadsFrom_1 (hout) (by decide) ?_
  refine aw_iconst C (v := 0) d_C_leadsFrom_75 (by decide) ?_
  refine aw_iret C E (rfl) (by decide) (by decide) d_C_leadsFrom_76 ?_
  exact ⟨sI (by rw [show evTo x s = -1 from by simp [evTo, h0, h1, h2, h3, h4]]; decide), rfl, rfl⟩
set_option maxRecDepth 100000 in
set_option maxHeartbeats 4000000 in
theorem c_leadsTo (l : Launch) (G : aw_G) (ad : aw_Ad) (ce : aw_He) (x s : Int32) (h : 0 ≤ evTo x s) : CT l G M_C_leadsTo 0 0 0 0 [.int x] ad ce (rN (some (.int (evTo x s))) ad ce) := by
  refine CT.of (by decide) (Nat.le_of_ble_eq_true rfl) ?_
  intro X C I E
  by_cases h0 : x = 0
  · subst h0
    show AW X 1 0 0 ad ce 0 [(0, .int 0)] []
    refine aw_iload_n C d_C_leadsTo_0 rfl (j := 0) rfl ?_
    refine aw_tableOut C (tgt := 34) d_C_leadsTo_1 (by decide) (by decide) ?_
    refine aw_iconst C (v := 1) d_C_leadsTo_34 (by decide) ?_
    refine aw_iret C E (rfl) (by decide) (by decide) d_C_leadsTo_35 ?_
    by_cases hc : s = 0
    · exact ⟨sI (by simp [evTo, hc]), rfl, rfl⟩
    · exact absurd h (by rw [show evTo 0 s = -1 from by simp [evTo, hc]]; decide)
  by_cases h1 : x = 1
  · subst h1
    show AW X 1 0 0 ad ce 0 [(0, .int 1)] []
    refine aw_iload_n C d_C_leadsTo_0 rfl (j := 0) rfl ?_
    refine aw_tableIn C (tgt := 28) d_C_leadsTo_1 (by decide) (by decide) rfl (by decide) ?_
    refine aw_iconst C (v := 0) d_C_leadsTo_28 (by decide) ?_
    refine aw_iret C E (rfl) (by decide) (by decide) d_C_leadsTo_29 ?_
    by_cases hc : s = 1
    · exact ⟨sI (by simp [evTo, hc]), rfl, rfl⟩
    · exact absurd h (by rw [show evTo 1 s = -1 from by simp [evTo, hc]]; decide)
  by_cases h2 : x = 2
  · subst h2
    show AW X 1 0 0 ad ce 0 [(0, .int 2)] []
    refine aw_iload_n C d_C_leadsTo_0 rfl (j := 0) rfl ?_
    refine aw_tableIn C (tgt := 30) d_C_leadsTo_1 (by decide) (by decide) rfl (by decide) ?_
    refine aw_iconst C (v := 4) d_C_leadsTo_30 (by decide) ?_
    refine aw_iret C E (rfl) (by decide) (by decide) d_C_leadsTo_31 ?_
    by_cases hc : s ≤ 3
    · exact ⟨sI (by simp [evTo, hc]), rfl, rfl⟩
    · exact absurd h (by rw [show evTo 2 s = -1 from by simp [evTo, hc]]; decide)
  by_cases h3 : x = 3
  · subst h3
    show AW X 1 0 0 ad ce 0 [(0, .int 3)] []
    refine aw_iload_n C d_C_leadsTo_0 rfl (j := 0) rfl ?_
    refine aw_tableIn C (tgt := 32) d_C_leadsTo_1 (by decide) (by decide) rfl (by decide) ?_
    refine aw_iconst C (v := 2) d_C_leadsTo_32 (by decide) ?_
    refine aw_iret C E (rfl) (by decide) (by decide) d_C_leadsTo_33 ?_
    by_cases hc : s = 1
    · exact ⟨sI (by simp [evTo, hc]), rfl, rfl⟩
    · exact absurd h (by rw [show evTo 3 s = -1 from by simp [evTo, hc]]; decide)
  by_cases h4 : x = 4
  · subst h4
    show AW X 1 0 0 ad ce 0 [(0, .int 4)] []
    refine aw_iload_n C d_C_leadsTo_0 rfl (j := 0) rfl ?_
    refine aw_tableOut C (tgt := 34) d_C_leadsTo_1 (by decide) (by decide) ?_
    refine aw_iconst C (v := 1) d_C_leadsTo_34 (by decide) ?_
    refine aw_iret C E (rfl) (by decide) (by decide) d_C_leadsTo_35 ?_
    by_cases hc : s = 3
    · exact ⟨sI (by simp [evTo, hc]), rfl, rfl⟩
    · exact absurd h (by rw [show evTo 4 s = -1 from by simp [evTo, hc]]; decide)
  have hout := sw5 h0 h1 h2 h3 h4
  exact absurd h (by rw [show evTo x s = -1 from by simp [evTo, h0, h1, h2, h3, h4]]; decide)
set_option maxRecDepth 100000 in
set_option maxHeartbeats 4000000 in
theorem c_markBy (l : Launch) (G : aw_G) (ad : aw_Ad) (ce : aw_He) (j : Nat) (p : PapS) (hP : Pap ad ce j p) (key : Int64) : CT l G M_P_markBy 0 0 0 0 [.ref (ad (2, j, 0)), .long key] ad ce (rN (some (.long (fldM mkS p.2 p.1 0 key))) ad ce) := by
  refine CT.of (by decide) (Nat.le_of_ble_eq_true rfl) ?_
  intro X C I E
  obtain ⟨hp, hf, h6, h12⟩ := hP
  have loop : ∀ (m a : Nat) (x : Int64), a + m = p.1 → fldM mkS p.2 m a x = fldM mkS p.2 p.1 0 key → AW X 6 0 0 ad ce 5 [(5, .int (nI a)), (3, .long x), (0, .ref (ad (2, j, 0))), (1, .long key)] [] := by
    intro m
    induction m with
    | zero =>
      intro a x ha hr
      refine aw_iload C d_P_markBy_5 (j := 0) rfl ?_
      refine aw_aload_n C d_P_markBy_7 rfl (j := 2) rfl ?_
      refine aw_get C F_P hp 0 (by decide) tw_232 rfl d_P_markBy_8 ?_
      refine ar_len C hf (tt := .int) rfl d_P_markBy_11 ?_
      refine aw_icmp_ge C (tgt := 45) d_P_markBy_12 (by decide) (fun h12 => ?_) (fun h12 => absurd (nI_le (by omega) (by omega)) h12)
      refine aw_lload_n C d_P_markBy_45 rfl (j := 1) rfl ?_
      refine aw_lret C E (by decide) (by decide) d_P_markBy_46 ?_
      rw [fldM_0] at hr
      exact ⟨by rw [hr], rfl, rfl⟩
    | succ m ih =>
      intro a x ha hr
      refine aw_iload C d_P_markBy_5 (j := 0) rfl ?_
      refine aw_aload_n C d_P_markBy_7 rfl (j := 2) rfl ?_
      refine aw_get C F_P hp 0 (by decide) tw_232 rfl d_P_markBy_8 ?_
      refine ar_len C hf (tt := .int) rfl d_P_markBy_11 ?_
      refine aw_icmp_ge C (tgt := 45) d_P_markBy_12 (by decide) (fun h12 => absurd h12 (nI_ge (by omega) (by omega))) (fun h12 => ?_)
      refine aw_lload_n C d_P_markBy_15 rfl (j := 1) rfl ?_
      refine aw_aload_n C d_P_markBy_16 rfl (j := 2) rfl ?_
      refine aw_get C F_P hp 0 (by decide) tw_232 rfl d_P_markBy_17 ?_
      refine aw_iload C d_P_markBy_20 (j := 0) rfl ?_
      refine ar_iald C hf (j := a) (rfl) (by omega) (by omega) d_P_markBy_22 ?_
      refine aw_i2l C d_P_markBy_23 ?_
      refine aw_ladd C d_P_markBy_24 ?_
      refine aw_lconst C (v := 1) d_P_markBy_25 (by decide) ?_
      refine aw_ladd C d_P_markBy_26 ?_
      refine aw_ldc2 C tw_253 d_P_markBy_27 ?_
      refine aw_lmul C d_P_markBy_30 ?_
      obtain ⟨y, hy⟩ : ∃ y : Int64, ((x + (Int32.toInt64 (p.2 a))) + 1) * 6364136223846793005 = y := ⟨_, rfl⟩
      refine aw_topl (v' := y) (hy) ?_
      refine aw_lstore_n C (lv' := [(3, .long y), (5, .int (nI a)), (0, .ref (ad (2, j, 0))), (1, .long key)]) d_P_markBy_31 rfl (by decide) rfl ?_
      refine aw_lload_n C d_P_markBy_32 rfl (j := 0) rfl ?_
      refine aw_lload_n C d_P_markBy_33 rfl (j := 0) rfl ?_
      refine aw_bipush C (v := 32) d_P_markBy_34 (by decide) ?_
      refine aw_lushr C d_P_markBy_36 ?_
      refine aw_lxor C d_P_markBy_37 ?_
      refine aw_topl (v' := mkS x (p.2 a)) (by simp only [mkS, hy]) ?_
      refine aw_lstore_n C (lv' := [(3, .long (mkS x (p.2 a))), (5, .int (nI a)), (0, .ref (ad (2, j, 0))), (1, .long key)]) d_P_markBy_38 rfl (by decide) rfl ?_
      refine aw_iinc C (v := nI (a + 1)) (lv' := [(5, .int (nI (a + 1))), (3, .long (mkS x (p.2 a))), (0, .ref (ad (2, j, 0))), (1, .long key)]) d_P_markBy_39 (j := 1) rfl (nI_1 _) (by decide) rfl ?_
      refine aw_goto C (tgt := 5) d_P_markBy_42 (by decide) ?_
      rw [fldM_s] at hr
      exact ih (a + 1) _ (by omega) hr
  show AW X 6 0 0 ad ce 0 [(0, .ref (ad (2, j, 0))), (1, .long key)] []
  refine aw_lload_n C d_P_markBy_0 rfl (j := 1) rfl ?_
  refine aw_lstore_n C (lv' := [(3, .long key), (0, .ref (ad (2, j, 0))), (1, .long key)]) d_P_markBy_1 rfl (by decide) rfl ?_
  refine aw_iconst C (v := 0) d_P_markBy_2 (by decide) ?_
  refine aw_istore C (lv' := [(5, .int 0), (3, .long key), (0, .ref (ad (2, j, 0))), (1, .long key)]) d_P_markBy_3 (by decide) rfl ?_
  refine aw_lv (lv' := [(5, .int (nI 0)), (3, .long key), (0, .ref (ad (2, j, 0))), (1, .long key)]) (by simp only [nI_0]) ?_
  exact loop p.1 0 key (by omega) rfl
set_option maxRecDepth 100000 in
set_option maxHeartbeats 4000000 in
theorem c_hasSerial (l : Launch) (G : aw_G) (ad : aw_Ad) (ce : aw_He) (S : SysS) (hL : LayC S ad ce) (x : Int64) : CT l G M_C_carrierHasSerial 1 21 0 0 [.ref (ad (0, 0, 0)), .long x] ad ce (rN (some (.int (bI (anyF (fun i => k_sr (s_car S i)) x (s_cn S) 0)))) ad ce) := by
  refine CT.of (by decide) (Nat.le_of_ble_eq_true rfl) ?_
  intro X C I E
  have hL0 := hL
  obtain ⟨ho, hca, hpa, hli, hlo, hcars, hpaps, hnoc, hnop, hb1, hb2, hb3, hb4⟩ := hL0
  have loop : ∀ (m a : Nat), a + m = s_cn S → anyF (fun i => k_sr (s_car S i)) x m a = anyF (fun i => k_sr (s_car S i)) x (s_cn S) 0 → AW X 5 0 0 ad ce 2 [(3, .int (nI a)), (0, .ref (ad (0, 0, 0))), (1, .long x)] [] := by
    intro m
    induction m with
    | zero =>
      intro a ha hr
      refine aw_iload_n C d_C_carrierHasSerial_2 rfl (j := 0) rfl ?_
      refine aw_aload_n C d_C_carrierHasSerial_3 rfl (j := 1) rfl ?_
      refine aw_get C F_C ho 1 (by decide) tw_20 rfl d_C_carrierHasSerial_4 ?_
      refine aw_icmp_ge C (tgt := 40) d_C_carrierHasSerial_7 (by decide) (fun h7 => ?_) (fun h7 => absurd (nI_le (by omega) (by omega)) h7)
      refine aw_iconst C (v := 0) d_C_carrierHasSerial_40 (by decide) ?_
      refine aw_iret C E (rfl) (by decide) (by decide) d_C_carrierHasSerial_41 ?_
      exact ⟨sI (by rw [← hr]; rfl), rfl, rfl⟩
    | succ m ih =>
      intro a ha hr
      refine aw_iload_n C d_C_carrierHasSerial_2 rfl (j := 0) rfl ?_
      refine aw_aload_n C d_C_carrierHasSerial_3 rfl (j := 1) rfl ?_
      refine aw_get C F_C ho 1 (by decide) tw_20 rfl d_C_carrierHasSerial_4 ?_
      refine aw_icmp_ge C (tgt := 40) d_C_carrierHasSerial_7 (by decide) (fun h7 => absurd h7 (nI_ge (by omega) (by omega))) (fun h7 => ?_)
      refine aw_aload_n C d_C_carrierHasSerial_10 rfl (j := 1) rfl ?_
      refine aw_iload_n C d_C_carrierHasSerial_11 rfl (j := 0) rfl ?_
      refine aw_callV C I (k := (0, 0, 0)) (as := [.int (nI a)]) (rest := []) (c_findC_in l G ad ce S hL a (by omega)) g_C_56 ho rfl rfl ⟨by decide, by decide⟩ ⟨by decide, by decide⟩ rfl (Nat.le_of_ble_eq_true rfl) d_C_carrierHasSerial_12 ?_
      rintro _ _ _ ⟨rfl, rfl, rfl⟩
      show AW X 5 0 0 ad ce 15 [(3, .int (nI a)), (0, .ref (ad (0, 0, 0))), (1, .long x)] [.ref (ad (1, a, 0))]
      have hka := (hcars a (by omega)).1
      refine aw_astore C (lv' := [(4, .ref (ad (1, a, 0))), (3, .int (nI a)), (0, .ref (ad (0, 0, 0))), (1, .long x)]) d_C_carrierHasSerial_15 (by decide) rfl ?_
      refine aw_aload C d_C_carrierHasSerial_17 (j := 0) rfl ?_
      refine aw_ifnull C d_C_carrierHasSerial_19 ?_
      refine aw_aload C d_C_carrierHasSerial_22 (j := 0) rfl ?_
      refine aw_get C F_K hka 1 (by decide) tw_74 rfl d_C_carrierHasSerial_24 ?_
      refine aw_lload_n C d_C_carrierHasSerial_27 rfl (j := 3) rfl ?_
      refine aw_lcmp C d_C_carrierHasSerial_28 ?_
      refine aw_if_ne C (tgt := 34) d_C_carrierHasSerial_29 (by decide) (fun h29 => ?_) (fun h29 => ?_)
      · refine aw_iinc C (v := nI (a + 1)) (lv' := [(3, .int (nI (a + 1))), (4, .ref (ad (1, a, 0))), (0, .ref (ad (0, 0, 0))), (1, .long x)]) d_C_carrierHasSerial_34 (j := 1) rfl (nI_1 _) (by decide) rfl ?_
        refine aw_goto C (tgt := 2) d_C_carrierHasSerial_37 (by decide) ?_
        refine aw_sub (lv' := [(3, .int (nI (a + 1))), (0, .ref (ad (0, 0, 0))), (1, .long x)]) (by simp) ?_
        exact ih (a + 1) (by omega) (by rw [← hr]; simp [lg_cmp_eq] at h29; simp [anyF, h29])
      · refine aw_iconst C (v := 1) d_C_carrierHasSerial_32 (by decide) ?_
        refine aw_iret C E (rfl) (by decide) (by decide) d_C_carrierHasSerial_33 ?_
        exact ⟨sI (by rw [← hr]; simp [lg_cmp_eq] at h29; simp [anyF, h29, bI]), rfl, rfl⟩
  show AW X 5 0 0 ad ce 0 [(0, .ref (ad (0, 0, 0))), (1, .long x)] []
  refine aw_iconst C (v := 0) d_C_carrierHasSerial_0 (by decide) ?_
  refine aw_istore_n C (lv' := [(3, .int 0), (0, .ref (ad (0, 0, 0))), (1, .long x)]) d_C_carrierHasSerial_1 rfl (by decide) rfl ?_
  refine aw_lv (lv' := [(3, .int (nI 0)), (0, .ref (ad (0, 0, 0))), (1, .long x)]) (by simp only [nI_0]) ?_
  exact loop (s_cn S) 0 (by omega) rfl
set_option maxRecDepth 100000 in
set_option maxHeartbeats 4000000 in
theorem c_listHas (l : Launch) (G : aw_G) (ad : aw_Ad) (ce : aw_He) (S : SysS) (hL : LayC S ad ce) (x : Int64) : CT l G M_C_listHasSerial 0 0 0 0 [.ref (ad (0, 0, 0)), .long x] ad ce (rN (some (.int (bI (anyF (s_li S) x (s_ln S) 0)))) ad ce) := by
  refine CT.of (by decide) (Nat.le_of_ble_eq_true rfl) ?_
  intro X C I E
  obtain ⟨ho, hca, hpa, hli, hlo, hcars, hpaps, hnoc, hnop, hb1, hb2, hb3, hb4⟩ := hL
  have loop : ∀ (m a : Nat), a + m = s_ln S → anyF (s_li S) x m a = anyF (s_li S) x (s_ln S) 0 → AW X 4 0 0 ad ce 2 [(3, .int (nI a)), (0, .ref (ad (0, 0, 0))), (1, .long x)] [] := by
    intro m
    induction m with
    | zero =>
      intro a ha hr
      refine aw_iload_n C d_C_listHasSerial_2 rfl (j := 0) rfl ?_
      refine aw_aload_n C d_C_listHasSerial_3 rfl (j := 1) rfl ?_
      refine aw_get C F_C ho 5 (by decide) tw_24 rfl d_C_listHasSerial_4 ?_
      refine aw_icmp_ge C (tgt := 38) d_C_listHasSerial_7 (by decide) (fun h7 => ?_) (fun h7 => absurd (nI_le (by omega) (by omega)) h7)
      refine aw_iconst C (v := 0) d_C_listHasSerial_38 (by decide) ?_
      refine aw_iret C E (rfl) (by decide) (by decide) d_C_listHasSerial_39 ?_
      exact ⟨sI (by rw [← hr]; rfl), rfl, rfl⟩
    | succ m ih =>
      intro a ha hr
      refine aw_iload_n C d_C_listHasSerial_2 rfl (j := 0) rfl ?_
      refine aw_aload_n C d_C_listHasSerial_3 rfl (j := 1) rfl ?_
      refine aw_get C F_C ho 5 (by decide) tw_24 rfl d_C_listHasSerial_4 ?_
      refine aw_icmp_ge C (tgt := 38) d_C_listHasSerial_7 (by decide) (fun h7 => absurd h7 (nI_ge (by omega) (by omega))) (fun h7 => ?_)
      refine aw_iload_n C d_C_listHasSerial_10 rfl (j := 0) rfl ?_
      refine aw_aload_n C d_C_listHasSerial_11 rfl (j := 1) rfl ?_
      refine aw_get C F_C ho 4 (by decide) tw_23 rfl d_C_listHasSerial_12 ?_
      refine ar_lenJ C hli d_C_listHasSerial_15 ?_
      refine aw_icmp_ge C (tgt := 38) d_C_listHasSerial_16 (by decide) (fun h16 => absurd h16 (nI_ge (by omega) (by omega))) (fun h16 => ?_)
      refine aw_aload_n C d_C_listHasSerial_19 rfl (j := 1) rfl ?_
      refine aw_get C F_C ho 4 (by decide) tw_23 rfl d_C_listHasSerial_20 ?_
      refine aw_iload_n C d_C_listHasSerial_23 rfl (j := 0) rfl ?_
      refine ar_lald C hli (j := a) (rfl) (by omega) (by omega) d_C_listHasSerial_24 ?_
      refine aw_lload_n C d_C_listHasSerial_25 rfl (j := 2) rfl ?_
      refine aw_lcmp C d_C_listHasSerial_26 ?_
      refine aw_if_ne C (tgt := 32) d_C_listHasSerial_27 (by decide) (fun h27 => ?_) (fun h27 => ?_)
      · refine aw_iinc C (v := nI (a + 1)) (lv' := [(3, .int (nI (a + 1))), (0, .ref (ad (0, 0, 0))), (1, .long x)]) d_C_listHasSerial_32 (j := 0) rfl (nI_1 _) (by decide) rfl ?_
        refine aw_goto C (tgt := 2) d_C_listHasSerial_35 (by decide) ?_
        exact ih (a + 1) (by omega) (by rw [← hr]; simp [lg_cmp_eq] at h27; simp [anyF, h27])
      · refine aw_iconst C (v := 1) d_C_listHasSerial_30 (by decide) ?_
        refine aw_iret C E (rfl) (by decide) (by decide) d_C_listHasSerial_31 ?_
        exact ⟨sI (by rw [← hr]; simp [lg_cmp_eq] at h27; simp [anyF, h27, bI]), rfl, rfl⟩
  show AW X 4 0 0 ad ce 0 [(0, .ref (ad (0, 0, 0))), (1, .long x)] []
  refine aw_iconst C (v := 0) d_C_listHasSerial_0 (by decide) ?_
  refine aw_istore_n C (lv' := [(3, .int 0), (0, .ref (ad (0, 0, 0))), (1, .long x)]) d_C_listHasSerial_1 rfl (by decide) rfl ?_
  refine aw_lv (lv' := [(3, .int (nI 0)), (0, .ref (ad (0, 0, 0))), (1, .long x)]) (by simp only [nI_0]) ?_
  exact loop (s_ln S) 0 (by omega) rfl
