theorem lN0 : lN 0 = 0 := by decide
theorem lN_ne0 {n : Nat} (h0 : 0 < n) (h : n < 2 ^ 63) : ¬ lN n = 0 := fun q => by
  rw [← lN0] at q
  have := (pk_lEQ h (by decide)).mp q
  omega
theorem i2lS {n a : Nat} (h : a ≤ n) (hn : n < 2 ^ 31) : Int32.toInt64 (nI n - nI a) = lN (n - a) := by
  rw [pk_sub h]; exact nI_l (by omega)
theorem ways_step {n a : Nat} (hn : n ≤ 40) (ha : a < 40) : lN (ch n a) * Int32.toInt64 (nI n - nI a) / lN (a + 1) = lN (ch n (a + 1)) := by
  have hs := ch_step n a
  have hb := ch_40 (k := a) hn
  rcases Nat.lt_or_ge n a with h | h
  · rw [ch_big h, ch_big (show n < a + 1 by omega), lN0, Int64.zero_mul, ← lN0, pk_lDiv (by decide) (by omega) (by omega), Nat.zero_div]
  · rw [i2lS h (by omega), lN_mul, pk_lDiv _ (by omega) (by omega), ← hs, Nat.mul_div_cancel_left _ (by omega)]
    have : ch n a * (n - a) ≤ 1099511627776 * 40 := Nat.mul_le_mul hb (by omega)
    omega
theorem maxL1 {u : Nat} (h0 : 0 < u) (h : u < 2 ^ 63) : (if lN u < 1 then 1 else lN u) = lN u := by
  rw [if_neg]
  intro q
  have : u < 1 := (pk_lLT h (by decide)).mp q
  omega
theorem cmp0 {v : Nat} (h : v < 2 ^ 63) : lg_cmp (lN v) 0 = 0 ↔ v = 0 := by
  rw [lg_cmp_eq, ← lN0]
  exact pk_lEQ h (by decide)
set_option maxRecDepth 100000 in
set_option maxHeartbeats 4000000 in
theorem c_ways (l : Launch) (G : aw_G) (ad : aw_Ad) (ce : aw_He) (n k : Nat) (hn : n ≤ 40) (hk : k ≤ 40) : CT l G M_C_waysToChoose 0 0 0 0 [.int (nI n), .int (nI k)] ad ce (rN (some (.long (lN (ch n k)))) ad ce) := by
  refine CT.of (by decide) (Nat.le_of_ble_eq_true rfl) ?_
  intro X C I E
  have loop : ∀ (m a : Nat), a + m = k → AW X 5 0 0 ad ce 5 [(4, .int (nI a)), (2, .long (lN (ch n a))), (0, .int (nI n)), (1, .int (nI k))] [] := by
    intro m
    induction m with
    | zero =>
      intro a ha
      refine aw_iload C d_C_waysToChoose_5 (j := 0) rfl ?_
      refine aw_iload_n C d_C_waysToChoose_7 rfl (j := 3) rfl ?_
      refine aw_icmp_ge C (tgt := 31) d_C_waysToChoose_8 (by decide) (fun h8 => ?_) (fun h8 => absurd (nI_le (by omega) (by omega)) h8)
      refine aw_lload_n C d_C_waysToChoose_31 rfl (j := 1) rfl ?_
      refine aw_lret C E (by decide) (by decide) d_C_waysToChoose_32 ?_
      exact ⟨by rw [show a = k by omega], rfl, rfl⟩
    | succ m ih =>
      intro a ha
      refine aw_iload C d_C_waysToChoose_5 (j := 0) rfl ?_
      refine aw_iload_n C d_C_waysToChoose_7 rfl (j := 3) rfl ?_
      refine aw_icmp_ge C (tgt := 31) d_C_waysToChoose_8 (by decide) (fun h8 => absurd h8 (nI_ge (by omega) (by omega))) (fun h8 => ?_)
      refine aw_lload_n C d_C_waysToChoose_11 rfl (j := 1) rfl ?_
      refine aw_iload_n C d_C_waysToChoose_12 rfl (j := 2) rfl ?_
      refine aw_iload C d_C_waysToChoose_13 (j := 0) rfl ?_
      refine aw_isub C d_C_waysToChoose_15 ?_
      refine aw_i2l C d_C_waysToChoose_16 ?_
      refine aw_lmul C d_C_waysToChoose_17 ?_
      refine aw_iload C d_C_waysToChoose_18 (j := 0) rfl ?_
      refine aw_iconst C (v := 1) d_C_waysToChoose_20 (by decide) ?_
      refine aw_iadd C d_C_waysToChoose_21 ?_
      refine aw_topi (v' := nI (a + 1)) (nI_1 _) ?_
      refine aw_i2l C d_C_waysToChoose_22 ?_
      refine aw_topl (v' := lN (a + 1)) (nI_l (by omega)) ?_
      refine aw_ldiv C d_C_waysToChoose_23 (lN_ne0 (by omega) (by omega)) ?_
      refine aw_topl (v' := lN (ch n (a + 1))) (ways_step hn (by omega)) ?_
      refine aw_lstore_n C (lv' := [(2, .long (lN (ch n (a + 1)))), (4, .int (nI a)), (0, .int (nI n)), (1, .int (nI k))]) d_C_waysToChoose_24 rfl (by decide) rfl ?_
      refine aw_iinc C (v := nI (a + 1)) (lv' := [(4, .int (nI (a + 1))), (2, .long (lN (ch n (a + 1)))), (0, .int (nI n)), (1, .int (nI k))]) d_C_waysToChoose_25 (j := 1) rfl (nI_1 _) (by decide) rfl ?_
      refine aw_goto C (tgt := 5) d_C_waysToChoose_28 (by decide) ?_
      exact ih (a + 1) (by omega)
  show AW X 5 0 0 ad ce 0 [(0, .int (nI n)), (1, .int (nI k))] []
  refine aw_lconst C (v := 1) d_C_waysToChoose_0 (by decide) ?_
  refine aw_lstore_n C (lv' := [(2, .long 1), (0, .int (nI n)), (1, .int (nI k))]) d_C_waysToChoose_1 rfl (by decide) rfl ?_
  refine aw_iconst C (v := 0) d_C_waysToChoose_2 (by decide) ?_
  refine aw_istore C (lv' := [(4, .int 0), (2, .long 1), (0, .int (nI n)), (1, .int (nI k))]) d_C_waysToChoose_3 (by decide) rfl ?_
  refine aw_lv (lv' := [(4, .int (nI 0)), (2, .long (lN (ch n 0))), (0, .int (nI n)), (1, .int (nI k))]) (by rw [ch_0]; simp only [nI_0]; rfl) ?_
  exact loop k 0 (by omega)
set_option maxRecDepth 100000 in
set_option maxHeartbeats 4000000 in
theorem c_common (l : Launch) (G : aw_G) (ad : aw_Ad) (ce : aw_He) (x y : Nat) (hx : x ≤ 1099511627776) (hy : y ≤ 1099511627776) (hy0 : 0 < y) : CT l G M_C_commonDivisor 1 23 0 0 [.long (lN x), .long (lN y)] ad ce (rN (some (.long (lN (Nat.gcd x y)))) ad ce) := by
  refine CT.of (by decide) (Nat.le_of_ble_eq_true rfl) ?_
  intro X C I E
  obtain ⟨Rr, hRr⟩ : ∃ R, Nat.gcd x y = R := ⟨_, rfl⟩
  have hR0 : 0 < Rr := by rw [← hRr]; exact Nat.gcd_pos_of_pos_right _ hy0
  rw [hRr] at E
  obtain ⟨x0, hx0⟩ : ∃ q, lN x = q := ⟨_, rfl⟩
  obtain ⟨y0, hy0'⟩ : ∃ q, lN y = q := ⟨_, rfl⟩
  have loop : ∀ (f u v s : Nat), s + f = 100 → u ≤ 1099511627776 → v ≤ 1099511627776 → euc f u v = Rr → AW X 11 0 0 ad ce 9 [(8, .int (nI s)), (6, .long (lN v)), (4, .long (lN u)), (0, .long x0), (2, .long y0)] [] := by
    intro f
    induction f with
    | zero =>
      intro u v s hs hu hv hr
      refine aw_iload C d_C_commonDivisor_9 (j := 0) rfl ?_
      refine aw_bipush C (v := 100) d_C_commonDivisor_11 (by decide) ?_
      refine aw_icmp_ge C (tgt := 44) d_C_commonDivisor_13 (by decide) (fun h13 => ?_) (fun h13 => absurd (nI_le (a := 100) (by omega) (by omega)) h13)
      refine aw_lload C d_C_commonDivisor_44 (j := 2) rfl ?_
      refine aw_lconst C (v := 1) d_C_commonDivisor_46 (by decide) ?_
      have hu0 : u = Rr := hr
      refine aw_callS C I (as := [.long (lN u), .long 1]) (rest := []) (c_maxL l G ad ce (lN u) 1) g_C_150 ⟨by decide, by decide⟩ ⟨by decide, by decide⟩ rfl (Nat.le_of_ble_eq_true rfl) d_C_commonDivisor_47 ?_
      rintro _ _ _ ⟨rfl, rfl, rfl⟩
      show AW X 11 0 0 ad ce 50 [(8, .int (nI s)), (6, .long (lN v)), (4, .long (lN u)), (0, .long x0), (2, .long y0)] [.long (if lN u < 1 then 1 else lN u)]
      refine aw_topl (v' := lN u) (maxL1 (by omega) (by omega)) ?_
      refine aw_lret C E (by decide) (by decide) d_C_commonDivisor_50 ?_
      exact ⟨by rw [hu0], rfl, rfl⟩
    | succ f ih =>
      intro u v s hs hu hv hr
      refine aw_iload C d_C_commonDivisor_9 (j := 0) rfl ?_
      refine aw_bipush C (v := 100) d_C_commonDivisor_11 (by decide) ?_
      refine aw_icmp_ge C (tgt := 44) d_C_commonDivisor_13 (by decide) (fun h13 => absurd h13 (nI_ge (b := 100) (by omega) (by omega))) (fun h13 => ?_)
      refine aw_lload C d_C_commonDivisor_16 (j := 1) rfl ?_
      refine aw_lconst C (v := 0) d_C_commonDivisor_18 (by decide) ?_
      refine aw_lcmp C d_C_commonDivisor_19 ?_
      refine aw_if_eq C (tgt := 44) d_C_commonDivisor_20 (by decide) (fun h20 => ?_) (fun h20 => ?_)
      · refine aw_lload C d_C_commonDivisor_44 (j := 2) rfl ?_
        refine aw_lconst C (v := 1) d_C_commonDivisor_46 (by decide) ?_
        have hv0 : v = 0 := (cmp0 (by omega)).mp h20
        have hu0 : u = Rr := by rw [euc, if_pos hv0] at hr; exact hr
        refine aw_callS C I (as := [.long (lN u), .long 1]) (rest := []) (c_maxL l G ad ce (lN u) 1) g_C_150 ⟨by decide, by decide⟩ ⟨by decide, by decide⟩ rfl (Nat.le_of_ble_eq_true rfl) d_C_commonDivisor_47 ?_
        rintro _ _ _ ⟨rfl, rfl, rfl⟩
        show AW X 11 0 0 ad ce 50 [(8, .int (nI s)), (6, .long (lN v)), (4, .long (lN u)), (0, .long x0), (2, .long y0)] [.long (if lN u < 1 then 1 else lN u)]
        refine aw_topl (v' := lN u) (maxL1 (by omega) (by omega)) ?_
        refine aw_lret C E (by decide) (by decide) d_C_commonDivisor_50 ?_
        exact ⟨by rw [hu0], rfl, rfl⟩
      · refine aw_lload C d_C_commonDivisor_23 (j := 2) rfl ?_
        refine aw_lload C d_C_commonDivisor_25 (j := 1) rfl ?_
        refine aw_lrem C d_C_commonDivisor_27 (fun q => h20 ((cmp0 (by omega)).mpr ((pk_lEQ (by omega) (by decide)).mp (q.trans lN0.symm)))) ?_
        refine aw_topl (v' := lN (u % v)) (pk_lRem (by omega) (by have h9 : ¬ v = 0 := fun q => h20 ((cmp0 (by omega)).mpr q); omega) (by omega)) ?_
        refine aw_lstore C (lv' := [(9, .long (lN (u % v))), (8, .int (nI s)), (6, .long (lN v)), (4, .long (lN u)), (0, .long x0), (2, .long y0)]) d_C_commonDivisor_28 (by decide) rfl ?_
        refine aw_lload C d_C_commonDivisor_30 (j := 2) rfl ?_
        refine aw_lstore C (lv' := [(4, .long (lN v)), (9, .long (lN (u % v))), (8, .int (nI s)), (6, .long (lN v)), (0, .long x0), (2, .long y0)]) d_C_commonDivisor_32 (by decide) rfl ?_
        refine aw_lload C d_C_commonDivisor_34 (j := 1) rfl ?_
        refine aw_lstore C (lv' := [(6, .long (lN (u % v))), (4, .long (lN v)), (9, .long (lN (u % v))), (8, .int (nI s)), (0, .long x0), (2, .long y0)]) d_C_commonDivisor_36 (by decide) rfl ?_
        refine aw_iinc C (v := nI (s + 1)) (lv' := [(8, .int (nI (s + 1))), (6, .long (lN (u % v))), (4, .long (lN v)), (9, .long (lN (u % v))), (0, .long x0), (2, .long y0)]) d_C_commonDivisor_38 (j := 3) rfl (nI_1 _) (by decide) rfl ?_
        refine aw_goto C (tgt := 9) d_C_commonDivisor_41 (by decide) ?_
        have hv0 : ¬ v = 0 := fun q => h20 ((cmp0 (by omega)).mpr q)
        refine aw_sub (lv' := [(8, .int (nI (s + 1))), (6, .long (lN (u % v))), (4, .long (lN v)), (0, .long x0), (2, .long y0)]) (by simp) ?_
        rw [euc, if_neg hv0] at hr
        exact ih v (u % v) (s + 1) (by omega) hv (Nat.le_trans (Nat.le_of_lt (Nat.mod_lt _ (by omega))) hv) hr
  rw [← hx0, ← hy0', ← hRr] at loop
  show AW X 11 0 0 ad ce 0 [(0, .long (lN x)), (2, .long (lN y))] []
  refine aw_lload_n C d_C_commonDivisor_0 rfl (j := 0) rfl ?_
  refine aw_lstore C (lv' := [(4, .long (lN x)), (0, .long (lN x)), (2, .long (lN y))]) d_C_commonDivisor_1 (by decide) rfl ?_
  refine aw_lload_n C d_C_commonDivisor_3 rfl (j := 2) rfl ?_
  refine aw_lstore C (lv' := [(6, .long (lN y)), (4, .long (lN x)), (0, .long (lN x)), (2, .long (lN y))]) d_C_commonDivisor_4 (by decide) rfl ?_
  refine aw_iconst C (v := 0) d_C_commonDivisor_6 (by decide) ?_
  refine aw_istore C (lv' := [(8, .int 0), (6, .long (lN y)), (4, .long (lN x)), (0, .long (lN x)), (2, .long (lN y))]) d_C_commonDivisor_7 (by decide) rfl ?_
  refine aw_lv (lv' := [(8, .int (nI 0)), (6, .long (lN y)), (4, .long (lN x)), (0, .long (lN x)), (2, .long (lN y))]) (by simp only [nI_0]) ?_
  exact loop 100 x y 0 (by omega) hx hy (euc_gcd 41 x y 100 (by omega) (by omega))
set_option maxRecDepth 100000 in
set_option maxHeartbeats 4000000 in
theorem C_odds (l : Launch) (G : aw_G) (ad : aw_Ad) (ce : aw_He) (a r b p : Int32) : CT l G M_C_odds 2 53 0 0 [.ref (ad (0, 0, 0)), .int a, .int r, .int b, .int p] ad ce (rN (some (.long (f_odds a r b p))) ad ce) := by
  refine CT.of (by decide) (Nat.le_of_ble_eq_true rfl) ?_
  intro X C I E
  by_cases hc : (1 ≤ a ∧ a ≤ 40) ∧ (0 ≤ p ∧ p ≤ 1) ∧ (0 ≤ r ∧ r ≤ a) ∧ (0 ≤ b ∧ b ≤ a)
  · skip
    obtain ⟨A, hA, rfl⟩ : ∃ m : Nat, m ≤ 40 ∧ a = nI m := nI_of2 (M := 40) rfl (by have := hc.1.1; (try simp only [Int32.le_iff_toInt_le, Int32.lt_iff_toInt_lt] at this ⊢); have e1 : (1 : Int32).toInt = 1 := rfl; have e0 : (0 : Int32).toInt = 0 := rfl; omega) hc.1.2
    obtain ⟨R, hR, rfl⟩ : ∃ m : Nat, m ≤ A ∧ r = nI m := nI_of2 (M := nI A) (nI_toInt (by omega)) (by have := hc.2.2.1.1; (try simp only [Int32.le_iff_toInt_le, Int32.lt_iff_toInt_lt] at this ⊢); omega) hc.2.2.1.2
    obtain ⟨B, hB, rfl⟩ : ∃ m : Nat, m ≤ A ∧ b = nI m := nI_of2 (M := nI A) (nI_toInt (by omega)) (by have := hc.2.2.2.1; (try simp only [Int32.le_iff_toInt_le, Int32.lt_iff_toInt_lt] at this ⊢); omega) hc.2.2.2.2
    have hV := ch_pos hR
    have hU40 := ch_40 (n := A - B) (k := R) (by omega)
    have hV40 := ch_40 (n := A) (k := R) (by omega)
    have hg0 : 0 < Nat.gcd (ch (A - B) R) (ch A R) := Nat.gcd_pos_of_pos_right _ hV
    have hgl : Nat.gcd (ch (A - B) R) (ch A R) ≤ ch A R := Nat.gcd_le_right _ hV
    have hfo : f_odds (nI A) (nI R) (nI B) p = if p = 0 then lN (rdn (ch (A - B) R) (ch A R)) else lN (rdm (ch (A - B) R) (ch A R)) := by
      rw [f_odds, if_pos hc, nI_clamp (by omega), nI_clamp (by omega), nI_clamp (by omega)]
    show AW X 11 0 0 ad ce 0 [(0, .ref (ad (0, 0, 0))), (1, .int (nI A)), (2, .int (nI R)), (3, .int (nI B)), (4, .int p)] []
    refine aw_iload_n C d_C_odds_0 rfl (j := 1) rfl ?_
    refine aw_iconst C (v := 1) d_C_odds_1 (by decide) ?_
    refine aw_bipush C (v := 40) d_C_odds_2 (by decide) ?_
    refine aw_callS C I (as := [.int (nI A), .int 1, .int 40]) (rest := []) (c_within l G ad ce (nI A) 1 40) g_C_42 ⟨by decide, by decide⟩ ⟨by decide, by decide⟩ rfl (Nat.le_of_ble_eq_true rfl) d_C_odds_4 ?_
    rintro _ _ _ ⟨rfl, rfl, rfl⟩
    show AW X 11 0 0 ad ce 7 [(0, .ref (ad (0, 0, 0))), (1, .int (nI A)), (2, .int (nI R)), (3, .int (nI B)), (4, .int p)] [.int (bI (decide (1 ≤ (nI A) ∧ (nI A) ≤ 40)))]
    refine aw_topi (v' := 1) ((bI_t hc.1).symm) ?_
    show AW X 11 0 0 ad ce 7 [(0, .ref (ad (0, 0, 0))), (1, .int (nI A)), (2, .int (nI R)), (3, .int (nI B)), (4, .int p)] [.int 1]
    refine aw_if_eq C (tgt := 20) d_C_odds_7 (by decide) (fun h7 => absurd h7 (by decide)) (fun h7 => ?_)
    refine aw_iload C d_C_odds_10 (j := 4) rfl ?_
    refine aw_iconst C (v := 0) d_C_odds_12 (by decide) ?_
    refine aw_iconst C (v := 1) d_C_odds_13 (by decide) ?_
    refine aw_callS C I (as := [.int p, .int 0, .int 1]) (rest := []) (c_within l G ad ce p 0 1) g_C_42 ⟨by decide, by decide⟩ ⟨by decide, by decide⟩ rfl (Nat.le_of_ble_eq_true rfl) d_C_odds_14 ?_
    rintro _ _ _ ⟨rfl, rfl, rfl⟩
    show AW X 11 0 0 ad ce 17 [(0, .ref (ad (0, 0, 0))), (1, .int (nI A)), (2, .int (nI R)), (3, .int (nI B)), (4, .int p)] [.int (bI (decide (0 ≤ p ∧ p ≤ 1)))]
    refine aw_topi (v' := 1) ((bI_t hc.2.1).symm) ?_
    show AW X 11 0 0 ad ce 17 [(0, .ref (ad (0, 0, 0))), (1, .int (nI A)), (2, .int (nI R)), (3, .int (nI B)), (4, .int p)] [.int 1]
    refine aw_if_ne C (tgt := 24) d_C_odds_17 (by decide) (fun h17 => ?_) (fun h17 => absurd h17 (by decide))
    refine aw_iload_n C d_C_odds_24 rfl (j := 2) rfl ?_
    refine aw_iconst C (v := 0) d_C_odds_25 (by decide) ?_
    refine aw_iload_n C d_C_odds_26 rfl (j := 1) rfl ?_
    refine aw_callS C I (as := [.int (nI R), .int 0, .int (nI A)]) (rest := []) (c_within l G ad ce (nI R) 0 (nI A)) g_C_42 ⟨by decide, by decide⟩ ⟨by decide, by decide⟩ rfl (Nat.le_of_ble_eq_true rfl) d_C_odds_27 ?_
    rintro _ _ _ ⟨rfl, rfl, rfl⟩
    show AW X 11 0 0 ad ce 30 [(0, .ref (ad (0, 0, 0))), (1, .int (nI A)), (2, .int (nI R)), (3, .int (nI B)), (4, .int p)] [.int (bI (decide (0 ≤ (nI R) ∧ (nI R) ≤ (nI A))))]
    refine aw_topi (v' := 1) ((bI_t hc.2.2.1).symm) ?_
    show AW X 11 0 0 ad ce 30 [(0, .ref (ad (0, 0, 0))), (1, .int (nI A)), (2, .int (nI R)), (3, .int (nI B)), (4, .int p)] [.int 1]
    refine aw_if_eq C (tgt := 42) d_C_odds_30 (by decide) (fun h30 => absurd h30 (by decide)) (fun h30 => ?_)
    refine aw_iload_n C d_C_odds_33 rfl (j := 3) rfl ?_
    refine aw_iconst C (v := 0) d_C_odds_34 (by decide) ?_
    refine aw_iload_n C d_C_odds_35 rfl (j := 1) rfl ?_
    refine aw_callS C I (as := [.int (nI B), .int 0, .int (nI A)]) (rest := []) (c_within l G ad ce (nI B) 0 (nI A)) g_C_42 ⟨by decide, by decide⟩ ⟨by decide, by decide⟩ rfl (Nat.le_of_ble_eq_true rfl) d_C_odds_36 ?_
    rintro _ _ _ ⟨rfl, rfl, rfl⟩
    show AW X 11 0 0 ad ce 39 [(0, .ref (ad (0, 0, 0))), (1, .int (nI A)), (2, .int (nI R)), (3, .int (nI B)), (4, .int p)] [.int (bI (decide (0 ≤ (nI B) ∧ (nI B) ≤ (nI A))))]
    refine aw_topi (v' := 1) ((bI_t hc.2.2.2).symm) ?_
    show AW X 11 0 0 ad ce 39 [(0, .ref (ad (0, 0, 0))), (1, .int (nI A)), (2, .int (nI R)), (3, .int (nI B)), (4, .int p)] [.int 1]
    refine aw_if_ne C (tgt := 46) d_C_odds_39 (by decide) (fun h39 => ?_) (fun h39 => absurd h39 (by decide))
    refine aw_iload_n C d_C_odds_46 rfl (j := 1) rfl ?_
    refine aw_iload_n C d_C_odds_47 rfl (j := 3) rfl ?_
    refine aw_isub C d_C_odds_48 ?_
    refine aw_topi (v' := nI (A - B)) (pk_sub hB) ?_
    refine aw_iload_n C d_C_odds_49 rfl (j := 2) rfl ?_
    refine aw_callS C I (as := [.int (nI (A - B)), .int (nI R)]) (rest := []) (c_ways l G ad ce (A - B) R (by omega) (by omega)) g_C_109 ⟨by decide, by decide⟩ ⟨by decide, by decide⟩ rfl (Nat.le_of_ble_eq_true rfl) d_C_odds_50 ?_
    rintro _ _ _ ⟨rfl, rfl, rfl⟩
    show AW X 11 0 0 ad ce 53 [(0, .ref (ad (0, 0, 0))), (1, .int (nI A)), (2, .int (nI R)), (3, .int (nI B)), (4, .int p)] [.long (lN (ch (A - B) R))]
    refine aw_lstore C (lv' := [(5, .long (lN (ch (A - B) R))), (0, .ref (ad (0, 0, 0))), (1, .int (nI A)), (2, .int (nI R)), (3, .int (nI B)), (4, .int p)]) d_C_odds_53 (by decide) rfl ?_
    refine aw_iload_n C d_C_odds_55 rfl (j := 2) rfl ?_
    refine aw_iload_n C d_C_odds_56 rfl (j := 3) rfl ?_
    refine aw_callS C I (as := [.int (nI A), .int (nI R)]) (rest := []) (c_ways l G ad ce A R (by omega) (by omega)) g_C_109 ⟨by decide, by decide⟩ ⟨by decide, by decide⟩ rfl (Nat.le_of_ble_eq_true rfl) d_C_odds_57 ?_
    rintro _ _ _ ⟨rfl, rfl, rfl⟩
    show AW X 11 0 0 ad ce 60 [(5, .long (lN (ch (A - B) R))), (0, .ref (ad (0, 0, 0))), (1, .int (nI A)), (2, .int (nI R)), (3, .int (nI B)), (4, .int p)] [.long (lN (ch A R))]
    refine aw_lstore C (lv' := [(7, .long (lN (ch A R))), (5, .long (lN (ch (A - B) R))), (0, .ref (ad (0, 0, 0))), (1, .int (nI A)), (2, .int (nI R)), (3, .int (nI B)), (4, .int p)]) d_C_odds_60 (by decide) rfl ?_
    refine aw_lload C d_C_odds_62 (j := 1) rfl ?_
    refine aw_lload C d_C_odds_64 (j := 0) rfl ?_
    refine aw_callS C I (as := [.long (lN (ch (A - B) R)), .long (lN (ch A R))]) (rest := []) (c_common l G ad ce (ch (A - B) R) (ch A R) hU40 hV40 hV) g_C_113 ⟨by decide, by decide⟩ ⟨by decide, by decide⟩ rfl (Nat.le_of_ble_eq_true rfl) d_C_odds_66 ?_
    rintro _ _ _ ⟨rfl, rfl, rfl⟩
    show AW X 11 0 0 ad ce 69 [(7, .long (lN (ch A R))), (5, .long (lN (ch (A - B) R))), (0, .ref (ad (0, 0, 0))), (1, .int (nI A)), (2, .int (nI R)), (3, .int (nI B)), (4, .int p)] [.long (lN (Nat.gcd (ch (A - B) R) (ch A R)))]
    refine aw_lstore C (lv' := [(9, .long (lN (Nat.gcd (ch (A - B) R) (ch A R)))), (7, .long (lN (ch A R))), (5, .long (lN (ch (A - B) R))), (0, .ref (ad (0, 0, 0))), (1, .int (nI A)), (2, .int (nI R)), (3, .int (nI B)), (4, .int p)]) d_C_odds_69 (by decide) rfl ?_
    refine aw_iload C d_C_odds_71 (j := 7) rfl ?_
    refine aw_if_ne C (tgt := 81) d_C_odds_73 (by decide) (fun h73 => ?_) (fun h73 => ?_)
    · refine aw_lload C d_C_odds_81 (j := 1) rfl ?_
      refine aw_lload C d_C_odds_83 (j := 0) rfl ?_
      refine aw_ldiv C d_C_odds_85 (lN_ne0 hg0 (by omega)) ?_
      refine aw_topl (v' := lN (rdm (ch (A - B) R) (ch A R))) (by rw [pk_lDiv (by omega) hg0 (by omega)]; rfl) ?_
      refine aw_lret C E (by decide) (by decide) d_C_odds_86 ?_
      rw [hfo]
      exact ⟨by simp [h73], rfl, rfl⟩
    · refine aw_lload C d_C_odds_76 (j := 2) rfl ?_
      refine aw_goto C (tgt := 83) d_C_odds_78 (by decide) ?_
      refine aw_lload C d_C_odds_83 (j := 0) rfl ?_
      refine aw_ldiv C d_C_odds_85 (lN_ne0 hg0 (by omega)) ?_
      refine aw_topl (v' := lN (rdn (ch (A - B) R) (ch A R))) (by rw [pk_lDiv (by omega) hg0 (by omega)]; rfl) ?_
      refine aw_lret C E (by decide) (by decide) d_C_odds_86 ?_
      rw [hfo]
      exact ⟨by simp [h73], rfl, rfl⟩
  by_cases h1 : 1 ≤ a ∧ a ≤ 40
  · by_cases h2 : 0 ≤ p ∧ p ≤ 1
    · by_cases h3 : 0 ≤ r ∧ r ≤ a
      · have h4 : ¬ (0 ≤ b ∧ b ≤ a) := fun q => hc ⟨h1, h2, h3, q⟩
        show AW X 11 0 0 ad ce 0 [(0, .ref (ad (0, 0, 0))), (1, .int a), (2, .int r), (3, .int b), (4, .int p)] []
        refine aw_iload_n C d_C_odds_0 rfl (j := 1) rfl ?_
        refine aw_iconst C (v := 1) d_C_odds_1 (by decide) ?_
        refine aw_bipush C (v := 40) d_C_odds_2 (by decide) ?_
        refine aw_callS C I (as := [.int a, .int 1, .int 40]) (rest := []) (c_within l G ad ce a 1 40) g_C_42 ⟨by decide, by decide⟩ ⟨by decide, by decide⟩ rfl (Nat.le_of_ble_eq_true rfl) d_C_odds_4 ?_
        rintro _ _ _ ⟨rfl, rfl, rfl⟩
        show AW X 11 0 0 ad ce 7 [(0, .ref (ad (0, 0, 0))), (1, .int a), (2, .int r), (3, .int b), (4, .int p)] [.int (bI (decide (1 ≤ a ∧ a ≤ 40)))]
        refine aw_topi (v' := 1) ((bI_t h1).symm) ?_
        show AW X 11 0 0 ad ce 7 [(0, .ref (ad (0, 0, 0))), (1, .int a), (2, .int r), (3, .int b), (4, .int p)] [.int 1]
        refine aw_if_eq C (tgt := 20) d_C_odds_7 (by decide) (fun h7 => absurd h7 (by decide)) (fun h7 => ?_)
        refine aw_iload C d_C_odds_10 (j := 4) rfl ?_
        refine aw_iconst C (v := 0) d_C_odds_12 (by decide) ?_
        refine aw_iconst C (v := 1) d_C_odds_13 (by decide) ?_
        refine aw_callS C I (as := [.int p, .int 0, .int 1]) (rest := []) (c_within l G ad ce p 0 1) g_C_42 ⟨by decide, by decide⟩ ⟨by decide, by decide⟩ rfl (Nat.le_of_ble_eq_true rfl) d_C_odds_14 ?_
        rintro _ _ _ ⟨rfl, rfl, rfl⟩
        show AW X 11 0 0 ad ce 17 [(0, .ref (ad (0, 0, 0))), (1, .int a), (2, .int r), (3, .int b), (4, .int p)] [.int (bI (decide (0 ≤ p ∧ p ≤ 1)))]
        refine aw_topi (v' := 1) ((bI_t h2).symm) ?_
        show AW X 11 0 0 ad ce 17 [(0, .ref (ad (0, 0, 0))), (1, .int a), (2, .int r), (3, .int b), (4, .int p)] [.int 1]
        refine aw_if_ne C (tgt := 24) d_C_odds_17 (by decide) (fun h17 => ?_) (fun h17 => absurd h17 (by decide))
        refine aw_iload_n C d_C_odds_24 rfl (j := 2) rfl ?_
        refine aw_iconst C (v := 0) d_C_odds_25 (by decide) ?_
        refine aw_iload_n C d_C_odds_26 rfl (j := 1) rfl ?_
        refine aw_callS C I (as := [.int r, .int 0, .int a]) (rest := []) (c_within l G ad ce r 0 a) g_C_42 ⟨by decide, by decide⟩ ⟨by decide, by decide⟩ rfl (Nat.le_of_ble_eq_true rfl) d_C_odds_27 ?_
        rintro _ _ _ ⟨rfl, rfl, rfl⟩
        show AW X 11 0 0 ad ce 30 [(0, .ref (ad (0, 0, 0))), (1, .int a), (2, .int r), (3, .int b), (4, .int p)] [.int (bI (decide (0 ≤ r ∧ r ≤ a)))]
        refine aw_topi (v' := 1) ((bI_t h3).symm) ?_
        show AW X 11 0 0 ad ce 30 [(0, .ref (ad (0, 0, 0))), (1, .int a), (2, .int r), (3, .int b), (4, .int p)] [.int 1]
        refine aw_if_eq C (tgt := 42) d_C_odds_30 (by decide) (fun h30 => absurd h30 (by decide)) (fun h30 => ?_)
        refine aw_iload_n C d_C_odds_33 rfl (j := 3) rfl ?_
        refine aw_iconst C (v := 0) d_C_odds_34 (by decide) ?_
        refine aw_iload_n C d_C_odds_35 rfl (j := 1) rfl ?_
        refine aw_callS C I (as := [.int b, .int 0, .int a]) (rest := []) (c_within l G ad ce b 0 a) g_C_42 ⟨by decide, by decide⟩ ⟨by decide, by decide⟩ rfl (Nat.le_of_ble_eq_true rfl) d_C_odds_36 ?_
        rintro _ _ _ ⟨rfl, rfl, rfl⟩
        show AW X 11 0 0 ad ce 39 [(0, .ref (ad (0, 0, 0))), (1, .int a), (2, .int r), (3, .int b), (4, .int p)] [.int (bI (decide (0 ≤ b ∧ b ≤ a)))]
        refine aw_topi (v' := 0) ((bI_f h4).symm) ?_
        show AW X 11 0 0 ad ce 39 [(0, .ref (ad (0, 0, 0))), (1, .int a), (2, .int r), (3, .int b), (4, .int p)] [.int 0]
        refine aw_if_ne C (tgt := 46) d_C_odds_39 (by decide) (fun h39 => absurd h39 (by decide)) (fun h39 => ?_)
        refine aw_ldc2 C tw_203 d_C_odds_42 ?_
        refine aw_lret C E (by decide) (by decide) d_C_odds_45 ?_
        exact ⟨by rw [f_odds, if_neg hc], rfl, rfl⟩
      · skip
        show AW X 11 0 0 ad ce 0 [(0, .ref (ad (0, 0, 0))), (1, .int a), (2, .int r), (3, .int b), (4, .int p)] []
        refine aw_iload_n C d_C_odds_0 rfl (j := 1) rfl ?_
        refine aw_iconst C (v := 1) d_C_odds_1 (by decide) ?_
        refine aw_bipush C (v := 40) d_C_odds_2 (by decide) ?_
        refine aw_callS C I (as := [.int a, .int 1, .int 40]) (rest := []) (c_within l G ad ce a 1 40) g_C_42 ⟨by decide, by decide⟩ ⟨by decide, by decide⟩ rfl (Nat.le_of_ble_eq_true rfl) d_C_odds_4 ?_
        rintro _ _ _ ⟨rfl, rfl, rfl⟩
        show AW X 11 0 0 ad ce 7 [(0, .ref (ad (0, 0, 0))), (1, .int a), (2, .int r), (3, .int b), (4, .int p)] [.int (bI (decide (1 ≤ a ∧ a ≤ 40)))]
        refine aw_topi (v' := 1) ((bI_t h1).symm) ?_
        show AW X 11 0 0 ad ce 7 [(0, .ref (ad (0, 0, 0))), (1, .int a), (2, .int r), (3, .int b), (4, .int p)] [.int 1]
        refine aw_if_eq C (tgt := 20) d_C_odds_7 (by decide) (fun h7 => absurd h7 (by decide)) (fun h7 => ?_)
        refine aw_iload C d_C_odds_10 (j := 4) rfl ?_
        refine aw_iconst C (v := 0) d_C_odds_12 (by decide) ?_
        refine aw_iconst C (v := 1) d_C_odds_13 (by decide) ?_
        refine aw_callS C I (as := [.int p, .int 0, .int 1]) (rest := []) (c_within l G ad ce p 0 1) g_C_42 ⟨by decide, by decide⟩ ⟨by decide, by decide⟩ rfl (Nat.le_of_ble_eq_true rfl) d_C_odds_14 ?_
        rintro _ _ _ ⟨rfl, rfl, rfl⟩
        show AW X 11 0 0 ad ce 17 [(0, .ref (ad (0, 0, 0))), (1, .int a), (2, .int r), (3, .int b), (4, .int p)] [.int (bI (decide (0 ≤ p ∧ p ≤ 1)))]
        refine aw_topi (v' := 1) ((bI_t h2).symm) ?_
        show AW X 11 0 0 ad ce 17 [(0, .ref (ad (0, 0, 0))), (1, .int a), (2, .int r), (3, .int b), (4, .int p)] [.int 1]
        refine aw_if_ne C (tgt := 24) d_C_odds_17 (by decide) (fun h17 => ?_) (fun h17 => absurd h17 (by decide))
        refine aw_iload_n C d_C_odds_24 rfl (j := 2) rfl ?_
        refine aw_iconst C (v := 0) d_C_odds_25 (by decide) ?_
        refine aw_iload_n C d_C_odds_26 rfl (j := 1) rfl ?_
        refine aw_callS C I (as := [.int r, .int 0, .int a]) (rest := []) (c_within l G ad ce r 0 a) g_C_42 ⟨by decide, by decide⟩ ⟨by decide, by decide⟩ rfl (Nat.le_of_ble_eq_true rfl) d_C_odds_27 ?_
        rintro _ _ _ ⟨rfl, rfl, rfl⟩
        show AW X 11 0 0 ad ce 30 [(0, .ref (ad (0, 0, 0))), (1, .int a), (2, .int r), (3, .int b), (4, .int p)] [.int (bI (decide (0 ≤ r ∧ r ≤ a)))]
        refine aw_topi (v' := 0) ((bI_f h3).symm) ?_
        show AW X 11 0 0 ad ce 30 [(0, .ref (ad (0, 0, 0))), (1, .int a), (2, .int r), (3, .int b), (4, .int p)] [.int 0]
        refine aw_if_eq C (tgt := 42) d_C_odds_30 (by decide) (fun h30 => ?_) (fun h30 => absurd (rfl) h30)
        refine aw_ldc2 C tw_203 d_C_odds_42 ?_
        refine aw_lret C E (by decide) (by decide) d_C_odds_45 ?_
        exact ⟨by rw [f_odds, if_neg hc], rfl, rfl⟩
    · skip
      show AW X 11 0 0 ad ce 0 [(0, .ref (ad (0, 0, 0))), (1, .int a), (2, .int r), (3, .int b), (4, .int p)] []
      refine aw_iload_n C d_C_odds_0 rfl (j := 1) rfl ?_
      refine aw_iconst C (v := 1) d_C_odds_1 (by decide) ?_
      refine aw_bipush C (v := 40) d_C_odds_2 (by decide) ?_
      refine aw_callS C I (as := [.int a, .int 1, .int 40]) (rest := []) (c_within l G ad ce a 1 40) g_C_42 ⟨by decide, by decide⟩ ⟨by decide, by decide⟩ rfl (Nat.le_of_ble_eq_true rfl) d_C_odds_4 ?_
      rintro _ _ _ ⟨rfl, rfl, rfl⟩
      show AW X 11 0 0 ad ce 7 [(0, .ref (ad (0, 0, 0))), (1, .int a), (2, .int r), (3, .int b), (4, .int p)] [.int (bI (decide (1 ≤ a ∧ a ≤ 40)))]
      refine aw_topi (v' := 1) ((bI_t h1).symm) ?_
      show AW X 11 0 0 ad ce 7 [(0, .ref (ad (0, 0, 0))), (1, .int a), (2, .int r), (3, .int b), (4, .int p)] [.int 1]
      refine aw_if_eq C (tgt := 20) d_C_odds_7 (by decide) (fun h7 => absurd h7 (by decide)) (fun h7 => ?_)
      refine aw_iload C d_C_odds_10 (j := 4) rfl ?_
      refine aw_iconst C (v := 0) d_C_odds_12 (by decide) ?_
      refine aw_iconst C (v := 1) d_C_odds_13 (by decide) ?_
      refine aw_callS C I (as := [.int p, .int 0, .int 1]) (rest := []) (c_within l G ad ce p 0 1) g_C_42 ⟨by decide, by decide⟩ ⟨by decide, by decide⟩ rfl (Nat.le_of_ble_eq_true rfl) d_C_odds_14 ?_
      rintro _ _ _ ⟨rfl, rfl, rfl⟩
      show AW X 11 0 0 ad ce 17 [(0, .ref (ad (0, 0, 0))), (1, .int a), (2, .int r), (3, .int b), (4, .int p)] [.int (bI (decide (0 ≤ p ∧ p ≤ 1)))]
      refine aw_topi (v' := 0) ((bI_f h2).symm) ?_
      show AW X 11 0 0 ad ce 17 [(0, .ref (ad (0, 0, 0))), (1, .int a), (2, .int r), (3, .int b), (4, .int p)] [.int 0]
      refine aw_if_ne C (tgt := 24) d_C_odds_17 (by decide) (fun h17 => absurd h17 (by decide)) (fun h17 => ?_)
      refine aw_ldc2 C tw_203 d_C_odds_20 ?_
      refine aw_lret C E (by decide) (by decide) d_C_odds_23 ?_
      exact ⟨by rw [f_odds, if_neg hc], rfl, rfl⟩
  · skip
    show AW X 11 0 0 ad ce 0 [(0, .ref (ad (0, 0, 0))), (1, .int a), (2, .int r), (3, .int b), (4, .int p)] []
    refine aw_iload_n C d_C_odds_0 rfl (j := 1) rfl ?_
    refine aw_iconst C (v := 1) d_C_odds_1 (by decide) ?_
    refine aw_bipush C (v := 40) d_C_odds_2 (by decide) ?_
    refine aw_callS C I (as := [.int a, .int 1, .int 40]) (rest := []) (c_within l G ad ce a 1 40) g_C_42 ⟨by decide, by decide⟩ ⟨by decide, by decide⟩ rfl (Nat.le_of_ble_eq_true rfl) d_C_odds_4 ?_
    rintro _ _ _ ⟨rfl, rfl, rfl⟩
    show AW X 11 0 0 ad ce 7 [(0, .ref (ad (0, 0, 0))), (1, .int a), (2, .int r), (3, .int b), (4, .int p)] [.int (bI (decide (1 ≤ a ∧ a ≤ 40)))]
    refine aw_topi (v' := 0) ((bI_f h1).symm) ?_
    show AW X 11 0 0 ad ce 7 [(0, .ref (ad (0, 0, 0))), (1, .int a), (2, .int r), (3, .int b), (4, .int p)] [.int 0]
    refine aw_if_eq C (tgt := 20) d_C_odds_7 (by decide) (fun h7 => ?_) (fun h7 => absurd (rfl) h7)
    refine aw_ldc2 C tw_203 d_C_odds_20 ?_
    refine aw_lret C E (by decide) (by decide) d_C_odds_23 ?_
    exact ⟨by rw [f_odds, if_neg hc], rfl, rfl⟩
set_option maxRecDepth 100000 in
set_option maxHeartbeats 4000000 in
theorem r_common (l : Launch) (G : aw_G) (ad : aw_Ad) (ce : aw_He) (x y : Nat) (hx : x < 2 ^ 63) (hy : y < 2 ^ 63) : CT l G M_R_common 0 0 0 0 [.long (lN x), .long (lN y)] ad ce (rN (some (.long (lN (Nat.gcd x y)))) ad ce) := by
  refine CT.of (by decide) (Nat.le_of_ble_eq_true rfl) ?_
  intro X C I E
  obtain ⟨x0, hx0⟩ : ∃ q, lN x = q := ⟨_, rfl⟩
  obtain ⟨y0, hy0'⟩ : ∃ q, lN y = q := ⟨_, rfl⟩
  have loop : ∀ (f u v : Nat), v < f → u < 2 ^ 63 → v < 2 ^ 63 → Nat.gcd u v = Nat.gcd x y → AW X 10 0 0 ad ce 6 [(6, .long (lN v)), (4, .long (lN u)), (0, .long x0), (2, .long y0)] [] := by
    intro f
    induction f with
    | zero => intro u v h; exact absurd h (by omega)
    | succ f ih =>
      intro u v hf hu hv hr
      refine aw_lload C d_R_common_6 (j := 0) rfl ?_
      refine aw_lconst C (v := 0) d_R_common_8 (by decide) ?_
      refine aw_lcmp C d_R_common_9 ?_
      refine aw_if_eq C (tgt := 31) d_R_common_10 (by decide) (fun h10 => ?_) (fun h10 => ?_)
      · refine aw_lload C d_R_common_31 (j := 1) rfl ?_
        refine aw_lret C E (by decide) (by decide) d_R_common_33 ?_
        have hv0 : v = 0 := (cmp0 (by omega)).mp h10
        exact ⟨by rw [← hr, hv0, Nat.gcd_zero_right], rfl, rfl⟩
      · refine aw_lload C d_R_common_13 (j := 1) rfl ?_
        refine aw_lload C d_R_common_15 (j := 0) rfl ?_
        refine aw_lrem C d_R_common_17 (fun q => h10 ((cmp0 (by omega)).mpr ((pk_lEQ (by omega) (by decide)).mp (q.trans lN0.symm)))) ?_
        refine aw_topl (v' := lN (u % v)) (pk_lRem (by omega) (by have h9 : ¬ v = 0 := fun q => h10 ((cmp0 (by omega)).mpr q); omega) (by omega)) ?_
        refine aw_lstore C (lv' := [(8, .long (lN (u % v))), (6, .long (lN v)), (4, .long (lN u)), (0, .long x0), (2, .long y0)]) d_R_common_18 (by decide) rfl ?_
        refine aw_lload C d_R_common_20 (j := 1) rfl ?_
        refine aw_lstore C (lv' := [(4, .long (lN v)), (8, .long (lN (u % v))), (6, .long (lN v)), (0, .long x0), (2, .long y0)]) d_R_common_22 (by decide) rfl ?_
        refine aw_lload C d_R_common_24 (j := 1) rfl ?_
        refine aw_lstore C (lv' := [(6, .long (lN (u % v))), (4, .long (lN v)), (8, .long (lN (u % v))), (0, .long x0), (2, .long y0)]) d_R_common_26 (by decide) rfl ?_
        refine aw_goto C (tgt := 6) d_R_common_28 (by decide) ?_
        have hv0 : ¬ v = 0 := fun q => h10 ((cmp0 (by omega)).mpr q)
        have hml : u % v < v := Nat.mod_lt _ (by omega)
        refine aw_sub (lv' := [(6, .long (lN (u % v))), (4, .long (lN v)), (0, .long x0), (2, .long y0)]) (by simp) ?_
        exact ih v (u % v) (by omega) (by omega) (by omega) (by rw [← hr, Nat.gcd_comm v, ← Nat.gcd_rec, Nat.gcd_comm])
  rw [← hx0, ← hy0'] at loop
  show AW X 10 0 0 ad ce 0 [(0, .long (lN x)), (2, .long (lN y))] []
  refine aw_lload_n C d_R_common_0 rfl (j := 0) rfl ?_
  refine aw_lstore C (lv' := [(4, .long (lN x)), (0, .long (lN x)), (2, .long (lN y))]) d_R_common_1 (by decide) rfl ?_
  refine aw_lload_n C d_R_common_3 rfl (j := 2) rfl ?_
  refine aw_lstore C (lv' := [(6, .long (lN y)), (4, .long (lN x)), (0, .long (lN x)), (2, .long (lN y))]) d_R_common_4 (by decide) rfl ?_
  exact loop (y + 1) x y (by omega) hx hy rfl
theorem neg_sub {A B k : Nat} (h : A - B < k) (hA : A ≤ 40) (hk : k ≤ 40) (hB : B ≤ A) : ¬ (0 : Int64) ≤ Int32.toInt64 (nI A - nI B - nI k) := by
  rw [pk_sub hB, Int64.le_iff_toInt_le, Int32.toInt_toInt64, pk_sub_toInt (by omega) (by omega)]
  have : (0 : Int64).toInt = 0 := rfl
  omega
set_option maxRecDepth 100000 in
set_option maxHeartbeats 4000000 in
theorem R_odds (l : Launch) (G : aw_G) (ad : aw_Ad) (ce : aw_He) (a r b p : Int32) : CT l G M_R_odds 1 29 0 0 [.ref (ad (3, 0, 0)), .int a, .int r, .int b, .int p] ad ce (rN (some (.long (f_odds a r b p))) ad ce) := by
  refine CT.of (by decide) (Nat.le_of_ble_eq_true rfl) ?_
  intro X C I E
  by_cases hc : (1 ≤ a ∧ a ≤ 40) ∧ (0 ≤ p ∧ p ≤ 1) ∧ (0 ≤ r ∧ r ≤ a) ∧ (0 ≤ b ∧ b ≤ a)
  · skip
    obtain ⟨A, hA, rfl⟩ : ∃ m : Nat, m ≤ 40 ∧ a = nI m := nI_of2 (M := 40) rfl (by have := hc.1.1; (try simp only [Int32.le_iff_toInt_le, Int32.lt_iff_toInt_lt] at this ⊢); have e1 : (1 : Int32).toInt = 1 := rfl; have e0 : (0 : Int32).toInt = 0 := rfl; omega) hc.1.2
    obtain ⟨R, hR, rfl⟩ : ∃ m : Nat, m ≤ A ∧ r = nI m := nI_of2 (M := nI A) (nI_toInt (by omega)) (by have := hc.2.2.1.1; (try simp only [Int32.le_iff_toInt_le, Int32.lt_iff_toInt_lt] at this ⊢); omega) hc.2.2.1.2
    obtain ⟨B, hB, rfl⟩ : ∃ m : Nat, m ≤ A ∧ b = nI m := nI_of2 (M := nI A) (nI_toInt (by omega)) (by have := hc.2.2.2.1; (try simp only [Int32.le_iff_toInt_le, Int32.lt_iff_toInt_lt] at this ⊢); omega) hc.2.2.2.2
    have hV := ch_pos hR
    have hU40 := ch_40 (n := A - B) (k := R) (by omega)
    have hV40 := ch_40 (n := A) (k := R) (by omega)
    have hg0 : 0 < Nat.gcd (ch (A - B) R) (ch A R) := Nat.gcd_pos_of_pos_right _ hV
    have hgl : Nat.gcd (ch (A - B) R) (ch A R) ≤ ch A R := Nat.gcd_le_right _ hV
    have hfo : f_odds (nI A) (nI R) (nI B) p = if p = 0 then lN (rdn (ch (A - B) R) (ch A R)) else lN (rdm (ch (A - B) R) (ch A R)) := by
      rw [f_odds, if_pos hc, nI_clamp (by omega), nI_clamp (by omega), nI_clamp (by omega)]
    have loop : ∀ (m k : Nat), k + m = R → AW X 14 0 0 ad ce 58 [(9, .int (nI k)), (7, .long (lN (rdm (ch (A - B) k) (ch A k)))), (5, .long (lN (rdn (ch (A - B) k) (ch A k)))), (0, .ref (ad (3, 0, 0))), (1, .int (nI A)), (2, .int (nI R)), (3, .int (nI B)), (4, .int p)] [] := by
      intro m
      induction m with
      | zero =>
        intro k hkr
        refine aw_iload C d_R_odds_58 (j := 0) rfl ?_
        refine aw_iload_n C d_R_odds_60 rfl (j := 5) rfl ?_
        refine aw_icmp_ge C (tgt := 130) d_R_odds_61 (by decide) (fun h61 => ?_) (fun h61 => absurd (nI_le (by omega) (by omega)) h61)
        refine aw_iload C d_R_odds_130 (j := 7) rfl ?_
        refine aw_if_ne C (tgt := 140) d_R_odds_132 (by decide) (fun h132 => ?_) (fun h132 => ?_)
        · refine aw_lload C d_R_odds_140 (j := 1) rfl ?_
          refine aw_lret C E (by decide) (by decide) d_R_odds_142 ?_
          have e : k = R := by omega
          subst e
          rw [hfo]
          exact ⟨by simp [h132], rfl, rfl⟩
        · refine aw_lload C d_R_odds_135 (j := 2) rfl ?_
          refine aw_goto C (tgt := 142) d_R_odds_137 (by decide) ?_
          refine aw_lret C E (by decide) (by decide) d_R_odds_142 ?_
          have e : k = R := by omega
          subst e
          rw [hfo]
          exact ⟨by simp [h132], rfl, rfl⟩
      | succ m ih =>
        intro k hkr
        have hVk := ch_pos (show k ≤ A by omega)
        have hu := ch_40 (n := A - B) (k := k) (by omega)
        have hv := ch_40 (n := A) (k := k) (by omega)
        have hst := red_step (x := A - B - k) (y := A - k) hVk (ch_step (A - B) k) (ch_step A k)
        have hgk : 0 < Nat.gcd (ch (A - B) k) (ch A k) := Nat.gcd_pos_of_pos_right _ hVk
        have hxa : rdn (ch (A - B) k) (ch A k) ≤ 1099511627776 := Nat.le_trans (Nat.div_le_self _ _) hu
        have hya : rdm (ch (A - B) k) (ch A k) ≤ 1099511627776 := Nat.le_trans (Nat.div_le_self _ _) hv
        have hy1 : 0 < rdm (ch (A - B) k) (ch A k) := Nat.div_pos (Nat.gcd_le_right _ hVk) hgk
        have hxb : rdn (ch (A - B) k) (ch A k) * (A - B - k) ≤ 1099511627776 * 40 := Nat.mul_le_mul hxa (by omega)
        have hyb : rdm (ch (A - B) k) (ch A k) * (A - k) ≤ 1099511627776 * 40 := Nat.mul_le_mul hya (by omega)
        have hyp : 0 < rdm (ch (A - B) k) (ch A k) * (A - k) := Nat.mul_pos hy1 (by omega)
        have hgp : 0 < Nat.gcd (rdn (ch (A - B) k) (ch A k) * (A - B - k)) (rdm (ch (A - B) k) (ch A k) * (A - k)) := Nat.gcd_pos_of_pos_right _ hyp
        have hgl2 : Nat.gcd (rdn (ch (A - B) k) (ch A k) * (A - B - k)) (rdm (ch (A - B) k) (ch A k) * (A - k)) ≤ rdm (ch (A - B) k) (ch A k) * (A - k) := Nat.gcd_le_right _ hyp
        rcases Nat.lt_or_ge (A - B) k with hk2 | hk
        · skip
          refine aw_iload C d_R_odds_58 (j := 0) rfl ?_
          refine aw_iload_n C d_R_odds_60 rfl (j := 5) rfl ?_
          refine aw_icmp_ge C (tgt := 130) d_R_odds_61 (by decide) (fun h61 => absurd h61 (nI_ge (by omega) (by omega))) (fun h61 => ?_)
          refine aw_iload_n C d_R_odds_64 rfl (j := 4) rfl ?_
          refine aw_iload_n C d_R_odds_65 rfl (j := 6) rfl ?_
          refine aw_isub C d_R_odds_66 ?_
          refine aw_iload C d_R_odds_67 (j := 0) rfl ?_
          refine aw_isub C d_R_odds_69 ?_
          refine aw_i2l C d_R_odds_70 ?_
          refine aw_lstore C (lv' := [(10, .long (Int32.toInt64 (((nI A) - (nI B)) - (nI k)))), (9, .int (nI k)), (7, .long (lN (rdm (ch (A - B) k) (ch A k)))), (5, .long (lN (rdn (ch (A - B) k) (ch A k)))), (0, .ref (ad (3, 0, 0))), (1, .int (nI A)), (2, .int (nI R)), (3, .int (nI B)), (4, .int p)]) d_R_odds_71 (by decide) rfl ?_
          refine aw_lload C d_R_odds_73 (j := 3) rfl ?_
          refine aw_lload C d_R_odds_75 (j := 0) rfl ?_
          refine aw_lconst C (v := 0) d_R_odds_77 (by decide) ?_
          refine aw_lcmp C d_R_odds_78 ?_
          refine aw_if_ge C (tgt := 86) d_R_odds_79 (by decide) (fun h79 => absurd h79 (fun q => by
            rw [lg_cmp_ge] at q
            exact neg_sub hk2 (by omega) (by omega) hB q)) (fun h79 => ?_)
          refine aw_lconst C (v := 0) d_R_odds_82 (by decide) ?_
          refine aw_goto C (tgt := 88) d_R_odds_83 (by decide) ?_
          refine aw_lmul C d_R_odds_88 ?_
          refine aw_topl (v' := lN (rdn (ch (A - B) k) (ch A k) * (A - B - k))) (by rw [show A - B - k = 0 by omega, Nat.mul_zero, lN0, Int64.mul_zero]) ?_
          refine aw_lstore C (lv' := [(5, .long (lN (rdn (ch (A - B) k) (ch A k) * (A - B - k)))), (10, .long (Int32.toInt64 (((nI A) - (nI B)) - (nI k)))), (9, .int (nI k)), (7, .long (lN (rdm (ch (A - B) k) (ch A k)))), (0, .ref (ad (3, 0, 0))), (1, .int (nI A)), (2, .int (nI R)), (3, .int (nI B)), (4, .int p)]) d_R_odds_89 (by decide) rfl ?_
          refine aw_lload C d_R_odds_91 (j := 3) rfl ?_
          refine aw_iload_n C d_R_odds_93 rfl (j := 5) rfl ?_
          refine aw_iload C d_R_odds_94 (j := 2) rfl ?_
          refine aw_isub C d_R_odds_96 ?_
          refine aw_i2l C d_R_odds_97 ?_
          refine aw_topl (v' := lN (A - k)) (i2lS (by omega) (by omega)) ?_
          refine aw_lmul C d_R_odds_98 ?_
          refine aw_topl (v' := lN (rdm (ch (A - B) k) (ch A k) * (A - k))) (lN_mul _ _) ?_
          refine aw_lstore C (lv' := [(7, .long (lN (rdm (ch (A - B) k) (ch A k) * (A - k)))), (5, .long (lN (rdn (ch (A - B) k) (ch A k) * (A - B - k)))), (10, .long (Int32.toInt64 (((nI A) - (nI B)) - (nI k)))), (9, .int (nI k)), (0, .ref (ad (3, 0, 0))), (1, .int (nI A)), (2, .int (nI R)), (3, .int (nI B)), (4, .int p)]) d_R_odds_99 (by decide) rfl ?_
          refine aw_lload C d_R_odds_101 (j := 1) rfl ?_
          refine aw_lload C d_R_odds_103 (j := 0) rfl ?_
          refine aw_callS C I (as := [.long (lN (rdn (ch (A - B) k) (ch A k) * (A - B - k))), .long (lN (rdm (ch (A - B) k) (ch A k) * (A - k)))]) (rest := []) (r_common l G ad ce (rdn (ch (A - B) k) (ch A k) * (A - B - k)) (rdm (ch (A - B) k) (ch A k) * (A - k)) (by omega) (by omega)) g_R_107 ⟨by decide, by decide⟩ ⟨by decide, by decide⟩ rfl (Nat.le_of_ble_eq_true rfl) d_R_odds_105 ?_
          rintro _ _ _ ⟨rfl, rfl, rfl⟩
          show AW X 14 0 0 ad ce 108 [(7, .long (lN (rdm (ch (A - B) k) (ch A k) * (A - k)))), (5, .long (lN (rdn (ch (A - B) k) (ch A k) * (A - B - k)))), (10, .long (Int32.toInt64 (((nI A) - (nI B)) - (nI k)))), (9, .int (nI k)), (0, .ref (ad (3, 0, 0))), (1, .int (nI A)), (2, .int (nI R)), (3, .int (nI B)), (4, .int p)] [.long (lN (Nat.gcd (rdn (ch (A - B) k) (ch A k) * (A - B - k)) (rdm (ch (A - B) k) (ch A k) * (A - k))))]
          refine aw_lstore C (lv' := [(12, .long (lN (Nat.gcd (rdn (ch (A - B) k) (ch A k) * (A - B - k)) (rdm (ch (A - B) k) (ch A k) * (A - k))))), (7, .long (lN (rdm (ch (A - B) k) (ch A k) * (A - k)))), (5, .long (lN (rdn (ch (A - B) k) (ch A k) * (A - B - k)))), (10, .long (Int32.toInt64 (((nI A) - (nI B)) - (nI k)))), (9, .int (nI k)), (0, .ref (ad (3, 0, 0))), (1, .int (nI A)), (2, .int (nI R)), (3, .int (nI B)), (4, .int p)]) d_R_odds_108 (by decide) rfl ?_
          refine aw_lload C d_R_odds_110 (j := 2) rfl ?_
          refine aw_lload C d_R_odds_112 (j := 0) rfl ?_
          refine aw_ldiv C d_R_odds_114 (lN_ne0 hgp (by omega)) ?_
          refine aw_topl (v' := lN (rdn (ch (A - B) (k + 1)) (ch A (k + 1)))) (by rw [pk_lDiv (by omega) hgp (by omega), ← hst.1]; rfl) ?_
          refine aw_lstore C (lv' := [(5, .long (lN (rdn (ch (A - B) (k + 1)) (ch A (k + 1))))), (12, .long (lN (Nat.gcd (rdn (ch (A - B) k) (ch A k) * (A - B - k)) (rdm (ch (A - B) k) (ch A k) * (A - k))))), (7, .long (lN (rdm (ch (A - B) k) (ch A k) * (A - k)))), (10, .long (Int32.toInt64 (((nI A) - (nI B)) - (nI k)))), (9, .int (nI k)), (0, .ref (ad (3, 0, 0))), (1, .int (nI A)), (2, .int (nI R)), (3, .int (nI B)), (4, .int p)]) d_R_odds_115 (by decide) rfl ?_
          refine aw_lload C d_R_odds_117 (j := 2) rfl ?_
          refine aw_lload C d_R_odds_119 (j := 1) rfl ?_
          refine aw_ldiv C d_R_odds_121 (lN_ne0 hgp (by omega)) ?_
          refine aw_topl (v' := lN (rdm (ch (A - B) (k + 1)) (ch A (k + 1)))) (by rw [pk_lDiv (by omega) hgp (by omega), ← hst.2]; rfl) ?_
          refine aw_lstore C (lv' := [(7, .long (lN (rdm (ch (A - B) (k + 1)) (ch A (k + 1))))), (5, .long (lN (rdn (ch (A - B) (k + 1)) (ch A (k + 1))))), (12, .long (lN (Nat.gcd (rdn (ch (A - B) k) (ch A k) * (A - B - k)) (rdm (ch (A - B) k) (ch A k) * (A - k))))), (10, .long (Int32.toInt64 (((nI A) - (nI B)) - (nI k)))), (9, .int (nI k)), (0, .ref (ad (3, 0, 0))), (1, .int (nI A)), (2, .int (nI R)), (3, .int (nI B)), (4, .int p)]) d_R_odds_122 (by decide) rfl ?_
          refine aw_iinc C (v := nI (k + 1)) (lv' := [(9, .int (nI (k + 1))), (7, .long (lN (rdm (ch (A - B) (k + 1)) (ch A (k + 1))))), (5, .long (lN (rdn (ch (A - B) (k + 1)) (ch A (k + 1))))), (12, .long (lN (Nat.gcd (rdn (ch (A - B) k) (ch A k) * (A - B - k)) (rdm (ch (A - B) k) (ch A k) * (A - k))))), (10, .long (Int32.toInt64 (((nI A) - (nI B)) - (nI k)))), (0, .ref (ad (3, 0, 0))), (1, .int (nI A)), (2, .int (nI R)), (3, .int (nI B)), (4, .int p)]) d_R_odds_124 (j := 4) rfl (nI_1 _) (by decide) rfl ?_
          refine aw_goto C (tgt := 58) d_R_odds_127 (by decide) ?_
          refine aw_sub (lv' := [(9, .int (nI (k + 1))), (7, .long (lN (rdm (ch (A - B) (k + 1)) (ch A (k + 1))))), (5, .long (lN (rdn (ch (A - B) (k + 1)) (ch A (k + 1))))), (0, .ref (ad (3, 0, 0))), (1, .int (nI A)), (2, .int (nI R)), (3, .int (nI B)), (4, .int p)]) (by simp) ?_
          exact ih (k + 1) (by omega)
        · skip
          refine aw_iload C d_R_odds_58 (j := 0) rfl ?_
          refine aw_iload_n C d_R_odds_60 rfl (j := 5) rfl ?_
          refine aw_icmp_ge C (tgt := 130) d_R_odds_61 (by decide) (fun h61 => absurd h61 (nI_ge (by omega) (by omega))) (fun h61 => ?_)
          refine aw_iload_n C d_R_odds_64 rfl (j := 4) rfl ?_
          refine aw_iload_n C d_R_odds_65 rfl (j := 6) rfl ?_
          refine aw_isub C d_R_odds_66 ?_
          refine aw_iload C d_R_odds_67 (j := 0) rfl ?_
          refine aw_isub C d_R_odds_69 ?_
          refine aw_i2l C d_R_odds_70 ?_
          refine aw_topl (v' := lN (A - B - k)) (by rw [pk_sub hB]; exact i2lS hk (by omega)) ?_
          refine aw_lstore C (lv' := [(10, .long (lN (A - B - k))), (9, .int (nI k)), (7, .long (lN (rdm (ch (A - B) k) (ch A k)))), (5, .long (lN (rdn (ch (A - B) k) (ch A k)))), (0, .ref (ad (3, 0, 0))), (1, .int (nI A)), (2, .int (nI R)), (3, .int (nI B)), (4, .int p)]) d_R_odds_71 (by decide) rfl ?_
          refine aw_lload C d_R_odds_73 (j := 3) rfl ?_
          refine aw_lload C d_R_odds_75 (j := 0) rfl ?_
          refine aw_lconst C (v := 0) d_R_odds_77 (by decide) ?_
          refine aw_lcmp C d_R_odds_78 ?_
          refine aw_if_ge C (tgt := 86) d_R_odds_79 (by decide) (fun h79 => ?_) (fun h79 => absurd (by rw [lg_cmp_ge, ← lN0]; exact (pk_lLE (by decide) (by omega)).mpr (Nat.zero_le _)) h79)
          refine aw_lload C d_R_odds_86 (j := 0) rfl ?_
          refine aw_lmul C d_R_odds_88 ?_
          refine aw_topl (v' := lN (rdn (ch (A - B) k) (ch A k) * (A - B - k))) (lN_mul _ _) ?_
          refine aw_lstore C (lv' := [(5, .long (lN (rdn (ch (A - B) k) (ch A k) * (A - B - k)))), (10, .long (lN (A - B - k))), (9, .int (nI k)), (7, .long (lN (rdm (ch (A - B) k) (ch A k)))), (0, .ref (ad (3, 0, 0))), (1, .int (nI A)), (2, .int (nI R)), (3, .int (nI B)), (4, .int p)]) d_R_odds_89 (by decide) rfl ?_
          refine aw_lload C d_R_odds_91 (j := 3) rfl ?_
          refine aw_iload_n C d_R_odds_93 rfl (j := 5) rfl ?_
          refine aw_iload C d_R_odds_94 (j := 2) rfl ?_
          refine aw_isub C d_R_odds_96 ?_
          refine aw_i2l C d_R_odds_97 ?_
          refine aw_topl (v' := lN (A - k)) (i2lS (by omega) (by omega)) ?_
          refine aw_lmul C d_R_odds_98 ?_
          refine aw_topl (v' := lN (rdm (ch (A - B) k) (ch A k) * (A - k))) (lN_mul _ _) ?_
          refine aw_lstore C (lv' := [(7, .long (lN (rdm (ch (A - B) k) (ch A k) * (A - k)))), (5, .long (lN (rdn (ch (A - B) k) (ch A k) * (A - B - k)))), (10, .long (lN (A - B - k))), (9, .int (nI k)), (0, .ref (ad (3, 0, 0))), (1, .int (nI A)), (2, .int (nI R)), (3, .int (nI B)), (4, .int p)]) d_R_odds_99 (by decide) rfl ?_
          refine aw_lload C d_R_odds_101 (j := 1) rfl ?_
          refine aw_lload C d_R_odds_103 (j := 0) rfl ?_
          refine aw_callS C I (as := [.long (lN (rdn (ch (A - B) k) (ch A k) * (A - B - k))), .long (lN (rdm (ch (A - B) k) (ch A k) * (A - k)))]) (rest := []) (r_common l G ad ce (rdn (ch (A - B) k) (ch A k) * (A - B - k)) (rdm (ch (A - B) k) (ch A k) * (A - k)) (by omega) (by omega)) g_R_107 ⟨by decide, by decide⟩ ⟨by decide, by decide⟩ rfl (Nat.le_of_ble_eq_true rfl) d_R_odds_105 ?_
          rintro _ _ _ ⟨rfl, rfl, rfl⟩
          show AW X 14 0 0 ad ce 108 [(7, .long (lN (rdm (ch (A - B) k) (ch A k) * (A - k)))), (5, .long (lN (rdn (ch (A - B) k) (ch A k) * (A - B - k)))), (10, .long (lN (A - B - k))), (9, .int (nI k)), (0, .ref (ad (3, 0, 0))), (1, .int (nI A)), (2, .int (nI R)), (3, .int (nI B)), (4, .int p)] [.long (lN (Nat.gcd (rdn (ch (A - B) k) (ch A k) * (A - B - k)) (rdm (ch (A - B) k) (ch A k) * (A - k))))]
          refine aw_lstore C (lv' := [(12, .long (lN (Nat.gcd (rdn (ch (A - B) k) (ch A k) * (A - B - k)) (rdm (ch (A - B) k) (ch A k) * (A - k))))), (7, .long (lN (rdm (ch (A - B) k) (ch A k) * (A - k)))), (5, .long (lN (rdn (ch (A - B) k) (ch A k) * (A - B - k)))), (10, .long (lN (A - B - k))), (9, .int (nI k)), (0, .ref (ad (3, 0, 0))), (1, .int (nI A)), (2, .int (nI R)), (3, .int (nI B)), (4, .int p)]) d_R_odds_108 (by decide) rfl ?_
          refine aw_lload C d_R_odds_110 (j := 2) rfl ?_
          refine aw_lload C d_R_odds_112 (j := 0) rfl ?_
          refine aw_ldiv C d_R_odds_114 (lN_ne0 hgp (by omega)) ?_
          refine aw_topl (v' := lN (rdn (ch (A - B) (k + 1)) (ch A (k + 1)))) (by rw [pk_lDiv (by omega) hgp (by omega), ← hst.1]; rfl) ?_
          refine aw_lstore C (lv' := [(5, .long (lN (rdn (ch (A - B) (k + 1)) (ch A (k + 1))))), (12, .long (lN (Nat.gcd (rdn (ch (A - B) k) (ch A k) * (A - B - k)) (rdm (ch (A - B) k) (ch A k) * (A - k))))), (7, .long (lN (rdm (ch (A - B) k) (ch A k) * (A - k)))), (10, .long (lN (A - B - k))), (9, .int (nI k)), (0, .ref (ad (3, 0, 0))), (1, .int (nI A)), (2, .int (nI R)), (3, .int (nI B)), (4, .int p)]) d_R_odds_115 (by decide) rfl ?_
          refine aw_lload C d_R_odds_117 (j := 2) rfl ?_
          refine aw_lload C d_R_odds_119 (j := 1) rfl ?_
          refine aw_ldiv C d_R_odds_121 (lN_ne0 hgp (by omega)) ?_
          refine aw_topl (v' := lN (rdm (ch (A - B) (k + 1)) (ch A (k + 1)))) (by rw [pk_lDiv (by omega) hgp (by omega), ← hst.2]; rfl) ?_
          refine aw_lstore C (lv' := [(7, .long (lN (rdm (ch (A - B) (k + 1)) (ch A (k + 1))))), (5, .long (lN (rdn (ch (A - B) (k + 1)) (ch A (k + 1))))), (12, .long (lN (Nat.gcd (rdn (ch (A - B) k) (ch A k) * (A - B - k)) (rdm (ch (A - B) k) (ch A k) * (A - k))))), (10, .long (lN (A - B - k))), (9, .int (nI k)), (0, .ref (ad (3, 0, 0))), (1, .int (nI A)), (2, .int (nI R)), (3, .int (nI B)), (4, .int p)]) d_R_odds_122 (by decide) rfl ?_
          refine aw_iinc C (v := nI (k + 1)) (lv' := [(9, .int (nI (k + 1))), (7, .long (lN (rdm (ch (A - B) (k + 1)) (ch A (k + 1))))), (5, .long (lN (rdn (ch (A - B) (k + 1)) (ch A (k + 1))))), (12, .long (lN (Nat.gcd (rdn (ch (A - B) k) (ch A k) * (A - B - k)) (rdm (ch (A - B) k) (ch A k) * (A - k))))), (10, .long (lN (A - B - k))), (0, .ref (ad (3, 0, 0))), (1, .int (nI A)), (2, .int (nI R)), (3, .int (nI B)), (4, .int p)]) d_R_odds_124 (j := 4) rfl (nI_1 _) (by decide) rfl ?_
          refine aw_goto C (tgt := 58) d_R_odds_127 (by decide) ?_
          refine aw_sub (lv' := [(9, .int (nI (k + 1))), (7, .long (lN (rdm (ch (A - B) (k + 1)) (ch A (k + 1))))), (5, .long (lN (rdn (ch (A - B) (k + 1)) (ch A (k + 1))))), (0, .ref (ad (3, 0, 0))), (1, .int (nI A)), (2, .int (nI R)), (3, .int (nI B)), (4, .int p)]) (by simp) ?_
          exact ih (k + 1) (by omega)
    show AW X 14 0 0 ad ce 0 [(0, .ref (ad (3, 0, 0))), (1, .int (nI A)), (2, .int (nI R)), (3, .int (nI B)), (4, .int p)] []
    refine aw_iload_n C d_R_odds_0 rfl (j := 1) rfl ?_
    refine aw_i2l C d_R_odds_1 ?_
    refine aw_lconst C (v := 1) d_R_odds_2 (by decide) ?_
    refine aw_ldc2 C tw_436 d_R_odds_3 ?_
    refine aw_callS C I (as := [.long (Int32.toInt64 (nI A)), .long 1, .long 40]) (rest := []) (r_isIn l G ad ce (Int32.toInt64 (nI A)) 1 40) g_R_70 ⟨by decide, by decide⟩ ⟨by decide, by decide⟩ rfl (Nat.le_of_ble_eq_true rfl) d_R_odds_6 ?_
    rintro _ _ _ ⟨rfl, rfl, rfl⟩
    show AW X 14 0 0 ad ce 9 [(0, .ref (ad (3, 0, 0))), (1, .int (nI A)), (2, .int (nI R)), (3, .int (nI B)), (4, .int p)] [.int (bI (decide (1 ≤ Int32.toInt64 (nI A) ∧ Int32.toInt64 (nI A) ≤ 40)))]
    refine aw_topi (v' := 1) ((bI_t ((in32 rfl rfl).mpr hc.1)).symm) ?_
    show AW X 14 0 0 ad ce 9 [(0, .ref (ad (3, 0, 0))), (1, .int (nI A)), (2, .int (nI R)), (3, .int (nI B)), (4, .int p)] [.int 1]
    refine aw_if_eq C (tgt := 45) d_R_odds_9 (by decide) (fun h9 => absurd h9 (by decide)) (fun h9 => ?_)
    refine aw_iload_n C d_R_odds_12 rfl (j := 2) rfl ?_
    refine aw_i2l C d_R_odds_13 ?_
    refine aw_lconst C (v := 0) d_R_odds_14 (by decide) ?_
    refine aw_iload_n C d_R_odds_15 rfl (j := 1) rfl ?_
    refine aw_i2l C d_R_odds_16 ?_
    refine aw_callS C I (as := [.long (Int32.toInt64 (nI R)), .long 0, .long (Int32.toInt64 (nI A))]) (rest := []) (r_isIn l G ad ce (Int32.toInt64 (nI R)) 0 (Int32.toInt64 (nI A))) g_R_70 ⟨by decide, by decide⟩ ⟨by decide, by decide⟩ rfl (Nat.le_of_ble_eq_true rfl) d_R_odds_17 ?_
    rintro _ _ _ ⟨rfl, rfl, rfl⟩
    show AW X 14 0 0 ad ce 20 [(0, .ref (ad (3, 0, 0))), (1, .int (nI A)), (2, .int (nI R)), (3, .int (nI B)), (4, .int p)] [.int (bI (decide (0 ≤ Int32.toInt64 (nI R) ∧ Int32.toInt64 (nI R) ≤ Int32.toInt64 (nI A))))]
    refine aw_topi (v' := 1) ((bI_t ((in32 (lo := 0) rfl (Int32.toInt_toInt64 _)).mpr hc.2.2.1)).symm) ?_
    show AW X 14 0 0 ad ce 20 [(0, .ref (ad (3, 0, 0))), (1, .int (nI A)), (2, .int (nI R)), (3, .int (nI B)), (4, .int p)] [.int 1]
    refine aw_if_eq C (tgt := 45) d_R_odds_20 (by decide) (fun h20 => absurd h20 (by decide)) (fun h20 => ?_)
    refine aw_iload_n C d_R_odds_23 rfl (j := 3) rfl ?_
    refine aw_i2l C d_R_odds_24 ?_
    refine aw_lconst C (v := 0) d_R_odds_25 (by decide) ?_
    refine aw_iload_n C d_R_odds_26 rfl (j := 1) rfl ?_
    refine aw_i2l C d_R_odds_27 ?_
    refine aw_callS C I (as := [.long (Int32.toInt64 (nI B)), .long 0, .long (Int32.toInt64 (nI A))]) (rest := []) (r_isIn l G ad ce (Int32.toInt64 (nI B)) 0 (Int32.toInt64 (nI A))) g_R_70 ⟨by decide, by decide⟩ ⟨by decide, by decide⟩ rfl (Nat.le_of_ble_eq_true rfl) d_R_odds_28 ?_
    rintro _ _ _ ⟨rfl, rfl, rfl⟩
    show AW X 14 0 0 ad ce 31 [(0, .ref (ad (3, 0, 0))), (1, .int (nI A)), (2, .int (nI R)), (3, .int (nI B)), (4, .int p)] [.int (bI (decide (0 ≤ Int32.toInt64 (nI B) ∧ Int32.toInt64 (nI B) ≤ Int32.toInt64 (nI A))))]
    refine aw_topi (v' := 1) ((bI_t ((in32 (lo := 0) rfl (Int32.toInt_toInt64 _)).mpr hc.2.2.2)).symm) ?_
    show AW X 14 0 0 ad ce 31 [(0, .ref (ad (3, 0, 0))), (1, .int (nI A)), (2, .int (nI R)), (3, .int (nI B)), (4, .int p)] [.int 1]
    refine aw_if_eq C (tgt := 45) d_R_odds_31 (by decide) (fun h31 => absurd h31 (by decide)) (fun h31 => ?_)
    refine aw_iload C d_R_odds_34 (j := 4) rfl ?_
    refine aw_i2l C d_R_odds_36 ?_
    refine aw_lconst C (v := 0) d_R_odds_37 (by decide) ?_
    refine aw_lconst C (v := 1) d_R_odds_38 (by decide) ?_
    refine aw_callS C I (as := [.long (Int32.toInt64 p), .long 0, .long 1]) (rest := []) (r_isIn l G ad ce (Int32.toInt64 p) 0 1) g_R_70 ⟨by decide, by decide⟩ ⟨by decide, by decide⟩ rfl (Nat.le_of_ble_eq_true rfl) d_R_odds_39 ?_
    rintro _ _ _ ⟨rfl, rfl, rfl⟩
    show AW X 14 0 0 ad ce 42 [(0, .ref (ad (3, 0, 0))), (1, .int (nI A)), (2, .int (nI R)), (3, .int (nI B)), (4, .int p)] [.int (bI (decide (0 ≤ Int32.toInt64 p ∧ Int32.toInt64 p ≤ 1)))]
    refine aw_topi (v' := 1) ((bI_t ((in32 rfl rfl).mpr hc.2.1)).symm) ?_
    show AW X 14 0 0 ad ce 42 [(0, .ref (ad (3, 0, 0))), (1, .int (nI A)), (2, .int (nI R)), (3, .int (nI B)), (4, .int p)] [.int 1]
    refine aw_if_ne C (tgt := 49) d_R_odds_42 (by decide) (fun h42 => ?_) (fun h42 => absurd h42 (by decide))
    refine aw_lconst C (v := 1) d_R_odds_49 (by decide) ?_
    refine aw_lstore C (lv' := [(5, .long 1), (0, .ref (ad (3, 0, 0))), (1, .int (nI A)), (2, .int (nI R)), (3, .int (nI B)), (4, .int p)]) d_R_odds_50 (by decide) rfl ?_
    refine aw_lconst C (v := 1) d_R_odds_52 (by decide) ?_
    refine aw_lstore C (lv' := [(7, .long 1), (5, .long 1), (0, .ref (ad (3, 0, 0))), (1, .int (nI A)), (2, .int (nI R)), (3, .int (nI B)), (4, .int p)]) d_R_odds_53 (by decide) rfl ?_
    refine aw_iconst C (v := 0) d_R_odds_55 (by decide) ?_
    refine aw_istore C (lv' := [(9, .int 0), (7, .long 1), (5, .long 1), (0, .ref (ad (3, 0, 0))), (1, .int (nI A)), (2, .int (nI R)), (3, .int (nI B)), (4, .int p)]) d_R_odds_56 (by decide) rfl ?_
    refine aw_lv (lv' := [(9, .int (nI 0)), (7, .long (lN (rdm (ch (A - B) 0) (ch A 0)))), (5, .long (lN (rdn (ch (A - B) 0) (ch A 0)))), (0, .ref (ad (3, 0, 0))), (1, .int (nI A)), (2, .int (nI R)), (3, .int (nI B)), (4, .int p)]) (by rw [ch_0, ch_0]; simp only [nI_0]; rfl) ?_
    exact loop R 0 (by omega)
  by_cases h1 : 1 ≤ a ∧ a ≤ 40
  · by_cases h3 : 0 ≤ r ∧ r ≤ a
    · by_cases h4 : 0 ≤ b ∧ b ≤ a
      · have h2 : ¬ (0 ≤ p ∧ p ≤ 1) := fun q => hc ⟨h1, q, h3, h4⟩
        show AW X 14 0 0 ad ce 0 [(0, .ref (ad (3, 0, 0))), (1, .int a), (2, .int r), (3, .int b), (4, .int p)] []
        refine aw_iload_n C d_R_odds_0 rfl (j := 1) rfl ?_
        refine aw_i2l C d_R_odds_1 ?_
        refine aw_lconst C (v := 1) d_R_odds_2 (by decide) ?_
        refine aw_ldc2 C tw_436 d_R_odds_3 ?_
        refine aw_callS C I (as := [.long (Int32.toInt64 a), .long 1, .long 40]) (rest := []) (r_isIn l G ad ce (Int32.toInt64 a) 1 40) g_R_70 ⟨by decide, by decide⟩ ⟨by decide, by decide⟩ rfl (Nat.le_of_ble_eq_true rfl) d_R_odds_6 ?_
        rintro _ _ _ ⟨rfl, rfl, rfl⟩
        show AW X 14 0 0 ad ce 9 [(0, .ref (ad (3, 0, 0))), (1, .int a), (2, .int r), (3, .int b), (4, .int p)] [.int (bI (decide (1 ≤ Int32.toInt64 a ∧ Int32.toInt64 a ≤ 40)))]
        refine aw_topi (v' := 1) ((bI_t ((in32 rfl rfl).mpr h1)).symm) ?_
        show AW X 14 0 0 ad ce 9 [(0, .ref (ad (3, 0, 0))), (1, .int a), (2, .int r), (3, .int b), (4, .int p)] [.int 1]
        refine aw_if_eq C (tgt := 45) d_R_odds_9 (by decide) (fun h9 => absurd h9 (by decide)) (fun h9 => ?_)
        refine aw_iload_n C d_R_odds_12 rfl (j := 2) rfl ?_
        refine aw_i2l C d_R_odds_13 ?_
        refine aw_lconst C (v := 0) d_R_odds_14 (by decide) ?_
        refine aw_iload_n C d_R_odds_15 rfl (j := 1) rfl ?_
        refine aw_i2l C d_R_odds_16 ?_
        refine aw_callS C I (as := [.long (Int32.toInt64 r), .long 0, .long (Int32.toInt64 a)]) (rest := []) (r_isIn l G ad ce (Int32.toInt64 r) 0 (Int32.toInt64 a)) g_R_70 ⟨by decide, by decide⟩ ⟨by decide, by decide⟩ rfl (Nat.le_of_ble_eq_true rfl) d_R_odds_17 ?_
        rintro _ _ _ ⟨rfl, rfl, rfl⟩
        show AW X 14 0 0 ad ce 20 [(0, .ref (ad (3, 0, 0))), (1, .int a), (2, .int r), (3, .int b), (4, .int p)] [.int (bI (decide (0 ≤ Int32.toInt64 r ∧ Int32.toInt64 r ≤ Int32.toInt64 a)))]
        refine aw_topi (v' := 1) ((bI_t ((in32 (lo := 0) rfl (Int32.toInt_toInt64 _)).mpr h3)).symm) ?_
        show AW X 14 0 0 ad ce 20 [(0, .ref (ad (3, 0, 0))), (1, .int a), (2, .int r), (3, .int b), (4, .int p)] [.int 1]
        refine aw_if_eq C (tgt := 45) d_R_odds_20 (by decide) (fun h20 => absurd h20 (by decide)) (fun h20 => ?_)
        refine aw_iload_n C d_R_odds_23 rfl (j := 3) rfl ?_
        refine aw_i2l C d_R_odds_24 ?_
        refine aw_lconst C (v := 0) d_R_odds_25 (by decide) ?_
        refine aw_iload_n C d_R_odds_26 rfl (j := 1) rfl ?_
        refine aw_i2l C d_R_odds_27 ?_
        refine aw_callS C I (as := [.long (Int32.toInt64 b), .long 0, .long (Int32.toInt64 a)]) (rest := []) (r_isIn l G ad ce (Int32.toInt64 b) 0 (Int32.toInt64 a)) g_R_70 ⟨by decide, by decide⟩ ⟨by decide, by decide⟩ rfl (Nat.le_of_ble_eq_true rfl) d_R_odds_28 ?_
        rintro _ _ _ ⟨rfl, rfl, rfl⟩
        show AW X 14 0 0 ad ce 31 [(0, .ref (ad (3, 0, 0))), (1, .int a), (2, .int r), (3, .int b), (4, .int p)] [.int (bI (decide (0 ≤ Int32.toInt64 b ∧ Int32.toInt64 b ≤ Int32.toInt64 a)))]
        refine aw_topi (v' := 1) ((bI_t ((in32 (lo := 0) rfl (Int32.toInt_toInt64 _)).mpr h4)).symm) ?_
        show AW X 14 0 0 ad ce 31 [(0, .ref (ad (3, 0, 0))), (1, .int a), (2, .int r), (3, .int b), (4, .int p)] [.int 1]
        refine aw_if_eq C (tgt := 45) d_R_odds_31 (by decide) (fun h31 => absurd h31 (by decide)) (fun h31 => ?_)
        refine aw_iload C d_R_odds_34 (j := 4) rfl ?_
        refine aw_i2l C d_R_odds_36 ?_
        refine aw_lconst C (v := 0) d_R_odds_37 (by decide) ?_
        refine aw_lconst C (v := 1) d_R_odds_38 (by decide) ?_
        refine aw_callS C I (as := [.long (Int32.toInt64 p), .long 0, .long 1]) (rest := []) (r_isIn l G ad ce (Int32.toInt64 p) 0 1) g_R_70 ⟨by decide, by decide⟩ ⟨by decide, by decide⟩ rfl (Nat.le_of_ble_eq_true rfl) d_R_odds_39 ?_
        rintro _ _ _ ⟨rfl, rfl, rfl⟩
        show AW X 14 0 0 ad ce 42 [(0, .ref (ad (3, 0, 0))), (1, .int a), (2, .int r), (3, .int b), (4, .int p)] [.int (bI (decide (0 ≤ Int32.toInt64 p ∧ Int32.toInt64 p ≤ 1)))]
        refine aw_topi (v' := 0) ((bI_f (fun q => h2 ((in32 rfl rfl).mp q))).symm) ?_
        show AW X 14 0 0 ad ce 42 [(0, .ref (ad (3, 0, 0))), (1, .int a), (2, .int r), (3, .int b), (4, .int p)] [.int 0]
        refine aw_if_ne C (tgt := 49) d_R_odds_42 (by decide) (fun h42 => absurd h42 (by decide)) (fun h42 => ?_)
        refine aw_ldc2 C tw_437 d_R_odds_45 ?_
        refine aw_lret C E (by decide) (by decide) d_R_odds_48 ?_
        exact ⟨by rw [f_odds, if_neg hc], rfl, rfl⟩
      · skip
        show AW X 14 0 0 ad ce 0 [(0, .ref (ad (3, 0, 0))), (1, .int a), (2, .int r), (3, .int b), (4, .int p)] []
        refine aw_iload_n C d_R_odds_0 rfl (j := 1) rfl ?_
        refine aw_i2l C d_R_odds_1 ?_
        refine aw_lconst C (v := 1) d_R_odds_2 (by decide) ?_
        refine aw_ldc2 C tw_436 d_R_odds_3 ?_
        refine aw_callS C I (as := [.long (Int32.toInt64 a), .long 1, .long 40]) (rest := []) (r_isIn l G ad ce (Int32.toInt64 a) 1 40) g_R_70 ⟨by decide, by decide⟩ ⟨by decide, by decide⟩ rfl (Nat.le_of_ble_eq_true rfl) d_R_odds_6 ?_
        rintro _ _ _ ⟨rfl, rfl, rfl⟩
        show AW X 14 0 0 ad ce 9 [(0, .ref (ad (3, 0, 0))), (1, .int a), (2, .int r), (3, .int b), (4, .int p)] [.int (bI (decide (1 ≤ Int32.toInt64 a ∧ Int32.toInt64 a ≤ 40)))]
        refine aw_topi (v' := 1) ((bI_t ((in32 rfl rfl).mpr h1)).symm) ?_
        show AW X 14 0 0 ad ce 9 [(0, .ref (ad (3, 0, 0))), (1, .int a), (2, .int r), (3, .int b), (4, .int p)] [.int 1]
        refine aw_if_eq C (tgt := 45) d_R_odds_9 (by decide) (fun h9 => absurd h9 (by decide)) (fun h9 => ?_)
        refine aw_iload_n C d_R_odds_12 rfl (j := 2) rfl ?_
        refine aw_i2l C d_R_odds_13 ?_
        refine aw_lconst C (v := 0) d_R_odds_14 (by decide) ?_
        refine aw_iload_n C d_R_odds_15 rfl (j := 1) rfl ?_
        refine aw_i2l C d_R_odds_16 ?_
        refine aw_callS C I (as := [.long (Int32.toInt64 r), .long 0, .long (Int32.toInt64 a)]) (rest := []) (r_isIn l G ad ce (Int32.toInt64 r) 0 (Int32.toInt64 a)) g_R_70 ⟨by decide, by decide⟩ ⟨by decide, by decide⟩ rfl (Nat.le_of_ble_eq_true rfl) d_R_odds_17 ?_
        rintro _ _ _ ⟨rfl, rfl, rfl⟩
        show AW X 14 0 0 ad ce 20 [(0, .ref (ad (3, 0, 0))), (1, .int a), (2, .int r), (3, .int b), (4, .int p)] [.int (bI (decide (0 ≤ Int32.toInt64 r ∧ Int32.toInt64 r ≤ Int32.toInt64 a)))]
        refine aw_topi (v' := 1) ((bI_t ((in32 (lo := 0) rfl (Int32.toInt_toInt64 _)).mpr h3)).symm) ?_
        show AW X 14 0 0 ad ce 20 [(0, .ref (ad (3, 0, 0))), (1, .int a), (2, .int r), (3, .int b), (4, .int p)] [.int 1]
        refine aw_if_eq C (tgt := 45) d_R_odds_20 (by decide) (fun h20 => absurd h20 (by decide)) (fun h20 => ?_)
        refine aw_iload_n C d_R_odds_23 rfl (j := 3) rfl ?_
        refine aw_i2l C d_R_odds_24 ?_
        refine aw_lconst C (v := 0) d_R_odds_25 (by decide) ?_
        refine aw_iload_n C d_R_odds_26 rfl (j := 1) rfl ?_
        refine aw_i2l C d_R_odds_27 ?_
        refine aw_callS C I (as := [.long (Int32.toInt64 b), .long 0, .long (Int32.toInt64 a)]) (rest := []) (r_isIn l G ad ce (Int32.toInt64 b) 0 (Int32.toInt64 a)) g_R_70 ⟨by decide, by decide⟩ ⟨by decide, by decide⟩ rfl (Nat.le_of_ble_eq_true rfl) d_R_odds_28 ?_
        rintro _ _ _ ⟨rfl, rfl, rfl⟩
        show AW X 14 0 0 ad ce 31 [(0, .ref (ad (3, 0, 0))), (1, .int a), (2, .int r), (3, .int b), (4, .int p)] [.int (bI (decide (0 ≤ Int32.toInt64 b ∧ Int32.toInt64 b ≤ Int32.toInt64 a)))]
        refine aw_topi (v' := 0) ((bI_f (fun q => h4 ((in32 (lo := 0) rfl (Int32.toInt_toInt64 _)).mp q))).symm) ?_
        show AW X 14 0 0 ad ce 31 [(0, .ref (ad (3, 0, 0))), (1, .int a), (2, .int r), (3, .int b), (4, .int p)] [.int 0]
        refine aw_if_eq C (tgt := 45) d_R_odds_31 (by decide) (fun h31 => ?_) (fun h31 => absurd (rfl) h31)
        refine aw_ldc2 C tw_437 d_R_odds_45 ?_
        refine aw_lret C E (by decide) (by decide) d_R_odds_48 ?_
        exact ⟨by rw [f_odds, if_neg hc], rfl, rfl⟩
    · skip
      show AW X 14 0 0 ad ce 0 [(0, .ref (ad (3, 0, 0))), (1, .int a), (2, .int r), (3, .int b), (4, .int p)] []
      refine aw_iload_n C d_R_odds_0 rfl (j := 1) rfl ?_
      refine aw_i2l C d_R_odds_1 ?_
      refine aw_lconst C (v := 1) d_R_odds_2 (by decide) ?_
      refine aw_ldc2 C tw_436 d_R_odds_3 ?_
      refine aw_callS C I (as := [.long (Int32.toInt64 a), .long 1, .long 40]) (rest := []) (r_isIn l G ad ce (Int32.toInt64 a) 1 40) g_R_70 ⟨by decide, by decide⟩ ⟨by decide, by decide⟩ rfl (Nat.le_of_ble_eq_true rfl) d_R_odds_6 ?_
      rintro _ _ _ ⟨rfl, rfl, rfl⟩
      show AW X 14 0 0 ad ce 9 [(0, .ref (ad (3, 0, 0))), (1, .int a), (2, .int r), (3, .int b), (4, .int p)] [.int (bI (decide (1 ≤ Int32.toInt64 a ∧ Int32.toInt64 a ≤ 40)))]
      refine aw_topi (v' := 1) ((bI_t ((in32 rfl rfl).mpr h1)).symm) ?_
      show AW X 14 0 0 ad ce 9 [(0, .ref (ad (3, 0, 0))), (1, .int a), (2, .int r), (3, .int b), (4, .int p)] [.int 1]
      refine aw_if_eq C (tgt := 45) d_R_odds_9 (by decide) (fun h9 => absurd h9 (by decide)) (fun h9 => ?_)
      refine aw_iload_n C d_R_odds_12 rfl (j := 2) rfl ?_
      refine aw_i2l C d_R_odds_13 ?_
      refine aw_lconst C (v := 0) d_R_odds_14 (by decide) ?_
      refine aw_iload_n C d_R_odds_15 rfl (j := 1) rfl ?_
      refine aw_i2l C d_R_odds_16 ?_
      refine aw_callS C I (as := [.long (Int32.toInt64 r), .long 0, .long (Int32.toInt64 a)]) (rest := []) (r_isIn l G ad ce (Int32.toInt64 r) 0 (Int32.toInt64 a)) g_R_70 ⟨by decide, by decide⟩ ⟨by decide, by decide⟩ rfl (Nat.le_of_ble_eq_true rfl) d_R_odds_17 ?_
      rintro _ _ _ ⟨rfl, rfl, rfl⟩
      show AW X 14 0 0 ad ce 20 [(0, .ref (ad (3, 0, 0))), (1, .int a), (2, .int r), (3, .int b), (4, .int p)] [.int (bI (decide (0 ≤ Int32.toInt64 r ∧ Int32.toInt64 r ≤ Int32.toInt64 a)))]
      refine aw_topi (v' := 0) ((bI_f (fun q => h3 ((in32 (lo := 0) rfl (Int32.toInt_toInt64 _)).mp q))).symm) ?_
      show AW X 14 0 0 ad ce 20 [(0, .ref (ad (3, 0, 0))), (1, .int a), (2, .int r), (3, .int b), (4, .int p)] [.int 0]
      refine aw_if_eq C (tgt := 45) d_R_odds_20 (by decide) (fun h20 => ?_) (fun h20 => absurd (rfl) h20)
      refine aw_ldc2 C tw_437 d_R_odds_45 ?_
      refine aw_lret C E (by decide) (by decide) d_R_odds_48 ?_
      exact ⟨by rw [f_odds, if_neg hc], rfl, rfl⟩
  · skip
    show AW X 14 0 0 ad ce 0 [(0, .ref (ad (3, 0, 0))), (1, .int a), (2, .int r), (3, .int b), (4, .int p)] []
    refine aw_iload_n C d_R_odds_0 rfl (j := 1) rfl ?_
    refine aw_i2l C d_R_odds_1 ?_
    refine aw_lconst C (v := 1) d_R_odds_2 (by decide) ?_
    refine aw_ldc2 C tw_436 d_R_odds_3 ?_
    refine aw_callS C I (as := [.long (Int32.toInt64 a), .long 1, .long 40]) (rest := []) (r_isIn l G ad ce (Int32.toInt64 a) 1 40) g_R_70 ⟨by decide, by decide⟩ ⟨by decide, by decide⟩ rfl (Nat.le_of_ble_eq_true rfl) d_R_odds_6 ?_
    rintro _ _ _ ⟨rfl, rfl, rfl⟩
    show AW X 14 0 0 ad ce 9 [(0, .ref (ad (3, 0, 0))), (1, .int a), (2, .int r), (3, .int b), (4, .int p)] [.int (bI (decide (1 ≤ Int32.toInt64 a ∧ Int32.toInt64 a ≤ 40)))]
    refine aw_topi (v' := 0) ((bI_f (fun q => h1 ((in32 rfl rfl).mp q))).symm) ?_
    show AW X 14 0 0 ad ce 9 [(0, .ref (ad (3, 0, 0))), (1, .int a), (2, .int r), (3, .int b), (4, .int p)] [.int 0]
    refine aw_if_eq C (tgt := 45) d_R_odds_9 (by decide) (fun h9 => ?_) (fun h9 => absurd (rfl) h9)
    refine aw_ldc2 C tw_437 d_R_odds_45 ?_
    refine aw_lret C E (by decide) (by decide) d_R_odds_48 ?_
    exact ⟨by rw [f_odds, if_neg hc], rfl, rfl⟩
