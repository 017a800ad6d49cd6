def bc1 (x : Int32) : Int32 := x - ((Int32.toUInt32 x >>> (Int32.toUInt32 1 &&& Int32.toUInt32 31)).toInt32 &&& 1431655765)
def bc2 (x : Int32) : Int32 := (x &&& 858993459) + ((Int32.toUInt32 x >>> (Int32.toUInt32 2 &&& Int32.toUInt32 31)).toInt32 &&& 858993459)
def bc3 (x : Int32) : Int32 := (x + (Int32.toUInt32 x >>> (Int32.toUInt32 4 &&& Int32.toUInt32 31)).toInt32) &&& 252645135
def bc4 (x : Int32) : Int32 := x + (Int32.toUInt32 x >>> (Int32.toUInt32 8 &&& Int32.toUInt32 31)).toInt32
def bc5 (x : Int32) : Int32 := x + (Int32.toUInt32 x >>> (Int32.toUInt32 16 &&& Int32.toUInt32 31)).toInt32
def bcF (x : Int32) : Int32 := bc5 (bc4 (bc3 (bc2 (bc1 x)))) &&& 63
def anyI (f : Nat → Int32) (x : Int32) : Nat → Nat → Bool
  | 0, _ => false
  | m + 1, a => decide (f a = x) || anyI f x m (a + 1)
theorem anyI_congr {f g : Nat → Int32} {x : Int32} : ∀ {m a : Nat}, (∀ i, a ≤ i → i < a + m → f i = g i) → anyI f x m a = anyI g x m a := by
  intro m
  induction m with
  | zero => intro a _; rfl
  | succ m ih =>
    intro a h
    simp only [anyI]
    rw [h a (Nat.le_refl a) (by omega), ih (fun i h1 h2 => h i (by omega) (by omega))]
def sumF (h : Nat → Bool) : Nat → Nat → Int32 → Int32
  | 0, _, acc => acc
  | m + 1, a, acc => sumF h m (a + 1) (acc + bI (h a))
def f_states (S : SysS) : Int32 := sumF (fun s => anyI (fun i => k_st (s_car S i)) (nI s) (s_cn S) 0) 7 0 0
def mO (b0 b1 b2 b3 b4 b5 b6 : Bool) : Int32 := (if b0 then 1 else 0) ||| (if b1 then 2 else 0) ||| (if b2 then 4 else 0) ||| (if b3 then 8 else 0) ||| (if b4 then 16 else 0) ||| (if b5 then 32 else 0) ||| (if b6 then 64 else 0)
def mOf (h : Nat → Bool) : Int32 := mO (h 0) (h 1) (h 2) (h 3) (h 4) (h 5) (h 6)
theorem mO_step : ∀ t, t < 7 → ∀ b0 b1 b2 b3 b4 b5 b6 : Bool, mO b0 b1 b2 b3 b4 b5 b6 ||| ((1 : Int32) <<< (nI t &&& 31)) = mO (b0 || decide (nI t = nI 0)) (b1 || decide (nI t = nI 1)) (b2 || decide (nI t = nI 2)) (b3 || decide (nI t = nI 3)) (b4 || decide (nI t = nI 4)) (b5 || decide (nI t = nI 5)) (b6 || decide (nI t = nI 6)) := by decide +kernel
theorem mO_cnt : ∀ b0 b1 b2 b3 b4 b5 b6 : Bool, bcF (mO b0 b1 b2 b3 b4 b5 b6) = 0 + bI b0 + bI b1 + bI b2 + bI b3 + bI b4 + bI b5 + bI b6 := by decide +kernel
set_option maxRecDepth 100000 in
set_option maxHeartbeats 4000000 in
theorem c_bitCount (l : Launch) (G : aw_G) (ad : aw_Ad) (ce : aw_He) (x : Int32) : CT l G M_I_bitCount 0 0 0 0 [.int x] ad ce (rN (some (.int (bcF x))) ad ce) := by
  refine CT.ofF (by decide +kernel) (Nat.le_of_ble_eq_true rfl) ?_
  intro X C I E
  show AW X 1 0 0 ad ce 0 [(0, .int x)] []
  refine aw_iload_n C d_I_bitCount_0 rfl (j := 0) rfl ?_
  refine aw_iload_n C d_I_bitCount_1 rfl (j := 0) rfl ?_
  refine aw_iconst C (v := 1) d_I_bitCount_2 (by decide) ?_
  refine aw_iushr C d_I_bitCount_3 ?_
  refine aw_ldcw C tw_290 d_I_bitCount_4 ?_
  refine aw_iand C d_I_bitCount_7 ?_
  refine aw_isub C d_I_bitCount_8 ?_
  refine aw_topi (v' := bc1 (x)) (rfl) ?_
  refine aw_istore_n C (lv' := [(0, .int (bc1 (x)))]) d_I_bitCount_9 rfl (by decide) rfl ?_
  refine aw_iload_n C d_I_bitCount_10 rfl (j := 0) rfl ?_
  refine aw_ldcw C tw_291 d_I_bitCount_11 ?_
  refine aw_iand C d_I_bitCount_14 ?_
  refine aw_iload_n C d_I_bitCount_15 rfl (j := 0) rfl ?_
  refine aw_iconst C (v := 2) d_I_bitCount_16 (by decide) ?_
  refine aw_iushr C d_I_bitCount_17 ?_
  refine aw_ldcw C tw_291 d_I_bitCount_18 ?_
  refine aw_iand C d_I_bitCount_21 ?_
  refine aw_iadd C d_I_bitCount_22 ?_
  refine aw_topi (v' := bc2 (bc1 x)) (rfl) ?_
  refine aw_istore_n C (lv' := [(0, .int (bc2 (bc1 x)))]) d_I_bitCount_23 rfl (by decide) rfl ?_
  refine aw_iload_n C d_I_bitCount_24 rfl (j := 0) rfl ?_
  refine aw_iload_n C d_I_bitCount_25 rfl (j := 0) rfl ?_
  refine aw_iconst C (v := 4) d_I_bitCount_26 (by decide) ?_
  refine aw_iushr C d_I_bitCount_27 ?_
  refine aw_iadd C d_I_bitCount_28 ?_
  refine aw_ldcw C tw_292 d_I_bitCount_29 ?_
  refine aw_iand C d_I_bitCount_32 ?_
  refine aw_topi (v' := bc3 (bc2 (bc1 x))) (rfl) ?_
  refine aw_istore_n C (lv' := [(0, .int (bc3 (bc2 (bc1 x))))]) d_I_bitCount_33 rfl (by decide) rfl ?_
  refine aw_iload_n C d_I_bitCount_34 rfl (j := 0) rfl ?_
  refine aw_iload_n C d_I_bitCount_35 rfl (j := 0) rfl ?_
  refine aw_bipush C (v := 8) d_I_bitCount_36 (by decide) ?_
  refine aw_iushr C d_I_bitCount_38 ?_
  refine aw_iadd C d_I_bitCount_39 ?_
  refine aw_topi (v' := bc4 (bc3 (bc2 (bc1 x)))) (rfl) ?_
  refine aw_istore_n C (lv' := [(0, .int (bc4 (bc3 (bc2 (bc1 x)))))]) d_I_bitCount_40 rfl (by decide) rfl ?_
  refine aw_iload_n C d_I_bitCount_41 rfl (j := 0) rfl ?_
  refine aw_iload_n C d_I_bitCount_42 rfl (j := 0) rfl ?_
  refine aw_bipush C (v := 16) d_I_bitCount_43 (by decide) ?_
  refine aw_iushr C d_I_bitCount_45 ?_
  refine aw_iadd C d_I_bitCount_46 ?_
  refine aw_topi (v' := bc5 (bc4 (bc3 (bc2 (bc1 x))))) (rfl) ?_
  refine aw_istore_n C (lv' := [(0, .int (bc5 (bc4 (bc3 (bc2 (bc1 x))))))]) d_I_bitCount_47 rfl (by decide) rfl ?_
  refine aw_iload_n C d_I_bitCount_48 rfl (j := 0) rfl ?_
  refine aw_bipush C (v := 63) d_I_bitCount_49 (by decide) ?_
  refine aw_iand C d_I_bitCount_51 ?_
  refine aw_iret C E (rfl) (by decide) (by decide) d_I_bitCount_52 ?_
  exact ⟨rfl, rfl, rfl⟩
set_option maxRecDepth 100000 in
set_option maxHeartbeats 4000000 in
theorem C_states (l : Launch) (G : aw_G) (ad : aw_Ad) (ce : aw_He) (S : SysS) (hL : LayC S ad ce) (hT : ∀ i, i < s_cn S → ∃ t : Nat, t < 7 ∧ k_st (s_car S i) = nI t) : CT l G M_C_states 1 21 0 0 [.ref (ad (0, 0, 0))] ad ce (rN (some (.int (f_states S))) ad ce) := by
  refine CT.of (by decide) (Nat.le_of_ble_eq_true rfl) ?_
  intro X C I E
  have hL0 := hL
  obtain ⟨ho, hca, hpa, hli, hlo, hcars, hpaps, hnoc, hnop, hb1, hb2, hb3, hb4⟩ := hL0
  have loop : ∀ (m a : Nat) (h : Nat → Bool), a + m = s_cn S → (∀ s, s < 7 → (h s || anyI (fun i => k_st (s_car S i)) (nI s) m a) = (fun s => anyI (fun i => k_st (s_car S i)) (nI s) (s_cn S) 0) s) → AW X 4 0 0 ad ce 4 [(2, .int (nI a)), (1, .int (mOf h)), (0, .ref (ad (0, 0, 0)))] [] := by
    intro m
    induction m with
    | zero =>
      intro a h ha hr
      refine aw_iload_n C d_C_states_4 rfl (j := 0) rfl ?_
      refine aw_aload_n C d_C_states_5 rfl (j := 2) rfl ?_
      refine aw_get C F_C ho 1 (by decide) tw_20 rfl d_C_states_6 ?_
      refine aw_icmp_ge C (tgt := 37) d_C_states_9 (by decide) (fun h9 => ?_) (fun h9 => absurd (nI_le (by omega) (by omega)) h9)
      refine aw_iload_n C d_C_states_37 rfl (j := 1) rfl ?_
      refine aw_callS C I (as := [.int (mOf h)]) (rest := []) (c_bitCount l G ad ce (mOf h)) g_C_143 ⟨by decide, by decide⟩ ⟨by decide, by decide⟩ rfl (Nat.le_of_ble_eq_true rfl) d_C_states_38 ?_
      rintro _ _ _ ⟨rfl, rfl, rfl⟩
      show AW X 4 0 0 ad ce 41 [(2, .int (nI a)), (1, .int (mOf h)), (0, .ref (ad (0, 0, 0)))] [.int (bcF (mOf h))]
      refine aw_iret C E (rfl) (by decide) (by decide) d_C_states_41 ?_
      refine ⟨sI ?_, rfl, rfl⟩
      have hh : ∀ s, s < 7 → h s = (fun s => anyI (fun i => k_st (s_car S i)) (nI s) (s_cn S) 0) s := fun s hs => by rw [← hr s hs]; simp [anyI]
      rw [mOf, mO_cnt, hh 0 (by decide), hh 1 (by decide), hh 2 (by decide), hh 3 (by decide), hh 4 (by decide), hh 5 (by decide), hh 6 (by decide)]
      rfl
    | succ m ih =>
      intro a h ha hr
      refine aw_iload_n C d_C_states_4 rfl (j := 0) rfl ?_
      refine aw_aload_n C d_C_states_5 rfl (j := 2) rfl ?_
      refine aw_get C F_C ho 1 (by decide) tw_20 rfl d_C_states_6 ?_
      refine aw_icmp_ge C (tgt := 37) d_C_states_9 (by decide) (fun h9 => absurd h9 (nI_ge (by omega) (by omega))) (fun h9 => ?_)
      refine aw_aload_n C d_C_states_12 rfl (j := 2) rfl ?_
      refine aw_iload_n C d_C_states_13 rfl (j := 0) rfl ?_
      refine aw_callV C I (k := (0, 0, 0)) (as := [.int (nI a)]) (rest := []) (c_findC_in l G ad ce S hL a (by omega)) g_C_56 ho rfl rfl ⟨by decide, by decide⟩ ⟨by decide, by decide⟩ rfl (Nat.le_of_ble_eq_true rfl) d_C_states_14 ?_
      rintro _ _ _ ⟨rfl, rfl, rfl⟩
      show AW X 4 0 0 ad ce 17 [(2, .int (nI a)), (1, .int (mOf h)), (0, .ref (ad (0, 0, 0)))] [.ref (ad (1, a, 0))]
      have hka := (hcars a (by omega)).1
      refine aw_astore_n C (lv' := [(3, .ref (ad (1, a, 0))), (2, .int (nI a)), (1, .int (mOf h)), (0, .ref (ad (0, 0, 0)))]) d_C_states_17 rfl (by decide) rfl ?_
      refine aw_aload_n C d_C_states_18 rfl (j := 0) rfl ?_
      refine aw_ifnull C d_C_states_19 ?_
      refine aw_iload_n C d_C_states_22 rfl (j := 2) rfl ?_
      refine aw_iconst C (v := 1) d_C_states_23 (by decide) ?_
      refine aw_aload_n C d_C_states_24 rfl (j := 0) rfl ?_
      refine aw_get C F_K hka 10 (by decide) tw_89 rfl d_C_states_25 ?_
      refine aw_ishl C d_C_states_28 ?_
      refine aw_ior C d_C_states_29 ?_
      refine aw_topi (v' := mOf (fun s => h s || decide (k_st (s_car S a) = nI s))) (by
      obtain ⟨t, ht, et⟩ := hT a (by omega)
      rw [et, mOf, mO_step t ht]; rfl) ?_
      refine aw_istore_n C (lv' := [(1, .int (mOf (fun s => h s || decide (k_st (s_car S a) = nI s)))), (3, .ref (ad (1, a, 0))), (2, .int (nI a)), (0, .ref (ad (0, 0, 0)))]) d_C_states_30 rfl (by decide) rfl ?_
      refine aw_iinc C (v := nI (a + 1)) (lv' := [(2, .int (nI (a + 1))), (1, .int (mOf (fun s => h s || decide (k_st (s_car S a) = nI s)))), (3, .ref (ad (1, a, 0))), (0, .ref (ad (0, 0, 0)))]) d_C_states_31 (j := 2) rfl (nI_1 _) (by decide) rfl ?_
      refine aw_goto C (tgt := 4) d_C_states_34 (by decide) ?_
      refine aw_sub (lv' := [(2, .int (nI (a + 1))), (1, .int (mOf (fun s => h s || decide (k_st (s_car S a) = nI s)))), (0, .ref (ad (0, 0, 0)))]) (by simp) ?_
      exact ih (a + 1) _ (by omega) (fun s hs => by rw [← hr s hs]; simp only [anyI, Bool.or_assoc])
  show AW X 4 0 0 ad ce 0 [(0, .ref (ad (0, 0, 0)))] []
  refine aw_iconst C (v := 0) d_C_states_0 (by decide) ?_
  refine aw_istore_n C (lv' := [(1, .int 0), (0, .ref (ad (0, 0, 0)))]) d_C_states_1 rfl (by decide) rfl ?_
  refine aw_iconst C (v := 0) d_C_states_2 (by decide) ?_
  refine aw_istore_n C (lv' := [(2, .int 0), (1, .int 0), (0, .ref (ad (0, 0, 0)))]) d_C_states_3 rfl (by decide) rfl ?_
  refine aw_lv (lv' := [(2, .int (nI 0)), (1, .int (mOf (fun _ => false))), (0, .ref (ad (0, 0, 0)))]) (by simp only [nI_0]; rfl) ?_
  exact loop (s_cn S) 0 _ (by omega) (fun s _ => by rw [Bool.false_or])
set_option maxRecDepth 100000 in
set_option maxHeartbeats 4000000 in
theorem R_states (l : Launch) (G : aw_G) (ad : aw_Ad) (ce : aw_He) (S : SysS) (hS : LayR S ad ce) : CT l G M_R_states 0 0 0 0 [.ref (ad (3, 0, 0))] ad ce (rN (some (.int (f_states S))) ad ce) := by
  refine CT.of (by decide) (Nat.le_of_ble_eq_true rfl) ?_
  intro X C I E
  obtain ⟨kd, sr, np, st, la, gby, gdu, gwo, grd, un, ps, gpt, gff, gfc, hR, hE, hW⟩ := hS
  have hE0 := hE
  obtain ⟨hE1, hE2, hE3, hE4, hE5, hE6, hE7⟩ := hE0
  have hW0 := hW
  obtain ⟨⟨hb1, hb2, hb3, hb4⟩, hW2, hW3⟩ := hW0
  have hR0 := hR
  obtain ⟨r0, r1, r2, r3, r4, r5, r6, r7, r8, r9, r10, r11, r12, r14, r15, r17, r19⟩ := hR0
  have loop : ∀ (m a : Nat) (s : Int32), a + m = 7 → sumF (fun s => anyI (fun i => k_st (s_car S i)) (nI s) (s_cn S) 0) m a s = f_states S → AW X 5 0 0 ad ce 4 [(2, .int (nI a)), (1, .int s), (0, .ref (ad (3, 0, 0)))] [] := by
    intro m
    induction m with
    | zero =>
      intro a s ha hr
      refine aw_iload_n C d_R_states_4 rfl (j := 0) rfl ?_
      refine aw_bipush C (v := 6) d_R_states_5 (by decide) ?_
      refine aw_icmp_gt C (tgt := 69) d_R_states_7 (by decide) (fun h7 => ?_) (fun h7 => absurd (nI_lt (a := 6) (by omega) (by omega)) h7)
      refine aw_iload_n C d_R_states_69 rfl (j := 1) rfl ?_
      refine aw_iret C E (rfl) (by decide) (by decide) d_R_states_70 ?_
      exact ⟨sI hr, rfl, rfl⟩
    | succ m ih =>
      intro a s ha hr
      refine aw_iload_n C d_R_states_4 rfl (j := 0) rfl ?_
      refine aw_bipush C (v := 6) d_R_states_5 (by decide) ?_
      refine aw_icmp_gt C (tgt := 69) d_R_states_7 (by decide) (fun h7 => absurd h7 (nI_nlt (a := 6) (b := a) (by omega) (by omega))) (fun h7 => ?_)
      refine aw_iconst C (v := 0) d_R_states_10 (by decide) ?_
      refine aw_istore_n C (lv' := [(3, .int 0), (2, .int (nI a)), (1, .int s), (0, .ref (ad (3, 0, 0)))]) d_R_states_11 rfl (by decide) rfl ?_
      refine aw_iconst C (v := 0) d_R_states_12 (by decide) ?_
      refine aw_istore C (lv' := [(4, .int 0), (3, .int 0), (2, .int (nI a)), (1, .int s), (0, .ref (ad (3, 0, 0)))]) d_R_states_13 (by decide) rfl ?_
      have inner : ∀ (mi c : Nat) (h : Bool), c + mi = s_cn S → (h || anyI (fun i => k_st (s_car S i)) (nI a) mi c) = anyI (fun i => k_st (s_car S i)) (nI a) (s_cn S) 0 → AW X 5 0 0 ad ce 15 [(4, .int (nI c)), (3, .int (bI h)), (2, .int (nI a)), (1, .int s), (0, .ref (ad (3, 0, 0)))] [] := by
        intro mi
        induction mi with
        | zero =>
          intro c h hci hri
          refine aw_iload C d_R_states_15 (j := 0) rfl ?_
          refine aw_aload_n C d_R_states_17 rfl (j := 4) rfl ?_
          refine aw_get C F_R r0 0 (by decide) tw_299 rfl d_R_states_18 ?_
          refine aw_icmp_ge C (tgt := 51) d_R_states_21 (by decide) (fun h21 => ?_) (fun h21 => absurd (nI_le (by omega) (by omega)) h21)
          refine aw_iload_n C d_R_states_51 rfl (j := 3) rfl ?_
          refine aw_iload_n C d_R_states_52 rfl (j := 1) rfl ?_
          refine aw_if_eq C (tgt := 60) d_R_states_53 (by decide) (fun h53 => ?_) (fun h53 => ?_)
          · refine aw_iconst C (v := 0) d_R_states_60 (by decide) ?_
            refine aw_iadd C d_R_states_61 ?_
            refine aw_istore_n C (lv' := [(1, .int (s + 0)), (4, .int (nI c)), (3, .int (bI h)), (2, .int (nI a)), (0, .ref (ad (3, 0, 0)))]) d_R_states_62 rfl (by decide) rfl ?_
            refine aw_iinc C (v := nI (a + 1)) (lv' := [(2, .int (nI (a + 1))), (1, .int (s + 0)), (4, .int (nI c)), (3, .int (bI h)), (0, .ref (ad (3, 0, 0)))]) d_R_states_63 (j := 3) rfl (nI_1 _) (by decide) rfl ?_
            refine aw_goto C (tgt := 4) d_R_states_66 (by decide) ?_
            refine aw_sub (lv' := [(2, .int (nI (a + 1))), (1, .int (s + 0)), (0, .ref (ad (3, 0, 0)))]) (by simp) ?_
            rw [bI_eq] at h53
            refine ih (a + 1) _ (by omega) ?_
            rw [← hr, sumF, show anyI (fun i => k_st (s_car S i)) (nI a) (s_cn S) 0 = false from by rw [← hri]; subst h53; simp [anyI]]; rfl
          · refine aw_iconst C (v := 1) d_R_states_56 (by decide) ?_
            refine aw_goto C (tgt := 61) d_R_states_57 (by decide) ?_
            refine aw_iadd C d_R_states_61 ?_
            refine aw_istore_n C (lv' := [(1, .int (s + 1)), (4, .int (nI c)), (3, .int (bI h)), (2, .int (nI a)), (0, .ref (ad (3, 0, 0)))]) d_R_states_62 rfl (by decide) rfl ?_
            refine aw_iinc C (v := nI (a + 1)) (lv' := [(2, .int (nI (a + 1))), (1, .int (s + 1)), (4, .int (nI c)), (3, .int (bI h)), (0, .ref (ad (3, 0, 0)))]) d_R_states_63 (j := 3) rfl (nI_1 _) (by decide) rfl ?_
            refine aw_goto C (tgt := 4) d_R_states_66 (by decide) ?_
            refine aw_sub (lv' := [(2, .int (nI (a + 1))), (1, .int (s + 1)), (0, .ref (ad (3, 0, 0)))]) (by simp) ?_
            rw [bI_ne] at h53
            refine ih (a + 1) _ (by omega) ?_
            rw [← hr, sumF, show anyI (fun i => k_st (s_car S i)) (nI a) (s_cn S) 0 = true from by rw [← hri]; subst h53; simp [anyI]]; rfl
        | succ mi ihi =>
          intro c h hci hri
          refine aw_iload C d_R_states_15 (j := 0) rfl ?_
          refine aw_aload_n C d_R_states_17 rfl (j := 4) rfl ?_
          refine aw_get C F_R r0 0 (by decide) tw_299 rfl d_R_states_18 ?_
          refine aw_icmp_ge C (tgt := 51) d_R_states_21 (by decide) (fun h21 => absurd h21 (nI_ge (by omega) (by omega))) (fun h21 => ?_)
          refine aw_iload_n C d_R_states_24 rfl (j := 1) rfl ?_
          refine aw_if_ne C (tgt := 39) d_R_states_25 (by decide) (fun h25 => ?_) (fun h25 => ?_)
          · refine aw_iconst C (v := 1) d_R_states_39 (by decide) ?_
            refine aw_goto C (tgt := 44) d_R_states_40 (by decide) ?_
            refine aw_istore_n C (lv' := [(3, .int 1), (4, .int (nI c)), (2, .int (nI a)), (1, .int s), (0, .ref (ad (3, 0, 0)))]) d_R_states_44 rfl (by decide) rfl ?_
            refine aw_iinc C (v := nI (c + 1)) (lv' := [(4, .int (nI (c + 1))), (3, .int 1), (2, .int (nI a)), (1, .int s), (0, .ref (ad (3, 0, 0)))]) d_R_states_45 (j := 1) rfl (nI_1 _) (by decide) rfl ?_
            refine aw_goto C (tgt := 15) d_R_states_48 (by decide) ?_
            refine aw_lv (lv' := [(4, .int (nI (c + 1))), (3, .int (bI true)), (2, .int (nI a)), (1, .int s), (0, .ref (ad (3, 0, 0)))]) rfl ?_
            exact ihi (c + 1) true (by omega) (by rw [← hri]; rw [bI_ne] at h25; subst h25; simp [anyI])
          · refine aw_aload_n C d_R_states_28 rfl (j := 4) rfl ?_
            refine aw_get C F_R r0 4 (by decide) tw_303 rfl d_R_states_29 ?_
            refine aw_iload C d_R_states_32 (j := 0) rfl ?_
            refine ar_iald C r4 (j := c) (rfl) (by omega) (by omega) d_R_states_34 ?_
            refine aw_topi (v' := k_st (s_car S c)) ((hE1 c (by omega)).2.2.2.1) ?_
            refine aw_iload_n C d_R_states_35 rfl (j := 2) rfl ?_
            refine aw_icmp_ne C (tgt := 43) d_R_states_36 (by decide) (fun h36 => ?_) (fun h36 => ?_)
            · refine aw_iconst C (v := 0) d_R_states_43 (by decide) ?_
              refine aw_istore_n C (lv' := [(3, .int 0), (4, .int (nI c)), (2, .int (nI a)), (1, .int s), (0, .ref (ad (3, 0, 0)))]) d_R_states_44 rfl (by decide) rfl ?_
              refine aw_iinc C (v := nI (c + 1)) (lv' := [(4, .int (nI (c + 1))), (3, .int 0), (2, .int (nI a)), (1, .int s), (0, .ref (ad (3, 0, 0)))]) d_R_states_45 (j := 1) rfl (nI_1 _) (by decide) rfl ?_
              refine aw_goto C (tgt := 15) d_R_states_48 (by decide) ?_
              refine aw_lv (lv' := [(4, .int (nI (c + 1))), (3, .int (bI false)), (2, .int (nI a)), (1, .int s), (0, .ref (ad (3, 0, 0)))]) rfl ?_
              exact ihi (c + 1) false (by omega) (by rw [← hri]; rw [bI_eq] at h25; subst h25; simp [anyI, h36])
            · refine aw_iconst C (v := 1) d_R_states_39 (by decide) ?_
              refine aw_goto C (tgt := 44) d_R_states_40 (by decide) ?_
              refine aw_istore_n C (lv' := [(3, .int 1), (4, .int (nI c)), (2, .int (nI a)), (1, .int s), (0, .ref (ad (3, 0, 0)))]) d_R_states_44 rfl (by decide) rfl ?_
              refine aw_iinc C (v := nI (c + 1)) (lv' := [(4, .int (nI (c + 1))), (3, .int 1), (2, .int (nI a)), (1, .int s), (0, .ref (ad (3, 0, 0)))]) d_R_states_45 (j := 1) rfl (nI_1 _) (by decide) rfl ?_
              refine aw_goto C (tgt := 15) d_R_states_48 (by decide) ?_
              refine aw_lv (lv' := [(4, .int (nI (c + 1))), (3, .int (bI true)), (2, .int (nI a)), (1, .int s), (0, .ref (ad (3, 0, 0)))]) rfl ?_
              exact ihi (c + 1) true (by omega) (by rw [← hri]; rw [bI_eq] at h25; subst h25; simp [anyI, h36])
      refine aw_lv (lv' := [(4, .int (nI 0)), (3, .int (bI false)), (2, .int (nI a)), (1, .int s), (0, .ref (ad (3, 0, 0)))]) (by simp only [nI_0]; rfl) ?_
      exact inner (s_cn S) 0 false (by omega) (by rw [Bool.false_or])
  show AW X 5 0 0 ad ce 0 [(0, .ref (ad (3, 0, 0)))] []
  refine aw_iconst C (v := 0) d_R_states_0 (by decide) ?_
  refine aw_istore_n C (lv' := [(1, .int 0), (0, .ref (ad (3, 0, 0)))]) d_R_states_1 rfl (by decide) rfl ?_
  refine aw_iconst C (v := 0) d_R_states_2 (by decide) ?_
  refine aw_istore_n C (lv' := [(2, .int 0), (1, .int 0), (0, .ref (ad (3, 0, 0)))]) d_R_states_3 rfl (by decide) rfl ?_
  refine aw_lv (lv' := [(2, .int (nI 0)), (1, .int 0), (0, .ref (ad (3, 0, 0)))]) (by simp only [nI_0]) ?_
  exact loop 7 0 0 (by omega) rfl
