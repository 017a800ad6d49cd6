/-! the reference's cells -/
def LRc (ad : aw_Ad) (ce : aw_He) (cn pn ln on : Nat) (kd : Nat → Int32) (sr : Nat → Int64) (np st la gby gdu gwo grd un ps gpt gff gfc : Nat → Int32) (li : Nat → Int64) (lo : Nat → Int32) : Prop :=
  ce (3, 0, 0) = some (.inr (3, [.int (nI cn), .ref (ad (3, 0, 1)), .ref (ad (3, 0, 2)), .ref (ad (3, 0, 3)), .ref (ad (3, 0, 4)), .ref (ad (3, 0, 5)), .ref (ad (3, 0, 6)), .ref (ad (3, 0, 7)), .ref (ad (3, 0, 8)), .ref (ad (3, 0, 9)), .ref (ad (3, 0, 10)), .ref (ad (3, 0, 11)), .ref (ad (3, 0, 12)), .int (nI pn), .ref (ad (3, 0, 14)), .ref (ad (3, 0, 15)), .int (nI ln), .ref (ad (3, 0, 17)), .int (nI on), .ref (ad (3, 0, 19))])) ∧
  arI ce (3, 0, 1) 0 10 kd ∧
  arJ ce (3, 0, 2) 10 sr ∧
  arI ce (3, 0, 3) 0 10 np ∧
  arI ce (3, 0, 4) 0 10 st ∧
  arI ce (3, 0, 5) 0 10 la ∧
  arI ce (3, 0, 6) 0 640 gby ∧
  arI ce (3, 0, 7) 0 640 gdu ∧
  arI ce (3, 0, 8) 1 640 gwo ∧
  arI ce (3, 0, 9) 1 640 grd ∧
  arI ce (3, 0, 10) 0 10 un ∧
  arI ce (3, 0, 11) 0 10 ps ∧
  arI ce (3, 0, 12) 0 60 gpt ∧
  arI ce (3, 0, 14) 0 240 gff ∧
  arI ce (3, 0, 15) 0 20 gfc ∧
  arJ ce (3, 0, 17) 20 li ∧
  arI ce (3, 0, 19) 0 10 lo
def frR (ce ce' : aw_He) : Prop := ∀ q : aw_Lb, q.1 ≠ 3 → ce' q = ce q
theorem fr3 {p : Nat} {ce ce' : aw_He} (h : ∀ q, q ≠ (3, 0, p) → ce' q = ce q) : frR ce ce' := fun q hq => h q (fun e => by subst e; simp at hq)
theorem frR.trans {a b c : aw_He} (h1 : frR a b) (h2 : frR b c) : frR a c := fun q hq => (h2 q hq).trans (h1 q hq)
theorem frR.rf {a : aw_He} : frR a a := fun _ _ => rfl
/-- how the reference's numbers stand to the system's -/
def Rel (S : SysS) (kd : Nat → Int32) (sr : Nat → Int64) (np st la gby gdu gwo grd un ps gpt gff gfc : Nat → Int32) : Prop :=
  (∀ i, i < 10 → kd i = k_kd (s_car S i) ∧ sr i = k_sr (s_car S i) ∧ np i = nI (k_np (s_car S i)) ∧ st i = k_st (s_car S i) ∧ la i = k_la (s_car S i) ∧ un i = k_un (s_car S i) ∧ ps i = nI (k_ps (s_car S i))) ∧
  (∀ i k, i < s_cn S → k < k_np (s_car S i) → gby (64 * i + k) = k_by (s_car S i) k ∧ gdu (64 * i + k) = k_du (s_car S i) k ∧ gwo (64 * i + k) = k_wo (s_car S i) k ∧ grd (64 * i + k) = k_rd (s_car S i) k) ∧
  (∀ i k, s_cn S ≤ i → i < 10 → k < 64 → gby (64 * i + k) = 0 ∧ gdu (64 * i + k) = 0 ∧ gwo (64 * i + k) = 0 ∧ grd (64 * i + k) = 0) ∧
  (∀ i k, i < s_cn S → k < k_ps (s_car S i) → gpt (6 * i + k) = k_pt (s_car S i) k) ∧
  (∀ p k, p < s_pn S → k < (s_pap S p).1 → gff (12 * p + k) = (s_pap S p).2 k) ∧ (∀ p, p < s_pn S → gfc p = nI (s_pap S p).1) ∧
  (∀ i, s_cn S ≤ i → s_car S i = k_zero)
/-- what every system that comes about keeps -/
def WFS (S : SysS) : Prop := (s_cn S ≤ 10 ∧ s_pn S ≤ 20 ∧ s_ln S ≤ 20 ∧ s_on S ≤ 10) ∧ (∀ i, i < s_cn S → (1 ≤ k_np (s_car S i) ∧ k_np (s_car S i) ≤ 64) ∧ k_ps (s_car S i) ≤ 6) ∧ (∀ p, p < s_pn S → 6 ≤ (s_pap S p).1 ∧ (s_pap S p).1 ≤ 12)
def LayR (S : SysS) (ad : aw_Ad) (ce : aw_He) : Prop := ∃ (kd : Nat → Int32) (sr : Nat → Int64) (np st la gby gdu gwo grd un ps gpt gff gfc : Nat → Int32), LRc ad ce (s_cn S) (s_pn S) (s_ln S) (s_on S) kd sr np st la gby gdu gwo grd un ps gpt gff gfc (s_li S) (s_lo S) ∧ Rel S kd sr np st la gby gdu gwo grd un ps gpt gff gfc ∧ WFS S
theorem k64 (i k : Nat) : 64 * nI i + nI k = nI (64 * i + k) := by
  rw [show (64 : Int32) = nI 64 from rfl, pk_mul, nI_add]
theorem k6 (i k : Nat) : 6 * nI i + nI k = nI (6 * i + k) := by
  rw [show (6 : Int32) = nI 6 from rfl, pk_mul, nI_add]
theorem k12 (i k : Nat) : 12 * nI i + nI k = nI (12 * i + k) := by
  rw [show (12 : Int32) = nI 12 from rfl, pk_mul, nI_add]
theorem in32 {v lo hi : Int32} {L H : Int64} (hL : L.toInt = lo.toInt) (hH : H.toInt = hi.toInt) : (L ≤ v.toInt64 ∧ v.toInt64 ≤ H) ↔ (lo ≤ v ∧ v ≤ hi) := by
  simp only [Int64.le_iff_toInt_le, Int32.le_iff_toInt_le, Int32.toInt_toInt64, hL, hH]
/-- an answer, the reference's cells hold S' now -/
def rR (v : Option Value) (S' : SysS) (ad : aw_Ad) (ce : aw_He) : Option Value → aw_Ad → aw_He → Prop := fun r ad' ce' => r = v ∧ ad = ad' ∧ frR ce ce' ∧ LayR S' ad ce'
set_option maxRecDepth 100000 in
set_option maxHeartbeats 4000000 in
theorem r_isIn (l : Launch) (G : aw_G) (ad : aw_Ad) (ce : aw_He) (x a b : Int64) : CT l G M_R_isIn 0 0 0 0 [.long x, .long a, .long b] ad ce (rN (some (.int (bI (decide (a ≤ x ∧ x ≤ b))))) ad ce) := by
  refine CT.of (by decide) (Nat.le_of_ble_eq_true rfl) ?_
  intro X C I E
  show AW X 6 0 0 ad ce 0 [(0, .long x), (2, .long a), (4, .long b)] []
  refine aw_lload_n C d_R_isIn_0 rfl (j := 0) rfl ?_
  refine aw_lload_n C d_R_isIn_1 rfl (j := 1) rfl ?_
  refine aw_lcmp C d_R_isIn_2 ?_
  refine aw_if_lt C (tgt := 17) d_R_isIn_3 (by decide) (fun h3 => ?_) (fun h3 => ?_)
  · refine aw_iconst C (v := 0) d_R_isIn_17 (by decide) ?_
    refine aw_iret C E (rfl) (by decide) (by decide) d_R_isIn_18 ?_
    exact ⟨sI (bI_f (by (try simp only [lg_cmp_lt, lg_cmp_gt, lg_cmp_ge, lg_cmp_le, Int64.le_iff_toInt_le, Int64.lt_iff_toInt_lt] at *); omega)), rfl, rfl⟩
  · refine aw_lload_n C d_R_isIn_6 rfl (j := 0) rfl ?_
    refine aw_lload C d_R_isIn_7 (j := 2) rfl ?_
    refine aw_lcmp C d_R_isIn_9 ?_
    refine aw_if_gt C (tgt := 17) d_R_isIn_10 (by decide) (fun h10 => ?_) (fun h10 => ?_)
    · refine aw_iconst C (v := 0) d_R_isIn_17 (by decide) ?_
      refine aw_iret C E (rfl) (by decide) (by decide) d_R_isIn_18 ?_
      exact ⟨sI (bI_f (by (try simp only [lg_cmp_lt, lg_cmp_gt, lg_cmp_ge, lg_cmp_le, Int64.le_iff_toInt_le, Int64.lt_iff_toInt_lt] at *); omega)), rfl, rfl⟩
    · refine aw_iconst C (v := 1) d_R_isIn_13 (by decide) ?_
      refine aw_goto C (tgt := 18) d_R_isIn_14 (by decide) ?_
      refine aw_iret C E (rfl) (by decide) (by decide) d_R_isIn_18 ?_
      exact ⟨sI (bI_t (by (try simp only [lg_cmp_lt, lg_cmp_gt, lg_cmp_ge, lg_cmp_le, Int64.le_iff_toInt_le, Int64.lt_iff_toInt_lt] at *); omega)), rfl, rfl⟩
set_option maxRecDepth 100000 in
set_option maxHeartbeats 4000000 in
theorem r_isCarrier (l : Launch) (G : aw_G) (ad : aw_Ad) (ce : aw_He) (cn pn ln on : Nat) (kd : Nat → Int32) (sr : Nat → Int64) (np st la gby gdu gwo grd un ps gpt gff gfc : Nat → Int32) (li : Nat → Int64) (lo : Nat → Int32) (hR : LRc ad ce cn pn ln on kd sr np st la gby gdu gwo grd un ps gpt gff gfc li lo) (x : Int32) : CT l G M_R_isCarrier 0 0 0 0 [.ref (ad (3, 0, 0)), .int x] ad ce (rN (some (.int (bI (decide (0 ≤ x ∧ x < nI cn))))) ad ce) := by
  refine CT.of (by decide) (Nat.le_of_ble_eq_true rfl) ?_
  intro X C I E
  obtain ⟨r0, r1, r2, r3, r4, r5, r6, r7, r8, r9, r10, r11, r12, r14, r15, r17, r19⟩ := hR
  show AW X 2 0 0 ad ce 0 [(0, .ref (ad (3, 0, 0))), (1, .int x)] []
  refine aw_iload_n C d_R_isCarrier_0 rfl (j := 1) rfl ?_
  refine aw_if_lt C (tgt := 16) d_R_isCarrier_1 (by decide) (fun h1 => ?_) (fun h1 => ?_)
  · refine aw_iconst C (v := 0) d_R_isCarrier_16 (by decide) ?_
    refine aw_iret C E (rfl) (by decide) (by decide) d_R_isCarrier_17 ?_
    exact ⟨sI (bI_f (by (try simp only [Int32.le_iff_toInt_le, Int32.lt_iff_toInt_lt] at *); omega)), rfl, rfl⟩
  · refine aw_iload_n C d_R_isCarrier_4 rfl (j := 1) rfl ?_
    refine aw_aload_n C d_R_isCarrier_5 rfl (j := 0) rfl ?_
    refine aw_get C F_R r0 0 (by decide) tw_299 rfl d_R_isCarrier_6 ?_
    refine aw_icmp_ge C (tgt := 16) d_R_isCarrier_9 (by decide) (fun h9 => ?_) (fun h9 => ?_)
    · refine aw_iconst C (v := 0) d_R_isCarrier_16 (by decide) ?_
      refine aw_iret C E (rfl) (by decide) (by decide) d_R_isCarrier_17 ?_
      exact ⟨sI (bI_f (by (try simp only [Int32.le_iff_toInt_le, Int32.lt_iff_toInt_lt] at *); omega)), rfl, rfl⟩
    · refine aw_iconst C (v := 1) d_R_isCarrier_12 (by decide) ?_
      refine aw_goto C (tgt := 17) d_R_isCarrier_13 (by decide) ?_
      refine aw_iret C E (rfl) (by decide) (by decide) d_R_isCarrier_17 ?_
      exact ⟨sI (bI_t (by (try simp only [Int32.le_iff_toInt_le, Int32.lt_iff_toInt_lt] at *); omega)), rfl, rfl⟩
set_option maxRecDepth 100000 in
set_option maxHeartbeats 4000000 in
theorem r_isPaper (l : Launch) (G : aw_G) (ad : aw_Ad) (ce : aw_He) (cn pn ln on : Nat) (kd : Nat → Int32) (sr : Nat → Int64) (np st la gby gdu gwo grd un ps gpt gff gfc : Nat → Int32) (li : Nat → Int64) (lo : Nat → Int32) (hR : LRc ad ce cn pn ln on kd sr np st la gby gdu gwo grd un ps gpt gff gfc li lo) (x : Int32) : CT l G M_R_isPaper 0 0 0 0 [.ref (ad (3, 0, 0)), .int x] ad ce (rN (some (.int (bI (decide (0 ≤ x ∧ x < nI pn))))) ad ce) := by
  refine CT.of (by decide) (Nat.le_of_ble_eq_true rfl) ?_
  intro X C I E
  obtain ⟨r0, r1, r2, r3, r4, r5, r6, r7, r8, r9, r10, r11, r12, r14, r15, r17, r19⟩ := hR
  show AW X 2 0 0 ad ce 0 [(0, .ref (ad (3, 0, 0))), (1, .int x)] []
  refine aw_iload_n C d_R_isPaper_0 rfl (j := 1) rfl ?_
  refine aw_if_lt C (tgt := 16) d_R_isPaper_1 (by decide) (fun h1 => ?_) (fun h1 => ?_)
  · refine aw_iconst C (v := 0) d_R_isPaper_16 (by decide) ?_
    refine aw_iret C E (rfl) (by decide) (by decide) d_R_isPaper_17 ?_
    exact ⟨sI (bI_f (by (try simp only [Int32.le_iff_toInt_le, Int32.lt_iff_toInt_lt] at *); omega)), rfl, rfl⟩
  · refine aw_iload_n C d_R_isPaper_4 rfl (j := 1) rfl ?_
    refine aw_aload_n C d_R_isPaper_5 rfl (j := 0) rfl ?_
    refine aw_get C F_R r0 13 (by decide) tw_312 rfl d_R_isPaper_6 ?_
    refine aw_icmp_ge C (tgt := 16) d_R_isPaper_9 (by decide) (fun h9 => ?_) (fun h9 => ?_)
    · refine aw_iconst C (v := 0) d_R_isPaper_16 (by decide) ?_
      refine aw_iret C E (rfl) (by decide) (by decide) d_R_isPaper_17 ?_
      exact ⟨sI (bI_f (by (try simp only [Int32.le_iff_toInt_le, Int32.lt_iff_toInt_lt] at *); omega)), rfl, rfl⟩
    · refine aw_iconst C (v := 1) d_R_isPaper_12 (by decide) ?_
      refine aw_goto C (tgt := 17) d_R_isPaper_13 (by decide) ?_
      refine aw_iret C E (rfl) (by decide) (by decide) d_R_isPaper_17 ?_
      exact ⟨sI (bI_t (by (try simp only [Int32.le_iff_toInt_le, Int32.lt_iff_toInt_lt] at *); omega)), rfl, rfl⟩
set_option maxRecDepth 100000 in
set_option maxHeartbeats 4000000 in
theorem r_isPlace_out (l : Launch) (G : aw_G) (ad : aw_Ad) (ce : aw_He) (cn pn ln on : Nat) (kd : Nat → Int32) (sr : Nat → Int64) (np st la gby gdu gwo grd un ps gpt gff gfc : Nat → Int32) (li : Nat → Int64) (lo : Nat → Int32) (hR : LRc ad ce cn pn ln on kd sr np st la gby gdu gwo grd un ps gpt gff gfc li lo) (x y : Int32) (hx : x < 0 ∨ nI cn ≤ x) : CT l G M_R_isPlace 1 21 0 0 [.ref (ad (3, 0, 0)), .int x, .int y] ad ce (rN (some (.int 0)) ad ce) := by
  refine CT.of (by decide) (Nat.le_of_ble_eq_true rfl) ?_
  intro X C I E
  have hR0 := hR
  obtain ⟨r0, r1, r2, r3, r4, r5, r6, r7, r8, r9, r10, r11, r12, r14, r15, r17, r19⟩ := hR0
  show AW X 3 0 0 ad ce 0 [(0, .ref (ad (3, 0, 0))), (1, .int x), (2, .int y)] []
  refine aw_aload_n C d_R_isPlace_0 rfl (j := 0) rfl ?_
  refine aw_iload_n C d_R_isPlace_1 rfl (j := 1) rfl ?_
  refine aw_callV C I (k := (3, 0, 0)) (as := [.int x]) (rest := []) (r_isCarrier l G ad ce cn pn ln on kd sr np st la gby gdu gwo grd un ps gpt gff gfc li lo hR x) g_R_64 r0 rfl rfl ⟨by decide, by decide⟩ ⟨by decide, by decide⟩ rfl (Nat.le_of_ble_eq_true rfl) d_R_isPlace_2 ?_
  rintro _ _ _ ⟨rfl, rfl, rfl⟩
  show AW X 3 0 0 ad ce 5 [(0, .ref (ad (3, 0, 0))), (1, .int x), (2, .int y)] [.int (bI (decide (0 ≤ x ∧ x < nI cn)))]
  refine aw_topi (v' := 0) ((bI_f (by (try simp only [Int32.le_iff_toInt_le, Int32.lt_iff_toInt_lt] at hx ⊢); omega)).symm) ?_
  show AW X 3 0 0 ad ce 5 [(0, .ref (ad (3, 0, 0))), (1, .int x), (2, .int y)] [.int 0]
  refine aw_if_eq C (tgt := 26) d_R_isPlace_5 (by decide) (fun h5 => ?_) (fun h5 => absurd (rfl) h5)
  refine aw_iconst C (v := 0) d_R_isPlace_26 (by decide) ?_
  refine aw_iret C E (rfl) (by decide) (by decide) d_R_isPlace_27 ?_
  exact ⟨rfl, rfl, rfl⟩
set_option maxRecDepth 100000 in
set_option maxHeartbeats 4000000 in
theorem r_isPlace (l : Launch) (G : aw_G) (ad : aw_Ad) (ce : aw_He) (cn pn ln on : Nat) (kd : Nat → Int32) (sr : Nat → Int64) (np st la gby gdu gwo grd un ps gpt gff gfc : Nat → Int32) (li : Nat → Int64) (lo : Nat → Int32) (hR : LRc ad ce cn pn ln on kd sr np st la gby gdu gwo grd un ps gpt gff gfc li lo) (j n : Nat) (hj : j < cn) (hc : cn ≤ 10) (hn : np j = nI n) (y : Int32) : CT l G M_R_isPlace 1 21 0 0 [.ref (ad (3, 0, 0)), .int (nI j), .int y] ad ce (rN (some (.int (bI (decide (0 ≤ y ∧ y < nI n))))) ad ce) := by
  refine CT.of (by decide) (Nat.le_of_ble_eq_true rfl) ?_
  intro X C I E
  have hR0 := hR
  obtain ⟨r0, r1, r2, r3, r4, r5, r6, r7, r8, r9, r10, r11, r12, r14, r15, r17, r19⟩ := hR0
  show AW X 3 0 0 ad ce 0 [(0, .ref (ad (3, 0, 0))), (1, .int (nI j)), (2, .int y)] []
  refine aw_aload_n C d_R_isPlace_0 rfl (j := 0) rfl ?_
  refine aw_iload_n C d_R_isPlace_1 rfl (j := 1) rfl ?_
  refine aw_callV C I (k := (3, 0, 0)) (as := [.int (nI j)]) (rest := []) (r_isCarrier l G ad ce cn pn ln on kd sr np st la gby gdu gwo grd un ps gpt gff gfc li lo hR (nI j)) g_R_64 r0 rfl rfl ⟨by decide, by decide⟩ ⟨by decide, by decide⟩ rfl (Nat.le_of_ble_eq_true rfl) d_R_isPlace_2 ?_
  rintro _ _ _ ⟨rfl, rfl, rfl⟩
  show AW X 3 0 0 ad ce 5 [(0, .ref (ad (3, 0, 0))), (1, .int (nI j)), (2, .int y)] [.int (bI (decide (0 ≤ (nI j) ∧ (nI j) < nI cn)))]
  refine aw_topi (v' := 1) ((bI_t ⟨nI_pos' (by omega), nI_lt (by omega) (by omega)⟩).symm) ?_
  show AW X 3 0 0 ad ce 5 [(0, .ref (ad (3, 0, 0))), (1, .int (nI j)), (2, .int y)] [.int 1]
  refine aw_if_eq C (tgt := 26) d_R_isPlace_5 (by decide) (fun h5 => absurd h5 (by decide)) (fun h5 => ?_)
  refine aw_iload_n C d_R_isPlace_8 rfl (j := 2) rfl ?_
  refine aw_if_lt C (tgt := 26) d_R_isPlace_9 (by decide) (fun h9 => ?_) (fun h9 => ?_)
  · refine aw_iconst C (v := 0) d_R_isPlace_26 (by decide) ?_
    refine aw_iret C E (rfl) (by decide) (by decide) d_R_isPlace_27 ?_
    exact ⟨sI (bI_f (by (try simp only [Int32.le_iff_toInt_le, Int32.lt_iff_toInt_lt] at *); omega)), rfl, rfl⟩
  · refine aw_iload_n C d_R_isPlace_12 rfl (j := 2) rfl ?_
    refine aw_aload_n C d_R_isPlace_13 rfl (j := 0) rfl ?_
    refine aw_get C F_R r0 3 (by decide) tw_302 rfl d_R_isPlace_14 ?_
    refine aw_iload_n C d_R_isPlace_17 rfl (j := 1) rfl ?_
    refine ar_iald C r3 (j := j) (rfl) (by omega) (by omega) d_R_isPlace_18 ?_
    refine aw_topi (v' := nI n) (hn) ?_
    refine aw_icmp_ge C (tgt := 26) d_R_isPlace_19 (by decide) (fun h19 => ?_) (fun h19 => ?_)
    · refine aw_iconst C (v := 0) d_R_isPlace_26 (by decide) ?_
      refine aw_iret C E (rfl) (by decide) (by decide) d_R_isPlace_27 ?_
      exact ⟨sI (bI_f (by (try simp only [Int32.le_iff_toInt_le, Int32.lt_iff_toInt_lt] at *); omega)), rfl, rfl⟩
    · refine aw_iconst C (v := 1) d_R_isPlace_22 (by decide) ?_
      refine aw_goto C (tgt := 27) d_R_isPlace_23 (by decide) ?_
      refine aw_iret C E (rfl) (by decide) (by decide) d_R_isPlace_27 ?_
      exact ⟨sI (bI_t (by (try simp only [Int32.le_iff_toInt_le, Int32.lt_iff_toInt_lt] at *); omega)), rfl, rfl⟩
set_option maxRecDepth 100000 in
set_option maxHeartbeats 4000000 in
theorem r_isGone (l : Launch) (G : aw_G) (ad : aw_Ad) (ce : aw_He) (cn pn ln on : Nat) (kd : Nat → Int32) (sr : Nat → Int64) (np st la gby gdu gwo grd un ps gpt gff gfc : Nat → Int32) (li : Nat → Int64) (lo : Nat → Int32) (hR : LRc ad ce cn pn ln on kd sr np st la gby gdu gwo grd un ps gpt gff gfc li lo) (j : Nat) (hj : j < 10) : CT l G M_R_isGone 0 0 0 0 [.ref (ad (3, 0, 0)), .int (nI j)] ad ce (rN (some (.int (bI (decide (st j = 5 ∨ st j = 6))))) ad ce) := by
  refine CT.of (by decide) (Nat.le_of_ble_eq_true rfl) ?_
  intro X C I E
  obtain ⟨r0, r1, r2, r3, r4, r5, r6, r7, r8, r9, r10, r11, r12, r14, r15, r17, r19⟩ := hR
  show AW X 2 0 0 ad ce 0 [(0, .ref (ad (3, 0, 0))), (1, .int (nI j))] []
  refine aw_aload_n C d_R_isGone_0 rfl (j := 0) rfl ?_
  refine aw_get C F_R r0 4 (by decide) tw_303 rfl d_R_isGone_1 ?_
  refine aw_iload_n C d_R_isGone_4 rfl (j := 1) rfl ?_
  refine ar_iald C r4 (j := j) (rfl) (by omega) (by omega) d_R_isGone_5 ?_
  refine aw_iconst C (v := 5) d_R_isGone_6 (by decide) ?_
  refine aw_icmp_eq C (tgt := 21) d_R_isGone_7 (by decide) (fun h7 => ?_) (fun h7 => ?_)
  · refine aw_iconst C (v := 1) d_R_isGone_21 (by decide) ?_
    refine aw_goto C (tgt := 26) d_R_isGone_22 (by decide) ?_
    refine aw_iret C E (rfl) (by decide) (by decide) d_R_isGone_26 ?_
    exact ⟨sI (bI_t (by simp [*])), rfl, rfl⟩
  · refine aw_aload_n C d_R_isGone_10 rfl (j := 0) rfl ?_
    refine aw_get C F_R r0 4 (by decide) tw_303 rfl d_R_isGone_11 ?_
    refine aw_iload_n C d_R_isGone_14 rfl (j := 1) rfl ?_
    refine ar_iald C r4 (j := j) (rfl) (by omega) (by omega) d_R_isGone_15 ?_
    refine aw_bipush C (v := 6) d_R_isGone_16 (by decide) ?_
    refine aw_icmp_ne C (tgt := 25) d_R_isGone_18 (by decide) (fun h18 => ?_) (fun h18 => ?_)
    · refine aw_iconst C (v := 0) d_R_isGone_25 (by decide) ?_
      refine aw_iret C E (rfl) (by decide) (by decide) d_R_isGone_26 ?_
      exact ⟨sI (bI_f (by simp [*])), rfl, rfl⟩
    · refine aw_iconst C (v := 1) d_R_isGone_21 (by decide) ?_
      refine aw_goto C (tgt := 26) d_R_isGone_22 (by decide) ?_
      refine aw_iret C E (rfl) (by decide) (by decide) d_R_isGone_26 ?_
      exact ⟨sI (bI_t (by simp [*])), rfl, rfl⟩
set_option maxRecDepth 100000 in
set_option maxHeartbeats 4000000 in
theorem r_leads (l : Launch) (G : aw_G) (ad : aw_Ad) (ce : aw_He) (x s : Int32) : CT l G M_R_leads 0 0 0 0 [.int x, .int s] ad ce (rN (some (.int (evTo x s))) ad ce) := by
  refine CT.of (by decide) (Nat.le_of_ble_eq_true rfl) ?_
  intro X C I E
  by_cases h0 : x = 0
  · subst h0
    show AW X 2 0 0 ad ce 0 [(0, .int 0), (1, .int s)] []
    refine aw_iload_n C d_R_leads_0 rfl (j := 0) rfl ?_
    refine aw_tableIn C (tgt := 36) d_R_leads_1 (by decide) (by decide) rfl (by decide) ?_
    refine aw_iload_n C d_R_leads_36 rfl (j := 1) rfl ?_
    refine aw_if_ne C (tgt := 44) d_R_leads_37 (by decide) (fun h37 => ?_) (fun h37 => ?_)
    · refine aw_iconst C (v := (-1)) d_R_leads_44 (by decide) ?_
      refine aw_iret C E (rfl) (by decide) (by decide) d_R_leads_45 ?_
      exact ⟨sI (by simp [evTo, h37]), rfl, rfl⟩
    · refine aw_iconst C (v := 1) d_R_leads_40 (by decide) ?_
      refine aw_goto C (tgt := 45) d_R_leads_41 (by decide) ?_
      refine aw_iret C E (rfl) (by decide) (by decide) d_R_leads_45 ?_
      exact ⟨sI (by simp [evTo, h37]), rfl, rfl⟩
  by_cases h1 : x = 1
  · subst h1
    show AW X 2 0 0 ad ce 0 [(0, .int 1), (1, .int s)] []
    refine aw_iload_n C d_R_leads_0 rfl (j := 0) rfl ?_
    refine aw_tableIn C (tgt := 46) d_R_leads_1 (by decide) (by decide) rfl (by decide) ?_
    refine aw_iload_n C d_R_leads_46 rfl (j := 1) rfl ?_
    refine aw_iconst C (v := 1) d_R_leads_47 (by decide) ?_
    refine aw_icmp_ne C (tgt := 55) d_R_leads_48 (by decide) (fun h48 => ?_) (fun h48 => ?_)
    · refine aw_iconst C (v := (-1)) d_R_leads_55 (by decide) ?_
      refine aw_iret C E (rfl) (by decide) (by decide) d_R_leads_56 ?_
      exact ⟨sI (by simp [evTo, h48]), rfl, rfl⟩
    · refine aw_iconst C (v := 0) d_R_leads_51 (by decide) ?_
      refine aw_goto C (tgt := 56) d_R_leads_52 (by decide) ?_
      refine aw_iret C E (rfl) (by decide) (by decide) d_R_leads_56 ?_
      exact ⟨sI (by simp [evTo, h48]), rfl, rfl⟩
  by_cases h2 : x = 2
  · subst h2
    show AW X 2 0 0 ad ce 0 [(0, .int 2), (1, .int s)] []
    refine aw_iload_n C d_R_leads_0 rfl (j := 0) rfl ?_
    refine aw_tableIn C (tgt := 57) d_R_leads_1 (by decide) (by decide) rfl (by decide) ?_
    refine aw_iload_n C d_R_leads_57 rfl (j := 1) rfl ?_
    refine aw_iconst C (v := 3) d_R_leads_58 (by decide) ?_
    refine aw_icmp_gt C (tgt := 66) d_R_leads_59 (by decide) (fun h59 => ?_) (fun h59 => ?_)
    · refine aw_iconst C (v := (-1)) d_R_leads_66 (by decide) ?_
      refine aw_iret C E (rfl) (by decide) (by decide) d_R_leads_67 ?_
      have hs : ¬ s ≤ 3 := by (try simp only [Int32.le_iff_toInt_le, Int32.lt_iff_toInt_lt] at h59 ⊢); omega
      exact ⟨sI (by simp [evTo, hs]), rfl, rfl⟩
    · refine aw_iconst C (v := 4) d_R_leads_62 (by decide) ?_
      refine aw_goto C (tgt := 67) d_R_leads_63 (by decide) ?_
      refine aw_iret C E (rfl) (by decide) (by decide) d_R_leads_67 ?_
      have hs : s ≤ 3 := by (try simp only [Int32.le_iff_toInt_le, Int32.lt_iff_toInt_lt] at h59 ⊢); omega
      exact ⟨sI (by simp [evTo, hs]), rfl, rfl⟩
  by_cases h3 : x = 3
  · subst h3
    show AW X 2 0 0 ad ce 0 [(0, .int 3), (1, .int s)] []
    refine aw_iload_n C d_R_leads_0 rfl (j := 0) rfl ?_
    refine aw_tableIn C (tgt := 68) d_R_leads_1 (by decide) (by decide) rfl (by decide) ?_
    refine aw_iload_n C d_R_leads_68 rfl (j := 1) rfl ?_
    refine aw_iconst C (v := 1) d_R_leads_69 (by decide) ?_
    refine aw_icmp_ne C (tgt := 77) d_R_leads_70 (by decide) (fun h70 => ?_) (fun h70 => ?_)
    · refine aw_iconst C (v := (-1)) d_R_leads_77 (by decide) ?_
      refine aw_iret C E (rfl) (by decide) (by decide) d_R_leads_78 ?_
      exact ⟨sI (by simp [evTo, h70]), rfl, rfl⟩
    · refine aw_iconst C (v := 2) d_R_leads_73 (by decide) ?_
      refine aw_goto C (tgt := 78) d_R_leads_74 (by decide) ?_
      refine aw_iret C E (rfl) (by decide) (by decide) d_R_leads_78 ?_
      exact ⟨sI (by simp [evTo, h70]), rfl, rfl⟩
  by_cases h4 : x = 4
  · subst h4
    show AW X 2 0 0 ad ce 0 [(0, .int 4), (1, .int s)] []
    refine aw_iload_n C d_R_leads_0 rfl (j := 0) rfl ?_
    refine aw_tableIn C (tgt := 79) d_R_leads_1 (by decide) (by decide) rfl (by decide) ?_
    refine aw_iload_n C d_R_leads_79 rfl (j := 1) rfl ?_
    refine aw_iconst C (v := 3) d_R_leads_80 (by decide) ?_
    refine aw_icmp_ne C (tgt := 88) d_R_leads_81 (by decide) (fun h81 => ?_) (fun h81 => ?_)
    · refine aw_iconst C (v := (-1)) d_R_leads_88 (by decide) ?_
      refine aw_iret C E (rfl) (by decide) (by decide) d_R_leads_89 ?_
      exact ⟨sI (by simp [evTo, h81]), rfl, rfl⟩
    · refine aw_iconst C (v := 1) d_R_leads_84 (by decide) ?_
      refine aw_goto C (tgt := 89) d_R_leads_85 (by decide) ?_
      refine aw_iret C E (rfl) (by decide) (by decide) d_R_leads_89 ?_
      exact ⟨sI (by simp [evTo, h81]), rfl, rfl⟩
  have hout := sw5 h0 h1 h2 h3 h4
  show AW X 2 0 0 ad ce 0 [(0, .int x), (1, .int s)] []
  refine aw_iload_n C d_R_leads_0 rfl (j := 0) rfl ?_
  refine aw_tableOut C (tgt := 90) d_R_leads_1 (hout) (by decide) ?_
  refine aw_iconst C (v := (-1)) d_R_leads_90 (by decide) ?_
  refine aw_iret C E (rfl) (by decide) (by decide) d_R_leads_91 ?_
  exact ⟨sI (by simp [evTo, h0, h1, h2, h3, h4]), rfl, rfl⟩
set_option maxRecDepth 100000 in
set_option maxHeartbeats 4000000 in
theorem r_hasSerial (l : Launch) (G : aw_G) (ad : aw_Ad) (ce : aw_He) (cn pn ln on : Nat) (kd : Nat → Int32) (sr : Nat → Int64) (np st la gby gdu gwo grd un ps gpt gff gfc : Nat → Int32) (li : Nat → Int64) (lo : Nat → Int32) (hR : LRc ad ce cn pn ln on kd sr np st la gby gdu gwo grd un ps gpt gff gfc li lo) (hn : cn ≤ 10) (x : Int64) : CT l G M_R_hasSerial 0 0 0 0 [.ref (ad (3, 0, 0)), .long x] ad ce (rN (some (.int (bI (anyF sr x cn 0)))) ad ce) := by
  refine CT.of (by decide) (Nat.le_of_ble_eq_true rfl) ?_
  intro X C I E
  obtain ⟨r0, r1, r2, r3, r4, r5, r6, r7, r8, r9, r10, r11, r12, r14, r15, r17, r19⟩ := hR
  have loop : ∀ (m a : Nat) (h : Bool), a + m = cn → (h || anyF sr x m a) = anyF sr x cn 0 → AW X 5 0 0 ad ce 5 [(4, .int (nI a)), (3, .int (bI h)), (0, .ref (ad (3, 0, 0))), (1, .long x)] [] := by
    intro m
    induction m with
    | zero =>
      intro a h ha hr
      refine aw_iload C d_R_hasSerial_5 (j := 0) rfl ?_
      refine aw_aload_n C d_R_hasSerial_7 rfl (j := 2) rfl ?_
      refine aw_get C F_R r0 0 (by decide) tw_299 rfl d_R_hasSerial_8 ?_
      refine aw_icmp_ge C (tgt := 42) d_R_hasSerial_11 (by decide) (fun h11 => ?_) (fun h11 => absurd (nI_le (by omega) (by omega)) h11)
      refine aw_iload_n C d_R_hasSerial_42 rfl (j := 1) rfl ?_
      refine aw_iret C E (nar_bI _) (by decide) (by decide) d_R_hasSerial_43 ?_
      exact ⟨sI (by rw [← hr]; simp [anyF]), rfl, rfl⟩
    | succ m ih =>
      intro a h ha hr
      refine aw_iload C d_R_hasSerial_5 (j := 0) rfl ?_
      refine aw_aload_n C d_R_hasSerial_7 rfl (j := 2) rfl ?_
      refine aw_get C F_R r0 0 (by decide) tw_299 rfl d_R_hasSerial_8 ?_
      refine aw_icmp_ge C (tgt := 42) d_R_hasSerial_11 (by decide) (fun h11 => absurd h11 (nI_ge (by omega) (by omega))) (fun h11 => ?_)
      refine aw_iload_n C d_R_hasSerial_14 rfl (j := 1) rfl ?_
      refine aw_if_ne C (tgt := 30) d_R_hasSerial_15 (by decide) (fun h15 => ?_) (fun h15 => ?_)
      · refine aw_iconst C (v := 1) d_R_hasSerial_30 (by decide) ?_
        refine aw_goto C (tgt := 35) d_R_hasSerial_31 (by decide) ?_
        refine aw_istore_n C (lv' := [(3, .int 1), (4, .int (nI a)), (0, .ref (ad (3, 0, 0))), (1, .long x)]) d_R_hasSerial_35 rfl (by decide) rfl ?_
        refine aw_iinc C (v := nI (a + 1)) (lv' := [(4, .int (nI (a + 1))), (3, .int 1), (0, .ref (ad (3, 0, 0))), (1, .long x)]) d_R_hasSerial_36 (j := 1) rfl (nI_1 _) (by decide) rfl ?_
        refine aw_goto C (tgt := 5) d_R_hasSerial_39 (by decide) ?_
        refine aw_lv (lv' := [(4, .int (nI (a + 1))), (3, .int (bI true)), (0, .ref (ad (3, 0, 0))), (1, .long x)]) rfl ?_
        exact ih (a + 1) true (by omega) (by rw [← hr]; rw [bI_ne] at h15; subst h15; simp [anyF])
      · refine aw_aload_n C d_R_hasSerial_18 rfl (j := 2) rfl ?_
        refine aw_get C F_R r0 2 (by decide) tw_301 rfl d_R_hasSerial_19 ?_
        refine aw_iload C d_R_hasSerial_22 (j := 0) rfl ?_
        refine ar_lald C r2 (j := a) (rfl) (by omega) (by omega) d_R_hasSerial_24 ?_
        refine aw_lload_n C d_R_hasSerial_25 rfl (j := 3) rfl ?_
        refine aw_lcmp C d_R_hasSerial_26 ?_
        refine aw_if_ne C (tgt := 34) d_R_hasSerial_27 (by decide) (fun h27 => ?_) (fun h27 => ?_)
        · refine aw_iconst C (v := 0) d_R_hasSerial_34 (by decide) ?_
          refine aw_istore_n C (lv' := [(3, .int 0), (4, .int (nI a)), (0, .ref (ad (3, 0, 0))), (1, .long x)]) d_R_hasSerial_35 rfl (by decide) rfl ?_
          refine aw_iinc C (v := nI (a + 1)) (lv' := [(4, .int (nI (a + 1))), (3, .int 0), (0, .ref (ad (3, 0, 0))), (1, .long x)]) d_R_hasSerial_36 (j := 1) rfl (nI_1 _) (by decide) rfl ?_
          refine aw_goto C (tgt := 5) d_R_hasSerial_39 (by decide) ?_
          refine aw_lv (lv' := [(4, .int (nI (a + 1))), (3, .int (bI false)), (0, .ref (ad (3, 0, 0))), (1, .long x)]) rfl ?_
          exact ih (a + 1) false (by omega) (by rw [← hr]; rw [bI_eq] at h15; subst h15; rw [lg_cmp_eq] at h27; simp [anyF, h27])
        · refine aw_iconst C (v := 1) d_R_hasSerial_30 (by decide) ?_
          refine aw_goto C (tgt := 35) d_R_hasSerial_31 (by decide) ?_
          refine aw_istore_n C (lv' := [(3, .int 1), (4, .int (nI a)), (0, .ref (ad (3, 0, 0))), (1, .long x)]) d_R_hasSerial_35 rfl (by decide) rfl ?_
          refine aw_iinc C (v := nI (a + 1)) (lv' := [(4, .int (nI (a + 1))), (3, .int 1), (0, .ref (ad (3, 0, 0))), (1, .long x)]) d_R_hasSerial_36 (j := 1) rfl (nI_1 _) (by decide) rfl ?_
          refine aw_goto C (tgt := 5) d_R_hasSerial_39 (by decide) ?_
          refine aw_lv (lv' := [(4, .int (nI (a + 1))), (3, .int (bI true)), (0, .ref (ad (3, 0, 0))), (1, .long x)]) rfl ?_
          exact ih (a + 1) true (by omega) (by rw [← hr]; rw [bI_eq] at h15; subst h15; rw [lg_cmp_eq] at h27; simp [anyF, h27])
  show AW X 5 0 0 ad ce 0 [(0, .ref (ad (3, 0, 0))), (1, .long x)] []
  refine aw_iconst C (v := 0) d_R_hasSerial_0 (by decide) ?_
  refine aw_istore_n C (lv' := [(3, .int 0), (0, .ref (ad (3, 0, 0))), (1, .long x)]) d_R_hasSerial_1 rfl (by decide) rfl ?_
  refine aw_iconst C (v := 0) d_R_hasSerial_2 (by decide) ?_
  refine aw_istore C (lv' := [(4, .int 0), (3, .int 0), (0, .ref (ad (3, 0, 0))), (1, .long x)]) d_R_hasSerial_3 (by decide) rfl ?_
  refine aw_lv (lv' := [(4, .int (nI 0)), (3, .int (bI false)), (0, .ref (ad (3, 0, 0))), (1, .long x)]) (by simp only [nI_0]; rfl) ?_
  exact loop cn 0 false (by omega) (by simp)
set_option maxRecDepth 100000 in
set_option maxHeartbeats 4000000 in
theorem r_isListed (l : Launch) (G : aw_G) (ad : aw_Ad) (ce : aw_He) (cn pn ln on : Nat) (kd : Nat → Int32) (sr : Nat → Int64) (np st la gby gdu gwo grd un ps gpt gff gfc : Nat → Int32) (li : Nat → Int64) (lo : Nat → Int32) (hR : LRc ad ce cn pn ln on kd sr np st la gby gdu gwo grd un ps gpt gff gfc li lo) (hn : ln ≤ 20) (x : Int64) : CT l G M_R_isListed 0 0 0 0 [.ref (ad (3, 0, 0)), .long x] ad ce (rN (some (.int (bI (anyF li x ln 0)))) ad ce) := by
  refine CT.of (by decide) (Nat.le_of_ble_eq_true rfl) ?_
  intro X C I E
  obtain ⟨r0, r1, r2, r3, r4, r5, r6, r7, r8, r9, r10, r11, r12, r14, r15, r17, r19⟩ := hR
  have loop : ∀ (m a : Nat) (h : Bool), a + m = ln → (h || anyF li x m a) = anyF li x ln 0 → AW X 5 0 0 ad ce 5 [(4, .int (nI a)), (3, .int (bI h)), (0, .ref (ad (3, 0, 0))), (1, .long x)] [] := by
    intro m
    induction m with
    | zero =>
      intro a h ha hr
      refine aw_iload C d_R_isListed_5 (j := 0) rfl ?_
      refine aw_aload_n C d_R_isListed_7 rfl (j := 2) rfl ?_
      refine aw_get C F_R r0 16 (by decide) tw_315 rfl d_R_isListed_8 ?_
      refine aw_icmp_ge C (tgt := 42) d_R_isListed_11 (by decide) (fun h11 => ?_) (fun h11 => absurd (nI_le (by omega) (by omega)) h11)
      refine aw_iload_n C d_R_isListed_42 rfl (j := 1) rfl ?_
      refine aw_iret C E (nar_bI _) (by decide) (by decide) d_R_isListed_43 ?_
      exact ⟨sI (by rw [← hr]; simp [anyF]), rfl, rfl⟩
    | succ m ih =>
      intro a h ha hr
      refine aw_iload C d_R_isListed_5 (j := 0) rfl ?_
      refine aw_aload_n C d_R_isListed_7 rfl (j := 2) rfl ?_
      refine aw_get C F_R r0 16 (by decide) tw_315 rfl d_R_isListed_8 ?_
      refine aw_icmp_ge C (tgt := 42) d_R_isListed_11 (by decide) (fun h11 => absurd h11 (nI_ge (by omega) (by omega))) (fun h11 => ?_)
      refine aw_iload_n C d_R_isListed_14 rfl (j := 1) rfl ?_
      refine aw_if_ne C (tgt := 30) d_R_isListed_15 (by decide) (fun h15 => ?_) (fun h15 => ?_)
      · refine aw_iconst C (v := 1) d_R_isListed_30 (by decide) ?_
        refine aw_goto C (tgt := 35) d_R_isListed_31 (by decide) ?_
        refine aw_istore_n C (lv' := [(3, .int 1), (4, .int (nI a)), (0, .ref (ad (3, 0, 0))), (1, .long x)]) d_R_isListed_35 rfl (by decide) rfl ?_
        refine aw_iinc C (v := nI (a + 1)) (lv' := [(4, .int (nI (a + 1))), (3, .int 1), (0, .ref (ad (3, 0, 0))), (1, .long x)]) d_R_isListed_36 (j := 1) rfl (nI_1 _) (by decide) rfl ?_
        refine aw_goto C (tgt := 5) d_R_isListed_39 (by decide) ?_
        refine aw_lv (lv' := [(4, .int (nI (a + 1))), (3, .int (bI true)), (0, .ref (ad (3, 0, 0))), (1, .long x)]) rfl ?_
        exact ih (a + 1) true (by omega) (by rw [← hr]; rw [bI_ne] at h15; subst h15; simp [anyF])
      · refine aw_aload_n C d_R_isListed_18 rfl (j := 2) rfl ?_
        refine aw_get C F_R r0 17 (by decide) tw_316 rfl d_R_isListed_19 ?_
        refine aw_iload C d_R_isListed_22 (j := 0) rfl ?_
        refine ar_lald C r17 (j := a) (rfl) (by omega) (by omega) d_R_isListed_24 ?_
        refine aw_lload_n C d_R_isListed_25 rfl (j := 3) rfl ?_
        refine aw_lcmp C d_R_isListed_26 ?_
        refine aw_if_ne C (tgt := 34) d_R_isListed_27 (by decide) (fun h27 => ?_) (fun h27 => ?_)
        · refine aw_iconst C (v := 0) d_R_isListed_34 (by decide) ?_
          refine aw_istore_n C (lv' := [(3, .int 0), (4, .int (nI a)), (0, .ref (ad (3, 0, 0))), (1, .long x)]) d_R_isListed_35 rfl (by decide) rfl ?_
          refine aw_iinc C (v := nI (a + 1)) (lv' := [(4, .int (nI (a + 1))), (3, .int 0), (0, .ref (ad (3, 0, 0))), (1, .long x)]) d_R_isListed_36 (j := 1) rfl (nI_1 _) (by decide) rfl ?_
          refine aw_goto C (tgt := 5) d_R_isListed_39 (by decide) ?_
          refine aw_lv (lv' := [(4, .int (nI (a + 1))), (3, .int (bI false)), (0, .ref (ad (3, 0, 0))), (1, .long x)]) rfl ?_
          exact ih (a + 1) false (by omega) (by rw [← hr]; rw [bI_eq] at h15; subst h15; rw [lg_cmp_eq] at h27; simp [anyF, h27])
        · refine aw_iconst C (v := 1) d_R_isListed_30 (by decide) ?_
          refine aw_goto C (tgt := 35) d_R_isListed_31 (by decide) ?_
          refine aw_istore_n C (lv' := [(3, .int 1), (4, .int (nI a)), (0, .ref (ad (3, 0, 0))), (1, .long x)]) d_R_isListed_35 rfl (by decide) rfl ?_
          refine aw_iinc C (v := nI (a + 1)) (lv' := [(4, .int (nI (a + 1))), (3, .int 1), (0, .ref (ad (3, 0, 0))), (1, .long x)]) d_R_isListed_36 (j := 1) rfl (nI_1 _) (by decide) rfl ?_
          refine aw_goto C (tgt := 5) d_R_isListed_39 (by decide) ?_
          refine aw_lv (lv' := [(4, .int (nI (a + 1))), (3, .int (bI true)), (0, .ref (ad (3, 0, 0))), (1, .long x)]) rfl ?_
          exact ih (a + 1) true (by omega) (by rw [← hr]; rw [bI_eq] at h15; subst h15; rw [lg_cmp_eq] at h27; simp [anyF, h27])
  show AW X 5 0 0 ad ce 0 [(0, .ref (ad (3, 0, 0))), (1, .long x)] []
  refine aw_iconst C (v := 0) d_R_isListed_0 (by decide) ?_
  refine aw_istore_n C (lv' := [(3, .int 0), (0, .ref (ad (3, 0, 0))), (1, .long x)]) d_R_isListed_1 rfl (by decide) rfl ?_
  refine aw_iconst C (v := 0) d_R_isListed_2 (by decide) ?_
  refine aw_istore C (lv' := [(4, .int 0), (3, .int 0), (0, .ref (ad (3, 0, 0))), (1, .long x)]) d_R_isListed_3 (by decide) rfl ?_
  refine aw_lv (lv' := [(4, .int (nI 0)), (3, .int (bI false)), (0, .ref (ad (3, 0, 0))), (1, .long x)]) (by simp only [nI_0]; rfl) ?_
  exact loop ln 0 false (by omega) (by simp)
