theorem LayC.tr2 {S : SysS} {ad ad' : aw_Ad} {ce ce' : aw_He} (h : LayC S ad ce) (hf : ∀ q : aw_Lb, q.1 ≠ 3 → ad' q = ad q ∧ ce' q = ce q) : LayC S ad' ce' := by
  obtain ⟨ho, hca, hpa, hli, hlo, hcars, hpaps, hnoc, hnop, hb⟩ := h
  have f0 : ∀ p, ce' (0, 0, p) = ce (0, 0, p) := fun p => (hf _ (by simp)).2
  have a0 : ∀ p, ad' (0, 0, p) = ad (0, 0, p) := fun p => (hf _ (by simp)).1
  refine ⟨?_, (hca.tr (f0 _)).to (fun j _ => ?_), (hpa.tr (f0 _)).to (fun j _ => ?_), hli.tr (f0 _), hlo.tr (f0 _), fun i hi => (hcars i hi).tr (fun p => (hf _ (by simp)).1) (fun p => (hf _ (by simp)).2), fun i hi => (hpaps i hi).tr (fun p => (hf _ (by simp)).1) (fun p => (hf _ (by simp)).2), fun i p hi => (hf _ (by simp)).2.trans (hnoc i p hi), fun i p hi => (hf _ (by simp)).2.trans (hnop i p hi), hb⟩
  · rw [f0, ho]; simp only [a0]
  · rw [(hf (1, j, 0) (by simp)).1]
  · rw [(hf (2, j, 0) (by simp)).1]
set_option maxRecDepth 100000 in
set_option maxHeartbeats 4000000 in
theorem law_loop {X : aw_X} {l : Launch} {G : aw_G} (C : aw_ok X code 4 "WipePapersLaw") (I : aw_in X l G room_1) {b L : Nat} {xs : Nat → Int32} (hX : aw_scr X b L xs) (hL : L ≤ 3072) (hEnd : ∀ (cells slots : Nat) (ad : aw_Ad) (ce : aw_He) (lv : List (Nat × Value)), cells ≤ 600000 → slots ≤ 7302250 → AW X 4 cells slots ad ce 999 lv []) :
    ∀ (n a : Nat) (S : SysS) (ad : aw_Ad) (ce : aw_He), a ≤ L → L + 1 ≤ a + n → LayC S ad ce → LayR S ad ce → Inv S → AW X 4 (22 + a) (3068 + 46 * a) ad ce 18 [(3, .int (nI a)), (2, .ref (ad (3, 0, 0))), (1, .ref (ad (0, 0, 0))), (0, .ref b)] [] := by
  intro n
  induction n with
  | zero => intro a S ad ce h1 h2; exact absurd h2 (by omega)
  | succ n ih =>
    intro a S ad ce h1 h2 hC hR hI
    refine aw_iload_n C d_L_law_18 rfl (j := 0) rfl ?_
    refine aw_aload_n C d_L_law_19 rfl (j := 3) rfl ?_
    refine aw_slen C hX d_L_law_20 ?_
    refine aw_bipush C (v := 6) d_L_law_21 (by decide) ?_
    refine aw_isub C d_L_law_23 ?_
    refine aw_icmp_gt C (tgt := 999) d_L_law_24 (by decide) (fun h24 => ?_) (fun h24 => ?_)
    · exact hEnd _ _ _ _ _ (by omega) (by omega)
    have ha : a + 6 ≤ L := by
      rw [Int32.lt_iff_toInt_lt, show (6 : Int32) = nI 6 from rfl, pk_sub_toInt (by omega) (by omega), nI_toInt (by omega)] at h24
      omega
    have hK : ∀ (S' : SysS) (ad' : aw_Ad) (ce' : aw_He), LayC S' ad' ce' → LayR S' ad' ce' → Inv S' → AW X 4 (22 + a + 6) (3068 + 46 * a + 276) ad' ce' 993 [(3, .int (nI a)), (2, .ref (ad' (3, 0, 0))), (1, .ref (ad' (0, 0, 0))), (0, .ref b)] [] := by
      intro S' ad' ce' hC' hR' hI'
      refine aw_iinc C (v := nI (a + 6)) (lv' := [(3, .int (nI (a + 6))), (2, .ref (ad' (3, 0, 0))), (1, .ref (ad' (0, 0, 0))), (0, .ref b)]) d_L_law_993 (j := 0) rfl (nI_add a 6) (by decide) rfl ?_
      refine aw_goto C (tgt := 18) d_L_law_996 (by decide) ?_
      refine aw_widen (k := 22 + (a + 6)) (n := 3068 + 46 * (a + 6)) (by omega) (by omega) ?_
      exact ih (a + 6) S' ad' ce' (by omega) (by omega) hC' hR' hI'
    refine aw_aload_n C d_L_law_27 rfl (j := 3) rfl ?_
    refine aw_iload_n C d_L_law_28 rfl (j := 0) rfl ?_
    refine aw_sld C hX (j := a) (rfl) (by omega) (by omega) d_L_law_29 ?_
    refine aw_bipush C (v := 31) d_L_law_30 (by decide) ?_
    refine aw_iand C d_L_law_32 ?_
    obtain ⟨t, ht, et⟩ := pk_andE (xs a) (m := 31) 5 rfl
    refine aw_topi (v' := nI t) (et) ?_
    rcases (show t = 0 ∨ t = 1 ∨ t = 2 ∨ t = 3 ∨ t = 4 ∨ t = 5 ∨ t = 6 ∨ t = 7 ∨ t = 8 ∨ t = 9 ∨ t = 10 ∨ t = 11 ∨ t = 12 ∨ t = 13 ∨ t = 14 ∨ t = 15 ∨ t = 16 ∨ t = 17 ∨ t = 18 ∨ t = 19 ∨ t = 20 ∨ t = 21 ∨ 22 ≤ t by omega) with rfl | rfl | rfl | rfl | rfl | rfl | rfl | rfl | rfl | rfl | rfl | rfl | rfl | rfl | rfl | rfl | rfl | rfl | rfl | rfl | rfl | rfl | h22
    · refine aw_tableIn C (tgt := 136) d_L_law_33 (by decide) (by decide) rfl (by decide) ?_
      exact law_carrier C I hX hL ha hC hR hI hK
    · refine aw_tableIn C (tgt := 209) d_L_law_33 (by decide) (by decide) rfl (by decide) ?_
      exact law_state C I hX hL ha hC hR hI hK
    · refine aw_tableIn C (tgt := 232) d_L_law_33 (by decide) (by decide) rfl (by decide) ?_
      exact law_event C I hX hL ha hC hR hI hK
    · refine aw_tableIn C (tgt := 275) d_L_law_33 (by decide) (by decide) rfl (by decide) ?_
      exact law_last C I hX hL ha hC hR hI hK
    · refine aw_tableIn C (tgt := 298) d_L_law_33 (by decide) (by decide) rfl (by decide) ?_
      exact law_fail C I hX hL ha hC hR hI hK
    · refine aw_tableIn C (tgt := 331) d_L_law_33 (by decide) (by decide) rfl (by decide) ?_
      exact law_failed C I hX hL ha hC hR hI hK
    · refine aw_tableIn C (tgt := 364) d_L_law_33 (by decide) (by decide) rfl (by decide) ?_
      exact law_pass C I hX hL ha hC hR hI hK
    · refine aw_tableIn C (tgt := 397) d_L_law_33 (by decide) (by decide) rfl (by decide) ?_
      exact law_byteAt C I hX hL ha hC hR hI hK
    · refine aw_tableIn C (tgt := 430) d_L_law_33 (by decide) (by decide) rfl (by decide) ?_
      exact law_read C I hX hL ha hC hR hI hK
    · refine aw_tableIn C (tgt := 473) d_L_law_33 (by decide) (by decide) rfl (by decide) ?_
      exact law_unlike C I hX hL ha hC hR hI hK
    · refine aw_tableIn C (tgt := 496) d_L_law_33 (by decide) (by decide) rfl (by decide) ?_
      exact law_odds C I hX hL ha hC hR hI hK
    · refine aw_tableIn C (tgt := 550) d_L_law_33 (by decide) (by decide) rfl (by decide) ?_
      exact law_shred C I hX hL ha hC hR hI hK
    · refine aw_tableIn C (tgt := 583) d_L_law_33 (by decide) (by decide) rfl (by decide) ?_
      exact law_paper C I hX hL ha hC hR hI hK
    · refine aw_tableIn C (tgt := 626) d_L_law_33 (by decide) (by decide) rfl (by decide) ?_
      exact law_at C I hX hL ha hC hR hI hK
    · refine aw_tableIn C (tgt := 659) d_L_law_33 (by decide) (by decide) rfl (by decide) ?_
      exact law_mark C I hX hL ha hC hR hI hK
    · refine aw_tableIn C (tgt := 732) d_L_law_33 (by decide) (by decide) rfl (by decide) ?_
      exact law_check C I hX hL ha hC hR hI hK
    · refine aw_tableIn C (tgt := 835) d_L_law_33 (by decide) (by decide) rfl (by decide) ?_
      exact law_listed C I hX hL ha hC hR hI hK
    · refine aw_tableIn C (tgt := 888) d_L_law_33 (by decide) (by decide) rfl (by decide) ?_
      exact law_missing C I hX hL ha hC hR hI hK
    · refine aw_tableIn C (tgt := 911) d_L_law_33 (by decide) (by decide) rfl (by decide) ?_
      exact law_extra C I hX hL ha hC hR hI hK
    · refine aw_tableIn C (tgt := 934) d_L_law_33 (by decide) (by decide) rfl (by decide) ?_
      exact law_lost C I hX hL ha hC hR hI hK
    · refine aw_tableIn C (tgt := 957) d_L_law_33 (by decide) (by decide) rfl (by decide) ?_
      exact law_told C I hX hL ha hC hR hI hK
    · refine aw_tableIn C (tgt := 980) d_L_law_33 (by decide) (by decide) rfl (by decide) ?_
      exact law_states C I hX hL ha hC hR hI hK
    · refine aw_tableOut C (tgt := 993) d_L_law_33 (Or.inr (by rw [nI_toInt (by omega)]; omega)) (by decide) ?_
      refine aw_widen (k := 22 + a + 6) (n := 3068 + 46 * a + 276) (by omega) (by omega) ?_
      exact hK S ad ce hC hR hI
set_option maxRecDepth 100000 in
set_option maxHeartbeats 4000000 in
theorem whole_body {X : aw_X} {l : Launch} {G : aw_G} (C : aw_ok X code 4 "WipePapersLaw") (I : aw_in X l G room_1) {b L : Nat} {xs : Nat → Int32} (hX : aw_scr X b L xs) (hL : L ≤ 3072) (hEnd : ∀ (cells slots : Nat) (ad : aw_Ad) (ce : aw_He) (lv : List (Nat × Value)), cells ≤ 600000 → slots ≤ 7302250 → AW X 4 cells slots ad ce 999 lv []) {ad0 : aw_Ad} : AW X 4 0 0 ad0 (fun _ => none) 0 [(0, .ref b)] [] := by
  refine ob_new C I F_C (0, 0, 0) rfl tw_7 tw_8 tw_1 [.null, .int 0, .null, .int 0, .null, .int 0, .null, .int 0] (by decide) ⟨Nat.le_trans (m := 600000) (by omega) (Nat.le_refl _), Nat.le_trans (m := 7302250) (by omega) (Nat.le_refl _)⟩ d_L_law_0 ?_
  intro ad1 ce1 ha1 fw1 ho
  refine aw_dup C d_L_law_3 rfl ?_
  refine aw_callI C I (as := []) (rest := [.ref (ad1 (0, 0, 0))]) (c_Cinit l G ad1 ce1 ho (fun p hp => (fw1 _ (by simp [hp])).trans rfl) (fun i p => (fw1 _ (by simp)).trans rfl) (fun i p => (fw1 _ (by simp)).trans rfl)) g_L_9 ⟨by decide, by decide⟩ ⟨by decide, by decide⟩ rfl (Nat.le_of_ble_eq_true rfl) d_L_law_4 ?_
  rintro _ ad9 ce9 ⟨rfl, hf9, ha9, hC9⟩
  rw [← ha9]
  show AW X 4 (0 + 1 + 4) (0 + 8 + 60) ad9 ce9 7 [(0, .ref b)] [.ref (ad9 (0, 0, 0))]
  refine aw_astore_n C (lv' := [(1, .ref (ad9 (0, 0, 0))), (0, .ref b)]) d_L_law_7 rfl (by decide) rfl ?_
  refine ob_new C I F_R (3, 0, 0) ((hf9 _ (by simp)).2.trans ((fw1 _ (by simp)).trans rfl)) tw_293 tw_294 tw_2 [.int 0, .null, .null, .null, .null, .null, .null, .null, .null, .null, .null, .null, .null, .int 0, .null, .null, .int 0, .null, .int 0, .null] (by decide) ⟨Nat.le_trans (m := 600000) (by omega) (Nat.le_refl _), Nat.le_trans (m := 7302250) (by omega) (Nat.le_refl _)⟩ d_L_law_8 ?_
  intro ad2 ce2 ha2 fw2 hr
  have ea2_0 : ad9 (0, 0, 0) = ad2 (0, 0, 0) := (ha2 _ (by simp)).symm
  rw [ea2_0]
  refine aw_dup C d_L_law_11 rfl ?_
  refine aw_callI C I (as := []) (rest := [.ref (ad2 (3, 0, 0))]) (R_init l G ad2 ce2 hr (fun p hp => (fw2 _ (by simp [hp])).trans ((hf9 _ (by simp)).2.trans ((fw1 _ (by simp)).trans rfl)))) g_L_12 ⟨by decide, by decide⟩ ⟨by decide, by decide⟩ rfl (Nat.le_of_ble_eq_true rfl) d_L_law_12 ?_
  rintro _ ad8 ce8 ⟨rfl, hf8, ha8, hR8⟩
  have hb8 : ad8 (0, 0, 0) = ad2 (0, 0, 0) := (hf8 _ (by simp)).1
  rw [← ha8, ← hb8]
  have hC8 := (hC9.tr2 (fun q hq => ⟨ha2 q (fun e => by subst e; simp at hq), fw2 q (fun e => by subst e; simp at hq)⟩)).tr2 hf8
  show AW X 4 (0 + 1 + 4 + 1 + 16) (0 + 8 + 60 + 20 + 2980) ad8 ce8 15 [(1, .ref (ad8 (0, 0, 0))), (0, .ref b)] [.ref (ad8 (3, 0, 0))]
  refine aw_astore_n C (lv' := [(2, .ref (ad8 (3, 0, 0))), (1, .ref (ad8 (0, 0, 0))), (0, .ref b)]) d_L_law_15 rfl (by decide) rfl ?_
  refine aw_iconst C (v := 0) d_L_law_16 (by decide) ?_
  refine aw_istore_n C (lv' := [(3, .int 0), (2, .ref (ad8 (3, 0, 0))), (1, .ref (ad8 (0, 0, 0))), (0, .ref b)]) d_L_law_17 rfl (by decide) rfl ?_
  refine aw_lv (lv' := [(3, .int (nI 0)), (2, .ref (ad8 (3, 0, 0))), (1, .ref (ad8 (0, 0, 0))), (0, .ref b)]) (by simp only [nI_0]) ?_
  exact law_loop C I hX hL hEnd (L + 1) 0 S_new ad8 ce8 (Nat.zero_le L) (by omega) hC8 hR8 Inv_new
set_option maxRecDepth 100000 in
set_option maxHeartbeats 4000000 in
/-- THE LAW, from its entry -/
theorem whole_start {p : Program} {e : Env} {s : State} {m : MethodId} {below : List Frame} {meth : Method} {c : Code} (l : Launch) {b L : Nat} {xs : Nat → Int32} (hL : L ≤ 3072) (C0 : lw_At p s m meth c b L xs) : W p l e room_1 s m #[Value.ref b] below meth c s.heap [] 0 0 (lw_Z below #[Value.ref b] s) (entryFrame m ([Value.ref b] : List Value).toArray 4) := by
  obtain ⟨hx, hb, hr, hml, hown, hts, hX0, hbl, hlocks, hgv⟩ := C0
  have hts2 : ∀ w ∈ aw_tb, w.before #[Value.ref b] s = true := fun w h => hts w (List.mem_filter.mp h).1
  obtain ⟨c0, iS0, hKn0⟩ := u_known (C := "WipePapers") (T := T_C) (N := 8) (n := 8) hts2 lys_C (hts2 _ tw_8)
  obtain ⟨c1, iS1, hKn1⟩ := u_known (C := "WipePapers$Carrier") (T := T_K) (N := 12) (n := 12) hts2 lys_K (hts2 _ tw_65)
  obtain ⟨c2, iS2, hKn2⟩ := u_known (C := "WipePapers$Paper") (T := T_P) (N := 1) (n := 1) hts2 lys_P (hts2 _ tw_221)
  obtain ⟨c3, iS3, hKn3⟩ := u_known (C := "WipePapersModel") (T := T_R) (N := 20) (n := 20) hts2 lys_R (hts2 _ tw_294)
  obtain ⟨a0, kA0, comp0, f0, g0, k0⟩ := Cond.arrayClass_spec (hts2 _ tw_45)
  obtain ⟨a1, kA1, comp1, f1, g1, k1⟩ := Cond.arrayClass_spec (hts2 _ tw_117)
  obtain ⟨a2, kA2, comp2, f2, g2, k2⟩ := Cond.arrayClass_spec (hts2 _ tw_44)
  have hao3 := hts _ tx_16
  obtain ⟨comp3, a3, kA3, q3, -, g3, k3, f3⟩ := Cond.arrayOver_spec hao3
  have hao4 := hts _ tx_18
  obtain ⟨comp4, a4, kA4, q4, -, g4, k4, f4⟩ := Cond.arrayOver_spec hao4
  obtain ⟨dC, dI, hKc⟩ : ∃ (dC : Nat → ClassId) (dI : Nat → Nat → Nat), ∀ (k : Nat) (q : vw_C), aw_cl[k]? = some q → u_Kn s q.1 q.2.1 q.2.2 (dC k) (dI k) := by
    refine ⟨fun k => if k = 0 then c0 else if k = 1 then c1 else if k = 2 then c2 else c3, fun k => if k = 0 then iS0 else if k = 1 then iS1 else if k = 2 then iS2 else iS3, ?_⟩
    intro k q hq
    match k, hq with
    | 0, hq => cases hq; exact hKn0
    | 1, hq => cases hq; exact hKn1
    | 2, hq => cases hq; exact hKn2
    | 3, hq => cases hq; exact hKn3
    | k + 4, hq => simp [aw_cl] at hq
  obtain ⟨G, hG⟩ : ∃ G : aw_G, G = ((dC, dI), (fun k => if k = 0 then a0 else if k = 1 then a1 else if k = 2 then a2 else if k = 3 then a3 else a4), s.heap.size) := ⟨_, rfl⟩
  have hGs : G.2.2 = s.heap.size := by rw [hG]
  have hK : aw_K G s := by
    subst hG
    refine ⟨⟨hKc, fun k q hq => ?_⟩, fun w hw => ?_, fun q hq => ?_⟩
    · match k, hq with
      | 0, hq => cases hq; exact ⟨fun n z => ⟨fun k h => (by cases h), kA0, g0, comp0, k0⟩, f0⟩
      | 1, hq => cases hq; exact ⟨fun n z => ⟨fun k h => (by cases h), kA1, g1, comp1, k1⟩, f1⟩
      | 2, hq => cases hq; exact ⟨fun n z => ⟨fun k h => (by cases h), kA2, g2, comp2, k2⟩, f2⟩
      | 3, hq => cases hq; exact ⟨fun n z => ⟨fun k h => (by cases h), kA3, g3, comp3, k3⟩, kA3, comp3, g3, k3, q3, f3⟩
      | 4, hq => cases hq; exact ⟨fun n z => ⟨fun k h => (by cases h), kA4, g4, comp4, k4⟩, kA4, comp4, g4, k4, q4, f4⟩
      | k + 5, hq => simp [aw_tys, aw_ty] at hq
    · have e : w = Cond.methodLinkNest "WipePapers$Carrier" 58 ⟨"WipePapers", "patternByte", "(III)I"⟩ "WipePapers" := by simpa [aw_nst, aw_nM] using hw
      rw [e]
      exact va_Nw.of rfl (hts _ tx_179)
    · rcases (show q = "WipePapers$Carrier" ∨ q = "WipePapers$Paper" by simpa [aw_ao] using hq) with rfl | rfl
      · exact va_AO.of hao3
      · exact va_AO.of hao4
  have C : aw_ok (p, l, e, room_1, s, m, #[Value.ref b], below, meth, c, lw_Z below #[Value.ref b] s, G) code 4 "WipePapersLaw" := ⟨hx, hb, hml, hown, hts2, hlocks, hK, Nat.le_of_eq hGs⟩
  have I : aw_in (p, l, e, room_1, s, m, #[Value.ref b], below, meth, c, lw_Z below #[Value.ref b] s, G) l G room_1 := ⟨rfl, rfl, rfl⟩
  have hX : aw_scr (p, l, e, room_1, s, m, #[Value.ref b], below, meth, c, lw_Z below #[Value.ref b] s, G) b L xs := ⟨hX0, hbl, fun q => by have q2 : G.2.2 ≤ b := q; omega⟩
  have hEnd : ∀ (cells slots : Nat) (ad : aw_Ad) (ce : aw_He) (lv : List (Nat × Value)), cells ≤ 600000 → slots ≤ 7302250 → AW (p, l, e, room_1, s, m, #[Value.ref b], below, meth, c, lw_Z below #[Value.ref b] s, G) 4 cells slots ad ce 999 lv [] := by
    intro cells slots ad ce lv h1 h2 H locs ls hH hS hl
    refine lv_iconst (v := 1) hx hb d_L_law_999 (by decide) ?_
    refine va_forget (fun q hq => ?_) ?_
    · have := hS.2.2 q hq
      have q2 : G.2.2 ≤ q.base := this
      omega
    · refine W.widen (k := 600000) (n := 7302250) h1 h2 ?_
      exact lw_ret hx hb hr hlocks d_L_law_1000
  have hH0 : aw_H G (fun _ => 0) (fun _ => none) s.heap := ⟨fun _ _ h => (by cases h), fun _ _ _ _ h => (by cases h)⟩
  have start : AW (p, l, e, room_1, s, m, #[Value.ref b], below, meth, c, lw_Z below #[Value.ref b] s, G) 4 0 0 (fun _ => 0) (fun _ => none) 0 [(0, .ref b)] [] := by
    obtain ⟨X, eX⟩ : ∃ X : aw_X, (p, l, e, room_1, s, m, #[Value.ref b], below, meth, c, lw_Z below #[Value.ref b] s, G) = X := ⟨_, rfl⟩
    rw [eX] at C I hX hEnd ⊢
    exact whole_body C I hX hL hEnd
  rw [lg_entry_eq]
  exact start s.heap [] _ hH0 va_S.rf (lv_entry [Value.ref b] (Nat.le_of_ble_eq_true rfl))
