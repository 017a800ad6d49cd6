/-! what every state of a run keeps -/
def c6 (f : Nat → Int32) : Nat → Nat
  | 0 => 0
  | n + 1 => c6 f n + (if f n = 6 then 1 else 0)
theorem c6_le (f : Nat → Int32) (n : Nat) : c6 f n ≤ n := by
  induction n with
  | zero => exact Nat.le_refl 0
  | succ n ih => simp only [c6]; split <;> omega
theorem c6_congr {f g : Nat → Int32} {n : Nat} (h : ∀ j, j < n → (f j = 6 ↔ g j = 6)) : c6 f n = c6 g n := by
  induction n with
  | zero => rfl
  | succ n ih =>
    simp only [c6]
    rw [ih (fun j hj => h j (by omega))]
    by_cases e : g n = 6
    · rw [if_pos e, if_pos ((h n (by omega)).mpr e)]
    · rw [if_neg e, if_neg (fun q => e ((h n (by omega)).mp q))]
theorem c6_lt {f : Nat → Int32} {n j : Nat} (hj : j < n) (h : ¬ f j = 6) : c6 f n < n := by
  induction n with
  | zero => omega
  | succ n ih =>
    have hl := c6_le f n
    simp only [c6]
    by_cases e : j = n
    · subst e; rw [if_neg h]; omega
    · have := ih (by omega)
      split <;> omega
theorem c6_up {f g : Nat → Int32} {n j : Nat} (hj : j < n) (h : ¬ f j = 6) (hg : g j = 6) (ho : ∀ i, i < n → i ≠ j → g i = f i) : c6 g n = c6 f n + 1 := by
  induction n with
  | zero => omega
  | succ n ih =>
    simp only [c6]
    by_cases e : j = n
    · subst e
      rw [if_pos hg, if_neg h, c6_congr (f := g) (g := f) (fun i hi => by rw [ho i (by omega) (by omega)])]
    · rw [ih (by omega) (fun i hi hne => ho i (by omega) hne), ho n (by omega) (fun q => e q.symm)]
      omega
def Inv (S : SysS) : Prop := (∀ i, i < s_cn S → ∃ t : Nat, t < 7 ∧ k_st (s_car S i) = nI t) ∧ s_on S = c6 (fun i => k_st (s_car S i)) (s_cn S) ∧ s_cn S ≤ 10 ∧ ∀ i k, i < s_cn S → k < k_np (s_car S i) → ∃ n : Nat, n < 256 ∧ k_by (s_car S i) k = nI n
theorem Inv.pos {S : SysS} (h : Inv S) : ∀ j, j < s_cn S → 0 ≤ k_st (s_car S j) := fun j hj => by
  obtain ⟨t, ht, e⟩ := h.1 j hj
  rw [e]; exact nI_pos' (by omega)
theorem Inv.room {S : SysS} (h : Inv S) : ∀ j, j < s_cn S → ¬ (k_st (s_car S j) = 5 ∨ k_st (s_car S j) = 6) → s_on S < 10 := fun j hj hg => by
  have := c6_lt (f := fun i => k_st (s_car S i)) hj (fun q => hg (Or.inr q))
  rw [h.2.1]
  have h3 := h.2.2.1
  omega
theorem Inv.set {S : SysS} (h : Inv S) {j : Nat} (hj : j < s_cn S) {c : CarS} (h1 : ∃ t : Nat, t < 7 ∧ k_st c = nI t) (h2 : k_st c = 6 ↔ k_st (s_car S j) = 6) (h3 : ∀ k, k < k_np c → ∃ n : Nat, n < 256 ∧ k_by c k = nI n) : Inv (s_set S j c) := by
  obtain ⟨i1, i2, i3, i4⟩ := h
  refine ⟨fun i hi => ?_, ?_, i3, fun i k hi hk => ?_⟩
  · rw [s_set_car]
    by_cases e : i = j
    · subst e; rw [va_up_self]; exact h1
    · rw [va_up_ne _ _ e]; exact i1 i hi
  · show s_on S = c6 (fun i => k_st (va_up (s_car S) j c i)) (s_cn S)
    rw [i2]
    refine c6_congr (fun i hi => ?_)
    by_cases e : i = j
    · subst e
      show _ ↔ k_st (va_up (s_car S) i c i) = 6
      rw [va_up_self]; exact h2.symm
    · show _ ↔ k_st (va_up (s_car S) j c i) = 6
      rw [va_up_ne _ _ e]
  · rw [s_set_car] at hk ⊢
    by_cases e : i = j
    · subst e; rw [va_up_self] at hk ⊢; exact h3 k hk
    · rw [va_up_ne _ _ e] at hk ⊢; exact i4 i k hi hk
theorem Inv_new : Inv S_new := ⟨fun _ h => absurd h (Nat.not_lt_zero _), rfl, Nat.zero_le _, fun _ _ h => absurd h (Nat.not_lt_zero _)⟩
theorem evTo_ok {e s : Int32} (h : 0 ≤ evTo e s) : (∃ t : Nat, t < 7 ∧ evTo e s = nI t) ∧ ¬ evTo e s = 6 ∧ ¬ s = 6 := by
  have hm : ¬ (0 : Int32) ≤ -1 := by decide
  unfold evTo at h ⊢
  by_cases h0 : e = 0
  · rw [if_pos h0] at h ⊢
    by_cases hs : s = 0
    · rw [if_pos hs]; exact ⟨⟨1, by decide, rfl⟩, by decide, by rw [hs]; decide⟩
    · rw [if_neg hs] at h; exact absurd h hm
  · rw [if_neg h0] at h ⊢
    by_cases h1 : e = 1
    · rw [if_pos h1] at h ⊢
      by_cases hs : s = 1
      · rw [if_pos hs]; exact ⟨⟨0, by decide, rfl⟩, by decide, by rw [hs]; decide⟩
      · rw [if_neg hs] at h; exact absurd h hm
    · rw [if_neg h1] at h ⊢
      by_cases h2 : e = 2
      · rw [if_pos h2] at h ⊢
        by_cases hs : s ≤ 3
        · rw [if_pos hs]; exact ⟨⟨4, by decide, rfl⟩, by decide, fun q => by rw [q] at hs; exact absurd hs (by decide)⟩
        · rw [if_neg hs] at h; exact absurd h hm
      · rw [if_neg h2] at h ⊢
        by_cases h3 : e = 3
        · rw [if_pos h3] at h ⊢
          by_cases hs : s = 1
          · rw [if_pos hs]; exact ⟨⟨2, by decide, rfl⟩, by decide, by rw [hs]; decide⟩
          · rw [if_neg hs] at h; exact absurd h hm
        · rw [if_neg h3] at h ⊢
          by_cases h4 : e = 4
          · rw [if_pos h4] at h ⊢
            by_cases hs : s = 3
            · rw [if_pos hs]; exact ⟨⟨1, by decide, rfl⟩, by decide, by rw [hs]; decide⟩
            · rw [if_neg hs] at h; exact absurd h hm
          · rw [if_neg h4] at h; exact absurd h hm
theorem b7 : ∀ n, n < 64 → ∃ m : Nat, m < 256 ∧ (7 * nI n + 3) &&& (255 : Int32) = nI m := fun n _ => by
  obtain ⟨m, hm, e⟩ := pk_andE (7 * nI n + 3) (m := 255) 8 rfl
  exact ⟨m, hm, e⟩
theorem x256 : ∀ n, n < 256 → (nI n ^^^ (255 : Int32)) = nI (255 - n) := by decide +kernel
theorem pB_ok {p : Int32} {k : Nat} {b : Int32} (hp : 0 ≤ p ∧ p ≤ 257) (hk : k < 64) (hb : ∃ n : Nat, n < 256 ∧ b = nI n) : ∃ n : Nat, n < 256 ∧ pB p k b = nI n := by
  unfold pB
  by_cases h1 : p = 256
  · rw [if_pos h1]; exact b7 k hk
  · rw [if_neg h1]
    by_cases h2 : p = 257
    · rw [if_pos h2]
      obtain ⟨n, hn, rfl⟩ := hb
      exact ⟨255 - n, by omega, x256 n hn⟩
    · rw [if_neg h2]
      obtain ⟨n, hn, e⟩ := nI_of2 (x := p) (M := 257) (n := 257) rfl (fun q => by
        have := hp.1
        rw [Int32.le_iff_toInt_le] at this
        rw [Int32.lt_iff_toInt_lt] at q
        omega) hp.2
      refine ⟨n, ?_, e⟩
      rcases Nat.lt_or_ge n 256 with q | q
      · exact q
      · rcases (show n = 256 ∨ n = 257 by omega) with r | r
        · subst r; exact absurd e h1
        · subst r; exact absurd e h2
theorem Inv.fail {S : SysS} (h : Inv S) (x y : Int32) : Inv (f_fail S x y).2 := by
  unfold f_fail
  rcases ix_cases x (n := s_cn S) (by have := h.2.2.1; omega) with hx | ⟨j, hj, rfl⟩
  · rw [ix_out hx]; exact h
  · rw [ix_in hj (by have := h.2.2.1; omega)]
    dsimp only
    split
    · exact h
    · split
      · exact h
      · split
        · exact h.set hj (h.1 j hj) Iff.rfl (fun k hk => h.2.2.2 j k hj hk)
        · exact h
theorem Inv.event {S : SysS} (h : Inv S) (x e p : Int32) : Inv (f_event S x e p).2 := by
  unfold f_event
  rcases ix_cases x (n := s_cn S) (by have := h.2.2.1; omega) with hx | ⟨j, hj, rfl⟩
  · rw [ix_out hx]; exact h
  · rw [ix_in hj (by have := h.2.2.1; omega)]
    dsimp only
    split
    · next hc =>
      obtain ⟨a1, a2, a3⟩ := evTo_ok hc.2
      refine h.set hj (c := k_ev (s_car S j) e p) a1 (iff_of_false a2 a3) (fun k hk => ?_)
      have e1 : k_np (k_ev (s_car S j) e p) = k_np (s_car S j) := by unfold k_ev; by_cases h3 : e = 3 <;> simp only [h3, if_true, if_false] <;> rfl
      have e2 : k_by (k_ev (s_car S j) e p) = k_by (s_car S j) := by unfold k_ev; by_cases h3 : e = 3 <;> simp only [h3, if_true, if_false] <;> rfl
      rw [e2]; exact h.2.2.2 j k hj (by rw [← e1]; exact hk)
    · exact h
theorem Inv.pass {S : SysS} (h : Inv S) (hW : ∀ i, i < s_cn S → k_np (s_car S i) ≤ 64) (x p : Int32) : Inv (f_pass S x p).2 := by
  unfold f_pass
  rcases ix_cases x (n := s_cn S) (by have := h.2.2.1; omega) with hx | ⟨j, hj, rfl⟩
  · rw [ix_out hx]; exact h
  · rw [ix_in hj (by have := h.2.2.1; omega)]
    dsimp only
    split
    · next hc =>
      refine h.set hj (c := k_pass (s_car S j) p) (h.1 j hj) Iff.rfl (fun k hk => ?_)
      have hk' : k < k_np (s_car S j) := hk
      have hn := hW j hj
      show ∃ n : Nat, n < 256 ∧ (if k_wo (s_car S j) k = 0 then pB p k (k_by (s_car S j) k) else k_by (s_car S j) k) = nI n
      split
      · exact pB_ok hc.1 (by omega) (h.2.2.2 j k hj hk')
      · exact h.2.2.2 j k hj hk'
    · exact h
theorem Inv.read {S : SysS} (h : Inv S) (x y b : Int32) : Inv (f_read S x y b).2 := by
  unfold f_read
  rcases ix_cases x (n := s_cn S) (by have := h.2.2.1; omega) with hx | ⟨j, hj, rfl⟩
  · rw [ix_out hx]; exact h
  · rw [ix_in hj (by have := h.2.2.1; omega)]
    dsimp only
    split
    · exact h
    · next q _ =>
      split
      · next hc =>
        refine h.set hj (c := k_read (s_car S j) q b) ?_ ?_ (fun k hk => h.2.2.2 j k hj hk)
        · show ∃ t : Nat, t < 7 ∧ (if cnt (upd (k_rd (s_car S j)) q 1) (k_np (s_car S j)) = k_np (s_car S j) ∧ k_rdU (s_car S j) q b = 0 then (3 : Int32) else k_st (s_car S j)) = nI t
          split
          · exact ⟨3, by decide, rfl⟩
          · exact h.1 j hj
        · show (if cnt (upd (k_rd (s_car S j)) q 1) (k_np (s_car S j)) = k_np (s_car S j) ∧ k_rdU (s_car S j) q b = 0 then (3 : Int32) else k_st (s_car S j)) = 6 ↔ _
          rw [hc.2.1]
          split <;> exact iff_of_false (by decide) (by decide)
      · exact h
theorem Inv.shred {S : SysS} (h : Inv S) (x m : Int32) : Inv (f_shred S x m).2 := by
  unfold f_shred
  rcases ix_cases x (n := s_cn S) (by have := h.2.2.1; omega) with hx | ⟨j, hj, rfl⟩
  · rw [ix_out hx]; exact h
  · rw [ix_in hj (by have := h.2.2.1; omega)]
    dsimp only
    split
    · next hc =>
      refine h.set hj (c := k_sSt (s_car S j) 5) ⟨5, by decide, rfl⟩ (iff_of_false (by show ¬ (5 : Int32) = 6; decide) ?_) (fun k hk => h.2.2.2 j k hj hk)
      intro q
      rcases hc.2.1 with r | r <;> (rw [q] at r; exact absurd r (by decide))
    · exact h
theorem Inv.lost {S : SysS} (h : Inv S) (x : Int32) : Inv (f_lost S x).2 := by
  unfold f_lost
  rcases ix_cases x (n := s_cn S) (by have := h.2.2.1; omega) with hx | ⟨j, hj, rfl⟩
  · rw [ix_out hx]; exact h
  · rw [ix_in hj (by have := h.2.2.1; omega)]
    dsimp only
    split
    · exact h
    · next hg =>
      obtain ⟨i1, i2, i3, i4⟩ := h
      refine ⟨fun i hi => ?_, ?_, i3, fun i k hi hk => ?_⟩
      · show ∃ t : Nat, t < 7 ∧ k_st (va_up (s_car S) j _ i) = nI t
        by_cases e : i = j
        · subst e; rw [va_up_self]; exact ⟨6, by decide, rfl⟩
        · rw [va_up_ne _ _ e]; exact i1 i hi
      · show s_on S + 1 = c6 (fun i => k_st (va_up (s_car S) j (k_sSt (s_car S j) 6) i)) (s_cn S)
        rw [c6_up (f := fun i => k_st (s_car S i)) hj (fun q => hg (Or.inr q)) (by show k_st (va_up (s_car S) j (k_sSt (s_car S j) 6) j) = 6; rw [va_up_self]; rfl) (fun i _ hne => by show k_st (va_up (s_car S) j _ i) = _; rw [va_up_ne _ _ hne]), ← i2]
      · change k < k_np (va_up (s_car S) j _ i) at hk
        show ∃ n : Nat, n < 256 ∧ k_by (va_up (s_car S) j _ i) k = nI n
        by_cases e : i = j
        · subst e; rw [va_up_self] at hk ⊢; exact i4 i k hj hk
        · rw [va_up_ne _ _ e] at hk ⊢; exact i4 i k hi hk
theorem Inv.paper {S : SysS} (h : Inv S) (x a b : Int32) : Inv (f_paper S x a b).2 := by
  unfold f_paper
  rcases ix_cases x (n := s_cn S) (by have := h.2.2.1; omega) with hx | ⟨j, hj, rfl⟩
  · rw [ix_out hx]; exact h
  · rw [ix_in hj (by have := h.2.2.1; omega)]
    dsimp only
    split
    · exact h
    · exact h
theorem Inv.listed {S : SysS} (h : Inv S) (x : Int64) : Inv (f_listed S x).2 := by
  unfold f_listed
  split
  · exact h
  · exact h
theorem Inv.carrier {S : SysS} (h : Inv S) (kd : Int32) (x : Int64) (n : Int32) : Inv (f_carrier S kd x n).2 := by
  unfold f_carrier
  split
  · next hc =>
    obtain ⟨i1, i2, i3, i4⟩ := h
    refine ⟨fun i hi => ?_, ?_, ?_, fun i k hi hk => ?_⟩
    · have hi' : i < s_cn S + 1 := hi
      show ∃ t : Nat, t < 7 ∧ k_st (va_up (s_car S) (s_cn S) _ i) = nI t
      by_cases e : i = s_cn S
      · subst e; rw [va_up_self]; exact ⟨0, by decide, rfl⟩
      · rw [va_up_ne _ _ e]; exact i1 i (by omega)
    · show s_on S = c6 (fun i => k_st (va_up (s_car S) (s_cn S) _ i)) (s_cn S + 1)
      simp only [c6]
      rw [if_neg (by rw [va_up_self]; show ¬ (0 : Int32) = 6; decide), c6_congr (g := fun i => k_st (s_car S i)) (fun i hi => by rw [va_up_ne _ _ (by omega)]), ← i2]
      rfl
    · have := hc.2.2.2.1
      show s_cn S + 1 ≤ 10
      omega
    · have hi' : i < s_cn S + 1 := hi
      change k < k_np (va_up (s_car S) (s_cn S) _ i) at hk
      show ∃ n : Nat, n < 256 ∧ k_by (va_up (s_car S) (s_cn S) _ i) k = nI n
      by_cases e : i = s_cn S
      · subst e; rw [va_up_self] at hk ⊢; exact ⟨0, by decide, rfl⟩
      · rw [va_up_ne _ _ e] at hk ⊢; exact i4 i k (by omega) hk
  · exact h
/-! transports -/
theorem LayC.tr {S : SysS} {ad : aw_Ad} {ce ce' : aw_He} (h : LayC S ad ce) (hf : frR ce ce') : LayC S ad ce' := by
  obtain ⟨ho, hca, hpa, hli, hlo, hcars, hpaps, hnoc, hnop, hb⟩ := h
  have f0 : ∀ p, ce' (0, 0, p) = ce (0, 0, p) := fun p => hf _ (by simp)
  exact ⟨(f0 _).trans ho, hca.tr (f0 _), hpa.tr (f0 _), hli.tr (f0 _), hlo.tr (f0 _), fun i hi => (hcars i hi).tr (fun _ => rfl) (fun p => hf _ (by simp)), fun i hi => (hpaps i hi).tr (fun _ => rfl) (fun p => hf _ (by simp)), fun i p hi => (hf _ (by simp)).trans (hnoc i p hi), fun i p hi => (hf _ (by simp)).trans (hnop i p hi), hb⟩
theorem LayR.tr {S : SysS} {ad ad' : aw_Ad} {ce ce' : aw_He} (h : LayR S ad ce) (hf : ∀ q : aw_Lb, q.1 = 3 → ad' q = ad q ∧ ce' q = ce q) : LayR S ad' ce' := by
  obtain ⟨kd, sr, np, st, la, gby, gdu, gwo, grd, un, ps, gpt, gff, gfc, ⟨r0, r1, r2, r3, r4, r5, r6, r7, r8, r9, r10, r11, r12, r14, r15, r17, r19⟩, hE, hW⟩ := h
  have fc : ∀ p, ce' (3, 0, p) = ce (3, 0, p) := fun p => (hf _ rfl).2
  have fa : ∀ p, ad' (3, 0, p) = ad (3, 0, p) := fun p => (hf _ rfl).1
  refine ⟨kd, sr, np, st, la, gby, gdu, gwo, grd, un, ps, gpt, gff, gfc, ⟨?_, r1.tr (fc _), r2.tr (fc _), r3.tr (fc _), r4.tr (fc _), r5.tr (fc _), r6.tr (fc _), r7.tr (fc _), r8.tr (fc _), r9.tr (fc _), r10.tr (fc _), r11.tr (fc _), r12.tr (fc _), r14.tr (fc _), r15.tr (fc _), r17.tr (fc _), r19.tr (fc _)⟩, hE, hW⟩
  rw [fc, r0]
  simp only [fa]
