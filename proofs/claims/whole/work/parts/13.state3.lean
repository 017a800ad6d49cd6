/-! the system's steps, in numbers -/
def s_set (S : SysS) (i : Nat) (c : CarS) : SysS := (s_cn S, va_up (s_car S) i c, s_pn S, s_pap S, s_ln S, s_li S, s_on S, s_lo S)
theorem Car.tr {ad ad' : aw_Ad} {ce ce' : aw_He} {i : Nat} {c : CarS} (h : Car ad ce i c) (ha : ∀ p, ad' (1, i, p) = ad (1, i, p)) (hf : ∀ p, ce' (1, i, p) = ce (1, i, p)) : Car ad' ce' i c := by
  obtain ⟨hk, hby, hdu, hwo, hrd, hpt, hn, hps⟩ := h
  exact ⟨by rw [hf, hk, ha, ha, ha, ha, ha], hby.tr (hf _), hdu.tr (hf _), hwo.tr (hf _), hrd.tr (hf _), hpt.tr (hf _), hn, hps⟩
theorem Pap.tr {ad ad' : aw_Ad} {ce ce' : aw_He} {j : Nat} {p : PapS} (h : Pap ad ce j p) (ha : ∀ p, ad' (2, j, p) = ad (2, j, p)) (hf : ∀ p, ce' (2, j, p) = ce (2, j, p)) : Pap ad' ce' j p := by
  obtain ⟨h1, h2, h3⟩ := h
  exact ⟨by rw [hf, h1, ha], h2.tr (hf _), h3⟩
theorem LayC.car {S : SysS} {ad : aw_Ad} {ce ce' : aw_He} {i : Nat} {c : CarS} (hL : LayC S ad ce) (hi : i < s_cn S) (hf : frK i ce ce') (hK : Car ad ce' i c) : LayC (s_set S i c) ad ce' := by
  obtain ⟨ho, hca, hpa, hli, hlo, hcars, hpaps, hnoc, hnop, hb⟩ := hL
  have h0 : ∀ p, ce' (0, 0, p) = ce (0, 0, p) := fun p => hf _ (Or.inl (by simp))
  refine ⟨(h0 _).trans ho, hca.tr (h0 _), hpa.tr (h0 _), hli.tr (h0 _), hlo.tr (h0 _), fun j hj => ?_, fun j hj => (hpaps j hj).tr (fun _ => rfl) (fun p => hf _ (Or.inl (by simp))), fun j p hj => ?_, fun j p hj => (hf _ (Or.inl (by simp))).trans (hnop j p hj), hb⟩
  · by_cases e : j = i
    · subst e
      show Car ad ce' j (va_up (s_car S) j c j)
      rw [va_up_self]; exact hK
    · show Car ad ce' j (va_up (s_car S) i c j)
      rw [va_up_ne _ _ e]
      exact (hcars j hj).tr (fun _ => rfl) (fun p => hf _ (Or.inr e))
  · have hj' : s_cn S ≤ j := hj
    exact (hf _ (Or.inr (by show j ≠ i; omega))).trans (hnoc j p hj)
/-- an answer, the class's cells hold S' now, the reference's are as they were -/
def rC (v : Option Value) (S' : SysS) (ad : aw_Ad) (ce : aw_He) : Option Value → aw_Ad → aw_He → Prop := fun r ad' ce' => r = v ∧ (∀ q : aw_Lb, q.1 = 3 → ad' q = ad q ∧ ce' q = ce q) ∧ ad' (0, 0, 0) = ad (0, 0, 0) ∧ LayC S' ad' ce'
theorem rC.of {v : Option Value} {S : SysS} {ad : aw_Ad} {ce : aw_He} {r : Option Value} {ad' : aw_Ad} {ce' : aw_He} (hL : LayC S ad ce) (h : rN v ad ce r ad' ce') : rC v S ad ce r ad' ce' := by
  obtain ⟨rfl, rfl, rfl⟩ := h
  exact ⟨rfl, fun _ _ => ⟨rfl, rfl⟩, rfl, hL⟩
theorem rC.car {v : Option Value} {S : SysS} {ad : aw_Ad} {ce ce' : aw_He} {i : Nat} {c : CarS} (hL : LayC S ad ce) (hi : i < s_cn S) (hf : frK i ce ce') (hK : Car ad ce' i c) : rC v (s_set S i c) ad ce v ad ce' :=
  ⟨rfl, fun q hq => ⟨rfl, hf q (Or.inl (by omega))⟩, rfl, hL.car hi hf hK⟩
def evTo (e s : Int32) : Int32 := if e = 0 then (if s = 0 then 1 else -1) else if e = 1 then (if s = 1 then 0 else -1) else if e = 2 then (if s ≤ 3 then 4 else -1) else if e = 3 then (if s = 1 then 2 else -1) else if e = 4 then (if s = 3 then 1 else -1) else -1
/-- one field into the mark -/
def mkS (x : Int64) (v : Int32) : Int64 := ((x + v.toInt64 + 1) * 6364136223846793005) ^^^ (((x + v.toInt64 + 1) * 6364136223846793005).toUInt64 >>> ((32 : Int32).toInt64.toUInt64 &&& Int64.toUInt64 63)).toInt64
def fldM (st : Int64 → Int32 → Int64) (f : Nat → Int32) : Nat → Nat → Int64 → Int64
  | 0, _, x => x
  | m + 1, a, x => fldM st f m (a + 1) (st x (f a))
theorem fldM_0 (st : Int64 → Int32 → Int64) (f : Nat → Int32) (a : Nat) (x : Int64) : fldM st f 0 a x = x := rfl
theorem fldM_s (st : Int64 → Int32 → Int64) (f : Nat → Int32) (m a : Nat) (x : Int64) : fldM st f (m + 1) a x = fldM st f m (a + 1) (st x (f a)) := rfl
def anyF (f : Nat → Int64) (x : Int64) : Nat → Nat → Bool
  | 0, _ => false
  | m + 1, a => decide (f a = x) || anyF f x m (a + 1)
theorem sw5 {x : Int32} (h0 : ¬ x = 0) (h1 : ¬ x = 1) (h2 : ¬ x = 2) (h3 : ¬ x = 3) (h4 : ¬ x = 4) : x.toInt < 0 ∨ 4 < x.toInt := by
  have n0 := lv_neT (a := 0) h0 rfl
  have n1 := lv_neT (a := 1) h1 rfl
  have n2 := lv_neT (a := 2) h2 rfl
  have n3 := lv_neT (a := 3) h3 rfl
  have n4 := lv_neT (a := 4) h4 rfl
  omega
