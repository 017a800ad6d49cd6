theorem s_set_cn (S : SysS) (j : Nat) (c : CarS) : s_cn (s_set S j c) = s_cn S := rfl
theorem s_set_car (S : SysS) (j : Nat) (c : CarS) : s_car (s_set S j c) = va_up (s_car S) j c := rfl
theorem WFS.set {S : SysS} (h : WFS S) {j : Nat} {c : CarS} (hn : 1 ≤ k_np c ∧ k_np c ≤ 64) (hp : k_ps c ≤ 6) : WFS (s_set S j c) := by
  obtain ⟨h1, h2, h3⟩ := h
  refine ⟨h1, fun i hi => ?_, h3⟩
  rw [s_set_car]
  by_cases e : i = j
  · subst e; rw [va_up_self]; exact ⟨hn, hp⟩
  · rw [va_up_ne _ _ e]; exact h2 i hi
theorem Rel.set {S : SysS} {kd : Nat → Int32} {sr : Nat → Int64} {np st la gby gdu gwo grd un ps gpt gff gfc st' la' gby' gdu' gwo' grd' un' ps' gpt' : Nat → Int32} (h : Rel S kd sr np st la gby gdu gwo grd un ps gpt gff gfc) (hW : WFS S) {j : Nat} (hj : j < s_cn S) (c : CarS)
    (e_kd : k_kd c = k_kd (s_car S j)) (e_sr : k_sr c = k_sr (s_car S j)) (e_np : k_np c = k_np (s_car S j))
    (hst : ∀ i, i < 10 → st' i = if i = j then k_st c else st i) (hla : ∀ i, i < 10 → la' i = if i = j then k_la c else la i) (hun : ∀ i, i < 10 → un' i = if i = j then k_un c else un i) (hps : ∀ i, i < 10 → ps' i = if i = j then nI (k_ps c) else ps i)
    (hby : (∀ k, k < k_np c → gby' (64 * j + k) = k_by c k) ∧ ∀ q, (q < 64 * j ∨ 64 * j + 64 ≤ q) → gby' q = gby q) (hdu : (∀ k, k < k_np c → gdu' (64 * j + k) = k_du c k) ∧ ∀ q, (q < 64 * j ∨ 64 * j + 64 ≤ q) → gdu' q = gdu q)
    (hwo : (∀ k, k < k_np c → gwo' (64 * j + k) = k_wo c k) ∧ ∀ q, (q < 64 * j ∨ 64 * j + 64 ≤ q) → gwo' q = gwo q) (hrd : (∀ k, k < k_np c → grd' (64 * j + k) = k_rd c k) ∧ ∀ q, (q < 64 * j ∨ 64 * j + 64 ≤ q) → grd' q = grd q)
    (hpt : (∀ k, k < k_ps c → gpt' (6 * j + k) = k_pt c k) ∧ ∀ q, (q < 6 * j ∨ 6 * j + 6 ≤ q) → gpt' q = gpt q) :
    Rel (s_set S j c) kd sr np st' la' gby' gdu' gwo' grd' un' ps' gpt' gff gfc := by
  obtain ⟨h1, h2, h3, h4, h5, h6, h7⟩ := h
  obtain ⟨⟨w1, -⟩, w2, -⟩ := hW
  refine ⟨fun i hi => ?_, fun i k hi hk => ?_, fun i k hi hi2 hk => ?_, fun i k hi hk => ?_, h5, h6, fun i hi => ?_⟩
  · rw [s_set_car]
    by_cases e : i = j
    · subst e
      rw [va_up_self, hst i hi, hla i hi, hun i hi, hps i hi, if_pos rfl, if_pos rfl, if_pos rfl, if_pos rfl, e_kd, e_sr, e_np]
      obtain ⟨a1, a2, a3, -⟩ := h1 i hi
      exact ⟨a1, a2, a3, rfl, rfl, rfl, rfl⟩
    · rw [va_up_ne _ _ e, hst i hi, hla i hi, hun i hi, hps i hi, if_neg e, if_neg e, if_neg e, if_neg e]
      exact h1 i hi
  · rw [s_set_car] at hk ⊢
    by_cases e : i = j
    · subst e
      rw [va_up_self] at hk ⊢
      exact ⟨hby.1 k hk, hdu.1 k hk, hwo.1 k hk, hrd.1 k hk⟩
    · rw [va_up_ne _ _ e] at hk ⊢
      have hi' : i < s_cn S := hi
      have hq : 64 * i + k < 64 * j ∨ 64 * j + 64 ≤ 64 * i + k := by
        have := (w2 i hi').1.2
        omega
      rw [hby.2 _ hq, hdu.2 _ hq, hwo.2 _ hq, hrd.2 _ hq]
      exact h2 i k hi' hk
  · have hi' : s_cn S ≤ i := hi
    have hq : 64 * i + k < 64 * j ∨ 64 * j + 64 ≤ 64 * i + k := by omega
    rw [hby.2 _ hq, hdu.2 _ hq, hwo.2 _ hq, hrd.2 _ hq]
    exact h3 i k hi' hi2 hk
  · rw [s_set_car] at hk ⊢
    by_cases e : i = j
    · subst e
      rw [va_up_self] at hk ⊢
      exact hpt.1 k hk
    · rw [va_up_ne _ _ e] at hk ⊢
      have hi' : i < s_cn S := hi
      have := (w2 i hi').2
      rw [hpt.2 _ (by omega)]
      exact h4 i k hi' hk
  · rw [s_set_car]
    have hi' : s_cn S ≤ i := hi
    rw [va_up_ne _ _ (by omega)]
    exact h7 i hi'
/-- a place that stays -/
theorem ifs {f : Nat → Int32} {j i : Nat} {v : Int32} (h : f j = v) : f i = if i = j then v else f i := by
  by_cases e : i = j
  · subst e; rw [if_pos rfl, h]
  · rw [if_neg e]
theorem ifu {f : Nat → Int32} {j i : Nat} {v w : Int32} (h : w = v) : upd f j w i = if i = j then v else f i := by
  subst h; rfl
theorem updn {f : Nat → Int32} {j i : Nat} {w : Int32} (h : ¬ i = j) : upd f j w i = f i := if_neg h
