def k_mk (kd : Int32) (sr : Int64) (np : Nat) (by' du wo rd pt : Nat → Int32) (ps : Nat) (un st la : Int32) : CarS := (kd, sr, np, by', du, wo, rd, pt, ps, un, st, la)
def k_sWo (c : CarS) (f : Nat → Int32) : CarS := k_mk (k_kd c) (k_sr c) (k_np c) (k_by c) (k_du c) f (k_rd c) (k_pt c) (k_ps c) (k_un c) (k_st c) (k_la c)
def k_sSt (c : CarS) (v : Int32) : CarS := k_mk (k_kd c) (k_sr c) (k_np c) (k_by c) (k_du c) (k_wo c) (k_rd c) (k_pt c) (k_ps c) (k_un c) v (k_la c)
def k_sLa (c : CarS) (v : Int32) : CarS := k_mk (k_kd c) (k_sr c) (k_np c) (k_by c) (k_du c) (k_wo c) (k_rd c) (k_pt c) (k_ps c) (k_un c) (k_st c) v
/-- no reads -/
def k_sFg (c : CarS) : CarS := k_mk (k_kd c) (k_sr c) (k_np c) (k_by c) (k_du c) (k_wo c) (fun _ => 0) (k_pt c) (k_ps c) 0 (k_st c) (k_la c)
/-- no passes and no reads -/
def k_sNp (c : CarS) : CarS := k_mk (k_kd c) (k_sr c) (k_np c) (k_by c) (k_du c) (k_wo c) (fun _ => 0) (k_pt c) 0 0 (k_st c) (k_la c)
/-- a pattern's byte -/
def pB (p : Int32) (j : Nat) (b : Int32) : Int32 := if p = 256 then (7 * nI j + 3) &&& 255 else if p = 257 then b ^^^ 255 else p
def k_pass (c : CarS) (p : Int32) : CarS := k_mk (k_kd c) (k_sr c) (k_np c) (fun j => if k_wo c j = 0 then pB p j (k_by c j) else k_by c j) (fun j => pB p j (k_by c j)) (k_wo c) (fun _ => 0) (upd (k_pt c) (k_ps c) p) (k_ps c + 1) 0 (k_st c) (k_la c)
def k_rdU (c : CarS) (j : Nat) (b : Int32) : Int32 := if b = k_du c j then k_un c else k_un c + 1
def k_read (c : CarS) (j : Nat) (b : Int32) : CarS := k_mk (k_kd c) (k_sr c) (k_np c) (k_by c) (k_du c) (k_wo c) (upd (k_rd c) j 1) (k_pt c) (k_ps c) (k_rdU c j b) (if cnt (upd (k_rd c) j 1) (k_np c) = k_np c ∧ k_rdU c j b = 0 then 3 else k_st c) (k_la c)
/-- an answer, and carrier i is c' now -/
def rK (v : Option Value) (i : Nat) (c' : CarS) (ad : aw_Ad) (ce : aw_He) : Option Value → aw_Ad → aw_He → Prop := fun r ad' ce' => r = v ∧ ad = ad' ∧ frK i ce ce' ∧ Car ad ce' i c'
theorem Car.of {ad : aw_Ad} {ce : aw_He} {i : Nat} {c : CarS} {kd ps rc un st la : Int32} {sr : Int64} (h : ce (1, i, 0) = some (.inr (1, [.int kd, .long sr, .ref (ad (1, i, 1)), .ref (ad (1, i, 2)), .ref (ad (1, i, 3)), .ref (ad (1, i, 4)), .ref (ad (1, i, 5)), .int ps, .int rc, .int un, .int st, .int la]))) (e1 : kd = k_kd c) (e2 : sr = k_sr c) (e3 : ps = nI (k_ps c)) (e4 : rc = nI (cnt (k_rd c) (k_np c))) (e5 : un = k_un c) (e6 : st = k_st c) (e7 : la = k_la c)
    (h1 : arI ce (1, i, 1) 0 (k_np c) (k_by c)) (h2 : arI ce (1, i, 2) 0 (k_np c) (k_du c)) (h3 : arI ce (1, i, 3) 1 (k_np c) (k_wo c)) (h4 : arI ce (1, i, 4) 1 (k_np c) (k_rd c)) (h5 : arI ce (1, i, 5) 0 6 (k_pt c)) (h6 : 1 ≤ k_np c ∧ k_np c ≤ 64) (h7 : k_ps c ≤ 6) : Car ad ce i c := by
  subst e1 e2 e3 e4 e5 e6 e7
  exact ⟨h, h1, h2, h3, h4, h5, h6, h7⟩
theorem fr1 {i p : Nat} {ce ce' : aw_He} (h : ∀ q, q ≠ (1, i, p) → ce' q = ce q) : frK i ce ce' := fun q hq => h q (fun e => by subst e; simp at hq)
theorem frK.trans {i : Nat} {a b c : aw_He} (h1 : frK i a b) (h2 : frK i b c) : frK i a c := fun q hq => (h2 q hq).trans (h1 q hq)
theorem frK.rf {i : Nat} {a : aw_He} : frK i a a := fun _ _ => rfl
theorem cnt0 (n : Nat) : (0 : Int32) = nI (cnt (fun _ => 0) n) := by rw [cnt_zero]; exact nI_0.symm
