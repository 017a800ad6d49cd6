/-! what each call answers, and the system behind it -/
def ix (n : Nat) (x : Int32) : Option Nat := if x < 0 ∨ nI n ≤ x then none else some x.toNatClampNeg
theorem ix_out {n : Nat} {x : Int32} (h : x < 0 ∨ nI n ≤ x) : ix n x = none := if_pos h
theorem ix_in {n j : Nat} (hj : j < n) (hn : n < 2 ^ 31) : ix n (nI j) = some j := by
  unfold ix
  rw [if_neg, nI_clamp (by omega)]
  rintro (h | h)
  · exact nI_pos (by omega) h
  · exact nI_ge hj hn h
theorem ix_cases (x : Int32) {n : Nat} (hn : n < 2 ^ 31) : (x < 0 ∨ nI n ≤ x) ∨ ∃ j, j < n ∧ x = nI j := by
  rcases pk_ix x hn with h | h | h
  · exact Or.inl (Or.inl h)
  · exact Or.inl (Or.inr h)
  · exact Or.inr h
def gone (c : CarS) : Prop := k_st c = 5 ∨ k_st c = 6
abbrev sC (S : SysS) (j : Nat) : CarS := s_car S j
def f_state (S : SysS) (x : Int32) : Int32 := match ix (s_cn S) x with
  | none => -1
  | some j => k_st (s_car S j)
def f_last (S : SysS) (x : Int32) : Int32 := match ix (s_cn S) x with
  | none => -1
  | some j => k_la (s_car S j)
def f_unlike (S : SysS) (x : Int32) : Int32 := match ix (s_cn S) x with
  | none => -1
  | some j => k_un (s_car S j)
def f_failed (S : SysS) (x k : Int32) : Int32 := match ix (s_cn S) x with
  | none => -1
  | some j => kth (k_wo (s_car S j)) k (k_np (s_car S j)) 0 0
def f_byteAt (S : SysS) (x y : Int32) : Int32 := match ix (s_cn S) x with
  | none => -1
  | some j => if k_st (s_car S j) = 5 ∨ k_st (s_car S j) = 6 then -1 else match ix (k_np (s_car S j)) y with
    | none => -1
    | some p => k_by (s_car S j) p
def f_fail (S : SysS) (x y : Int32) : Int32 × SysS := match ix (s_cn S) x with
  | none => (0, S)
  | some j => if k_st (s_car S j) = 5 ∨ k_st (s_car S j) = 6 then (0, S) else match ix (k_np (s_car S j)) y with
    | none => (0, S)
    | some p => if k_wo (s_car S j) p = 0 then (1, s_set S j (k_sWo (s_car S j) (upd (k_wo (s_car S j)) p 1))) else (0, S)
def k_ev (c : CarS) (e p : Int32) : CarS := k_sLa (k_sSt (if e = 3 then k_sNp c else c) (evTo e (k_st c))) p
def f_event (S : SysS) (x e p : Int32) : Int32 × SysS := match ix (s_cn S) x with
  | none => (0, S)
  | some j => if (0 ≤ p ∧ p ≤ 9) ∧ 0 ≤ evTo e (k_st (s_car S j)) then (1, s_set S j (k_ev (s_car S j) e p)) else (0, S)
def f_pass (S : SysS) (x p : Int32) : Int32 × SysS := match ix (s_cn S) x with
  | none => (-1, S)
  | some j => if (0 ≤ p ∧ p ≤ 257) ∧ k_st (s_car S j) = 2 ∧ k_ps (s_car S j) < 6 then (nI (k_ps (s_car S j) + 1), s_set S j (k_pass (s_car S j) p)) else (-1, S)
def f_read (S : SysS) (x y b : Int32) : Int32 × SysS := match ix (s_cn S) x with
  | none => (-1, S)
  | some j => match ix (k_np (s_car S j)) y with
    | none => (-1, S)
    | some q => if (0 ≤ b ∧ b ≤ 255) ∧ k_st (s_car S j) = 2 ∧ ¬ k_ps (s_car S j) = 0 ∧ k_rd (s_car S j) q = 0 then ((if b = k_du (s_car S j) q then 1 else 0), s_set S j (k_read (s_car S j) q b)) else (-1, S)
def f_shred (S : SysS) (x m : Int32) : Int32 × SysS := match ix (s_cn S) x with
  | none => (0, S)
  | some j => if (1 ≤ m ∧ m ≤ 100) ∧ (k_st (s_car S j) = 3 ∨ k_st (s_car S j) = 4) ∧ ¬ 2 + 6 * k_kd (s_car S j) < m then (1, s_set S j (k_sSt (s_car S j) 5)) else (0, S)
def s_lost (S : SysS) (j : Nat) : SysS := (s_cn S, va_up (s_car S) j (k_sSt (s_car S j) 6), s_pn S, s_pap S, s_ln S, s_li S, s_on S + 1, upd (s_lo S) (s_on S) (nI j))
def f_lost (S : SysS) (x : Int32) : Int32 × SysS := match ix (s_cn S) x with
  | none => (-1, S)
  | some j => if k_st (s_car S j) = 5 ∨ k_st (s_car S j) = 6 then (-1, S) else (nI (s_on S + 1), s_lost S j)
def s_addP (S : SysS) (p : PapS) : SysS := (s_cn S, s_car S, s_pn S + 1, va_up (s_pap S) (s_pn S) p, s_ln S, s_li S, s_on S, s_lo S)
def f_paper (S : SysS) (x a b : Int32) : Int32 × SysS := match ix (s_cn S) x with
  | none => (-1, S)
  | some j => if (0 ≤ a ∧ a ≤ 9) ∧ (0 ≤ b ∧ b ≤ 9) ∧ ¬ a = b ∧ (k_st (s_car S j) = 3 ∨ k_st (s_car S j) = 5) ∧ s_pn S < 20 then (nI (s_pn S), s_addP S (6 + k_ps (s_car S j), papF (nI j) (s_car S j) a b)) else (-1, S)
def s_addL (S : SysS) (x : Int64) : SysS := (s_cn S, s_car S, s_pn S, s_pap S, s_ln S + 1, vp_updL (s_li S) (s_ln S) x, s_on S, s_lo S)
def hasC (S : SysS) (x : Int64) : Bool := anyF (fun i => k_sr (s_car S i)) x (s_cn S) 0
def hasL (S : SysS) (x : Int64) : Bool := anyF (s_li S) x (s_ln S) 0
def f_listed (S : SysS) (x : Int64) : Int32 × SysS := if (0 ≤ x ∧ x ≤ 1000000000000) ∧ hasL S x = false ∧ s_ln S < 20 then (nI (s_ln S + 1), s_addL S x) else (-1, S)
def s_addC (S : SysS) (c : CarS) : SysS := (s_cn S + 1, va_up (s_car S) (s_cn S) c, s_pn S, s_pap S, s_ln S, s_li S, s_on S, s_lo S)
def f_carrier (S : SysS) (kd : Int32) (x : Int64) (n : Int32) : Int32 × SysS := if (0 ≤ kd ∧ kd ≤ 3) ∧ (0 ≤ x ∧ x ≤ 1000000000000) ∧ (1 ≤ n ∧ n ≤ 64) ∧ s_cn S < 10 ∧ hasC S x = false then (nI (s_cn S), s_addC S (k_new kd x n.toNatClampNeg)) else (-1, S)
def f_at (S : SysS) (x i : Int32) : Int32 := match ix (s_pn S) x with
  | none => -1
  | some j => match ix (s_pap S j).1 i with
    | none => -1
    | some k => (s_pap S j).2 k
def mkOf (p : PapS) (key : Int64) : Int64 := fldM mkS p.2 p.1 0 key
def mkB (x : Int64) (s : Int32) : Int32 := Int64.toInt32 ((Int64.toUInt64 x >>> ((Int32.toInt64 s).toUInt64 &&& Int64.toUInt64 63)).toInt64 &&& 255)
def f_mark (S : SysS) (x : Int32) (key : Int64) (i : Int32) : Int32 := match ix (s_pn S) x with
  | none => -1
  | some j => if 0 ≤ i ∧ i ≤ 7 then mkB (mkOf (s_pap S j) key) (56 - 8 * i) else -1
def f_check (S : SysS) (x : Int32) (key b : Int64) : Int32 := match ix (s_pn S) x with
  | none => 0
  | some j => if mkOf (s_pap S j) key = b then 1 else 0
def f_missing (S : SysS) (k : Int32) : Int32 := kth (fun i => if hasC S (s_li S i) = true then 0 else 1) k (s_ln S) 0 0
def f_extra (S : SysS) (k : Int32) : Int32 := kth (fun i => if hasL S (k_sr (s_car S i)) = true then 0 else 1) k (s_cn S) 0 0
def f_told (S : SysS) (k : Int32) : Int32 := match ix (s_on S) k with
  | none => -1
  | some j => s_lo S j
