/-! the state of the system as numbers. A carrier: kind, serial, places, bytes, dues, worn, read, patterns, passes, unlike, state, last -/
abbrev CarS : Type := Int32 × Int64 × Nat × (Nat → Int32) × (Nat → Int32) × (Nat → Int32) × (Nat → Int32) × (Nat → Int32) × Nat × Int32 × Int32 × Int32
def k_kd (c : CarS) : Int32 := c.1
def k_sr (c : CarS) : Int64 := c.2.1
def k_np (c : CarS) : Nat := c.2.2.1
def k_by (c : CarS) : Nat → Int32 := c.2.2.2.1
def k_du (c : CarS) : Nat → Int32 := c.2.2.2.2.1
def k_wo (c : CarS) : Nat → Int32 := c.2.2.2.2.2.1
def k_rd (c : CarS) : Nat → Int32 := c.2.2.2.2.2.2.1
def k_pt (c : CarS) : Nat → Int32 := c.2.2.2.2.2.2.2.1
def k_ps (c : CarS) : Nat := c.2.2.2.2.2.2.2.2.1
def k_un (c : CarS) : Int32 := c.2.2.2.2.2.2.2.2.2.1
def k_st (c : CarS) : Int32 := c.2.2.2.2.2.2.2.2.2.2.1
def k_la (c : CarS) : Int32 := c.2.2.2.2.2.2.2.2.2.2.2
/-- how many of the first n are not 0 -/
def cnt (f : Nat → Int32) : Nat → Nat
  | 0 => 0
  | n + 1 => cnt f n + (if f n = 0 then 0 else 1)
theorem cnt_le (f : Nat → Int32) (n : Nat) : cnt f n ≤ n := by
  induction n with
  | zero => exact Nat.le_refl 0
  | succ n ih => simp only [cnt]; split <;> omega
theorem cnt_congr {f g : Nat → Int32} {n : Nat} (h : ∀ j, j < n → f j = g j) : cnt f n = cnt g n := by
  induction n with
  | zero => rfl
  | succ n ih => simp only [cnt]; rw [ih (fun j hj => h j (by omega)), h n (by omega)]
theorem cnt_zero (n : Nat) : cnt (fun _ => 0) n = 0 := by
  induction n with
  | zero => rfl
  | succ n ih => simp only [cnt]; rw [ih]; rfl
theorem cnt_upd {f : Nat → Int32} {n j : Nat} (hj : j < n) (h0 : f j = 0) {x : Int32} (hx : ¬ x = 0) : cnt (upd f j x) n = cnt f n + 1 := by
  induction n with
  | zero => omega
  | succ n ih =>
    simp only [cnt]
    by_cases e : j = n
    · subst e
      rw [cnt_congr (f := upd f j x) (g := f) (fun q hq => by simp [upd, Nat.ne_of_lt hq])]
      simp [upd, hx, h0]
    · rw [ih (by omega)]
      have : upd f j x n = f n := by simp [upd, Ne.symm e]
      rw [this]
      omega
theorem cnt_full {f : Nat → Int32} {n : Nat} : cnt f n = n ↔ ∀ j, j < n → ¬ f j = 0 := by
  induction n with
  | zero => simp [cnt]
  | succ n ih =>
    have hl := cnt_le f n
    simp only [cnt]
    constructor
    · intro h j hj
      by_cases h0 : f n = 0
      · rw [if_pos h0] at h; omega
      · rw [if_neg h0] at h
        by_cases e : j = n
        · subst e; exact h0
        · exact ih.mp (by omega) j (by omega)
    · intro h
      rw [if_neg (h n (by omega)), ih.mpr (fun j hj => h j (by omega))]
/-- the cells of carrier i -/
def Car (ad : aw_Ad) (ce : aw_He) (i : Nat) (c : CarS) : Prop :=
  ce (1, i, 0) = some (.inr (1, [.int (k_kd c), .long (k_sr c), .ref (ad (1, i, 1)), .ref (ad (1, i, 2)), .ref (ad (1, i, 3)), .ref (ad (1, i, 4)), .ref (ad (1, i, 5)), .int (nI (k_ps c)), .int (nI (cnt (k_rd c) (k_np c))), .int (k_un c), .int (k_st c), .int (k_la c)])) ∧
  arI ce (1, i, 1) 0 (k_np c) (k_by c) ∧ arI ce (1, i, 2) 0 (k_np c) (k_du c) ∧ arI ce (1, i, 3) 1 (k_np c) (k_wo c) ∧ arI ce (1, i, 4) 1 (k_np c) (k_rd c) ∧ arI ce (1, i, 5) 0 6 (k_pt c) ∧ (1 ≤ k_np c ∧ k_np c ≤ 64) ∧ k_ps c ≤ 6
/-- nothing but carrier i has changed -/
def frK (i : Nat) (ce ce' : aw_He) : Prop := ∀ q : aw_Lb, (q.1 ≠ 1 ∨ q.2.1 ≠ i) → ce' q = ce q
def bI (b : Bool) : Int32 := if b then 1 else 0
/-- an answer alone -/
def rN (v : Option Value) (ad : aw_Ad) (ce : aw_He) : Option Value → aw_Ad → aw_He → Prop := fun r ad' ce' => r = v ∧ ad = ad' ∧ ce = ce'
theorem nar_bI (b : Bool) : narrow .boolean (.int (bI b)) = .int (bI b) := by cases b <;> rfl
theorem bI_t {p : Prop} [Decidable p] (h : p) : (1 : Int32) = bI (decide p) := by simp [bI, h]
theorem bI_f {p : Prop} [Decidable p] (h : ¬ p) : (0 : Int32) = bI (decide p) := by simp [bI, h]
theorem sI {x y : Int32} (h : x = y) : some (Value.int x) = some (Value.int y) := by rw [h]
theorem bI_ne {b : Bool} : ¬ bI b = 0 ↔ b = true := by cases b <;> decide
theorem bI_eq {b : Bool} : bI b = 0 ↔ b = false := by cases b <;> decide
theorem aw_lv {X : aw_X} {nL cells slots : Nat} {ad : aw_Ad} {ce : aw_He} {pc : Nat} {lv lv' : List (Nat × Value)} {st : List Value} (e : lv = lv') (k : AW X nL cells slots ad ce pc lv' st) : AW X nL cells slots ad ce pc lv st := by subst e; exact k
/-- the k-th place (by numbers) at which p holds, m places left, place i next, s seen -/
def kth (p : Nat → Int32) (k : Int32) : Nat → Nat → Int32 → Int32
  | 0, _, _ => -1
  | m + 1, i, s => if p i = 0 then kth p k m (i + 1) s else if s = k then nI i else kth p k m (i + 1) (s + 1)
/-- papers: how many fields, the fields -/
abbrev PapS : Type := Nat × (Nat → Int32)
/-- the system: carriers, papers, the list, the lost ones -/
abbrev SysS : Type := Nat × (Nat → CarS) × Nat × (Nat → PapS) × Nat × (Nat → Int64) × Nat × (Nat → Int32)
def s_cn (S : SysS) : Nat := S.1
def s_car (S : SysS) : Nat → CarS := S.2.1
def s_pn (S : SysS) : Nat := S.2.2.1
def s_pap (S : SysS) : Nat → PapS := S.2.2.2.1
def s_ln (S : SysS) : Nat := S.2.2.2.2.1
def s_li (S : SysS) : Nat → Int64 := S.2.2.2.2.2.1
def s_on (S : SysS) : Nat := S.2.2.2.2.2.2.1
def s_lo (S : SysS) : Nat → Int32 := S.2.2.2.2.2.2.2
def Pap (ad : aw_Ad) (ce : aw_He) (j : Nat) (p : PapS) : Prop := ce (2, j, 0) = some (.inr (2, [.ref (ad (2, j, 1))])) ∧ arI ce (2, j, 1) 0 p.1 p.2 ∧ 6 ≤ p.1 ∧ p.1 ≤ 12
/-- the class's cells -/
def LayC (S : SysS) (ad : aw_Ad) (ce : aw_He) : Prop :=
  ce (0, 0, 0) = some (.inr (0, [.ref (ad (0, 0, 1)), .int (nI (s_cn S)), .ref (ad (0, 0, 2)), .int (nI (s_pn S)), .ref (ad (0, 0, 3)), .int (nI (s_ln S)), .ref (ad (0, 0, 4)), .int (nI (s_on S))])) ∧
  arQ ce (0, 0, 1) 3 10 (fun j => if j < s_cn S then some (ad (1, j, 0)) else none) ∧ arQ ce (0, 0, 2) 4 20 (fun j => if j < s_pn S then some (ad (2, j, 0)) else none) ∧ arJ ce (0, 0, 3) 20 (s_li S) ∧ arI ce (0, 0, 4) 0 10 (s_lo S) ∧
  (∀ i, i < s_cn S → Car ad ce i (s_car S i)) ∧ (∀ j, j < s_pn S → Pap ad ce j (s_pap S j)) ∧ (∀ i p, s_cn S ≤ i → ce (1, i, p) = none) ∧ (∀ j p, s_pn S ≤ j → ce (2, j, p) = none) ∧ (s_cn S ≤ 10 ∧ s_pn S ≤ 20 ∧ s_ln S ≤ 20 ∧ s_on S ≤ 10)
