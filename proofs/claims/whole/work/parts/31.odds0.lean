/-! the numbers of the odds -/
def ch : Nat → Nat → Nat
  | _, 0 => 1
  | 0, _ + 1 => 0
  | n + 1, k + 1 => ch n k + ch n (k + 1)
theorem ch_0 (n : Nat) : ch n 0 = 1 := by cases n <;> rfl
theorem ch_id : ∀ (n k : Nat), (k + 1) * ch n (k + 1) + k * ch n k = n * ch n k := by
  intro n
  induction n with
  | zero =>
    intro k
    cases k with
    | zero => rfl
    | succ k => simp [ch]
  | succ n ih =>
    intro k
    cases k with
    | zero =>
      have h := ih 0
      simp only [ch, ch_0, Nat.zero_mul, Nat.add_zero, Nat.zero_add, Nat.one_mul, Nat.mul_one] at h ⊢
      omega
    | succ k =>
      have h1 := ih k
      have h2 := ih (k + 1)
      simp only [ch]
      simp only [Nat.add_mul, Nat.mul_add, Nat.one_mul, Nat.add_assoc] at h1 h2 ⊢
      omega
theorem ch_big : ∀ {n k : Nat}, n < k → ch n k = 0 := by
  intro n
  induction n with
  | zero => intro k h; cases k with
    | zero => omega
    | succ k => rfl
  | succ n ih => intro k h; cases k with
    | zero => omega
    | succ k => simp only [ch]; rw [ih (by omega), ih (by omega)]
theorem ch_step (n k : Nat) : (k + 1) * ch n (k + 1) = ch n k * (n - k) := by
  rcases Nat.lt_or_ge n k with h | h
  · rw [ch_big h, ch_big (show n < k + 1 by omega)]; simp
  · have h1 := ch_id n k
    have h2 : n * ch n k = (n - k) * ch n k + k * ch n k := by rw [← Nat.add_mul, Nat.sub_add_cancel h]
    rw [Nat.mul_comm (ch n k)]
    omega
theorem ch_le (n : Nat) : ∀ k, ch n k ≤ 2 ^ n := by
  induction n with
  | zero => intro k; cases k with
    | zero => exact Nat.le_refl 1
    | succ k => exact Nat.zero_le _
  | succ n ih => intro k; cases k with
    | zero => exact Nat.one_le_two_pow
    | succ k =>
      have h1 := ih k
      have h2 := ih (k + 1)
      simp only [ch]
      rw [Nat.pow_succ]
      omega
theorem ch_pos : ∀ {n k : Nat}, k ≤ n → 0 < ch n k := by
  intro n
  induction n with
  | zero => intro k h; rw [show k = 0 by omega]; decide
  | succ n ih => intro k h; cases k with
    | zero => exact Nat.one_pos
    | succ k => have := ih (k := k) (by omega); simp only [ch]; omega
theorem ch_40 {n k : Nat} (h : n ≤ 40) : ch n k ≤ 1099511627776 := Nat.le_trans (ch_le n k) (Nat.le_trans (Nat.pow_le_pow_right (by decide) h) (by decide))
def euc : Nat → Nat → Nat → Nat
  | 0, u, _ => u
  | f + 1, u, v => if v = 0 then u else euc f v (u % v)
theorem euc_gcd : ∀ (k u v f : Nat), v < 2 ^ k → 2 * k + 1 ≤ f → euc f u v = Nat.gcd u v := by
  intro k
  induction k with
  | zero =>
    intro u v f hv hf
    obtain ⟨f, rfl⟩ : ∃ g, f = g + 1 := ⟨f - 1, by omega⟩
    have h0 : v = 0 := by simpa using hv
    subst h0
    simp [euc]
  | succ k ih =>
    intro u v f hv hf
    obtain ⟨f, rfl⟩ : ∃ g, f = g + 2 := ⟨f - 2, by omega⟩
    by_cases h0 : v = 0
    · subst h0; simp [euc]
    · have hr : u % v < v := Nat.mod_lt _ (by omega)
      by_cases h1 : u % v = 0
      · simp only [euc, if_neg h0, if_pos h1]
        rw [Nat.gcd_comm, Nat.gcd_rec, h1, Nat.gcd_zero_left]
      · simp only [euc, if_neg h0, if_neg h1]
        have h2 : v % (u % v) < u % v := Nat.mod_lt _ (by omega)
        have h3 : v % (u % v) + u % v ≤ v := by
          have := Nat.div_add_mod v (u % v)
          have h4 : 1 ≤ v / (u % v) := (Nat.one_le_div_iff (by omega)).mpr (by omega)
          have h5 : u % v * 1 ≤ u % v * (v / (u % v)) := Nat.mul_le_mul_left _ h4
          omega
        rw [Nat.pow_succ] at hv
        rw [ih (u % v) (v % (u % v)) f (by omega) (by omega)]
        rw [Nat.gcd_comm (u % v), ← Nat.gcd_rec, ← Nat.gcd_rec, Nat.gcd_comm]
def rdn (X Y : Nat) : Nat := X / Nat.gcd X Y
def rdm (X Y : Nat) : Nat := Y / Nat.gcd X Y
theorem rdn_mul {d X Y : Nat} (hd : 0 < d) : rdn (d * X) (d * Y) = rdn X Y := by
  unfold rdn; rw [Nat.gcd_mul_left, Nat.mul_div_mul_left _ _ hd]
theorem rdm_mul {d X Y : Nat} (hd : 0 < d) : rdm (d * X) (d * Y) = rdm X Y := by
  unfold rdm; rw [Nat.gcd_mul_left, Nat.mul_div_mul_left _ _ hd]
theorem red_step {U V U' V' k x y : Nat} (hV : 0 < V) (hU' : (k + 1) * U' = U * x) (hV' : (k + 1) * V' = V * y) : rdn (rdn U V * x) (rdm U V * y) = rdn U' V' ∧ rdm (rdn U V * x) (rdm U V * y) = rdm U' V' := by
  have hd : 0 < Nat.gcd U V := Nat.gcd_pos_of_pos_right _ hV
  have e1 : Nat.gcd U V * (rdn U V * x) = (k + 1) * U' := by
    rw [hU', ← Nat.mul_assoc, rdn, Nat.mul_div_cancel' (Nat.gcd_dvd_left U V)]
  have e2 : Nat.gcd U V * (rdm U V * y) = (k + 1) * V' := by
    rw [hV', ← Nat.mul_assoc, rdm, Nat.mul_div_cancel' (Nat.gcd_dvd_right U V)]
  constructor
  · rw [← rdn_mul hd, e1, e2, rdn_mul (Nat.succ_pos k)]
  · rw [← rdm_mul hd, e1, e2, rdm_mul (Nat.succ_pos k)]
def f_odds (a r b p : Int32) : Int64 := if (1 ≤ a ∧ a ≤ 40) ∧ (0 ≤ p ∧ p ≤ 1) ∧ (0 ≤ r ∧ r ≤ a) ∧ (0 ≤ b ∧ b ≤ a) then (if p = 0 then lN (rdn (ch (a.toNatClampNeg - b.toNatClampNeg) r.toNatClampNeg) (ch a.toNatClampNeg r.toNatClampNeg)) else lN (rdm (ch (a.toNatClampNeg - b.toNatClampNeg) r.toNatClampNeg) (ch a.toNatClampNeg r.toNatClampNeg))) else -1
