/-! arrays by their contents within their length; a store names a new heap that is the old one elsewhere -/
def arI (ce : aw_He) (k : aw_Lb) (t n : Nat) (g : Nat → Int32) : Prop := ∃ f, ce k = some (.inl (t, n, .inl f)) ∧ ∀ j, j < n → f j = g j
def arJ (ce : aw_He) (k : aw_Lb) (n : Nat) (g : Nat → Int64) : Prop := ∃ f, ce k = some (.inl (2, n, .inr (.inl f))) ∧ ∀ j, j < n → f j = g j
def arQ (ce : aw_He) (k : aw_Lb) (t n : Nat) (g : Nat → Option Nat) : Prop := ∃ f, ce k = some (.inl (t, n, .inr (.inr (.inr (.inr f))))) ∧ ∀ j, j < n → f j = g j
theorem arI.tr {ce ce' : aw_He} {k : aw_Lb} {t n : Nat} {g : Nat → Int32} (h : arI ce k t n g) (e : ce' k = ce k) : arI ce' k t n g := by
  obtain ⟨f, h1, h2⟩ := h; exact ⟨f, e.trans h1, h2⟩
theorem arJ.tr {ce ce' : aw_He} {k : aw_Lb} {n : Nat} {g : Nat → Int64} (h : arJ ce k n g) (e : ce' k = ce k) : arJ ce' k n g := by
  obtain ⟨f, h1, h2⟩ := h; exact ⟨f, e.trans h1, h2⟩
theorem arQ.tr {ce ce' : aw_He} {k : aw_Lb} {t n : Nat} {g : Nat → Option Nat} (h : arQ ce k t n g) (e : ce' k = ce k) : arQ ce' k t n g := by
  obtain ⟨f, h1, h2⟩ := h; exact ⟨f, e.trans h1, h2⟩
theorem arI.to {ce : aw_He} {k : aw_Lb} {t n : Nat} {g g' : Nat → Int32} (h : arI ce k t n g) (e : ∀ j, j < n → g j = g' j) : arI ce k t n g' := by
  obtain ⟨f, h1, h2⟩ := h; exact ⟨f, h1, fun j hj => (h2 j hj).trans (e j hj)⟩
theorem arJ.to {ce : aw_He} {k : aw_Lb} {n : Nat} {g g' : Nat → Int64} (h : arJ ce k n g) (e : ∀ j, j < n → g j = g' j) : arJ ce k n g' := by
  obtain ⟨f, h1, h2⟩ := h; exact ⟨f, h1, fun j hj => (h2 j hj).trans (e j hj)⟩
theorem arQ.to {ce : aw_He} {k : aw_Lb} {t n : Nat} {g g' : Nat → Option Nat} (h : arQ ce k t n g) (e : ∀ j, j < n → g j = g' j) : arQ ce k t n g' := by
  obtain ⟨f, h1, h2⟩ := h; exact ⟨f, h1, fun j hj => (h2 j hj).trans (e j hj)⟩
section AWar
variable {X : aw_X} {cc : ByteArray} {nL : Nat} {own : String} {cells slots : Nat} {ad : aw_Ad} {ce : aw_He} {pc : Nat} {lv : List (Nat × Value)} {st : List Value} {k : aw_Lb} {t n j : Nat} {i : Int32}
theorem ar_len (C : aw_ok X cc nL own) {g : Nat → Int32} (h : arI ce k t n g) {tt : FieldType} (ht : aw_ty[t]? = some tt) (hd : decode cc pc = .ok (.arraylength, 1)) (kk : AW X nL cells slots ad ce (pc + 1) lv (.int (nI n) :: st)) : AW X nL cells slots ad ce pc lv (.ref (ad k) :: st) := by
  obtain ⟨f, h1, -⟩ := h; exact aw_alen C h1 ht hd kk
theorem ar_lenJ (C : aw_ok X cc nL own) {g : Nat → Int64} (h : arJ ce k n g) (hd : decode cc pc = .ok (.arraylength, 1)) (kk : AW X nL cells slots ad ce (pc + 1) lv (.int (nI n) :: st)) : AW X nL cells slots ad ce pc lv (.ref (ad k) :: st) := by
  obtain ⟨f, h1, -⟩ := h; exact aw_alen C h1 (tt := .long) rfl hd kk
theorem ar_lenQ (C : aw_ok X cc nL own) {g : Nat → Option Nat} (h : arQ ce k t n g) {tt : FieldType} (ht : aw_ty[t]? = some tt) (hd : decode cc pc = .ok (.arraylength, 1)) (kk : AW X nL cells slots ad ce (pc + 1) lv (.int (nI n) :: st)) : AW X nL cells slots ad ce pc lv (.ref (ad k) :: st) := by
  obtain ⟨f, h1, -⟩ := h; exact aw_alen C h1 ht hd kk
theorem ar_iald (C : aw_ok X cc nL own) {g : Nat → Int32} (h : arI ce k 0 n g) (hi : i = nI j) (hj : j < n) (hn : n < 2 ^ 31) (hd : decode cc pc = .ok (.iaload, 1)) (kk : AW X nL cells slots ad ce (pc + 1) lv (.int (g j) :: st)) : AW X nL cells slots ad ce pc lv (.int i :: .ref (ad k) :: st) := by
  obtain ⟨f, h1, h2⟩ := h; exact aw_iald C h1 rfl hi hj hn hd (by rw [h2 j hj]; exact kk)
theorem ar_zald (C : aw_ok X cc nL own) {g : Nat → Int32} (h : arI ce k 1 n g) (hi : i = nI j) (hj : j < n) (hn : n < 2 ^ 31) (hd : decode cc pc = .ok (.baload, 1)) (kk : AW X nL cells slots ad ce (pc + 1) lv (.int (g j) :: st)) : AW X nL cells slots ad ce pc lv (.int i :: .ref (ad k) :: st) := by
  obtain ⟨f, h1, h2⟩ := h; exact aw_zald C h1 rfl hi hj hn hd (by rw [h2 j hj]; exact kk)
theorem ar_lald (C : aw_ok X cc nL own) {g : Nat → Int64} (h : arJ ce k n g) (hi : i = nI j) (hj : j < n) (hn : n < 2 ^ 31) (hd : decode cc pc = .ok (.laload, 1)) (kk : AW X nL cells slots ad ce (pc + 1) lv (.long (g j) :: st)) : AW X nL cells slots ad ce pc lv (.int i :: .ref (ad k) :: st) := by
  obtain ⟨f, h1, h2⟩ := h; exact aw_lald C h1 rfl hi hj hn hd (by rw [h2 j hj]; exact kk)
theorem ar_aald (C : aw_ok X cc nL own) {Cr : String} {g : Nat → Option Nat} (h : arQ ce k t n g) (ht : aw_ty[t]? = some (.object Cr)) (hi : i = nI j) (hj : j < n) (hn : n < 2 ^ 31) (hd : decode cc pc = .ok (.aaload, 1)) (kk : AW X nL cells slots ad ce (pc + 1) lv (va_rf (g j) :: st)) : AW X nL cells slots ad ce pc lv (.int i :: .ref (ad k) :: st) := by
  obtain ⟨f, h1, h2⟩ := h; exact aw_aald C h1 ht hi hj hn hd (by rw [h2 j hj]; exact kk)
theorem ar_upd {f g : Nat → Int32} {j : Nat} {x : Int32} (h : ∀ q, q < n → f q = g q) : ∀ q, q < n → upd f j x q = upd g j x q := by
  intro q hq; by_cases e : q = j
  · subst e; simp [upd]
  · simp [upd, e, h q hq]
theorem ar_iast (C : aw_ok X cc nL own) {g : Nat → Int32} {x : Int32} (h : arI ce k 0 n g) (hi : i = nI j) (hj : j < n) (hn : n < 2 ^ 31) (hd : decode cc pc = .ok (.iastore, 1)) (kk : ∀ ce', (∀ q, q ≠ k → ce' q = ce q) → arI ce' k 0 n (upd g j x) → AW X nL cells slots ad ce' (pc + 1) lv st) : AW X nL cells slots ad ce pc lv (.int x :: .int i :: .ref (ad k) :: st) := by
  obtain ⟨f, h1, h2⟩ := h
  exact aw_iast C h1 rfl hi hj hn hd (kk _ (fun q hq => aw_up_ne _ _ hq) ⟨_, aw_up_self _ _ _, ar_upd h2⟩)
theorem ar_zast (C : aw_ok X cc nL own) {g : Nat → Int32} {x v : Int32} (h : arI ce k 1 n g) (hi : i = nI j) (hj : j < n) (hn : n < 2 ^ 31) (hv : vp_nar .boolean x = v) (hd : decode cc pc = .ok (.bastore, 1)) (kk : ∀ ce', (∀ q, q ≠ k → ce' q = ce q) → arI ce' k 1 n (upd g j v) → AW X nL cells slots ad ce' (pc + 1) lv st) : AW X nL cells slots ad ce pc lv (.int x :: .int i :: .ref (ad k) :: st) := by
  obtain ⟨f, h1, h2⟩ := h
  exact aw_zast C h1 rfl hi hj hn hv hd (kk _ (fun q hq => aw_up_ne _ _ hq) ⟨_, aw_up_self _ _ _, ar_upd h2⟩)
theorem ar_last (C : aw_ok X cc nL own) {g : Nat → Int64} {x : Int64} (h : arJ ce k n g) (hi : i = nI j) (hj : j < n) (hn : n < 2 ^ 31) (hd : decode cc pc = .ok (.lastore, 1)) (kk : ∀ ce', (∀ q, q ≠ k → ce' q = ce q) → arJ ce' k n (vp_updL g j x) → AW X nL cells slots ad ce' (pc + 1) lv st) : AW X nL cells slots ad ce pc lv (.long x :: .int i :: .ref (ad k) :: st) := by
  obtain ⟨f, h1, h2⟩ := h
  refine aw_last C h1 rfl hi hj hn hd (kk _ (fun q hq => aw_up_ne _ _ hq) ⟨_, aw_up_self _ _ _, ?_⟩)
  intro q hq; by_cases e : q = j
  · subst e; simp [vp_updL]
  · simp [vp_updL, e, h2 q hq]
theorem ar_aast (C : aw_ok X cc nL own) {r : vw_C} {kv : aw_Lb} {cv : Nat} {vs : List Value} {g : Nat → Option Nat} (h : arQ ce k t n g) (ht : aw_ty[t]? = some (.object r.1)) (hkv : ce kv = some (.inr (cv, vs))) (hc : aw_cl[cv]? = some r) (hi : i = nI j) (hj : j < n) (hn : n < 2 ^ 31) (hd : decode cc pc = .ok (.aastore, 1)) (kk : ∀ ce', (∀ q, q ≠ k → ce' q = ce q) → arQ ce' k t n (va_up g j (some (ad kv))) → AW X nL cells slots ad ce' (pc + 1) lv st) : AW X nL cells slots ad ce pc lv (.ref (ad kv) :: .int i :: .ref (ad k) :: st) := by
  obtain ⟨f, h1, h2⟩ := h
  refine aw_aast C h1 ht hkv hc hi hj hn hd (kk _ (fun q hq => aw_up_ne _ _ hq) ⟨_, aw_up_self _ _ _, ?_⟩)
  intro q hq; by_cases e : q = j
  · subst e; simp [va_up]
  · simp [va_up, e, h2 q hq]
variable {idx ci N : Nat} {Cn : String} {T : u_T} {ty : Nat → FieldType} {fs : List Value}
theorem ob_put (C : aw_ok X cc nL own) (F : aw_cls ci Cn T N ty) (hk : ce k = some (.inr (ci, fs))) (i : Nat) (hi : i < N) (hlink : Cond.fieldLink own idx (T i).1 (T i).2.1 (T i).2.2.1 ∈ aw_tb) (hfin : (T i).2.2.2 = false) {v : Value} (hn : narrow (ty i) v = v) (hfit : fits (ty i) v = true) (hlt : i < fs.length) {fs' : List Value} (hfs : fs.set i v = fs') (hd : decode cc pc = .ok (.putfield idx, 3)) (kk : ∀ ce', (∀ q, q ≠ k → ce' q = ce q) → ce' k = some (.inr (ci, fs')) → AW X nL cells slots ad ce' (pc + 3) lv st) : AW X nL cells slots ad ce pc lv (v :: .ref (ad k) :: st) :=
  aw_put C F hk i hi hlink hfin hn hfit hlt hd (kk _ (fun q hq => aw_up_ne _ _ hq) (by rw [aw_up_self, hfs]))
theorem ob_putF (C : aw_ok X cc nL own) {nm : String} {ret : Option FieldType} {mc ms : Nat} {P : Option Value → aw_Ad → aw_He → Prop} (E : aw_me X nm ret mc ms P) (hnm : nm = "<init>") (F : aw_cls ci Cn T N ty) (hk : ce k = some (.inr (ci, fs))) (i : Nat) (hi : i < N) (hlink : Cond.fieldLink own idx (T i).1 (T i).2.1 (T i).2.2.1 ∈ aw_tb) (hfin : (T i).2.2.2 = true) (hdecl : (T i).1 = own) {v : Value} (hn : narrow (ty i) v = v) (hfit : fits (ty i) v = true) (hlt : i < fs.length) {fs' : List Value} (hfs : fs.set i v = fs') (hd : decode cc pc = .ok (.putfield idx, 3)) (kk : ∀ ce', (∀ q, q ≠ k → ce' q = ce q) → ce' k = some (.inr (ci, fs')) → AW X nL cells slots ad ce' (pc + 3) lv st) : AW X nL cells slots ad ce pc lv (v :: .ref (ad k) :: st) :=
  aw_putF C E hnm F hk i hi hlink hfin hdecl hn hfit hlt hd (kk _ (fun q hq => aw_up_ne _ _ hq) (by rw [aw_up_self, hfs]))
variable {l0 : Launch} {G0 : aw_G} {R0 : Room}
theorem ob_new (C : aw_ok X cc nL own) (I : aw_in X l0 G0 R0) (F : aw_cls ci Cn T N ty) (k : aw_Lb) (hk : ce k = none) (h1 : Cond.classLink own idx Cn ∈ aw_tb) (h2 : Cond.instantiable Cn N ∈ aw_tb) (h3 : Cond.initialized Cn ∈ aw_tb) (fs : List Value) (hfs : ∀ j, j < N → defaultValue (ty j) = vp_V fs j) (hf : cells + 1 ≤ R0.cells ∧ slots + N ≤ R0.slots) (hd : decode cc pc = .ok (.new idx, 3))
    (kk : ∀ (ad' : aw_Ad) (ce' : aw_He), (∀ j, j ≠ k → ad' j = ad j) → (∀ q, q ≠ k → ce' q = ce q) → ce' k = some (.inr (ci, fs)) → AW X nL (cells + 1) (slots + N) ad' ce' (pc + 3) lv (.ref (ad' k) :: st)) : AW X nL cells slots ad ce pc lv st :=
  aw_new C I F k hk h1 h2 h3 hfs hf hd (fun ad' ha => kk ad' _ ha (fun q hq => aw_up_ne _ _ hq) (aw_up_self _ _ _))
theorem ar_newI (C : aw_ok X cc nL own) (I : aw_in X l0 G0 R0) (k : aw_Lb) (hk : ce k = none) (h1 : Cond.arrayClass .int ∈ aw_tb) {x : Int32} {N' : Nat} (hn : x = nI N') (hN : N' ≤ 65536) (hf : cells + 1 ≤ R0.cells ∧ slots + N' ≤ R0.slots) (hd : decode cc pc = .ok (.newarray .int, 2))
    (kk : ∀ (ad' : aw_Ad) (ce' : aw_He), (∀ j, j ≠ k → ad' j = ad j) → (∀ q, q ≠ k → ce' q = ce q) → arI ce' k 0 N' (fun _ => 0) → AW X nL (cells + 1) (slots + N') ad' ce' (pc + 2) lv (.ref (ad' k) :: st)) : AW X nL cells slots ad ce pc lv (.int x :: st) :=
  aw_newa C I (atype := .int) 0 rfl k hk h1 (a0 := (N', .inl (fun _ => 0))) (fun _ => rfl) hn hN hf hd (fun ad' ha => kk ad' _ ha (fun q hq => aw_up_ne _ _ hq) ⟨_, aw_up_self _ _ _, fun _ _ => rfl⟩)
theorem ar_newZ (C : aw_ok X cc nL own) (I : aw_in X l0 G0 R0) (k : aw_Lb) (hk : ce k = none) (h1 : Cond.arrayClass .boolean ∈ aw_tb) {x : Int32} {N' : Nat} (hn : x = nI N') (hN : N' ≤ 65536) (hf : cells + 1 ≤ R0.cells ∧ slots + N' ≤ R0.slots) (hd : decode cc pc = .ok (.newarray .boolean, 2))
    (kk : ∀ (ad' : aw_Ad) (ce' : aw_He), (∀ j, j ≠ k → ad' j = ad j) → (∀ q, q ≠ k → ce' q = ce q) → arI ce' k 1 N' (fun _ => 0) → AW X nL (cells + 1) (slots + N') ad' ce' (pc + 2) lv (.ref (ad' k) :: st)) : AW X nL cells slots ad ce pc lv (.int x :: st) :=
  aw_newa C I (atype := .boolean) 1 rfl k hk h1 (a0 := (N', .inl (fun _ => 0))) (fun _ => rfl) hn hN hf hd (fun ad' ha => kk ad' _ ha (fun q hq => aw_up_ne _ _ hq) ⟨_, aw_up_self _ _ _, fun _ _ => rfl⟩)
theorem ar_newJ (C : aw_ok X cc nL own) (I : aw_in X l0 G0 R0) (k : aw_Lb) (hk : ce k = none) (h1 : Cond.arrayClass .long ∈ aw_tb) {x : Int32} {N' : Nat} (hn : x = nI N') (hN : N' ≤ 65536) (hf : cells + 1 ≤ R0.cells ∧ slots + N' ≤ R0.slots) (hd : decode cc pc = .ok (.newarray .long, 2))
    (kk : ∀ (ad' : aw_Ad) (ce' : aw_He), (∀ j, j ≠ k → ad' j = ad j) → (∀ q, q ≠ k → ce' q = ce q) → arJ ce' k N' (fun _ => 0) → AW X nL (cells + 1) (slots + N') ad' ce' (pc + 2) lv (.ref (ad' k) :: st)) : AW X nL cells slots ad ce pc lv (.int x :: st) :=
  aw_newa C I (atype := .long) 2 rfl k hk h1 (a0 := (N', .inr (.inl (fun _ => 0)))) (fun _ => rfl) hn hN hf hd (fun ad' ha => kk ad' _ ha (fun q hq => aw_up_ne _ _ hq) ⟨_, aw_up_self _ _ _, fun _ _ => rfl⟩)
theorem ar_newQ (C : aw_ok X cc nL own) (I : aw_in X l0 G0 R0) {Cr : String} (t : Nat) (ht : aw_ty[t]? = some (.object Cr)) (k : aw_Lb) (hk : ce k = none) (h1 : Cond.classLink own idx Cr ∈ aw_tb) (h2 : Cr ∈ aw_ao) {x : Int32} {N' : Nat} (hn : x = nI N') (hN : N' ≤ 65536) (hf : cells + 1 ≤ R0.cells ∧ slots + N' ≤ R0.slots) (hd : decode cc pc = .ok (.anewarray idx, 3))
    (kk : ∀ (ad' : aw_Ad) (ce' : aw_He), (∀ j, j ≠ k → ad' j = ad j) → (∀ q, q ≠ k → ce' q = ce q) → arQ ce' k t N' (fun _ => none) → AW X nL (cells + 1) (slots + N') ad' ce' (pc + 3) lv (.ref (ad' k) :: st)) : AW X nL cells slots ad ce pc lv (.int x :: st) :=
  aw_newq C I t ht k hk h1 h2 hn hN hf hd (fun ad' ha => kk ad' _ ha (fun q hq => aw_up_ne _ _ hq) ⟨_, aw_up_self _ _ _, fun _ _ => rfl⟩)
end AWar
theorem F_C : aw_cls 0 "WipePapers" T_C 8 t_C := ⟨rfl, lys_C, by decide +kernel, by decide +kernel⟩
theorem F_K : aw_cls 1 "WipePapers$Carrier" T_K 12 t_K := ⟨rfl, lys_K, by decide +kernel, by decide +kernel⟩
theorem F_P : aw_cls 2 "WipePapers$Paper" T_P 1 t_P := ⟨rfl, lys_P, by decide +kernel, by decide +kernel⟩
theorem F_R : aw_cls 3 "WipePapersModel" T_R 20 t_R := ⟨rfl, lys_R, by decide +kernel, by decide +kernel⟩
