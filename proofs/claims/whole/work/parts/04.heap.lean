/-- what the tables say of a class -/
def aw_cls (ci : Nat) (Cn : String) (T : u_T) (N : Nat) (ty : Nat → FieldType) : Prop := aw_cl[ci]? = some (Cn, T, N) ∧ (∀ w ∈ u_ws Cn T N, w ∈ aw_tb) ∧ (∀ k, k < N → parseFieldDescriptor (T k).2.2.1 = some (ty k)) ∧ ∀ a, a < N → ∀ b, b < N → a ≠ b → (T a).2.1 ≠ (T b).2.1
section AWheap
variable {X : aw_X} {cc : ByteArray} {nL : Nat} {own : String} {cells slots : Nat} {ad : aw_Ad} {ce : aw_He} {pc : Nat} {lv : List (Nat × Value)} {st : List Value} {idx : Nat} {k : aw_Lb} {ci : Nat} {Cn : String} {T : u_T} {N : Nat} {ty : Nat → FieldType} {fs : List Value}
theorem aw_get (C : aw_ok X cc nL own) (F : aw_cls ci Cn T N ty) (hk : ce k = some (.inr (ci, fs))) (i : Nat) (hi : i < N) (hlink : Cond.fieldLink own idx (T i).1 (T i).2.1 (T i).2.2.1 ∈ aw_tb) {v : Value} (hv : fs[i]? = some v) (hd : decode cc pc = .ok (.getfield idx, 3)) (kk : AW X nL cells slots ad ce (pc + 3) lv (v :: st)) : AW X nL cells slots ad ce pc lv (.ref (ad k) :: st) := by
  obtain ⟨p, l, e, R, s, m, args, below, meth, c, Q, G⟩ := X
  obtain ⟨hx, hb, hml, hown, hts, hlk, hK, hbs⟩ := C
  obtain ⟨f1, f2, f3, f4⟩ := F
  intro H locs ls hH hS hl
  exact va_get (D := G.1) (ci := ci) (T := T) (N := N) hx hb hts f2 hown hK.1 (hH.P hk) 0 rfl f1 i hi (hts _ hlink) (fun _ h => h) hv hd (kk H locs ls hH hS hl)
theorem aw_put (C : aw_ok X cc nL own) (F : aw_cls ci Cn T N ty) (hk : ce k = some (.inr (ci, fs))) (i : Nat) (hi : i < N) (hlink : Cond.fieldLink own idx (T i).1 (T i).2.1 (T i).2.2.1 ∈ aw_tb) (hfin : (T i).2.2.2 = false) {v : Value} (hn : narrow (ty i) v = v) (hfit : fits (ty i) v = true) (hlt : i < fs.length) (hd : decode cc pc = .ok (.putfield idx, 3)) (kk : AW X nL cells slots ad (aw_up ce k (some (.inr (ci, fs.set i v)))) (pc + 3) lv st) : AW X nL cells slots ad ce pc lv (v :: .ref (ad k) :: st) := by
  obtain ⟨p, l, e, R, s, m, args, below, meth, c, Q, G⟩ := X
  obtain ⟨hx, hb, hml, hown, hts, hlk, hK, hbs⟩ := C
  obtain ⟨f1, f2, f3, f4⟩ := F
  intro H locs ls hH hS hl
  have hap := va_apart (own := own) hts f2 ty f3 f4 hK.1 f1
  obtain ⟨r, h1, cell, q1, q2, q3, q4⟩ := (hH.1 k _ hk).1
  have hr : r = (Cn, T, N) := Option.some.inj (h1.symm.trans f1)
  subst hr
  obtain ⟨hS1, hfc, kC, hkC, hkind⟩ := hK.1.1 ci _ f1
  obtain ⟨cf, kf, fi, f, hi2, hsl⟩ := hS1 i hi
  have hlay := hts _ (f2 _ (u_in_lay hi))
  unfold u_lay at hlay
  rw [if_neg (by rw [hfin]; decide)] at hlay
  have hst := (u_facts hfc hkC (u_lays hts f2 hi) hi2).1
  have h6 := u_store hfc hkC hkind hlay hi2 (f3 i hi) hn hfit
  refine W.putK hx hb (f := f) ⟨hown, hts _ hlink, ⟨_, _, _, hi2⟩, hst⟩ (by rw [q2]; exact h6) q1 q3 (by rw [hsl]; exact k2_hasslot (q4 i hi)) rfl rfl hd fun H' e1 e2 e3 => ?_
  rw [hsl] at e1 ⊢
  exact kk H' _ ls (hH.set hk ⟨_, f1, t_OB.to (V := updV (vp_V fs) i v) ⟨_, e1, q2, q3, t_set q4 hap hi v⟩ (fun j _ => vp_updV_set hlt v j)⟩ e3) (hS.put e2 e3 (hH.1 k _ hk).2) hl
theorem aw_putF (C : aw_ok X cc nL own) {nm : String} {ret : Option FieldType} {mc ms : Nat} {P : Option Value → aw_Ad → aw_He → Prop} (E : aw_me X nm ret mc ms P) (hnm : nm = "<init>") (F : aw_cls ci Cn T N ty) (hk : ce k = some (.inr (ci, fs))) (i : Nat) (hi : i < N) (hlink : Cond.fieldLink own idx (T i).1 (T i).2.1 (T i).2.2.1 ∈ aw_tb) (hfin : (T i).2.2.2 = true) (hdecl : (T i).1 = own) {v : Value} (hn : narrow (ty i) v = v) (hfit : fits (ty i) v = true) (hlt : i < fs.length) (hd : decode cc pc = .ok (.putfield idx, 3)) (kk : AW X nL cells slots ad (aw_up ce k (some (.inr (ci, fs.set i v)))) (pc + 3) lv st) : AW X nL cells slots ad ce pc lv (v :: .ref (ad k) :: st) := by
  obtain ⟨p, l, e, R, s, m, args, below, meth, c, Q, G⟩ := X
  obtain ⟨hx, hb, hml, hown, hts, hlk, hK, hbs⟩ := C
  obtain ⟨f1, f2, f3, f4⟩ := F
  intro H locs ls hH hS hl
  have hin2 : meth.name = "<init>" := E.1.trans hnm
  have hap := va_apart (own := own) hts f2 ty f3 f4 hK.1 f1
  obtain ⟨r, h1, cell, q1, q2, q3, q4⟩ := (hH.1 k _ hk).1
  have hr : r = (Cn, T, N) := Option.some.inj (h1.symm.trans f1)
  subst hr
  obtain ⟨hS1, hfc, kC, hkC, hkind⟩ := hK.1.1 ci _ f1
  obtain ⟨cf, kf, fi, f, hi2, hsl⟩ := hS1 i hi
  have hlay := hts _ (f2 _ (u_in_lay hi))
  unfold u_lay at hlay
  rw [if_pos hfin] at hlay
  have hst := (u_facts hfc hkC (u_lays hts f2 hi) hi2).1
  have hcf : m.cls = cf := by
    obtain ⟨_, _, c', _, _, _, -, -, hf', -, -, -, hown2, -⟩ := Cond.laysFinal_spec hlay
    have e1 : c' = cf := by have := hi2.symm.trans hf'; simp at this; exact this.1.symm
    rw [hdecl] at hown2
    rw [← e1]; exact Option.some.inj (hown.symm.trans hown2)
  have h6 := u_fits hfc hkC hkind (Or.inr hlay) hi2 (f3 i hi) hn hfit
  refine W.putFinK hx hb hown (hts _ hlink) hi2 hst hcf hin2 (by rw [q2]; exact h6) q1 q3 (by rw [hsl]; exact k2_hasslot (q4 i hi)) rfl rfl hd fun H' e1 e2 e3 => ?_
  rw [hsl] at e1 ⊢
  exact kk H' _ ls (hH.set hk ⟨_, f1, t_OB.to (V := updV (vp_V fs) i v) ⟨_, e1, q2, q3, t_set q4 hap hi v⟩ (fun j _ => vp_updV_set hlt v j)⟩ e3) (hS.put e2 e3 (hH.1 k _ hk).2) hl
theorem aw_new (C : aw_ok X cc nL own) {l0 : Launch} {G0 : aw_G} {R0 : Room} (I : aw_in X l0 G0 R0) (F : aw_cls ci Cn T N ty) (k : aw_Lb) (hk : ce k = none) (h1 : Cond.classLink own idx Cn ∈ aw_tb) (h2 : Cond.instantiable Cn N ∈ aw_tb) (h3 : Cond.initialized Cn ∈ aw_tb) (hfs : ∀ j, j < N → defaultValue (ty j) = vp_V fs j) (hf : cells + 1 ≤ R0.cells ∧ slots + N ≤ R0.slots) (hd : decode cc pc = .ok (.new idx, 3))
    (kk : ∀ ad' : aw_Ad, (∀ j, j ≠ k → ad' j = ad j) → AW X nL (cells + 1) (slots + N) ad' (aw_up ce k (some (.inr (ci, fs)))) (pc + 3) lv (.ref (ad' k) :: st)) : AW X nL cells slots ad ce pc lv st := by
  obtain ⟨p, l, e, R, s, m, args, below, meth, c, Q, G⟩ := X
  obtain ⟨hx, hb, hml, hown, hts, hlk, hK, hbs⟩ := C
  obtain ⟨rfl, rfl, rfl⟩ := I
  obtain ⟨f1, f2, f3, f4⟩ := F
  intro H locs ls hH hS hl
  have hKn := hK.1.1 ci _ f1
  refine W.newcK hx hb hown (hts _ h1) (hts _ h2) (hts _ h3) rfl hd hf.1 hf.2 hKn.2.1 rfl fun H1 kC hkC e1 z1 o1 => ?_
  have hw := kk (aw_up ad k H.size) (fun j hj => aw_up_ne _ _ hj)
  rw [aw_up_self] at hw
  exact hw H1 locs ls (hH.new hk (Nat.le_trans hbs hS.1) ⟨_, f1, (u_born ty hts f2 hKn hkC e1 f3).to hfs⟩ o1) ⟨Nat.le_trans hS.1 (by omega), fun x h1 h2 => (o1 x (Nat.lt_of_lt_of_le h1 hS.1)).trans (hS.2.1 x h1 h2), hS.2.2⟩ hl
theorem aw_newa (C : aw_ok X cc nL own) {l0 : Launch} {G0 : aw_G} {R0 : Room} (I : aw_in X l0 G0 R0) {atype : ArrayType} (t : Nat) (ht : aw_ty[t]? = some (newarray.typeOf atype)) (k : aw_Lb) (hk : ce k = none) (h1 : Cond.arrayClass (newarray.typeOf atype) ∈ aw_tb) {n : Int32} {N' : Nat} {a0 : vp_A} (ha : ∀ cA : ClassId, vp_cell cA a0 = arrV cA N' (fun _ => defaultValue (newarray.typeOf atype))) (hn : n = nI N') (hN : N' ≤ 65536) (hf : cells + 1 ≤ R0.cells ∧ slots + N' ≤ R0.slots) (hd : decode cc pc = .ok (.newarray atype, 2))
    (kk : ∀ ad' : aw_Ad, (∀ j, j ≠ k → ad' j = ad j) → AW X nL (cells + 1) (slots + N') ad' (aw_up ce k (some (.inl (t, a0)))) (pc + 2) lv (.ref (ad' k) :: st)) : AW X nL cells slots ad ce pc lv (.int n :: st) := by
  obtain ⟨p, l, e, R, s, m, args, below, meth, c, Q, G⟩ := X
  obtain ⟨hx, hb, hml, hown, hts, hlk, hK, hbs⟩ := C
  obtain ⟨rfl, rfl, rfl⟩ := I
  intro H locs ls hH hS hl
  subst hn
  have hc0 : (nI N').toNatClampNeg = N' := nI_clamp (by omega)
  have hby : N' * componentBytes (newarray.typeOf atype) ≤ 536870912 := by
    have : componentBytes (newarray.typeOf atype) ≤ 8 := by cases atype <;> decide
    calc N' * componentBytes (newarray.typeOf atype) ≤ 65536 * 8 := Nat.mul_le_mul hN this
      _ ≤ 536870912 := by decide
  refine va_newaK hx hb (hts _ h1) rfl hd rfl (nI_pos (by omega)) hc0 hby hf.1 hf.2 rfl fun H1 cA e1 z1 o1 hAr hNm => ?_
  have hRA : s.vm.findClass ("[" ++ (newarray.typeOf atype).toString) = some (G.2.1 t) := by
    have h := (hK.1.2 t _ (aw_tys_at ht)).2
    cases atype <;> exact h
  have hcA : cA = G.2.1 t := Option.some.inj (hNm.symm.trans hRA)
  subst hcA
  have hw := kk (aw_up ad k H.size) (fun j hj => aw_up_ne _ _ hj)
  rw [aw_up_self] at hw
  refine hw H1 locs ls (hH.new hk (Nat.le_trans hbs hS.1) ?_ o1) ⟨Nat.le_trans hS.1 (by omega), fun x h1 h2 => (o1 x (Nat.lt_of_lt_of_le h1 hS.1)).trans (hS.2.1 x h1 h2), hS.2.2⟩ hl
  show H1[H.size]? = some (vp_cell _ _)
  rw [ha]
  exact e1
theorem aw_newq (C : aw_ok X cc nL own) {l0 : Launch} {G0 : aw_G} {R0 : Room} (I : aw_in X l0 G0 R0) {Cr : String} (t : Nat) (ht : aw_ty[t]? = some (.object Cr)) (k : aw_Lb) (hk : ce k = none) (h1 : Cond.classLink own idx Cr ∈ aw_tb) (h2 : Cr ∈ aw_ao) {n : Int32} {N' : Nat} (hn : n = nI N') (hN : N' ≤ 65536) (hf : cells + 1 ≤ R0.cells ∧ slots + N' ≤ R0.slots) (hd : decode cc pc = .ok (.anewarray idx, 3))
    (kk : ∀ ad' : aw_Ad, (∀ j, j ≠ k → ad' j = ad j) → AW X nL (cells + 1) (slots + N') ad' (aw_up ce k (some (.inl (t, N', .inr (.inr (.inr (.inr (fun _ => none)))))))) (pc + 3) lv (.ref (ad' k) :: st)) : AW X nL cells slots ad ce pc lv (.int n :: st) := by
  obtain ⟨p, l, e, R, s, m, args, below, meth, c, Q, G⟩ := X
  obtain ⟨hx, hb, hml, hown, hts, hlk, hK, hbs⟩ := C
  obtain ⟨rfl, rfl, rfl⟩ := I
  intro H locs ls hH hS hl
  subst hn
  have hc0 : (nI N').toNatClampNeg = N' := nI_clamp (by omega)
  refine W.anew hx hb hown (hts _ h1) (va_AO.use (hK.2.2 _ h2)) rfl hd rfl (nI_pos (by omega)) (by rw [hc0]; omega) hf.1 (by rw [hc0]; exact hf.2) fun cA kA comp f1 f2 f3 f4 => ?_
  rw [hc0]
  generalize hH1 : H.push ({ cls := cA, slots := Array.replicate N' .null, vm := .none } : Cell) = H1
  have z1 : H1.size = H.size + 1 := by rw [← hH1, Array.size_push]
  have e1 : H1[H.size]? = some (arrV cA N' (fun _ => .null)) := by rw [← hH1, Array.getElem?_push_size, ← arrV_new]
  have o1 : ∀ q : Nat, q < H.size → H1[q]? = H[q]? := fun q hq => by rw [← hH1, Array.getElem?_push, if_neg (Nat.ne_of_lt hq)]
  obtain ⟨kA2, comp2, g1, g2, g3, g4⟩ := (hK.1.2 t _ (aw_tys_at ht)).2
  have hcA : cA = G.2.1 t := Option.some.inj (f1.symm.trans g4)
  subst hcA
  have hw := kk (aw_up ad k H.size) (fun j hj => aw_up_ne _ _ hj)
  rw [aw_up_self] at hw
  refine hw H1 locs ls (hH.new hk (Nat.le_trans hbs hS.1) ?_ o1) ⟨Nat.le_trans hS.1 (by omega), fun x h1 h2 => (o1 x (Nat.lt_of_lt_of_le h1 hS.1)).trans (hS.2.1 x h1 h2), hS.2.2⟩ hl
  show H1[H.size]? = some (vp_cell _ _)
  rw [vp_cell_q]
  exact e1
variable {t n j : Nat} {i : Int32}
theorem aw_alen (C : aw_ok X cc nL own) {x : vp_A} (hk : ce k = some (.inl (t, x))) {tt : FieldType} (ht : aw_ty[t]? = some tt) (hd : decode cc pc = .ok (.arraylength, 1)) (kk : AW X nL cells slots ad ce (pc + 1) lv (.int (nI x.1) :: st)) : AW X nL cells slots ad ce pc lv (.ref (ad k) :: st) := by
  obtain ⟨p, l, e, R, s, m, args, below, meth, c, Q, G⟩ := X
  obtain ⟨hx, hb, hml, hown, hts, hlk, hK, hbs⟩ := C
  intro H locs ls hH hS hl
  exact va_alen (cA := G.2.1 t) (x := x) hx hb hK.1 (hH.P hk) 0 t rfl (aw_tys_at ht) rfl hd (kk H locs ls hH hS hl)
theorem aw_iald (C : aw_ok X cc nL own) {f : Nat → Int32} (hk : ce k = some (.inl (t, n, .inl f))) (ht : aw_ty[t]? = some .int) (hi : i = nI j) (hj : j < n) (hn : n < 2 ^ 31) (hd : decode cc pc = .ok (.iaload, 1)) (kk : AW X nL cells slots ad ce (pc + 1) lv (.int (f j) :: st)) : AW X nL cells slots ad ce pc lv (.int i :: .ref (ad k) :: st) := by
  obtain ⟨p, l, e, R, s, m, args, below, meth, c, Q, G⟩ := X
  obtain ⟨hx, hb, hml, hown, hts, hlk, hK, hbs⟩ := C
  intro H locs ls hH hS hl
  subst hi
  refine va_iald (cA := G.2.1 t) (n := n) (f := f) hx hb hK.1 (hH.P hk) 0 t rfl (aw_tys_at ht) (vp_in_nI hj hn) hd ?_
  rw [nI_clamp (Nat.lt_trans hj hn)]
  exact kk H locs ls hH hS hl
theorem aw_zald (C : aw_ok X cc nL own) {f : Nat → Int32} (hk : ce k = some (.inl (t, n, .inl f))) (ht : aw_ty[t]? = some .boolean) (hi : i = nI j) (hj : j < n) (hn : n < 2 ^ 31) (hd : decode cc pc = .ok (.baload, 1)) (kk : AW X nL cells slots ad ce (pc + 1) lv (.int (f j) :: st)) : AW X nL cells slots ad ce pc lv (.int i :: .ref (ad k) :: st) := by
  obtain ⟨p, l, e, R, s, m, args, below, meth, c, Q, G⟩ := X
  obtain ⟨hx, hb, hml, hown, hts, hlk, hK, hbs⟩ := C
  intro H locs ls hH hS hl
  subst hi
  refine va_zald (cA := G.2.1 t) (n := n) (f := f) hx hb hK.1 (hH.P hk) 0 t rfl (aw_tys_at ht) (vp_in_nI hj hn) hd ?_
  rw [nI_clamp (Nat.lt_trans hj hn)]
  exact kk H locs ls hH hS hl
theorem aw_lald (C : aw_ok X cc nL own) {f : Nat → Int64} (hk : ce k = some (.inl (t, n, .inr (.inl f)))) (ht : aw_ty[t]? = some .long) (hi : i = nI j) (hj : j < n) (hn : n < 2 ^ 31) (hd : decode cc pc = .ok (.laload, 1)) (kk : AW X nL cells slots ad ce (pc + 1) lv (.long (f j) :: st)) : AW X nL cells slots ad ce pc lv (.int i :: .ref (ad k) :: st) := by
  obtain ⟨p, l, e, R, s, m, args, below, meth, c, Q, G⟩ := X
  obtain ⟨hx, hb, hml, hown, hts, hlk, hK, hbs⟩ := C
  intro H locs ls hH hS hl
  subst hi
  refine va_lald (cA := G.2.1 t) (n := n) (f := f) hx hb hK.1 (hH.P hk) 0 t rfl (aw_tys_at ht) (vp_in_nI hj hn) hd ?_
  rw [nI_clamp (Nat.lt_trans hj hn)]
  exact kk H locs ls hH hS hl
theorem aw_aald (C : aw_ok X cc nL own) {Cr : String} {f : Nat → Option Nat} (hk : ce k = some (.inl (t, n, .inr (.inr (.inr (.inr f)))))) (ht : aw_ty[t]? = some (.object Cr)) (hi : i = nI j) (hj : j < n) (hn : n < 2 ^ 31) (hd : decode cc pc = .ok (.aaload, 1)) (kk : AW X nL cells slots ad ce (pc + 1) lv (va_rf (f j) :: st)) : AW X nL cells slots ad ce pc lv (.int i :: .ref (ad k) :: st) := by
  obtain ⟨p, l, e, R, s, m, args, below, meth, c, Q, G⟩ := X
  obtain ⟨hx, hb, hml, hown, hts, hlk, hK, hbs⟩ := C
  intro H locs ls hH hS hl
  subst hi
  refine va_aldq (cA := G.2.1 t) (n := n) (f := f) hx hb hK.1 (hH.P hk) 0 t rfl (aw_tys_at ht) (vp_in_nI hj hn) hd ?_
  rw [nI_clamp (Nat.lt_trans hj hn)]
  exact kk H locs ls hH hS hl
theorem aw_iast (C : aw_ok X cc nL own) {f : Nat → Int32} {x : Int32} (hk : ce k = some (.inl (t, n, .inl f))) (ht : aw_ty[t]? = some .int) (hi : i = nI j) (hj : j < n) (hn : n < 2 ^ 31) (hd : decode cc pc = .ok (.iastore, 1)) (kk : AW X nL cells slots ad (aw_up ce k (some (.inl (t, n, .inl (upd f j x))))) (pc + 1) lv st) : AW X nL cells slots ad ce pc lv (.int x :: .int i :: .ref (ad k) :: st) := by
  obtain ⟨p, l, e, R, s, m, args, below, meth, c, Q, G⟩ := X
  obtain ⟨hx, hb, hml, hown, hts, hlk, hK, hbs⟩ := C
  intro H locs ls hH hS hl
  subst hi
  have h0 := hH.1 k _ hk
  refine W.iast hx hb h0.1 ((hK.1.2 t _ (aw_tys_at ht)).1 n (fun j => .int (f j))) (fun q => by cases q) (by show ¬ (nI j < 0 ∨ (arrV _ _ _).slots.size ≤ _); rw [arrV_size]; exact vp_in_nI hj hn) rfl rfl hd fun H1 e z oq => ?_
  refine kk H1 _ ls (hH.set hk ?_ oq) (hS.put z oq h0.2) hl
  show H1[ad k]? = some (vp_cell _ _)
  rw [e]
  show some ((vp_cell _ _).setSlot _ _) = _
  rw [vp_cell_i, vp_cell_i, arrV_store, nI_clamp (Nat.lt_trans hj hn)]
  congr 2
  funext q
  by_cases hq : q = j
  · subst hq
    simp [updV, upd]
  · simp [updV, upd, hq]
theorem aw_zast (C : aw_ok X cc nL own) {f : Nat → Int32} {x v : Int32} (hk : ce k = some (.inl (t, n, .inl f))) (ht : aw_ty[t]? = some .boolean) (hi : i = nI j) (hj : j < n) (hn : n < 2 ^ 31) (hv : vp_nar .boolean x = v) (hd : decode cc pc = .ok (.bastore, 1)) (kk : AW X nL cells slots ad (aw_up ce k (some (.inl (t, n, .inl (upd f j v))))) (pc + 1) lv st) : AW X nL cells slots ad ce pc lv (.int x :: .int i :: .ref (ad k) :: st) := by
  obtain ⟨p, l, e, R, s, m, args, below, meth, c, Q, G⟩ := X
  obtain ⟨hx, hb, hml, hown, hts, hlk, hK, hbs⟩ := C
  intro H locs ls hH hS hl
  subst hi
  subst hv
  have h0 := hH.1 k _ hk
  refine W.zast hx hb h0.1 ((hK.1.2 t _ (aw_tys_at ht)).1 n (fun j => .int (f j))) (fun q => by cases q) (by show ¬ (nI j < 0 ∨ (arrV _ _ _).slots.size ≤ _); rw [arrV_size]; exact vp_in_nI hj hn) rfl rfl hd fun H1 e z oq => ?_
  refine kk H1 _ ls (hH.set hk ?_ oq) (hS.put z oq h0.2) hl
  show H1[ad k]? = some (vp_cell _ _)
  rw [e]
  show some ((vp_cell _ _).setSlot _ _) = _
  rw [vp_cell_i, vp_cell_i, arrV_store, nI_clamp (Nat.lt_trans hj hn)]
  congr 2
  funext q
  by_cases hq : q = j
  · subst hq
    simp [updV, upd, vp_nar]
    try rfl
  · simp [updV, upd, hq]
theorem aw_last (C : aw_ok X cc nL own) {f : Nat → Int64} {x : Int64} (hk : ce k = some (.inl (t, n, .inr (.inl f)))) (ht : aw_ty[t]? = some .long) (hi : i = nI j) (hj : j < n) (hn : n < 2 ^ 31) (hd : decode cc pc = .ok (.lastore, 1)) (kk : AW X nL cells slots ad (aw_up ce k (some (.inl (t, n, .inr (.inl (vp_updL f j x)))))) (pc + 1) lv st) : AW X nL cells slots ad ce pc lv (.long x :: .int i :: .ref (ad k) :: st) := by
  obtain ⟨p, l, e, R, s, m, args, below, meth, c, Q, G⟩ := X
  obtain ⟨hx, hb, hml, hown, hts, hlk, hK, hbs⟩ := C
  intro H locs ls hH hS hl
  subst hi
  have h0 := hH.1 k _ hk
  refine W.last hx hb h0.1 ((hK.1.2 t _ (aw_tys_at ht)).1 n (fun j => .long (f j))) (fun q => by cases q) (by show ¬ (nI j < 0 ∨ (arrV _ _ _).slots.size ≤ _); rw [arrV_size]; exact vp_in_nI hj hn) rfl rfl hd fun H1 e z oq => ?_
  refine kk H1 _ ls (hH.set hk ?_ oq) (hS.put z oq h0.2) hl
  show H1[ad k]? = some (vp_cell _ _)
  rw [e]
  show some ((vp_cell _ _).setSlot _ _) = _
  rw [vp_cell_l, vp_cell_l, arrV_store, nI_clamp (Nat.lt_trans hj hn)]
  congr 2
  funext q
  by_cases hq : q = j
  · subst hq
    simp [updV, vp_updL]
  · simp [updV, vp_updL, hq]
theorem aw_aast (C : aw_ok X cc nL own) {r : vw_C} {kv : aw_Lb} {cv : Nat} {vs : List Value} {f : Nat → Option Nat} (hk : ce k = some (.inl (t, n, .inr (.inr (.inr (.inr f)))))) (ht : aw_ty[t]? = some (.object r.1)) (hkv : ce kv = some (.inr (cv, vs))) (hc : aw_cl[cv]? = some r) (hi : i = nI j) (hj : j < n) (hn : n < 2 ^ 31) (hd : decode cc pc = .ok (.aastore, 1)) (kk : AW X nL cells slots ad (aw_up ce k (some (.inl (t, n, .inr (.inr (.inr (.inr (va_up f j (some (ad kv)))))))))) (pc + 1) lv st) : AW X nL cells slots ad ce pc lv (.ref (ad kv) :: .int i :: .ref (ad k) :: st) := by
  obtain ⟨p, l, e, R, s, m, args, below, meth, c, Q, G⟩ := X
  obtain ⟨hx, hb, hml, hown, hts, hlk, hK, hbs⟩ := C
  intro H locs ls hH hS hl
  subst hi
  have h0 := hH.1 k _ hk
  obtain ⟨r', hr', cellV, g1, g2, g3, -⟩ := (hH.1 kv _ hkv).1
  have hcls := (hK.1.1 cv r hc).2
  obtain ⟨kA, comp, k1, k2, k3, -⟩ := (hK.1.2 t _ (aw_tys_at ht)).2
  have hcomp : comp = G.1.1 cv := Option.some.inj (k3.symm.trans hcls.1)
  subst hcomp
  obtain ⟨kC, hkC, -⟩ := hcls.2
  have hlt : (nI j).toNatClampNeg < n := by rw [nI_clamp (Nat.lt_trans hj hn)]; exact hj
  refine W.aast hx hb h0.1 (fun q h => by cases h) (fun h => by cases h) k1 k2 rfl hkC ⟨nI_pos (Nat.lt_trans hj hn), by show _ < (arrV _ _ _).slots.size; rw [arrV_size]; exact hlt⟩ g1 (fun q h => by rw [g3] at h; cases h) (by rw [g2]; exact hkC) (by rw [g2]; exact va_assign hcls) rfl rfl hd fun H1 e z oq => ?_
  refine kk H1 _ ls (hH.set hk ?_ oq) (hS.put z oq h0.2) hl
  show H1[ad k]? = some (vp_cell _ _)
  rw [e]
  show some ((vp_cell _ _).setSlot _ _) = _
  rw [vp_cell_q, vp_cell_q, arrV_store, nI_clamp (Nat.lt_trans hj hn)]
  congr 2
  funext q
  by_cases hq : q = j
  · subst hq
    simp [updV, va_up, va_rf]
  · simp [updV, va_up, hq]
end AWheap
