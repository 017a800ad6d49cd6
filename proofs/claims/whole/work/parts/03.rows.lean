theorem aw_iconst {X : aw_X} {cc : ByteArray} {nL : Nat} {own : String} (C : aw_ok X cc nL own) {cells slots : Nat} {ad : aw_Ad} {ce : aw_He} {pc : Nat} {lv : List (Nat × Value)} {st : List Value} {n : Int} {v : Int32} (hd : decode cc pc = .ok (.iconst n, 1)) (hv : Int32.ofInt n = v) (k : AW X nL cells slots ad ce (pc + 1) lv (.int v :: st)) : AW X nL cells slots ad ce pc lv st := by
  obtain ⟨p, l, e, R, s, m, args, below, meth, c, Q, G⟩ := X
  obtain ⟨hx, hb, hml, hown, hts, hlk, hK, hbs⟩ := C
  intro H locs ls hH hS hl
  exact lv_iconst hx hb hd hv (k H locs ls hH hS hl)
theorem aw_bipush {X : aw_X} {cc : ByteArray} {nL : Nat} {own : String} (C : aw_ok X cc nL own) {cells slots : Nat} {ad : aw_Ad} {ce : aw_He} {pc : Nat} {lv : List (Nat × Value)} {st : List Value} {n : Int} {v : Int32} (hd : decode cc pc = .ok (.bipush n, 2)) (hv : (Int8.ofInt n).toInt32 = v) (k : AW X nL cells slots ad ce (pc + 2) lv (.int v :: st)) : AW X nL cells slots ad ce pc lv st := by
  obtain ⟨p, l, e, R, s, m, args, below, meth, c, Q, G⟩ := X
  obtain ⟨hx, hb, hml, hown, hts, hlk, hK, hbs⟩ := C
  intro H locs ls hH hS hl
  exact lv_bipush hx hb hd hv (k H locs ls hH hS hl)
theorem aw_sipush {X : aw_X} {cc : ByteArray} {nL : Nat} {own : String} (C : aw_ok X cc nL own) {cells slots : Nat} {ad : aw_Ad} {ce : aw_He} {pc : Nat} {lv : List (Nat × Value)} {st : List Value} {n : Int} {v : Int32} (hd : decode cc pc = .ok (.sipush n, 3)) (hv : (Int16.ofInt n).toInt32 = v) (k : AW X nL cells slots ad ce (pc + 3) lv (.int v :: st)) : AW X nL cells slots ad ce pc lv st := by
  obtain ⟨p, l, e, R, s, m, args, below, meth, c, Q, G⟩ := X
  obtain ⟨hx, hb, hml, hown, hts, hlk, hK, hbs⟩ := C
  intro H locs ls hH hS hl
  exact lv_sipush hx hb hd hv (k H locs ls hH hS hl)
theorem aw_lconst {X : aw_X} {cc : ByteArray} {nL : Nat} {own : String} (C : aw_ok X cc nL own) {cells slots : Nat} {ad : aw_Ad} {ce : aw_He} {pc : Nat} {lv : List (Nat × Value)} {st : List Value} {n : Fin 2} {v : Int64} (hd : decode cc pc = .ok (.lconst n, 1)) (hv : Int64.ofNat (n : Nat) = v) (k : AW X nL cells slots ad ce (pc + 1) lv (.long v :: st)) : AW X nL cells slots ad ce pc lv st := by
  obtain ⟨p, l, e, R, s, m, args, below, meth, c, Q, G⟩ := X
  obtain ⟨hx, hb, hml, hown, hts, hlk, hK, hbs⟩ := C
  intro H locs ls hH hS hl
  exact lv_lconst hx hb hd hv (k H locs ls hH hS hl)
theorem aw_null {X : aw_X} {cc : ByteArray} {nL : Nat} {own : String} (C : aw_ok X cc nL own) {cells slots : Nat} {ad : aw_Ad} {ce : aw_He} {pc : Nat} {lv : List (Nat × Value)} {st : List Value}  (hd : decode cc pc = .ok ((.aconst_null), 1))  (k : AW X nL cells slots ad ce (pc + 1) lv (.null :: st)) : AW X nL cells slots ad ce pc lv st := by
  obtain ⟨p, l, e, R, s, m, args, below, meth, c, Q, G⟩ := X
  obtain ⟨hx, hb, hml, hown, hts, hlk, hK, hbs⟩ := C
  intro H locs ls hH hS hl
  exact lv_null hx hb hd (k H locs ls hH hS hl)
theorem aw_ldc {X : aw_X} {cc : ByteArray} {nL : Nat} {own : String} (C : aw_ok X cc nL own) {cells slots : Nat} {ad : aw_Ad} {ce : aw_He} {pc : Nat} {lv : List (Nat × Value)} {st : List Value} {idx : Nat} {v : Int32} (hc : Cond.constant own idx v ∈ aw_tb) (hd : decode cc pc = .ok (.ldc idx, 2)) (k : AW X nL cells slots ad ce (pc + 2) lv (.int v :: st)) : AW X nL cells slots ad ce pc lv st := by
  obtain ⟨p, l, e, R, s, m, args, below, meth, c, Q, G⟩ := X
  obtain ⟨hx, hb, hml, hown, hts, hlk, hK, hbs⟩ := C
  intro H locs ls hH hS hl
  exact lv_ldc hx hb hown (hts _ hc) hd (k H locs ls hH hS hl)
theorem aw_ldc2 {X : aw_X} {cc : ByteArray} {nL : Nat} {own : String} (C : aw_ok X cc nL own) {cells slots : Nat} {ad : aw_Ad} {ce : aw_He} {pc : Nat} {lv : List (Nat × Value)} {st : List Value} {idx : Nat} {v : Int64} (hc : Cond.constantLong own idx v ∈ aw_tb) (hd : decode cc pc = .ok (.ldc2_w idx, 3)) (k : AW X nL cells slots ad ce (pc + 3) lv (.long v :: st)) : AW X nL cells slots ad ce pc lv st := by
  obtain ⟨p, l, e, R, s, m, args, below, meth, c, Q, G⟩ := X
  obtain ⟨hx, hb, hml, hown, hts, hlk, hK, hbs⟩ := C
  intro H locs ls hH hS hl
  exact lv_ldc2 hx hb hown (hts _ hc) hd (k H locs ls hH hS hl)
theorem aw_ldcw {X : aw_X} {cc : ByteArray} {nL : Nat} {own : String} (C : aw_ok X cc nL own) {cells slots : Nat} {ad : aw_Ad} {ce : aw_He} {pc : Nat} {lv : List (Nat × Value)} {st : List Value} {idx : Nat} {v : Int32} (hc : Cond.constant own idx v ∈ aw_tb) (hd : decode cc pc = .ok (.ldc_w idx, 3)) (k : AW X nL cells slots ad ce (pc + 3) lv (.int v :: st)) : AW X nL cells slots ad ce pc lv st := by
  obtain ⟨p, l, e, R, s, m, args, below, meth, c, Q, G⟩ := X
  obtain ⟨hx, hb, hml, hown, hts, hlk, hK, hbs⟩ := C
  intro H locs ls hH hS hl
  exact lv_ldcw hx hb hown (hts _ hc) hd (k H locs ls hH hS hl)
theorem aw_iload_n {X : aw_X} {cc : ByteArray} {nL : Nat} {own : String} (C : aw_ok X cc nL own) {cells slots : Nat} {ad : aw_Ad} {ce : aw_He} {pc : Nat} {lv : List (Nat × Value)} {st : List Value} {n : Fin 4} {i j : Nat} {x : Int32} (hd : decode cc pc = .ok (.iload_n n, 1)) (hi : (n : Nat) = i) (hj : lv[j]? = some (i, .int x)) (k : AW X nL cells slots ad ce (pc + 1) lv (.int x :: st)) : AW X nL cells slots ad ce pc lv st := by
  obtain ⟨p, l, e, R, s, m, args, below, meth, c, Q, G⟩ := X
  obtain ⟨hx, hb, hml, hown, hts, hlk, hK, hbs⟩ := C
  intro H locs ls hH hS hl
  exact lv_iload_n hx hb hd hi (lv_at hl j hj) (k H locs ls hH hS hl)
theorem aw_iload {X : aw_X} {cc : ByteArray} {nL : Nat} {own : String} (C : aw_ok X cc nL own) {cells slots : Nat} {ad : aw_Ad} {ce : aw_He} {pc : Nat} {lv : List (Nat × Value)} {st : List Value} {i j : Nat} {x : Int32} (hd : decode cc pc = .ok (.iload i, 2)) (hj : lv[j]? = some (i, .int x)) (k : AW X nL cells slots ad ce (pc + 2) lv (.int x :: st)) : AW X nL cells slots ad ce pc lv st := by
  obtain ⟨p, l, e, R, s, m, args, below, meth, c, Q, G⟩ := X
  obtain ⟨hx, hb, hml, hown, hts, hlk, hK, hbs⟩ := C
  intro H locs ls hH hS hl
  exact lv_iload hx hb hd (lv_at hl j hj) (k H locs ls hH hS hl)
theorem aw_lload_n {X : aw_X} {cc : ByteArray} {nL : Nat} {own : String} (C : aw_ok X cc nL own) {cells slots : Nat} {ad : aw_Ad} {ce : aw_He} {pc : Nat} {lv : List (Nat × Value)} {st : List Value} {n : Fin 4} {i j : Nat} {x : Int64} (hd : decode cc pc = .ok (.lload_n n, 1)) (hi : (n : Nat) = i) (hj : lv[j]? = some (i, .long x)) (k : AW X nL cells slots ad ce (pc + 1) lv (.long x :: st)) : AW X nL cells slots ad ce pc lv st := by
  obtain ⟨p, l, e, R, s, m, args, below, meth, c, Q, G⟩ := X
  obtain ⟨hx, hb, hml, hown, hts, hlk, hK, hbs⟩ := C
  intro H locs ls hH hS hl
  exact lv_lload_n hx hb hd hi (lv_at hl j hj) (k H locs ls hH hS hl)
theorem aw_lload {X : aw_X} {cc : ByteArray} {nL : Nat} {own : String} (C : aw_ok X cc nL own) {cells slots : Nat} {ad : aw_Ad} {ce : aw_He} {pc : Nat} {lv : List (Nat × Value)} {st : List Value} {i j : Nat} {x : Int64} (hd : decode cc pc = .ok (.lload i, 2)) (hj : lv[j]? = some (i, .long x)) (k : AW X nL cells slots ad ce (pc + 2) lv (.long x :: st)) : AW X nL cells slots ad ce pc lv st := by
  obtain ⟨p, l, e, R, s, m, args, below, meth, c, Q, G⟩ := X
  obtain ⟨hx, hb, hml, hown, hts, hlk, hK, hbs⟩ := C
  intro H locs ls hH hS hl
  exact lv_lload hx hb hd (lv_at hl j hj) (k H locs ls hH hS hl)
theorem aw_aload_n {X : aw_X} {cc : ByteArray} {nL : Nat} {own : String} (C : aw_ok X cc nL own) {cells slots : Nat} {ad : aw_Ad} {ce : aw_He} {pc : Nat} {lv : List (Nat × Value)} {st : List Value} {n : Fin 4} {i j : Nat} {x : Nat} (hd : decode cc pc = .ok (.aload_n n, 1)) (hi : (n : Nat) = i) (hj : lv[j]? = some (i, .ref x)) (k : AW X nL cells slots ad ce (pc + 1) lv (.ref x :: st)) : AW X nL cells slots ad ce pc lv st := by
  obtain ⟨p, l, e, R, s, m, args, below, meth, c, Q, G⟩ := X
  obtain ⟨hx, hb, hml, hown, hts, hlk, hK, hbs⟩ := C
  intro H locs ls hH hS hl
  exact lv_aload_n hx hb hd hi (lv_at hl j hj) (k H locs ls hH hS hl)
theorem aw_aload {X : aw_X} {cc : ByteArray} {nL : Nat} {own : String} (C : aw_ok X cc nL own) {cells slots : Nat} {ad : aw_Ad} {ce : aw_He} {pc : Nat} {lv : List (Nat × Value)} {st : List Value} {i j : Nat} {x : Nat} (hd : decode cc pc = .ok (.aload i, 2)) (hj : lv[j]? = some (i, .ref x)) (k : AW X nL cells slots ad ce (pc + 2) lv (.ref x :: st)) : AW X nL cells slots ad ce pc lv st := by
  obtain ⟨p, l, e, R, s, m, args, below, meth, c, Q, G⟩ := X
  obtain ⟨hx, hb, hml, hown, hts, hlk, hK, hbs⟩ := C
  intro H locs ls hH hS hl
  exact lv_aload hx hb hd (lv_at hl j hj) (k H locs ls hH hS hl)
theorem aw_aload_nN {X : aw_X} {cc : ByteArray} {nL : Nat} {own : String} (C : aw_ok X cc nL own) {cells slots : Nat} {ad : aw_Ad} {ce : aw_He} {pc : Nat} {lv : List (Nat × Value)} {st : List Value} {n : Fin 4} {i j : Nat} (hd : decode cc pc = .ok (.aload_n n, 1)) (hi : (n : Nat) = i) (hj : lv[j]? = some (i, .null)) (k : AW X nL cells slots ad ce (pc + 1) lv (.null :: st)) : AW X nL cells slots ad ce pc lv st := by
  obtain ⟨p, l, e, R, s, m, args, below, meth, c, Q, G⟩ := X
  obtain ⟨hx, hb, hml, hown, hts, hlk, hK, hbs⟩ := C
  intro H locs ls hH hS hl
  exact lv_aload_nN hx hb hd hi (lv_at hl j hj) (k H locs ls hH hS hl)
theorem aw_aloadN {X : aw_X} {cc : ByteArray} {nL : Nat} {own : String} (C : aw_ok X cc nL own) {cells slots : Nat} {ad : aw_Ad} {ce : aw_He} {pc : Nat} {lv : List (Nat × Value)} {st : List Value} {i j : Nat} (hd : decode cc pc = .ok (.aload i, 2)) (hj : lv[j]? = some (i, .null)) (k : AW X nL cells slots ad ce (pc + 2) lv (.null :: st)) : AW X nL cells slots ad ce pc lv st := by
  obtain ⟨p, l, e, R, s, m, args, below, meth, c, Q, G⟩ := X
  obtain ⟨hx, hb, hml, hown, hts, hlk, hK, hbs⟩ := C
  intro H locs ls hH hS hl
  exact lv_aloadN hx hb hd (lv_at hl j hj) (k H locs ls hH hS hl)
theorem aw_istore_n {X : aw_X} {cc : ByteArray} {nL : Nat} {own : String} (C : aw_ok X cc nL own) {cells slots : Nat} {ad : aw_Ad} {ce : aw_He} {pc : Nat} {lv : List (Nat × Value)} {st : List Value} {n : Fin 4} {i : Nat} {x : Int32} {lv' : List (Nat × Value)} (hd : decode cc pc = .ok (.istore_n n, 1)) (hi : (n : Nat) = i) (hn : i < nL) (hlv : (i, Value.int x) :: lv.filter (fun q => !(q.1 == i) && !(q.1 + 1 == i && q.2.category == 2)) = lv') (k : AW X nL cells slots ad ce (pc + 1) lv' st) : AW X nL cells slots ad ce pc lv (Value.int x :: st) := by
  obtain ⟨p, l, e, R, s, m, args, below, meth, c, Q, G⟩ := X
  obtain ⟨hx, hb, hml, hown, hts, hlk, hK, hbs⟩ := C
  intro H locs ls hH hS hl
  exact lv_istore_n hx hb hd hi hl hn hlv (fun ls' hl' => k H locs ls' hH hS hl')
theorem aw_istore {X : aw_X} {cc : ByteArray} {nL : Nat} {own : String} (C : aw_ok X cc nL own) {cells slots : Nat} {ad : aw_Ad} {ce : aw_He} {pc : Nat} {lv : List (Nat × Value)} {st : List Value} {i : Nat} {x : Int32} {lv' : List (Nat × Value)} (hd : decode cc pc = .ok (.istore i, 2)) (hn : i < nL) (hlv : (i, Value.int x) :: lv.filter (fun q => !(q.1 == i) && !(q.1 + 1 == i && q.2.category == 2)) = lv') (k : AW X nL cells slots ad ce (pc + 2) lv' st) : AW X nL cells slots ad ce pc lv (Value.int x :: st) := by
  obtain ⟨p, l, e, R, s, m, args, below, meth, c, Q, G⟩ := X
  obtain ⟨hx, hb, hml, hown, hts, hlk, hK, hbs⟩ := C
  intro H locs ls hH hS hl
  exact lv_istore hx hb hd hl hn hlv (fun ls' hl' => k H locs ls' hH hS hl')
theorem aw_lstore_n {X : aw_X} {cc : ByteArray} {nL : Nat} {own : String} (C : aw_ok X cc nL own) {cells slots : Nat} {ad : aw_Ad} {ce : aw_He} {pc : Nat} {lv : List (Nat × Value)} {st : List Value} {n : Fin 4} {i : Nat} {x : Int64} {lv' : List (Nat × Value)} (hd : decode cc pc = .ok (.lstore_n n, 1)) (hi : (n : Nat) = i) (hn : i + 1 < nL) (hlv : (i, Value.long x) :: lv.filter (fun q => !(q.1 == i) && (!(q.1 == i + 1) && !(q.1 + 1 == i && q.2.category == 2))) = lv') (k : AW X nL cells slots ad ce (pc + 1) lv' st) : AW X nL cells slots ad ce pc lv (Value.long x :: st) := by
  obtain ⟨p, l, e, R, s, m, args, below, meth, c, Q, G⟩ := X
  obtain ⟨hx, hb, hml, hown, hts, hlk, hK, hbs⟩ := C
  intro H locs ls hH hS hl
  exact lv_lstore_n hx hb hd hi hl hn hlv (fun ls' hl' => k H locs ls' hH hS hl')
theorem aw_lstore {X : aw_X} {cc : ByteArray} {nL : Nat} {own : String} (C : aw_ok X cc nL own) {cells slots : Nat} {ad : aw_Ad} {ce : aw_He} {pc : Nat} {lv : List (Nat × Value)} {st : List Value} {i : Nat} {x : Int64} {lv' : List (Nat × Value)} (hd : decode cc pc = .ok (.lstore i, 2)) (hn : i + 1 < nL) (hlv : (i, Value.long x) :: lv.filter (fun q => !(q.1 == i) && (!(q.1 == i + 1) && !(q.1 + 1 == i && q.2.category == 2))) = lv') (k : AW X nL cells slots ad ce (pc + 2) lv' st) : AW X nL cells slots ad ce pc lv (Value.long x :: st) := by
  obtain ⟨p, l, e, R, s, m, args, below, meth, c, Q, G⟩ := X
  obtain ⟨hx, hb, hml, hown, hts, hlk, hK, hbs⟩ := C
  intro H locs ls hH hS hl
  exact lv_lstore hx hb hd hl hn hlv (fun ls' hl' => k H locs ls' hH hS hl')
theorem aw_astore_n {X : aw_X} {cc : ByteArray} {nL : Nat} {own : String} (C : aw_ok X cc nL own) {cells slots : Nat} {ad : aw_Ad} {ce : aw_He} {pc : Nat} {lv : List (Nat × Value)} {st : List Value} {n : Fin 4} {i : Nat} {x : Nat} {lv' : List (Nat × Value)} (hd : decode cc pc = .ok (.astore_n n, 1)) (hi : (n : Nat) = i) (hn : i < nL) (hlv : (i, Value.ref x) :: lv.filter (fun q => !(q.1 == i) && !(q.1 + 1 == i && q.2.category == 2)) = lv') (k : AW X nL cells slots ad ce (pc + 1) lv' st) : AW X nL cells slots ad ce pc lv (Value.ref x :: st) := by
  obtain ⟨p, l, e, R, s, m, args, below, meth, c, Q, G⟩ := X
  obtain ⟨hx, hb, hml, hown, hts, hlk, hK, hbs⟩ := C
  intro H locs ls hH hS hl
  exact lv_astore_n hx hb hd hi hl hn hlv (fun ls' hl' => k H locs ls' hH hS hl')
theorem aw_astore {X : aw_X} {cc : ByteArray} {nL : Nat} {own : String} (C : aw_ok X cc nL own) {cells slots : Nat} {ad : aw_Ad} {ce : aw_He} {pc : Nat} {lv : List (Nat × Value)} {st : List Value} {i : Nat} {x : Nat} {lv' : List (Nat × Value)} (hd : decode cc pc = .ok (.astore i, 2)) (hn : i < nL) (hlv : (i, Value.ref x) :: lv.filter (fun q => !(q.1 == i) && !(q.1 + 1 == i && q.2.category == 2)) = lv') (k : AW X nL cells slots ad ce (pc + 2) lv' st) : AW X nL cells slots ad ce pc lv (Value.ref x :: st) := by
  obtain ⟨p, l, e, R, s, m, args, below, meth, c, Q, G⟩ := X
  obtain ⟨hx, hb, hml, hown, hts, hlk, hK, hbs⟩ := C
  intro H locs ls hH hS hl
  exact lv_astore hx hb hd hl hn hlv (fun ls' hl' => k H locs ls' hH hS hl')
theorem aw_astore_nN {X : aw_X} {cc : ByteArray} {nL : Nat} {own : String} (C : aw_ok X cc nL own) {cells slots : Nat} {ad : aw_Ad} {ce : aw_He} {pc : Nat} {lv : List (Nat × Value)} {st : List Value} {n : Fin 4} {i : Nat}  {lv' : List (Nat × Value)} (hd : decode cc pc = .ok (.astore_n n, 1)) (hi : (n : Nat) = i) (hn : i < nL) (hlv : (i, Value.null) :: lv.filter (fun q => !(q.1 == i) && !(q.1 + 1 == i && q.2.category == 2)) = lv') (k : AW X nL cells slots ad ce (pc + 1) lv' st) : AW X nL cells slots ad ce pc lv (Value.null :: st) := by
  obtain ⟨p, l, e, R, s, m, args, below, meth, c, Q, G⟩ := X
  obtain ⟨hx, hb, hml, hown, hts, hlk, hK, hbs⟩ := C
  intro H locs ls hH hS hl
  exact lv_astore_nN hx hb hd hi hl hn hlv (fun ls' hl' => k H locs ls' hH hS hl')
theorem aw_astoreN {X : aw_X} {cc : ByteArray} {nL : Nat} {own : String} (C : aw_ok X cc nL own) {cells slots : Nat} {ad : aw_Ad} {ce : aw_He} {pc : Nat} {lv : List (Nat × Value)} {st : List Value} {i : Nat}  {lv' : List (Nat × Value)} (hd : decode cc pc = .ok (.astore i, 2)) (hn : i < nL) (hlv : (i, Value.null) :: lv.filter (fun q => !(q.1 == i) && !(q.1 + 1 == i && q.2.category == 2)) = lv') (k : AW X nL cells slots ad ce (pc + 2) lv' st) : AW X nL cells slots ad ce pc lv (Value.null :: st) := by
  obtain ⟨p, l, e, R, s, m, args, below, meth, c, Q, G⟩ := X
  obtain ⟨hx, hb, hml, hown, hts, hlk, hK, hbs⟩ := C
  intro H locs ls hH hS hl
  exact lv_astoreN hx hb hd hl hn hlv (fun ls' hl' => k H locs ls' hH hS hl')
theorem aw_iinc {X : aw_X} {cc : ByteArray} {nL : Nat} {own : String} (C : aw_ok X cc nL own) {cells slots : Nat} {ad : aw_Ad} {ce : aw_He} {pc : Nat} {lv : List (Nat × Value)} {st : List Value} {i j : Nat} {n : Int} {x v : Int32} {lv' : List (Nat × Value)} (hd : decode cc pc = .ok (.iinc i n, 3)) (hj : lv[j]? = some (i, .int x)) (hv : x + Int32.ofInt n = v) (hn : i < nL) (hlv : (i, Value.int v) :: lv.filter (fun q => !(q.1 == i) && !(q.1 + 1 == i && q.2.category == 2)) = lv') (k : AW X nL cells slots ad ce (pc + 3) lv' st) : AW X nL cells slots ad ce pc lv st := by
  obtain ⟨p, l, e, R, s, m, args, below, meth, c, Q, G⟩ := X
  obtain ⟨hx, hb, hml, hown, hts, hlk, hK, hbs⟩ := C
  intro H locs ls hH hS hl
  exact lv_iinc hx hb hd hl hj hv hn hlv (fun ls' hl' => k H locs ls' hH hS hl')
theorem aw_iadd {X : aw_X} {cc : ByteArray} {nL : Nat} {own : String} (C : aw_ok X cc nL own) {cells slots : Nat} {ad : aw_Ad} {ce : aw_He} {pc : Nat} {lv : List (Nat × Value)} {st : List Value} {x y : Int32} (hd : decode cc pc = .ok (.iadd, 1))  (k : AW X nL cells slots ad ce (pc + 1) lv (.int (x + y) :: st)) : AW X nL cells slots ad ce pc lv (.int y :: .int x :: st) := by
  obtain ⟨p, l, e, R, s, m, args, below, meth, c, Q, G⟩ := X
  obtain ⟨hx, hb, hml, hown, hts, hlk, hK, hbs⟩ := C
  intro H locs ls hH hS hl
  exact lv_iadd hx hb hd (k H locs ls hH hS hl)
theorem aw_isub {X : aw_X} {cc : ByteArray} {nL : Nat} {own : String} (C : aw_ok X cc nL own) {cells slots : Nat} {ad : aw_Ad} {ce : aw_He} {pc : Nat} {lv : List (Nat × Value)} {st : List Value} {x y : Int32} (hd : decode cc pc = .ok (.isub, 1))  (k : AW X nL cells slots ad ce (pc + 1) lv (.int (x - y) :: st)) : AW X nL cells slots ad ce pc lv (.int y :: .int x :: st) := by
  obtain ⟨p, l, e, R, s, m, args, below, meth, c, Q, G⟩ := X
  obtain ⟨hx, hb, hml, hown, hts, hlk, hK, hbs⟩ := C
  intro H locs ls hH hS hl
  exact lv_isub hx hb hd (k H locs ls hH hS hl)
theorem aw_imul {X : aw_X} {cc : ByteArray} {nL : Nat} {own : String} (C : aw_ok X cc nL own) {cells slots : Nat} {ad : aw_Ad} {ce : aw_He} {pc : Nat} {lv : List (Nat × Value)} {st : List Value} {x y : Int32} (hd : decode cc pc = .ok (.imul, 1))  (k : AW X nL cells slots ad ce (pc + 1) lv (.int (x * y) :: st)) : AW X nL cells slots ad ce pc lv (.int y :: .int x :: st) := by
  obtain ⟨p, l, e, R, s, m, args, below, meth, c, Q, G⟩ := X
  obtain ⟨hx, hb, hml, hown, hts, hlk, hK, hbs⟩ := C
  intro H locs ls hH hS hl
  exact lv_imul hx hb hd (k H locs ls hH hS hl)
theorem aw_iand {X : aw_X} {cc : ByteArray} {nL : Nat} {own : String} (C : aw_ok X cc nL own) {cells slots : Nat} {ad : aw_Ad} {ce : aw_He} {pc : Nat} {lv : List (Nat × Value)} {st : List Value} {x y : Int32} (hd : decode cc pc = .ok (.iand, 1))  (k : AW X nL cells slots ad ce (pc + 1) lv (.int (x &&& y) :: st)) : AW X nL cells slots ad ce pc lv (.int y :: .int x :: st) := by
  obtain ⟨p, l, e, R, s, m, args, below, meth, c, Q, G⟩ := X
  obtain ⟨hx, hb, hml, hown, hts, hlk, hK, hbs⟩ := C
  intro H locs ls hH hS hl
  exact lv_iand hx hb hd (k H locs ls hH hS hl)
theorem aw_ior {X : aw_X} {cc : ByteArray} {nL : Nat} {own : String} (C : aw_ok X cc nL own) {cells slots : Nat} {ad : aw_Ad} {ce : aw_He} {pc : Nat} {lv : List (Nat × Value)} {st : List Value} {x y : Int32} (hd : decode cc pc = .ok (.ior, 1))  (k : AW X nL cells slots ad ce (pc + 1) lv (.int (x ||| y) :: st)) : AW X nL cells slots ad ce pc lv (.int y :: .int x :: st) := by
  obtain ⟨p, l, e, R, s, m, args, below, meth, c, Q, G⟩ := X
  obtain ⟨hx, hb, hml, hown, hts, hlk, hK, hbs⟩ := C
  intro H locs ls hH hS hl
  exact lv_ior hx hb hd (k H locs ls hH hS hl)
theorem aw_ixor {X : aw_X} {cc : ByteArray} {nL : Nat} {own : String} (C : aw_ok X cc nL own) {cells slots : Nat} {ad : aw_Ad} {ce : aw_He} {pc : Nat} {lv : List (Nat × Value)} {st : List Value} {x y : Int32} (hd : decode cc pc = .ok (.ixor, 1))  (k : AW X nL cells slots ad ce (pc + 1) lv (.int (x ^^^ y) :: st)) : AW X nL cells slots ad ce pc lv (.int y :: .int x :: st) := by
  obtain ⟨p, l, e, R, s, m, args, below, meth, c, Q, G⟩ := X
  obtain ⟨hx, hb, hml, hown, hts, hlk, hK, hbs⟩ := C
  intro H locs ls hH hS hl
  exact lv_ixor hx hb hd (k H locs ls hH hS hl)
theorem aw_ishl {X : aw_X} {cc : ByteArray} {nL : Nat} {own : String} (C : aw_ok X cc nL own) {cells slots : Nat} {ad : aw_Ad} {ce : aw_He} {pc : Nat} {lv : List (Nat × Value)} {st : List Value} {x y : Int32} (hd : decode cc pc = .ok (.ishl, 1))  (k : AW X nL cells slots ad ce (pc + 1) lv (.int (x <<< (y &&& 31)) :: st)) : AW X nL cells slots ad ce pc lv (.int y :: .int x :: st) := by
  obtain ⟨p, l, e, R, s, m, args, below, meth, c, Q, G⟩ := X
  obtain ⟨hx, hb, hml, hown, hts, hlk, hK, hbs⟩ := C
  intro H locs ls hH hS hl
  exact lv_ishl hx hb hd (k H locs ls hH hS hl)
theorem aw_ishr {X : aw_X} {cc : ByteArray} {nL : Nat} {own : String} (C : aw_ok X cc nL own) {cells slots : Nat} {ad : aw_Ad} {ce : aw_He} {pc : Nat} {lv : List (Nat × Value)} {st : List Value} {x y : Int32} (hd : decode cc pc = .ok (.ishr, 1))  (k : AW X nL cells slots ad ce (pc + 1) lv (.int (x >>> (y &&& 31)) :: st)) : AW X nL cells slots ad ce pc lv (.int y :: .int x :: st) := by
  obtain ⟨p, l, e, R, s, m, args, below, meth, c, Q, G⟩ := X
  obtain ⟨hx, hb, hml, hown, hts, hlk, hK, hbs⟩ := C
  intro H locs ls hH hS hl
  exact lv_ishr hx hb hd (k H locs ls hH hS hl)
theorem aw_idiv {X : aw_X} {cc : ByteArray} {nL : Nat} {own : String} (C : aw_ok X cc nL own) {cells slots : Nat} {ad : aw_Ad} {ce : aw_He} {pc : Nat} {lv : List (Nat × Value)} {st : List Value} {x y : Int32} (hd : decode cc pc = .ok (.idiv, 1)) (hne : ¬ y = 0) (k : AW X nL cells slots ad ce (pc + 1) lv (.int (x / y) :: st)) : AW X nL cells slots ad ce pc lv (.int y :: .int x :: st) := by
  obtain ⟨p, l, e, R, s, m, args, below, meth, c, Q, G⟩ := X
  obtain ⟨hx, hb, hml, hown, hts, hlk, hK, hbs⟩ := C
  intro H locs ls hH hS hl
  exact lv_idiv hx hb hd hne (k H locs ls hH hS hl)
theorem aw_irem {X : aw_X} {cc : ByteArray} {nL : Nat} {own : String} (C : aw_ok X cc nL own) {cells slots : Nat} {ad : aw_Ad} {ce : aw_He} {pc : Nat} {lv : List (Nat × Value)} {st : List Value} {x y : Int32} (hd : decode cc pc = .ok (.irem, 1)) (hne : ¬ y = 0) (k : AW X nL cells slots ad ce (pc + 1) lv (.int (x - x / y * y) :: st)) : AW X nL cells slots ad ce pc lv (.int y :: .int x :: st) := by
  obtain ⟨p, l, e, R, s, m, args, below, meth, c, Q, G⟩ := X
  obtain ⟨hx, hb, hml, hown, hts, hlk, hK, hbs⟩ := C
  intro H locs ls hH hS hl
  exact lv_irem hx hb hd hne (k H locs ls hH hS hl)
theorem aw_ineg {X : aw_X} {cc : ByteArray} {nL : Nat} {own : String} (C : aw_ok X cc nL own) {cells slots : Nat} {ad : aw_Ad} {ce : aw_He} {pc : Nat} {lv : List (Nat × Value)} {st : List Value} {x : Int32} (hd : decode cc pc = .ok (.ineg, 1))  (k : AW X nL cells slots ad ce (pc + 1) lv (.int (-x) :: st)) : AW X nL cells slots ad ce pc lv (.int x :: st) := by
  obtain ⟨p, l, e, R, s, m, args, below, meth, c, Q, G⟩ := X
  obtain ⟨hx, hb, hml, hown, hts, hlk, hK, hbs⟩ := C
  intro H locs ls hH hS hl
  exact lv_ineg hx hb hd (k H locs ls hH hS hl)
theorem aw_ladd {X : aw_X} {cc : ByteArray} {nL : Nat} {own : String} (C : aw_ok X cc nL own) {cells slots : Nat} {ad : aw_Ad} {ce : aw_He} {pc : Nat} {lv : List (Nat × Value)} {st : List Value} {x y : Int64} (hd : decode cc pc = .ok (.ladd, 1))  (k : AW X nL cells slots ad ce (pc + 1) lv (.long (x + y) :: st)) : AW X nL cells slots ad ce pc lv (.long y :: .long x :: st) := by
  obtain ⟨p, l, e, R, s, m, args, below, meth, c, Q, G⟩ := X
  obtain ⟨hx, hb, hml, hown, hts, hlk, hK, hbs⟩ := C
  intro H locs ls hH hS hl
  exact lv_ladd hx hb hd (k H locs ls hH hS hl)
theorem aw_lsub {X : aw_X} {cc : ByteArray} {nL : Nat} {own : String} (C : aw_ok X cc nL own) {cells slots : Nat} {ad : aw_Ad} {ce : aw_He} {pc : Nat} {lv : List (Nat × Value)} {st : List Value} {x y : Int64} (hd : decode cc pc = .ok (.lsub, 1))  (k : AW X nL cells slots ad ce (pc + 1) lv (.long (x - y) :: st)) : AW X nL cells slots ad ce pc lv (.long y :: .long x :: st) := by
  obtain ⟨p, l, e, R, s, m, args, below, meth, c, Q, G⟩ := X
  obtain ⟨hx, hb, hml, hown, hts, hlk, hK, hbs⟩ := C
  intro H locs ls hH hS hl
  exact lv_lsub hx hb hd (k H locs ls hH hS hl)
theorem aw_lmul {X : aw_X} {cc : ByteArray} {nL : Nat} {own : String} (C : aw_ok X cc nL own) {cells slots : Nat} {ad : aw_Ad} {ce : aw_He} {pc : Nat} {lv : List (Nat × Value)} {st : List Value} {x y : Int64} (hd : decode cc pc = .ok (.lmul, 1))  (k : AW X nL cells slots ad ce (pc + 1) lv (.long (x * y) :: st)) : AW X nL cells slots ad ce pc lv (.long y :: .long x :: st) := by
  obtain ⟨p, l, e, R, s, m, args, below, meth, c, Q, G⟩ := X
  obtain ⟨hx, hb, hml, hown, hts, hlk, hK, hbs⟩ := C
  intro H locs ls hH hS hl
  exact lv_lmul hx hb hd (k H locs ls hH hS hl)
theorem aw_land {X : aw_X} {cc : ByteArray} {nL : Nat} {own : String} (C : aw_ok X cc nL own) {cells slots : Nat} {ad : aw_Ad} {ce : aw_He} {pc : Nat} {lv : List (Nat × Value)} {st : List Value} {x y : Int64} (hd : decode cc pc = .ok (.land, 1))  (k : AW X nL cells slots ad ce (pc + 1) lv (.long (x &&& y) :: st)) : AW X nL cells slots ad ce pc lv (.long y :: .long x :: st) := by
  obtain ⟨p, l, e, R, s, m, args, below, meth, c, Q, G⟩ := X
  obtain ⟨hx, hb, hml, hown, hts, hlk, hK, hbs⟩ := C
  intro H locs ls hH hS hl
  exact lv_land hx hb hd (k H locs ls hH hS hl)
theorem aw_lor {X : aw_X} {cc : ByteArray} {nL : Nat} {own : String} (C : aw_ok X cc nL own) {cells slots : Nat} {ad : aw_Ad} {ce : aw_He} {pc : Nat} {lv : List (Nat × Value)} {st : List Value} {x y : Int64} (hd : decode cc pc = .ok (.lor, 1))  (k : AW X nL cells slots ad ce (pc + 1) lv (.long (x ||| y) :: st)) : AW X nL cells slots ad ce pc lv (.long y :: .long x :: st) := by
  obtain ⟨p, l, e, R, s, m, args, below, meth, c, Q, G⟩ := X
  obtain ⟨hx, hb, hml, hown, hts, hlk, hK, hbs⟩ := C
  intro H locs ls hH hS hl
  exact lv_lor hx hb hd (k H locs ls hH hS hl)
theorem aw_lxor {X : aw_X} {cc : ByteArray} {nL : Nat} {own : String} (C : aw_ok X cc nL own) {cells slots : Nat} {ad : aw_Ad} {ce : aw_He} {pc : Nat} {lv : List (Nat × Value)} {st : List Value} {x y : Int64} (hd : decode cc pc = .ok (.lxor, 1))  (k : AW X nL cells slots ad ce (pc + 1) lv (.long (x ^^^ y) :: st)) : AW X nL cells slots ad ce pc lv (.long y :: .long x :: st) := by
  obtain ⟨p, l, e, R, s, m, args, below, meth, c, Q, G⟩ := X
  obtain ⟨hx, hb, hml, hown, hts, hlk, hK, hbs⟩ := C
  intro H locs ls hH hS hl
  exact lv_lxor hx hb hd (k H locs ls hH hS hl)
theorem aw_ldiv {X : aw_X} {cc : ByteArray} {nL : Nat} {own : String} (C : aw_ok X cc nL own) {cells slots : Nat} {ad : aw_Ad} {ce : aw_He} {pc : Nat} {lv : List (Nat × Value)} {st : List Value} {x y : Int64} (hd : decode cc pc = .ok (.ldiv, 1)) (hne : ¬ y = 0) (k : AW X nL cells slots ad ce (pc + 1) lv (.long (x / y) :: st)) : AW X nL cells slots ad ce pc lv (.long y :: .long x :: st) := by
  obtain ⟨p, l, e, R, s, m, args, below, meth, c, Q, G⟩ := X
  obtain ⟨hx, hb, hml, hown, hts, hlk, hK, hbs⟩ := C
  intro H locs ls hH hS hl
  exact lv_ldiv hx hb hd hne (k H locs ls hH hS hl)
theorem aw_lrem {X : aw_X} {cc : ByteArray} {nL : Nat} {own : String} (C : aw_ok X cc nL own) {cells slots : Nat} {ad : aw_Ad} {ce : aw_He} {pc : Nat} {lv : List (Nat × Value)} {st : List Value} {x y : Int64} (hd : decode cc pc = .ok (.lrem, 1)) (hne : ¬ y = 0) (k : AW X nL cells slots ad ce (pc + 1) lv (.long (x - x / y * y) :: st)) : AW X nL cells slots ad ce pc lv (.long y :: .long x :: st) := by
  obtain ⟨p, l, e, R, s, m, args, below, meth, c, Q, G⟩ := X
  obtain ⟨hx, hb, hml, hown, hts, hlk, hK, hbs⟩ := C
  intro H locs ls hH hS hl
  exact lv_lrem hx hb hd hne (k H locs ls hH hS hl)
theorem aw_i2l {X : aw_X} {cc : ByteArray} {nL : Nat} {own : String} (C : aw_ok X cc nL own) {cells slots : Nat} {ad : aw_Ad} {ce : aw_He} {pc : Nat} {lv : List (Nat × Value)} {st : List Value} {x : Int32} (hd : decode cc pc = .ok (.i2l, 1))  (k : AW X nL cells slots ad ce (pc + 1) lv (.long x.toInt64 :: st)) : AW X nL cells slots ad ce pc lv (.int x :: st) := by
  obtain ⟨p, l, e, R, s, m, args, below, meth, c, Q, G⟩ := X
  obtain ⟨hx, hb, hml, hown, hts, hlk, hK, hbs⟩ := C
  intro H locs ls hH hS hl
  exact lv_i2l hx hb hd rfl (k H locs ls hH hS hl)
theorem aw_l2i {X : aw_X} {cc : ByteArray} {nL : Nat} {own : String} (C : aw_ok X cc nL own) {cells slots : Nat} {ad : aw_Ad} {ce : aw_He} {pc : Nat} {lv : List (Nat × Value)} {st : List Value} {x : Int64} (hd : decode cc pc = .ok (.l2i, 1))  (k : AW X nL cells slots ad ce (pc + 1) lv (.int x.toInt32 :: st)) : AW X nL cells slots ad ce pc lv (.long x :: st) := by
  obtain ⟨p, l, e, R, s, m, args, below, meth, c, Q, G⟩ := X
  obtain ⟨hx, hb, hml, hown, hts, hlk, hK, hbs⟩ := C
  intro H locs ls hH hS hl
  exact lv_l2i hx hb hd rfl (k H locs ls hH hS hl)
theorem aw_iushr {X : aw_X} {cc : ByteArray} {nL : Nat} {own : String} (C : aw_ok X cc nL own) {cells slots : Nat} {ad : aw_Ad} {ce : aw_He} {pc : Nat} {lv : List (Nat × Value)} {st : List Value} {x y : Int32} (hd : decode cc pc = .ok (.iushr, 1))  (k : AW X nL cells slots ad ce (pc + 1) lv (.int (x.toUInt32 >>> (y.toUInt32 &&& Int32.toUInt32 31)).toInt32 :: st)) : AW X nL cells slots ad ce pc lv (.int y :: .int x :: st) := by
  obtain ⟨p, l, e, R, s, m, args, below, meth, c, Q, G⟩ := X
  obtain ⟨hx, hb, hml, hown, hts, hlk, hK, hbs⟩ := C
  intro H locs ls hH hS hl
  exact lv_iushr hx hb hd rfl (k H locs ls hH hS hl)
theorem aw_lushr {X : aw_X} {cc : ByteArray} {nL : Nat} {own : String} (C : aw_ok X cc nL own) {cells slots : Nat} {ad : aw_Ad} {ce : aw_He} {pc : Nat} {lv : List (Nat × Value)} {st : List Value} {x : Int64} {y : Int32} (hd : decode cc pc = .ok (.lushr, 1))  (k : AW X nL cells slots ad ce (pc + 1) lv (.long (x.toUInt64 >>> (y.toInt64.toUInt64 &&& Int64.toUInt64 63)).toInt64 :: st)) : AW X nL cells slots ad ce pc lv (.int y :: .long x :: st) := by
  obtain ⟨p, l, e, R, s, m, args, below, meth, c, Q, G⟩ := X
  obtain ⟨hx, hb, hml, hown, hts, hlk, hK, hbs⟩ := C
  intro H locs ls hH hS hl
  exact lv_lushr hx hb hd rfl (k H locs ls hH hS hl)
theorem aw_lshl {X : aw_X} {cc : ByteArray} {nL : Nat} {own : String} (C : aw_ok X cc nL own) {cells slots : Nat} {ad : aw_Ad} {ce : aw_He} {pc : Nat} {lv : List (Nat × Value)} {st : List Value} {x : Int64} {y : Int32} (hd : decode cc pc = .ok (.lshl, 1))  (k : AW X nL cells slots ad ce (pc + 1) lv (.long (x <<< (y.toInt64 &&& 63)) :: st)) : AW X nL cells slots ad ce pc lv (.int y :: .long x :: st) := by
  obtain ⟨p, l, e, R, s, m, args, below, meth, c, Q, G⟩ := X
  obtain ⟨hx, hb, hml, hown, hts, hlk, hK, hbs⟩ := C
  intro H locs ls hH hS hl
  exact lv_lshl hx hb hd rfl (k H locs ls hH hS hl)
theorem aw_lshr {X : aw_X} {cc : ByteArray} {nL : Nat} {own : String} (C : aw_ok X cc nL own) {cells slots : Nat} {ad : aw_Ad} {ce : aw_He} {pc : Nat} {lv : List (Nat × Value)} {st : List Value} {x : Int64} {y : Int32} (hd : decode cc pc = .ok (.lshr, 1))  (k : AW X nL cells slots ad ce (pc + 1) lv (.long (x >>> (y.toInt64 &&& 63)) :: st)) : AW X nL cells slots ad ce pc lv (.int y :: .long x :: st) := by
  obtain ⟨p, l, e, R, s, m, args, below, meth, c, Q, G⟩ := X
  obtain ⟨hx, hb, hml, hown, hts, hlk, hK, hbs⟩ := C
  intro H locs ls hH hS hl
  exact lv_lshr hx hb hd rfl (k H locs ls hH hS hl)
theorem aw_lcmp {X : aw_X} {cc : ByteArray} {nL : Nat} {own : String} (C : aw_ok X cc nL own) {cells slots : Nat} {ad : aw_Ad} {ce : aw_He} {pc : Nat} {lv : List (Nat × Value)} {st : List Value} {x y : Int64} (hd : decode cc pc = .ok (.lcmp, 1))  (k : AW X nL cells slots ad ce (pc + 1) lv (.int (lg_cmp x y) :: st)) : AW X nL cells slots ad ce pc lv (.long y :: .long x :: st) := by
  obtain ⟨p, l, e, R, s, m, args, below, meth, c, Q, G⟩ := X
  obtain ⟨hx, hb, hml, hown, hts, hlk, hK, hbs⟩ := C
  intro H locs ls hH hS hl
  exact W.lcmp hx hb hd (k H locs ls hH hS hl)
theorem aw_dup {X : aw_X} {cc : ByteArray} {nL : Nat} {own : String} (C : aw_ok X cc nL own) {cells slots : Nat} {ad : aw_Ad} {ce : aw_He} {pc : Nat} {lv : List (Nat × Value)} {st : List Value} {va : Value} (hd : decode cc pc = .ok (.dup, 1)) (h1 : va.category = 1) (k : AW X nL cells slots ad ce (pc + 1) lv (va :: va :: st)) : AW X nL cells slots ad ce pc lv (va :: st) := by
  obtain ⟨p, l, e, R, s, m, args, below, meth, c, Q, G⟩ := X
  obtain ⟨hx, hb, hml, hown, hts, hlk, hK, hbs⟩ := C
  intro H locs ls hH hS hl
  exact lv_dup hx hb hd h1 (k H locs ls hH hS hl)
theorem aw_pop {X : aw_X} {cc : ByteArray} {nL : Nat} {own : String} (C : aw_ok X cc nL own) {cells slots : Nat} {ad : aw_Ad} {ce : aw_He} {pc : Nat} {lv : List (Nat × Value)} {st : List Value} {va : Value} (hd : decode cc pc = .ok (.pop, 1)) (h1 : va.category = 1) (k : AW X nL cells slots ad ce (pc + 1) lv st) : AW X nL cells slots ad ce pc lv (va :: st) := by
  obtain ⟨p, l, e, R, s, m, args, below, meth, c, Q, G⟩ := X
  obtain ⟨hx, hb, hml, hown, hts, hlk, hK, hbs⟩ := C
  intro H locs ls hH hS hl
  exact lv_pop hx hb hd h1 (k H locs ls hH hS hl)
theorem aw_dup_x1 {X : aw_X} {cc : ByteArray} {nL : Nat} {own : String} (C : aw_ok X cc nL own) {cells slots : Nat} {ad : aw_Ad} {ce : aw_He} {pc : Nat} {lv : List (Nat × Value)} {st : List Value} {va vb : Value} (hd : decode cc pc = .ok (.dup_x1, 1)) (h1 : va.category = 1) (h2 : vb.category = 1) (k : AW X nL cells slots ad ce (pc + 1) lv (va :: vb :: va :: st)) : AW X nL cells slots ad ce pc lv (va :: vb :: st) := by
  obtain ⟨p, l, e, R, s, m, args, below, meth, c, Q, G⟩ := X
  obtain ⟨hx, hb, hml, hown, hts, hlk, hK, hbs⟩ := C
  intro H locs ls hH hS hl
  exact lv_dup_x1 hx hb hd h1 h2 (k H locs ls hH hS hl)
theorem aw_dup_x2 {X : aw_X} {cc : ByteArray} {nL : Nat} {own : String} (C : aw_ok X cc nL own) {cells slots : Nat} {ad : aw_Ad} {ce : aw_He} {pc : Nat} {lv : List (Nat × Value)} {st : List Value} {va vb vd : Value} (hd : decode cc pc = .ok (.dup_x2, 1)) (h1 : va.category = 1) (h2 : vb.category = 1) (h3 : vd.category = 1) (k : AW X nL cells slots ad ce (pc + 1) lv (va :: vb :: vd :: va :: st)) : AW X nL cells slots ad ce pc lv (va :: vb :: vd :: st) := by
  obtain ⟨p, l, e, R, s, m, args, below, meth, c, Q, G⟩ := X
  obtain ⟨hx, hb, hml, hown, hts, hlk, hK, hbs⟩ := C
  intro H locs ls hH hS hl
  exact lv_dup_x2 hx hb hd h1 h2 h3 (k H locs ls hH hS hl)
theorem aw_dup2_11 {X : aw_X} {cc : ByteArray} {nL : Nat} {own : String} (C : aw_ok X cc nL own) {cells slots : Nat} {ad : aw_Ad} {ce : aw_He} {pc : Nat} {lv : List (Nat × Value)} {st : List Value} {va vb : Value} (hd : decode cc pc = .ok (.dup2, 1)) (h1 : va.category = 1) (h2 : vb.category = 1) (k : AW X nL cells slots ad ce (pc + 1) lv (va :: vb :: va :: vb :: st)) : AW X nL cells slots ad ce pc lv (va :: vb :: st) := by
  obtain ⟨p, l, e, R, s, m, args, below, meth, c, Q, G⟩ := X
  obtain ⟨hx, hb, hml, hown, hts, hlk, hK, hbs⟩ := C
  intro H locs ls hH hS hl
  exact lv_dup2_11 hx hb hd h1 h2 (k H locs ls hH hS hl)
theorem aw_dup2_2 {X : aw_X} {cc : ByteArray} {nL : Nat} {own : String} (C : aw_ok X cc nL own) {cells slots : Nat} {ad : aw_Ad} {ce : aw_He} {pc : Nat} {lv : List (Nat × Value)} {st : List Value} {va : Value} (hd : decode cc pc = .ok (.dup2, 1)) (h1 : va.category = 2) (k : AW X nL cells slots ad ce (pc + 1) lv (va :: va :: st)) : AW X nL cells slots ad ce pc lv (va :: st) := by
  obtain ⟨p, l, e, R, s, m, args, below, meth, c, Q, G⟩ := X
  obtain ⟨hx, hb, hml, hown, hts, hlk, hK, hbs⟩ := C
  intro H locs ls hH hS hl
  exact lv_dup2_2 hx hb hd h1 (k H locs ls hH hS hl)
theorem aw_pop2_2 {X : aw_X} {cc : ByteArray} {nL : Nat} {own : String} (C : aw_ok X cc nL own) {cells slots : Nat} {ad : aw_Ad} {ce : aw_He} {pc : Nat} {lv : List (Nat × Value)} {st : List Value} {va : Value} (hd : decode cc pc = .ok (.pop2, 1)) (h1 : va.category = 2) (k : AW X nL cells slots ad ce (pc + 1) lv st) : AW X nL cells slots ad ce pc lv (va :: st) := by
  obtain ⟨p, l, e, R, s, m, args, below, meth, c, Q, G⟩ := X
  obtain ⟨hx, hb, hml, hown, hts, hlk, hK, hbs⟩ := C
  intro H locs ls hH hS hl
  exact lv_pop2_2 hx hb hd h1 (k H locs ls hH hS hl)
theorem aw_if_eq {X : aw_X} {cc : ByteArray} {nL : Nat} {own : String} (C : aw_ok X cc nL own) {cells slots : Nat} {ad : aw_Ad} {ce : aw_He} {pc : Nat} {lv : List (Nat × Value)} {st : List Value} {x : Int32} {off : Int} {tgt : Nat} (hd : decode cc pc = .ok (.ifCond .eq off, 3)) (ht : (pc : Int) + off = (tgt : Int)) (kt : x = 0 → AW X nL cells slots ad ce tgt lv st) (kf : ¬ x = 0 → AW X nL cells slots ad ce (pc + 3) lv st) : AW X nL cells slots ad ce pc lv (.int x :: st) := by
  obtain ⟨p, l, e, R, s, m, args, below, meth, c, Q, G⟩ := X
  obtain ⟨hx, hb, hml, hown, hts, hlk, hK, hbs⟩ := C
  intro H locs ls hH hS hl
  exact lv_if_eq hx hb hd ht (fun q => kt q H locs ls hH hS hl) (fun q => kf q H locs ls hH hS hl)
theorem aw_icmp_eq {X : aw_X} {cc : ByteArray} {nL : Nat} {own : String} (C : aw_ok X cc nL own) {cells slots : Nat} {ad : aw_Ad} {ce : aw_He} {pc : Nat} {lv : List (Nat × Value)} {st : List Value} {x y : Int32} {off : Int} {tgt : Nat} (hd : decode cc pc = .ok (.if_icmp .eq off, 3)) (ht : (pc : Int) + off = (tgt : Int)) (kt : x = y → AW X nL cells slots ad ce tgt lv st) (kf : ¬ x = y → AW X nL cells slots ad ce (pc + 3) lv st) : AW X nL cells slots ad ce pc lv (.int y :: .int x :: st) := by
  obtain ⟨p, l, e, R, s, m, args, below, meth, c, Q, G⟩ := X
  obtain ⟨hx, hb, hml, hown, hts, hlk, hK, hbs⟩ := C
  intro H locs ls hH hS hl
  exact lv_icmp_eq hx hb hd ht (fun q => kt q H locs ls hH hS hl) (fun q => kf q H locs ls hH hS hl)
theorem aw_if_ne {X : aw_X} {cc : ByteArray} {nL : Nat} {own : String} (C : aw_ok X cc nL own) {cells slots : Nat} {ad : aw_Ad} {ce : aw_He} {pc : Nat} {lv : List (Nat × Value)} {st : List Value} {x : Int32} {off : Int} {tgt : Nat} (hd : decode cc pc = .ok (.ifCond .ne off, 3)) (ht : (pc : Int) + off = (tgt : Int)) (kt : ¬ x = 0 → AW X nL cells slots ad ce tgt lv st) (kf : x = 0 → AW X nL cells slots ad ce (pc + 3) lv st) : AW X nL cells slots ad ce pc lv (.int x :: st) := by
  obtain ⟨p, l, e, R, s, m, args, below, meth, c, Q, G⟩ := X
  obtain ⟨hx, hb, hml, hown, hts, hlk, hK, hbs⟩ := C
  intro H locs ls hH hS hl
  exact lv_if_ne hx hb hd ht (fun q => kt q H locs ls hH hS hl) (fun q => kf q H locs ls hH hS hl)
theorem aw_icmp_ne {X : aw_X} {cc : ByteArray} {nL : Nat} {own : String} (C : aw_ok X cc nL own) {cells slots : Nat} {ad : aw_Ad} {ce : aw_He} {pc : Nat} {lv : List (Nat × Value)} {st : List Value} {x y : Int32} {off : Int} {tgt : Nat} (hd : decode cc pc = .ok (.if_icmp .ne off, 3)) (ht : (pc : Int) + off = (tgt : Int)) (kt : ¬ x = y → AW X nL cells slots ad ce tgt lv st) (kf : x = y → AW X nL cells slots ad ce (pc + 3) lv st) : AW X nL cells slots ad ce pc lv (.int y :: .int x :: st) := by
  obtain ⟨p, l, e, R, s, m, args, below, meth, c, Q, G⟩ := X
  obtain ⟨hx, hb, hml, hown, hts, hlk, hK, hbs⟩ := C
  intro H locs ls hH hS hl
  exact lv_icmp_ne hx hb hd ht (fun q => kt q H locs ls hH hS hl) (fun q => kf q H locs ls hH hS hl)
theorem aw_if_lt {X : aw_X} {cc : ByteArray} {nL : Nat} {own : String} (C : aw_ok X cc nL own) {cells slots : Nat} {ad : aw_Ad} {ce : aw_He} {pc : Nat} {lv : List (Nat × Value)} {st : List Value} {x : Int32} {off : Int} {tgt : Nat} (hd : decode cc pc = .ok (.ifCond .lt off, 3)) (ht : (pc : Int) + off = (tgt : Int)) (kt : x < 0 → AW X nL cells slots ad ce tgt lv st) (kf : ¬ x < 0 → AW X nL cells slots ad ce (pc + 3) lv st) : AW X nL cells slots ad ce pc lv (.int x :: st) := by
  obtain ⟨p, l, e, R, s, m, args, below, meth, c, Q, G⟩ := X
  obtain ⟨hx, hb, hml, hown, hts, hlk, hK, hbs⟩ := C
  intro H locs ls hH hS hl
  exact lv_if_lt hx hb hd ht (fun q => kt q H locs ls hH hS hl) (fun q => kf q H locs ls hH hS hl)
theorem aw_icmp_lt {X : aw_X} {cc : ByteArray} {nL : Nat} {own : String} (C : aw_ok X cc nL own) {cells slots : Nat} {ad : aw_Ad} {ce : aw_He} {pc : Nat} {lv : List (Nat × Value)} {st : List Value} {x y : Int32} {off : Int} {tgt : Nat} (hd : decode cc pc = .ok (.if_icmp .lt off, 3)) (ht : (pc : Int) + off = (tgt : Int)) (kt : x < y → AW X nL cells slots ad ce tgt lv st) (kf : ¬ x < y → AW X nL cells slots ad ce (pc + 3) lv st) : AW X nL cells slots ad ce pc lv (.int y :: .int x :: st) := by
  obtain ⟨p, l, e, R, s, m, args, below, meth, c, Q, G⟩ := X
  obtain ⟨hx, hb, hml, hown, hts, hlk, hK, hbs⟩ := C
  intro H locs ls hH hS hl
  exact lv_icmp_lt hx hb hd ht (fun q => kt q H locs ls hH hS hl) (fun q => kf q H locs ls hH hS hl)
theorem aw_if_ge {X : aw_X} {cc : ByteArray} {nL : Nat} {own : String} (C : aw_ok X cc nL own) {cells slots : Nat} {ad : aw_Ad} {ce : aw_He} {pc : Nat} {lv : List (Nat × Value)} {st : List Value} {x : Int32} {off : Int} {tgt : Nat} (hd : decode cc pc = .ok (.ifCond .ge off, 3)) (ht : (pc : Int) + off = (tgt : Int)) (kt : 0 ≤ x → AW X nL cells slots ad ce tgt lv st) (kf : ¬ 0 ≤ x → AW X nL cells slots ad ce (pc + 3) lv st) : AW X nL cells slots ad ce pc lv (.int x :: st) := by
  obtain ⟨p, l, e, R, s, m, args, below, meth, c, Q, G⟩ := X
  obtain ⟨hx, hb, hml, hown, hts, hlk, hK, hbs⟩ := C
  intro H locs ls hH hS hl
  exact lv_if_ge hx hb hd ht (fun q => kt q H locs ls hH hS hl) (fun q => kf q H locs ls hH hS hl)
theorem aw_icmp_ge {X : aw_X} {cc : ByteArray} {nL : Nat} {own : String} (C : aw_ok X cc nL own) {cells slots : Nat} {ad : aw_Ad} {ce : aw_He} {pc : Nat} {lv : List (Nat × Value)} {st : List Value} {x y : Int32} {off : Int} {tgt : Nat} (hd : decode cc pc = .ok (.if_icmp .ge off, 3)) (ht : (pc : Int) + off = (tgt : Int)) (kt : y ≤ x → AW X nL cells slots ad ce tgt lv st) (kf : ¬ y ≤ x → AW X nL cells slots ad ce (pc + 3) lv st) : AW X nL cells slots ad ce pc lv (.int y :: .int x :: st) := by
  obtain ⟨p, l, e, R, s, m, args, below, meth, c, Q, G⟩ := X
  obtain ⟨hx, hb, hml, hown, hts, hlk, hK, hbs⟩ := C
  intro H locs ls hH hS hl
  exact lv_icmp_ge hx hb hd ht (fun q => kt q H locs ls hH hS hl) (fun q => kf q H locs ls hH hS hl)
theorem aw_if_gt {X : aw_X} {cc : ByteArray} {nL : Nat} {own : String} (C : aw_ok X cc nL own) {cells slots : Nat} {ad : aw_Ad} {ce : aw_He} {pc : Nat} {lv : List (Nat × Value)} {st : List Value} {x : Int32} {off : Int} {tgt : Nat} (hd : decode cc pc = .ok (.ifCond .gt off, 3)) (ht : (pc : Int) + off = (tgt : Int)) (kt : 0 < x → AW X nL cells slots ad ce tgt lv st) (kf : ¬ 0 < x → AW X nL cells slots ad ce (pc + 3) lv st) : AW X nL cells slots ad ce pc lv (.int x :: st) := by
  obtain ⟨p, l, e, R, s, m, args, below, meth, c, Q, G⟩ := X
  obtain ⟨hx, hb, hml, hown, hts, hlk, hK, hbs⟩ := C
  intro H locs ls hH hS hl
  exact lv_if_gt hx hb hd ht (fun q => kt q H locs ls hH hS hl) (fun q => kf q H locs ls hH hS hl)
theorem aw_icmp_gt {X : aw_X} {cc : ByteArray} {nL : Nat} {own : String} (C : aw_ok X cc nL own) {cells slots : Nat} {ad : aw_Ad} {ce : aw_He} {pc : Nat} {lv : List (Nat × Value)} {st : List Value} {x y : Int32} {off : Int} {tgt : Nat} (hd : decode cc pc = .ok (.if_icmp .gt off, 3)) (ht : (pc : Int) + off = (tgt : Int)) (kt : y < x → AW X nL cells slots ad ce tgt lv st) (kf : ¬ y < x → AW X nL cells slots ad ce (pc + 3) lv st) : AW X nL cells slots ad ce pc lv (.int y :: .int x :: st) := by
  obtain ⟨p, l, e, R, s, m, args, below, meth, c, Q, G⟩ := X
  obtain ⟨hx, hb, hml, hown, hts, hlk, hK, hbs⟩ := C
  intro H locs ls hH hS hl
  exact lv_icmp_gt hx hb hd ht (fun q => kt q H locs ls hH hS hl) (fun q => kf q H locs ls hH hS hl)
theorem aw_if_le {X : aw_X} {cc : ByteArray} {nL : Nat} {own : String} (C : aw_ok X cc nL own) {cells slots : Nat} {ad : aw_Ad} {ce : aw_He} {pc : Nat} {lv : List (Nat × Value)} {st : List Value} {x : Int32} {off : Int} {tgt : Nat} (hd : decode cc pc = .ok (.ifCond .le off, 3)) (ht : (pc : Int) + off = (tgt : Int)) (kt : x ≤ 0 → AW X nL cells slots ad ce tgt lv st) (kf : ¬ x ≤ 0 → AW X nL cells slots ad ce (pc + 3) lv st) : AW X nL cells slots ad ce pc lv (.int x :: st) := by
  obtain ⟨p, l, e, R, s, m, args, below, meth, c, Q, G⟩ := X
  obtain ⟨hx, hb, hml, hown, hts, hlk, hK, hbs⟩ := C
  intro H locs ls hH hS hl
  exact lv_if_le hx hb hd ht (fun q => kt q H locs ls hH hS hl) (fun q => kf q H locs ls hH hS hl)
theorem aw_icmp_le {X : aw_X} {cc : ByteArray} {nL : Nat} {own : String} (C : aw_ok X cc nL own) {cells slots : Nat} {ad : aw_Ad} {ce : aw_He} {pc : Nat} {lv : List (Nat × Value)} {st : List Value} {x y : Int32} {off : Int} {tgt : Nat} (hd : decode cc pc = .ok (.if_icmp .le off, 3)) (ht : (pc : Int) + off = (tgt : Int)) (kt : x ≤ y → AW X nL cells slots ad ce tgt lv st) (kf : ¬ x ≤ y → AW X nL cells slots ad ce (pc + 3) lv st) : AW X nL cells slots ad ce pc lv (.int y :: .int x :: st) := by
  obtain ⟨p, l, e, R, s, m, args, below, meth, c, Q, G⟩ := X
  obtain ⟨hx, hb, hml, hown, hts, hlk, hK, hbs⟩ := C
  intro H locs ls hH hS hl
  exact lv_icmp_le hx hb hd ht (fun q => kt q H locs ls hH hS hl) (fun q => kf q H locs ls hH hS hl)
theorem aw_goto {X : aw_X} {cc : ByteArray} {nL : Nat} {own : String} (C : aw_ok X cc nL own) {cells slots : Nat} {ad : aw_Ad} {ce : aw_He} {pc : Nat} {lv : List (Nat × Value)} {st : List Value} {off : Int} {tgt : Nat} (hd : decode cc pc = .ok (.goto off, 3)) (ht : (pc : Int) + off = (tgt : Int)) (k : AW X nL cells slots ad ce tgt lv st) : AW X nL cells slots ad ce pc lv st := by
  obtain ⟨p, l, e, R, s, m, args, below, meth, c, Q, G⟩ := X
  obtain ⟨hx, hb, hml, hown, hts, hlk, hK, hbs⟩ := C
  intro H locs ls hH hS hl
  exact lv_goto hx hb hd ht (k H locs ls hH hS hl)
theorem aw_ifnonnull {X : aw_X} {cc : ByteArray} {nL : Nat} {own : String} (C : aw_ok X cc nL own) {cells slots : Nat} {ad : aw_Ad} {ce : aw_He} {pc : Nat} {lv : List (Nat × Value)} {st : List Value} {x : Nat} {off : Int} {tgt : Nat} (hd : decode cc pc = .ok (.ifnonnull off, 3)) (ht : (pc : Int) + off = (tgt : Int)) (k : AW X nL cells slots ad ce tgt lv st) : AW X nL cells slots ad ce pc lv (.ref x :: st) := by
  obtain ⟨p, l, e, R, s, m, args, below, meth, c, Q, G⟩ := X
  obtain ⟨hx, hb, hml, hown, hts, hlk, hK, hbs⟩ := C
  intro H locs ls hH hS hl
  exact lv_ifnonnull hx hb hd ht (k H locs ls hH hS hl)
theorem aw_ifnull {X : aw_X} {cc : ByteArray} {nL : Nat} {own : String} (C : aw_ok X cc nL own) {cells slots : Nat} {ad : aw_Ad} {ce : aw_He} {pc : Nat} {lv : List (Nat × Value)} {st : List Value} {x : Nat} {off : Int} (hd : decode cc pc = .ok (.ifnull off, 3)) (k : AW X nL cells slots ad ce (pc + 3) lv st) : AW X nL cells slots ad ce pc lv (.ref x :: st) := by
  obtain ⟨p, l, e, R, s, m, args, below, meth, c, Q, G⟩ := X
  obtain ⟨hx, hb, hml, hown, hts, hlk, hK, hbs⟩ := C
  intro H locs ls hH hS hl
  exact lv_ifnull hx hb hd (k H locs ls hH hS hl)
theorem aw_ifnullN {X : aw_X} {cc : ByteArray} {nL : Nat} {own : String} (C : aw_ok X cc nL own) {cells slots : Nat} {ad : aw_Ad} {ce : aw_He} {pc : Nat} {lv : List (Nat × Value)} {st : List Value} {off : Int} {tgt : Nat} (hd : decode cc pc = .ok (.ifnull off, 3)) (ht : (pc : Int) + off = (tgt : Int)) (k : AW X nL cells slots ad ce tgt lv st) : AW X nL cells slots ad ce pc lv (.null :: st) := by
  obtain ⟨p, l, e, R, s, m, args, below, meth, c, Q, G⟩ := X
  obtain ⟨hx, hb, hml, hown, hts, hlk, hK, hbs⟩ := C
  intro H locs ls hH hS hl
  exact lv_ifnullN hx hb hd ht (k H locs ls hH hS hl)
theorem aw_ifnonnullN {X : aw_X} {cc : ByteArray} {nL : Nat} {own : String} (C : aw_ok X cc nL own) {cells slots : Nat} {ad : aw_Ad} {ce : aw_He} {pc : Nat} {lv : List (Nat × Value)} {st : List Value} {off : Int} (hd : decode cc pc = .ok (.ifnonnull off, 3)) (k : AW X nL cells slots ad ce (pc + 3) lv st) : AW X nL cells slots ad ce pc lv (.null :: st) := by
  obtain ⟨p, l, e, R, s, m, args, below, meth, c, Q, G⟩ := X
  obtain ⟨hx, hb, hml, hown, hts, hlk, hK, hbs⟩ := C
  intro H locs ls hH hS hl
  exact lv_ifnonnullN hx hb hd (k H locs ls hH hS hl)
theorem aw_lookup {X : aw_X} {cc : ByteArray} {nL : Nat} {own : String} (C : aw_ok X cc nL own) {cells slots : Nat} {ad : aw_Ad} {ce : aw_He} {pc : Nat} {lv : List (Nat × Value)} {st : List Value} {dflt : Int} {ps : Array (Int × Int)} {len : Nat} {x : Int32} {off : Int} {tgt : Nat} (hd : decode cc pc = .ok (.lookupswitch dflt ps, len)) (hp : (ps.toList.zip (ps.toList.drop 1)).all (fun (a, next) => a.1 < next.1) = true) (ho : Op.lookupswitch.offset ps.toList dflt x.toInt = off) (ht : (pc : Int) + off = (tgt : Int)) (k : AW X nL cells slots ad ce tgt lv st) : AW X nL cells slots ad ce pc lv (.int x :: st) := by
  obtain ⟨p, l, e, R, s, m, args, below, meth, c, Q, G⟩ := X
  obtain ⟨hx, hb, hml, hown, hts, hlk, hK, hbs⟩ := C
  intro H locs ls hH hS hl
  exact lv_lookup hx hb hd hp ho ht (k H locs ls hH hS hl)
theorem aw_tableOut {X : aw_X} {cc : ByteArray} {nL : Nat} {own : String} (C : aw_ok X cc nL own) {cells slots : Nat} {ad : aw_Ad} {ce : aw_He} {pc : Nat} {lv : List (Nat × Value)} {st : List Value} {dflt lo hi : Int} {offs : Array Int} {len : Nat} {x : Int32} {tgt : Nat} (hd : decode cc pc = .ok (.tableswitch dflt lo hi offs, len)) (h : x.toInt < lo ∨ hi < x.toInt) (ht : (pc : Int) + dflt = (tgt : Int)) (k : AW X nL cells slots ad ce tgt lv st) : AW X nL cells slots ad ce pc lv (.int x :: st) := by
  obtain ⟨p, l, e, R, s, m, args, below, meth, c, Q, G⟩ := X
  obtain ⟨hx, hb, hml, hown, hts, hlk, hK, hbs⟩ := C
  intro H locs ls hH hS hl
  exact lv_tableOut hx hb hd h ht (k H locs ls hH hS hl)
theorem aw_tableIn {X : aw_X} {cc : ByteArray} {nL : Nat} {own : String} (C : aw_ok X cc nL own) {cells slots : Nat} {ad : aw_Ad} {ce : aw_He} {pc : Nat} {lv : List (Nat × Value)} {st : List Value} {dflt lo hi : Int} {offs : Array Int} {len : Nat} {x : Int32} {off : Int} {tgt : Nat} (hd : decode cc pc = .ok (.tableswitch dflt lo hi offs, len)) (h1 : ¬ x.toInt < lo) (h2 : ¬ hi < x.toInt) (ho : offs[(x.toInt - lo).toNat]? = some off) (ht : (pc : Int) + off = (tgt : Int)) (k : AW X nL cells slots ad ce tgt lv st) : AW X nL cells slots ad ce pc lv (.int x :: st) := by
  obtain ⟨p, l, e, R, s, m, args, below, meth, c, Q, G⟩ := X
  obtain ⟨hx, hb, hml, hown, hts, hlk, hK, hbs⟩ := C
  intro H locs ls hH hS hl
  exact lv_tableIn hx hb hd h1 h2 ho ht (k H locs ls hH hS hl)
