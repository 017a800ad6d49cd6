/-! THE CLAIM OUT OF ONE WALK OF THE LAW'S BODY. Your part is whole_start (and what it stands on); all else here is the same for every law, but numbers. -/
def R_law : String := "WipePapersLaw"
def lw_P (b : Addr) (xs : List Int32) (args : Array Value) (s : State) : Prop := args = #[.ref b] ∧ s.IntsAt b xs ∧ xs.length ≤ 3072 ∧ (Jvm.Cond.and given_1 narrow_1).before args s = true
def lw_Q (_ : Array Value) (s : State) (o : Outcome) (t : State) : Prop := o = .returned (some (.int 1)) ∧ Framed s o t [] 600000 7302250
def lw_Z (below : List Frame) (a : Array Value) (s : State) : State → Prop := fun t => ∃ o, t.status = .running ∧ Ended t below o ∧ lw_Q a s o t
/-- the law's own end, with 1 on the stack, nothing written that was there before, its room as the claim has it -/
theorem lw_ret {p : Program} {l : Launch} {e : Env} {s : State} {m : MethodId} {below : List Frame} {meth : Method} {c : Code} {b : Nat} (hx : p.tables.exec = Jvm.exec) (hb : c.code = code) (hr : meth.sig.returnType = ret) (hlocks : meth.locks = false) {pc : Nat} {H : Heap} {ls : Array Slot} (hdg : decode code pc = .ok (.ireturn, 1)) : W p l e room_1 s m #[Value.ref b] below meth c H [] 600000 7302250 (lw_Z below #[Value.ref b] s) (F0 m pc ls [.int 1]) := by
  intro T hT X
  obtain ⟨fs, hret, hrun, hended, hW, hframe⟩ := X.leave (v := some (.int 1)) (hlocks := hlocks) (fun h => by rw [hr] at h; cases h)
  have hmeth' : T.vm.method? m = some meth := X.method'
  refine ⟨T.setFrames fs, ?_, .returned (some (.int 1)), hrun, hended, rfl, ⟨_, rfl⟩, hW, hframe⟩
  jvm_step X.here [X.here.top, hx, hb, hdg, hmeth', hr, ret, narrow_b1]
  (try refine ⟨rfl, ?_⟩); (try refine ⟨rfl, ?_⟩)
  first | (intro acts; rw [hret _ acts rfl rfl rfl]) | rw [hret _ _ rfl rfl rfl]
  exact Steps.refl _
/-- what holds at the law's entry: the machine, the code, the tables' words (any of lw_tbl by 'hts w (by decide +kernel)'), the script of L ints xs at the cell b, what the Statement gives of the start (any of its parts by flat_of_before) -/
def lw_At (p : Program) (s : State) (m : MethodId) (meth : Method) (c : Code) (b L : Nat) (xs : Nat → Int32) : Prop :=
  p.tables.exec = Jvm.exec ∧ c.code = code ∧ meth.sig.returnType = ret ∧ c.maxLocals = 4 ∧ s.vm.findClass R_law = some m.cls ∧ (∀ w ∈ lw_tbl, w.before #[Value.ref b] s = true) ∧ va_X b L xs s s.heap ∧ b < s.heap.size ∧ meth.locks = false ∧ (Jvm.Cond.and given_1 narrow_1).before #[Value.ref b] s = true
def aw_scr (X : aw_X) (b L : Nat) (xs : Nat → Int32) : Prop := match X with
  | (_, _, _, _, s, _, _, _, _, _, _, G) => va_X b L xs s s.heap ∧ b < s.heap.size ∧ ¬ aw_A G b
section AWlaw
variable {X : aw_X} {cc : ByteArray} {nL : Nat} {own : String} {cells slots : Nat} {ad : aw_Ad} {ce : aw_He} {pc : Nat} {lv : List (Nat × Value)} {st : List Value} {b L : Nat} {xs : Nat → Int32}
theorem aw_sld (C : aw_ok X cc nL own) (hX : aw_scr X b L xs) {i : Int32} {j : Nat} (hi : i = nI j) (hj : j < L) (hL : L < 2 ^ 31) (hd : decode cc pc = .ok (.iaload, 1)) (kk : AW X nL cells slots ad ce (pc + 1) lv (.int (xs j) :: st)) : AW X nL cells slots ad ce pc lv (.int i :: .ref b :: st) := by
  obtain ⟨p, l, e, R, s, m, args, below, meth, c, Q, G⟩ := X
  obtain ⟨hx, hb, hml, hown, hts, hlk, hK, hbs⟩ := C
  intro H locs ls hH hS hl
  subst hi
  refine va_sld hx hb hX.1 hX.2.1 hX.2.2 hS (vp_in_nI hj hL) hd ?_
  rw [nI_clamp (Nat.lt_trans hj hL)]
  exact kk H locs ls hH hS hl
theorem aw_slen (C : aw_ok X cc nL own) (hX : aw_scr X b L xs) (hd : decode cc pc = .ok (.arraylength, 1)) (kk : AW X nL cells slots ad ce (pc + 1) lv (.int (nI L) :: st)) : AW X nL cells slots ad ce pc lv (.ref b :: st) := by
  obtain ⟨p, l, e, R, s, m, args, below, meth, c, Q, G⟩ := X
  obtain ⟨hx, hb, hml, hown, hts, hlk, hK, hbs⟩ := C
  intro H locs ls hH hS hl
  exact va_slen hx hb hX.1 hX.2.1 hX.2.2 hS hd (kk H locs ls hH hS hl)
theorem aw_widen {k n : Nat} (h1 : cells ≤ k) (h2 : slots ≤ n) (kk : AW X nL k n ad ce pc lv st) : AW X nL cells slots ad ce pc lv st := by
  obtain ⟨p, l, e, R, s, m, args, below, meth, c, Q, G⟩ := X
  intro H locs ls hH hS hl
  exact W.widen h1 h2 (kk H locs ls hH hS hl)
end AWlaw
theorem LayC.ob {S : SysS} {ad : aw_Ad} {ce : aw_He} (h : LayC S ad ce) : ∃ fs, ce (0, 0, 0) = some (.inr (0, fs)) := ⟨_, h.1⟩
theorem LayR.ob {S : SysS} {ad : aw_Ad} {ce : aw_He} (h : LayR S ad ce) : ∃ fs, ce (3, 0, 0) = some (.inr (3, fs)) := by
  obtain ⟨kd, sr, np, st, la, gby, gdu, gwo, grd, un, ps, gpt, gff, gfc, hR, -⟩ := h
  exact ⟨_, hR.1⟩
theorem LayR.np {S : SysS} {ad : aw_Ad} {ce : aw_He} (h : LayR S ad ce) : ∀ i, i < s_cn S → k_np (s_car S i) ≤ 64 := by
  obtain ⟨kd, sr, np, st, la, gby, gdu, gwo, grd, un, ps, gpt, gff, gfc, -, -, hW⟩ := h
  exact fun i hi => (hW.2.1 i hi).1.2
/-- two ints as a long -/
def lgo (u v : Int32) : Int64 := (Int32.toInt64 u <<< (Int32.toInt64 32 &&& 63)) ||| (Int32.toInt64 v &&& 4294967295)
