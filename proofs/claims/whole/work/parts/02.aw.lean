/-! THE JUDGEMENT AW: a frame of a method over ONE heap, seen through labels (family, number, part); labels have addresses 'ad' and cells 'ce'. Everything behind 01.names; aw_cl, aw_ty, aw_tb, aw_nM are the claim's own tables. -/
abbrev aw_Lb : Type := Nat × Nat × Nat
abbrev aw_Cell : Type := (Nat × vp_A) ⊕ (Nat × List Value)
abbrev aw_Ad : Type := aw_Lb → Nat
abbrev aw_He : Type := aw_Lb → Option aw_Cell
def aw_up {α : Type} (f : aw_Lb → α) (k : aw_Lb) (v : α) : aw_Lb → α := fun j => if j = k then v else f j
theorem aw_up_self {α : Type} (f : aw_Lb → α) (k : aw_Lb) (v : α) : aw_up f k v k = v := by simp [aw_up]
theorem aw_up_ne {α : Type} (f : aw_Lb → α) {k j : aw_Lb} (v : α) (h : j ≠ k) : aw_up f k v j = f j := by simp [aw_up, h]
theorem aw_up_up {α : Type} (f : aw_Lb → α) (k : aw_Lb) (v w : α) : aw_up (aw_up f k v) k w = aw_up f k w := by
  funext j
  by_cases h : j = k <;> simp [aw_up, h]
theorem aw_up_id {α : Type} {f : aw_Lb → α} {k : aw_Lb} {v : α} (h : f k = v) : aw_up f k v = f := by
  funext j
  by_cases hj : j = k
  · subst hj; simp [aw_up, h]
  · simp [aw_up, hj]
theorem aw_up_comm {α : Type} (f : aw_Lb → α) {k j : aw_Lb} (v w : α) (h : k ≠ j) : aw_up (aw_up f k v) j w = aw_up (aw_up f j w) k v := by
  funext i
  by_cases h1 : i = j
  · subst h1; simp [aw_up, Ne.symm h]
  · by_cases h2 : i = k <;> simp [aw_up, h1, h2, h]
def aw_E (aC : Nat → ClassId) (x : aw_Cell) : va_E := match x with
  | .inl a => .inl (aC a.1, a.2)
  | .inr o => .inr o
/-- classes and slots, the array classes, the first address that is ours -/
abbrev aw_G : Type := va_G × (Nat → ClassId) × Nat
def aw_A (G : aw_G) : Nat → Prop := fun q => G.2.2 ≤ q
def aw_H (G : aw_G) (ad : aw_Ad) (ce : aw_He) (H : Heap) : Prop :=
  (∀ k e, ce k = some e → va_at G.1 aw_cl (ad k, aw_E G.2.1 e) H ∧ aw_A G (ad k)) ∧ ∀ j k e f, ce j = some e → ce k = some f → ad j = ad k → j = k
def aw_tys (aC : Nat → ClassId) : List (ClassId × FieldType) := aw_ty.zipIdx.map (fun q => (aC q.2, q.1))
theorem aw_tys_at {aC : Nat → ClassId} {k : Nat} {t : FieldType} (h : aw_ty[k]? = some t) : (aw_tys aC)[k]? = some (aC k, t) := by
  simp [aw_tys, List.getElem?_zipIdx, h]
def aw_nst : List Cond := aw_nM.map (fun q => Cond.methodLinkNest q.1 q.2.1 q.2.2.1 q.2.2.2)
def aw_K (G : aw_G) (U : State) : Prop := va_K G.1 aw_cl (aw_tys G.2.1) U ∧ (∀ w ∈ aw_nst, va_Nw w U) ∧ ∀ q ∈ aw_ao, va_AO q U
theorem aw_K.warm {G : aw_G} {s U : State} (hW : s.WarmedH U.vm) (h : aw_K G s) : aw_K G U := by
  refine ⟨va_K.moved hW.alike h.1, fun w hw => ?_, fun q hq => (h.2.2 q hq).moved hW.alike⟩
  have h2 := h.2.1 w hw
  obtain ⟨q, -, rfl⟩ := List.mem_map.mp hw
  exact va_Nw.warmM hW h2
theorem aw_K.calling {G : aw_G} {U : State} {g : JFrame} {mk : MethodId} {a : Array Value} (h : aw_K G U) : aw_K G (U.calling g mk a) := by
  refine ⟨va_K.moved (u := U) (U := U.calling g mk a) (Vm.Alike.refl U.vm) h.1, fun w hw => ?_, fun q hq => va_AO.moved (u := U) (U := U.calling g mk a) (Vm.Alike.refl U.vm) (h.2.2 q hq)⟩
  have h2 := h.2.1 w hw
  obtain ⟨q, -, rfl⟩ := List.mem_map.mp hw
  exact va_Nw.same rfl (rfl : U.vm = (U.calling g mk a).vm) h2
theorem aw_H.P {G : aw_G} {ad : aw_Ad} {ce : aw_He} {H : Heap} (h : aw_H G ad ce H) {k : aw_Lb} {e : aw_Cell} (hk : ce k = some e) : va_P G.1 aw_cl [(ad k, aw_E G.2.1 e)] H := by
  intro j q hq
  match j, hq with
  | 0, hq => cases hq; exact (h.1 k e hk).1
  | j + 1, hq => simp at hq
theorem aw_H.set {G : aw_G} {ad : aw_Ad} {ce : aw_He} {H H1 : Heap} (h : aw_H G ad ce H) {k : aw_Lb} {e0 e : aw_Cell} (hk : ce k = some e0) (he : va_at G.1 aw_cl (ad k, aw_E G.2.1 e) H1) (ho : ∀ q : Nat, q ≠ ad k → H1[q]? = H[q]?) : aw_H G ad (aw_up ce k (some e)) H1 := by
  have dom : ∀ j f, aw_up ce k (some e) j = some f → ∃ f0, ce j = some f0 := by
    intro j f hj
    by_cases hjk : j = k
    · subst hjk; exact ⟨e0, hk⟩
    · rw [aw_up_ne _ _ hjk] at hj; exact ⟨f, hj⟩
  refine ⟨fun j f hj => ?_, fun j i f g hj hi hji => ?_⟩
  · by_cases hjk : j = k
    · subst hjk
      rw [aw_up_self] at hj
      cases hj
      exact ⟨he, (h.1 j e0 hk).2⟩
    · rw [aw_up_ne _ _ hjk] at hj
      have h1 := h.1 j f hj
      refine ⟨h1.1.kept (ho _ (fun q => hjk (h.2 j k f e0 hj hk q))), h1.2⟩
  · obtain ⟨f0, hj0⟩ := dom j f hj
    obtain ⟨g0, hi0⟩ := dom i g hi
    exact h.2 j i f0 g0 hj0 hi0 hji
theorem aw_H.new {G : aw_G} {ad : aw_Ad} {ce : aw_He} {H H1 : Heap} (h : aw_H G ad ce H) {k : aw_Lb} {e : aw_Cell} (hk : ce k = none) (hb : G.2.2 ≤ H.size) (he : va_at G.1 aw_cl (H.size, aw_E G.2.1 e) H1) (ho : ∀ q : Nat, q < H.size → H1[q]? = H[q]?) : aw_H G (aw_up ad k H.size) (aw_up ce k (some e)) H1 := by
  have lt : ∀ j f, ce j = some f → ad j < H.size := fun j f hj => (h.1 j f hj).1.lt
  have ne : ∀ j f, ce j = some f → j ≠ k := fun j f hj q => by rw [q, hk] at hj; cases hj
  have cs : ∀ j f, aw_up ce k (some e) j = some f → (j = k ∧ f = e) ∨ ce j = some f := by
    intro j f hj
    by_cases hjk : j = k
    · subst hjk; rw [aw_up_self] at hj; cases hj; exact Or.inl ⟨rfl, rfl⟩
    · rw [aw_up_ne _ _ hjk] at hj; exact Or.inr hj
  refine ⟨fun j f hj => ?_, fun j i f g hj hi hji => ?_⟩
  · rcases cs j f hj with ⟨rfl, rfl⟩ | hj
    · rw [aw_up_self]; exact ⟨he, hb⟩
    · have h1 := h.1 j f hj
      rw [aw_up_ne _ _ (ne j f hj)]
      exact ⟨h1.1.kept (ho _ (lt j f hj)), h1.2⟩
  · rcases cs j f hj with ⟨rfl, rfl⟩ | hj1 <;> rcases cs i g hi with ⟨rfl, rfl⟩ | hi1
    · rfl
    · rw [aw_up_self, aw_up_ne _ _ (ne i g hi1)] at hji
      have := lt i g hi1
      omega
    · rw [aw_up_self, aw_up_ne _ _ (ne j f hj1)] at hji
      have := lt j f hj1
      omega
    · rw [aw_up_ne _ _ (ne j f hj1), aw_up_ne _ _ (ne i g hi1)] at hji
      exact h.2 j i f g hj1 hi1 hji
/-- everything that stays while a method's body runs -/
abbrev aw_X : Type := Program × Launch × Env × Room × State × MethodId × Array Value × List Frame × Method × Code × (State → Prop) × aw_G
def AW (X : aw_X) (nL cells slots : Nat) (ad : aw_Ad) (ce : aw_He) (pc : Nat) (lv : List (Nat × Value)) (st : List Value) : Prop := match X with
  | (p, l, e, R, s, m, args, below, meth, c, Q, G) => ∀ (H : Heap) (locs : List Loc) (ls : Array Slot), aw_H G ad ce H → va_S (aw_A G) s.heap H locs → lv_has ls nL lv → W p l e R s m args below meth c H locs cells slots Q (F0 m pc ls st)
def aw_ok (X : aw_X) (cc : ByteArray) (nL : Nat) (own : String) : Prop := match X with
  | (p, _, _, _, s, m, args, _, meth, c, _, G) => p.tables.exec = Jvm.exec ∧ c.code = cc ∧ c.maxLocals = nL ∧ s.vm.findClass own = some m.cls ∧ (∀ w ∈ aw_tb, w.before args s = true) ∧ meth.locks = false ∧ aw_K G s ∧ G.2.2 ≤ s.heap.size
def aw_in (X : aw_X) (l0 : Launch) (G0 : aw_G) (R0 : Room) : Prop := match X with
  | (_, l, _, R, _, _, _, _, _, _, _, G) => l = l0 ∧ G = G0 ∧ R = R0
def aw_Qc (G : aw_G) (P : Option Value → aw_Ad → aw_He → Prop) : Array Value → State → Outcome → State → Prop := fun _ st oc t =>
  (∃ (r : Option Value) (ad : aw_Ad) (ce : aw_He), oc = .returned r ∧ P r ad ce ∧ aw_H G ad ce t.heap) ∧ va_F (aw_A G) st t
def aw_Pc (G : aw_G) (as : List Value) (ad : aw_Ad) (ce : aw_He) : Array Value → State → Prop := va_Pc as (fun U => aw_H G ad ce U.heap ∧ aw_K G U ∧ G.2.2 ≤ U.heap.size)
abbrev aw_M : Type := MethodName × ByteArray × Nat × Option FieldType
def aw_rm (d lo mc ms : Nat) : Room := { frames := d, cells := mc, slots := ms, locals := lo }
/-- A METHOD'S CONTRACT: with these arguments over this heap it returns, and P holds of the answer and of the heap behind it; depth d, at most mc new cells of ms slots -/
def CT (l : Launch) (G : aw_G) (M : aw_M) (d lo mc ms : Nat) (as : List Value) (ad : aw_Ad) (ce : aw_He) (P : Option Value → aw_Ad → aw_He → Prop) : Prop :=
  Met l M.1 (.code M.1 M.2.1 M.2.2.1 M.2.2.2 :: aw_tb) (aw_rm d lo mc ms) (aw_Pc G as ad ce) (aw_Qc G P) mc ms (aw_A G)
def aw_me (X : aw_X) (nm : String) (ret : Option FieldType) (mc ms : Nat) (P : Option Value → aw_Ad → aw_He → Prop) : Prop := match X with
  | (_, _, _, _, s, _, args, below, meth, _, Q, G) => meth.name = nm ∧ meth.sig.returnType = ret ∧ Q = MQ below (aw_Qc G P) args s mc ms (aw_A G)
theorem CT.of {l : Launch} {G : aw_G} {y : MethodName} {cc : ByteArray} {nL : Nat} {ret : Option FieldType} {d lo mc ms : Nat} {as : List Value} {ad : aw_Ad} {ce : aw_He} {P : Option Value → aw_Ad → aw_He → Prop} (hy : plainName y.cls = true) (hlen : (lg_sl as).length ≤ nL)
    (body : ∀ X : aw_X, aw_ok X cc nL y.cls → aw_in X l G (aw_rm d lo mc ms) → aw_me X y.name ret mc ms P → AW X nL 0 0 ad ce 0 (lv_args 0 as) []) : CT l G (y, cc, nL, ret) d lo mc ms as ad ce P := by
  refine Met.ofW (cc := cc) (maxL := nL) (ret := ret) hy rfl ?_
  intro p e s m args below meth c s₁ B hml hv
  obtain ⟨rfl, hH, hK, hbs⟩ := hv
  have hts := atoms_spec (ws := .code y cc nL ret :: aw_tb) B.pre
  have hown : s.vm.findClass y.cls = some m.cls := findClass_of_methodNamed B.named
  have h := body (p, l, e, aw_rm d lo mc ms, s, m, as.toArray, below, meth, c, MQ below (aw_Qc G P) as.toArray s mc ms (aw_A G), G) ⟨B.exec, B.bytes, hml, hown, fun w hw => hts w (List.mem_cons_of_mem _ hw), B.notSynchronized, hK, hbs⟩ ⟨rfl, rfl, rfl⟩ ⟨(name_of_methodNamed B.named B.method).1, B.returns, rfl⟩
  rw [lg_entry_eq]
  exact h s.heap [] _ hH va_S.rf (lv_entry as hlen)
section AWret
variable {X : aw_X} {cc : ByteArray} {nL : Nat} {own : String} {cells slots : Nat} {ad : aw_Ad} {ce : aw_He} {pc : Nat} {lv : List (Nat × Value)} {nm : String} {mc ms : Nat} {P : Option Value → aw_Ad → aw_He → Prop}
theorem aw_iret (C : aw_ok X cc nL own) {ty : FieldType} {v : Int32} (E : aw_me X nm (some ty) mc ms P) (hn : narrow ty (.int v) = .int v) (hc : cells ≤ mc) (hs : slots ≤ ms) (hd : decode cc pc = .ok (.ireturn, 1)) (hP : P (some (.int v)) ad ce) : AW X nL cells slots ad ce pc lv [.int v] := by
  obtain ⟨p, l, e, R, s, m, args, below, meth, c, Q, G⟩ := X
  obtain ⟨hx, hb, hml, hown, hts, hlk, hK, hbs⟩ := C
  obtain ⟨-, hr, rfl⟩ := E
  intro H locs ls hH hS hl
  refine W.widen hc hs ?_
  exact W.zret hx hb hr hn (fun t ht hW => ⟨⟨_, ad, ce, rfl, hP, by rw [ht]; exact hH⟩, hS.F ht⟩) hS.2.2 hd hlk
theorem aw_lret (C : aw_ok X cc nL own) {v : Int64} (E : aw_me X nm (some .long) mc ms P) (hc : cells ≤ mc) (hs : slots ≤ ms) (hd : decode cc pc = .ok (.lreturn, 1)) (hP : P (some (.long v)) ad ce) : AW X nL cells slots ad ce pc lv [.long v] := by
  obtain ⟨p, l, e, R, s, m, args, below, meth, c, Q, G⟩ := X
  obtain ⟨hx, hb, hml, hown, hts, hlk, hK, hbs⟩ := C
  obtain ⟨-, hr, rfl⟩ := E
  intro H locs ls hH hS hl
  refine W.widen hc hs ?_
  exact W.lret hx hb hr (fun t ht hW => ⟨⟨_, ad, ce, rfl, hP, by rw [ht]; exact hH⟩, hS.F ht⟩) hS.2.2 hd hlk
theorem aw_vret (C : aw_ok X cc nL own) (E : aw_me X nm none mc ms P) (hc : cells ≤ mc) (hs : slots ≤ ms) (hd : decode cc pc = .ok (.return_, 1)) (hP : P none ad ce) : AW X nL cells slots ad ce pc lv [] := by
  obtain ⟨p, l, e, R, s, m, args, below, meth, c, Q, G⟩ := X
  obtain ⟨hx, hb, hml, hown, hts, hlk, hK, hbs⟩ := C
  obtain ⟨-, hr, rfl⟩ := E
  intro H locs ls hH hS hl
  refine W.widen hc hs ?_
  exact W.vret hx hb hr (fun t ht hW => ⟨⟨_, ad, ce, rfl, hP, by rw [ht]; exact hH⟩, hS.F ht⟩) hS.2.2 hd hlk
theorem aw_aret (C : aw_ok X cc nL own) {v : Value} {rt : FieldType} (E : aw_me X nm (some rt) mc ms P) (hrt : (∃ n, rt = .object n) ∨ ∃ t, rt = .array t) (hv : v = .null ∨ ∃ a, v = .ref a) (hc : cells ≤ mc) (hs : slots ≤ ms) (hd : decode cc pc = .ok (.areturn, 1)) (hP : P (some v) ad ce) : AW X nL cells slots ad ce pc lv [v] := by
  obtain ⟨p, l, e, R, s, m, args, below, meth, c, Q, G⟩ := X
  obtain ⟨hx, hb, hml, hown, hts, hlk, hK, hbs⟩ := C
  obtain ⟨-, hr, rfl⟩ := E
  intro H locs ls hH hS hl
  refine W.widen hc hs ?_
  exact W.aret hx hb hr hrt hv (fun t ht hW => ⟨⟨_, ad, ce, rfl, hP, by rw [ht]; exact hH⟩, hS.F ht⟩) hS.2.2 hd hlk
end AWret
section AWcall
variable {X : aw_X} {cc : ByteArray} {nL : Nat} {own : String} {cells slots : Nat} {ad : aw_Ad} {ce : aw_He} {pc : Nat} {lv : List (Nat × Value)} {st : List Value}
variable {l0 : Launch} {G0 : aw_G} {R0 : Room} {idx : Nat} {d lo mc ms : Nat} {as rest : List Value} {P : Option Value → aw_Ad → aw_He → Prop}
theorem aw_good : ∀ w ∈ aw_tb, (w.onTables && w.keeps) = true ∨ ∃ ty, w = .arrayClass ty := by
  intro w hw
  have h := List.all_eq_true.mp aw_tb_good w hw
  exact good_of_word h
theorem aw_goodIn {y : MethodName} {b : ByteArray} {n : Nat} {r : Option FieldType} (h : Cond.code y b n r ∈ aw_tb) (pre : List Cond) (hp : ∀ w ∈ pre, w ∈ aw_tb) : GoodIn aw_tb (pre ++ (.code y b n r :: aw_tb)) := by
  have hm : ∀ w ∈ pre ++ (.code y b n r :: aw_tb), w ∈ aw_tb := by
    intro w hw
    rcases List.mem_append.mp hw with h1 | h1
    · exact hp w h1
    · rcases List.mem_cons.mp h1 with rfl | h1
      · exact h
      · exact h1
  exact fun w hw => ⟨hm w hw, aw_good w (hm w hw)⟩
/-- the world that the callee begins with -/
theorem aw_pre {s : State} {H : Heap} {G : aw_G} (hH : aw_H G ad ce H) (hK : aw_K G s) (hb : G.2.2 ≤ H.size) : PreS s H (aw_Pc G as ad ce) as := by
  refine ⟨fun a U g mk q => ?_, fun U hU hW => ?_⟩
  · obtain ⟨q0, q1, q2, q3⟩ := q
    exact ⟨q0, q1, q2.calling, q3⟩
  · exact ⟨rfl, by rw [hU]; exact hH, hK.warm hW, by rw [hU]; exact hb⟩
theorem aw_after {p : Program} {l : Launch} {e : Env} {R : Room} {s : State} {m : MethodId} {args : Array Value} {below : List Frame} {meth : Method} {c : Code} {Q : State → Prop} {G : aw_G} {H : Heap} {locs : List Loc} {ls : Array Slot} {a : Array Value}
    (hS : va_S (aw_A G) s.heap H locs) (hl : lv_has ls nL lv)
    (hr : va_Run p l e R s m args below meth c H locs cells slots mc ms (F0 m pc ls st) rest (aw_Qc G P a) (aw_A G))
    (kk : ∀ r ad' ce', P r ad' ce' → AW (p, l, e, R, s, m, args, below, meth, c, Q, G) nL (cells + mc) (slots + ms) ad' ce' (pc + 3) lv (r.toList ++ rest)) :
    W p l e R s m args below meth c H locs cells slots Q (F0 m pc ls st) := by
  intro T hT X
  obtain ⟨v, st₀, t, T', L, h0, X', hL, e1, e2, ⟨⟨r, ad', ce', hv, hp, hH⟩, hz, hk⟩, sts⟩ := hr T hT X
  cases hv
  rw [h0] at hz hk
  have hS' : va_S (aw_A G) s.heap T'.heap (locs ++ L) := ⟨Nat.le_trans hS.1 (by rw [e1]; exact hz), fun q h1 h2 => by rw [e1, hk q (Nat.lt_of_lt_of_le h1 hS.1) h2]; exact hS.2.1 q h1 h2, fun q hq => by
      rcases List.mem_append.mp hq with h | h
      · exact hS.2.2 q h
      · exact hL q h⟩
  obtain ⟨t2, a1, b1⟩ := kk v ad' ce' hp T'.heap (locs ++ L) ls (by rw [e1]; exact hH) hS' hl T' rfl X'
  exact ⟨t2, sts t2 a1, b1⟩
def aw_gM (y : MethodName) (n : Nat) : Prop := y.cls ≠ "java/lang/invoke/MethodHandle" ∧ y.cls ≠ "java/lang/invoke/VarHandle" ∧ (parseMethodDescriptor y.desc).map (fun d => d.parameters.length) = some n
/-- a static method, of its own class or of another one -/
def aw_gS (own : String) (idx : Nat) (M : aw_M) (n : Nat) : Prop := (Cond.methodLink own idx M.1 ∈ aw_tb ∧ Cond.static M.1 ∈ aw_tb ∧ Cond.initialized M.1.cls ∈ aw_tb) ∧ Cond.code M.1 M.2.1 M.2.2.1 M.2.2.2 ∈ aw_tb ∧ aw_gM M.1 n
theorem aw_callS (C : aw_ok X cc nL own) (I : aw_in X l0 G0 R0) {M : aw_M} (hM : CT l0 G0 M d lo mc ms as ad ce P) (g : aw_gS own idx M as.length) (hR : d + 1 ≤ R0.frames ∧ (M.2.2.1 + 19) + lo ≤ R0.locals) (hf : cells + mc ≤ R0.cells ∧ slots + ms ≤ R0.slots) (hst : st = as.reverse ++ rest) (hw : (rest.map fun v => v.category).sum ≤ 8) (hd : decode cc pc = .ok (.invokestatic idx, 3))
    (kk : ∀ r ad' ce', P r ad' ce' → AW X nL (cells + mc) (slots + ms) ad' ce' (pc + 3) lv (r.toList ++ rest)) : AW X nL cells slots ad ce pc lv st := by
  obtain ⟨p, l, e, R, s, m, args, below, meth, c, Q, G⟩ := X
  obtain ⟨hx, hb, hml, hown, hts, hlk, hK, hbs⟩ := C
  obtain ⟨rfl, rfl, rfl⟩ := I
  obtain ⟨⟨g1, g2, g3⟩, g4, g5⟩ := g
  intro H locs ls hH hS hl
  have cw := va_cwS (R := R) (s := s) (args := args) (own := own) (index := idx) (rm := aw_rm d lo mc ms) (mc := mc) (ms := ms) as.length hts (aw_goodIn g4 [.methodLink own idx M.1, .static M.1, .initialized M.1.cls] (by intro w hw; simp only [List.mem_cons, List.not_mem_nil, or_false] at hw; rcases hw with rfl | rfl | rfl <;> assumption)) rfl rfl rfl g5 ⟨hR.1, by show 8 + (M.2.2.1 + 11) + lo ≤ R.locals; omega⟩
  exact aw_after hS hl (va_runS (As := as) (rest := rest) ⟨hx, hb, hml, hown, hts⟩ hM cw (aw_pre hH hK (Nat.le_trans hbs hS.1)) rfl rfl hl.1 hst (lv_room hw) hd hf) kk
/-- a static private method of a nest mate -/
def aw_gSN (own : String) (idx : Nat) (host : String) (M : aw_M) (n : Nat) : Prop := (own, idx, M.1, host) ∈ aw_nM ∧ Cond.static M.1 ∈ aw_tb ∧ Cond.initialized M.1.cls ∈ aw_tb ∧ Cond.code M.1 M.2.1 M.2.2.1 M.2.2.2 ∈ aw_tb ∧ aw_gM M.1 n
theorem aw_callSN (C : aw_ok X cc nL own) (I : aw_in X l0 G0 R0) {M : aw_M} {host : String} (hM : CT l0 G0 M d lo mc ms as ad ce P) (g : aw_gSN own idx host M as.length) (hR : d + 1 ≤ R0.frames ∧ (M.2.2.1 + 19) + lo ≤ R0.locals) (hf : cells + mc ≤ R0.cells ∧ slots + ms ≤ R0.slots) (hst : st = as.reverse ++ rest) (hw : (rest.map fun v => v.category).sum ≤ 8) (hd : decode cc pc = .ok (.invokestatic idx, 3))
    (kk : ∀ r ad' ce', P r ad' ce' → AW X nL (cells + mc) (slots + ms) ad' ce' (pc + 3) lv (r.toList ++ rest)) : AW X nL cells slots ad ce pc lv st := by
  obtain ⟨p, l, e, R, s, m, args, below, meth, c, Q, G⟩ := X
  obtain ⟨hx, hb, hml, hown, hts, hlk, hK, hbs⟩ := C
  obtain ⟨rfl, rfl, rfl⟩ := I
  obtain ⟨g1, g2, g3, g4, g5⟩ := g
  intro H locs ls hH hS hl
  have cw := va_cnB (R := R) (s := s) (args := args) (own := own) (host := host) (index := idx) (rm := aw_rm d lo mc ms) (mc := mc) (ms := ms) as.length hts (aw_goodIn g4 [] (fun w hw => by cases hw)) rfl rfl rfl (hK.2.1 _ (List.mem_map.mpr ⟨_, g1, rfl⟩)) (hts _ g3) g5 ⟨hR.1, by show 8 + (M.2.2.1 + 11) + lo ≤ R.locals; omega⟩
  exact aw_after hS hl (va_runSN (As := as) (rest := rest) ⟨hx, hb, hml, hown, hts⟩ hM ⟨cw, hts _ g2, trivial⟩ (aw_pre hH hK (Nat.le_trans hbs hS.1)) rfl rfl hl.1 hst (lv_room hw) hd hf) kk
/-- a method of an object (no override) -/
def aw_gV (own : String) (idx : Nat) (M : aw_M) (n : Nat) : Prop := (Cond.methodLink own idx M.1 ∈ aw_tb ∧ Cond.instanceMethod M.1 ∈ aw_tb ∧ Cond.selects M.1.cls M.1 M.1 ∈ aw_tb ∧ Cond.initialized M.1.cls ∈ aw_tb) ∧ Cond.code M.1 M.2.1 M.2.2.1 M.2.2.2 ∈ aw_tb ∧ aw_gM M.1 n
theorem aw_callV (C : aw_ok X cc nL own) (I : aw_in X l0 G0 R0) {M : aw_M} {k : aw_Lb} {ci : Nat} {fs : List Value} {q : vw_C} (hM : CT l0 G0 M d lo mc ms (.ref (ad k) :: as) ad ce P) (g : aw_gV own idx M as.length) (hk : ce k = some (.inr (ci, fs))) (hci : aw_cl[ci]? = some q) (hq : q.1 = M.1.cls) (hR : d + 1 ≤ R0.frames ∧ (M.2.2.1 + 19) + lo ≤ R0.locals) (hf : cells + mc ≤ R0.cells ∧ slots + ms ≤ R0.slots) (hst : st = as.reverse ++ .ref (ad k) :: rest) (hw : (rest.map fun v => v.category).sum ≤ 8) (hd : decode cc pc = .ok (.invokevirtual idx, 3))
    (kk : ∀ r ad' ce', P r ad' ce' → AW X nL (cells + mc) (slots + ms) ad' ce' (pc + 3) lv (r.toList ++ rest)) : AW X nL cells slots ad ce pc lv st := by
  obtain ⟨p, l, e, R, s, m, args, below, meth, c, Q, G⟩ := X
  obtain ⟨hx, hb, hml, hown, hts, hlk, hK, hbs⟩ := C
  obtain ⟨rfl, rfl, rfl⟩ := I
  obtain ⟨⟨g1, g2, g3, g7⟩, g4, g5⟩ := g
  intro H locs ls hH hS hl
  have cw := cwV (R := R) (s := s) (args := args) (own := own) (C := M.1.cls) (index := idx) (rm := aw_rm d lo mc ms) (mc := mc) (ms := ms) as.length hts (aw_goodIn g4 [.methodLink own idx M.1, .instanceMethod M.1, .selects M.1.cls M.1 M.1, .initialized M.1.cls] (by intro w hw; simp only [List.mem_cons, List.not_mem_nil, or_false] at hw; rcases hw with rfl | rfl | rfl | rfl <;> assumption)) rfl rfl rfl ⟨rfl, g5⟩ ⟨hR.1, by show 8 + (M.2.2.1 + 11) + lo ≤ R.locals; omega⟩
  have pre := aw_pre (as := .ref (ad k) :: as) hH hK (Nat.le_trans hbs hS.1)
  refine aw_after hS hl (va_runV (As := as) (rest := rest) ⟨hx, hb, hml, hown, hts⟩ hM cw ⟨pre.1, ?_, pre.2⟩ rfl rfl hl.1 hst (lv_room hw) hd hf) kk
  rw [← hq]
  exact va_recv hK.1 (hH.P hk) (q0 := 0) hci rfl
/-- a constructor -/
def aw_gI (own : String) (idx : Nat) (M : aw_M) (n : Nat) : Prop := (Cond.methodLink own idx M.1 ∈ aw_tb ∧ Cond.instanceMethod M.1 ∈ aw_tb ∧ Cond.initialized M.1.cls ∈ aw_tb ∧ M.1.name = "<init>" ∧ M.2.2.2 = none) ∧ Cond.code M.1 M.2.1 M.2.2.1 none ∈ aw_tb ∧ aw_gM M.1 n
theorem aw_callI (C : aw_ok X cc nL own) (I : aw_in X l0 G0 R0) {y : MethodName} {b : ByteArray} {n' a : Nat} (hM : CT l0 G0 (y, b, n', none) d lo mc ms (.ref a :: as) ad ce P) (g : aw_gI own idx (y, b, n', none) as.length) (hR : d + 1 ≤ R0.frames ∧ (n' + 19) + lo ≤ R0.locals) (hf : cells + mc ≤ R0.cells ∧ slots + ms ≤ R0.slots) (hst : st = as.reverse ++ .ref a :: rest) (hw : (rest.map fun v => v.category).sum ≤ 8) (hd : decode cc pc = .ok (.invokespecial idx, 3))
    (kk : ∀ r ad' ce', P r ad' ce' → AW X nL (cells + mc) (slots + ms) ad' ce' (pc + 3) lv (r.toList ++ rest)) : AW X nL cells slots ad ce pc lv st := by
  obtain ⟨p, l, e, R, s, m, args, below, meth, c, Q, G⟩ := X
  obtain ⟨hx, hb, hml, hown, hts, hlk, hK, hbs⟩ := C
  obtain ⟨rfl, rfl, rfl⟩ := I
  obtain ⟨⟨g1, g2, g3, g7, g8⟩, g4, g5⟩ := g
  intro H locs ls hH hS hl
  have cw := cwI (R := R) (s := s) (args := args) (own := own) (index := idx) (rm := aw_rm d lo mc ms) (mc := mc) (ms := ms) as.length hts (aw_goodIn g4 [] (fun w hw => by cases hw)) rfl rfl rfl (hts _ g3) (hts _ g1) (hts _ g2) g7 g5 ⟨hR.1, by show 8 + (n' + 11) + lo ≤ R.locals; omega⟩
  exact aw_after hS hl (va_runI (As := as) (rest := rest) ⟨hx, hb, hml, hown, hts⟩ hM cw (aw_pre hH hK (Nat.le_trans hbs hS.1)) rfl rfl hl.1 hst (lv_room hw) hd hf) kk
/-- Object.<init> -/
theorem aw_objInit (C : aw_ok X cc nL own) (I : aw_in X l0 G0 R0) {a : Nat} (h1 : Cond.methodLink own idx objectInit ∈ aw_tb) (h2 : Cond.instanceMethod objectInit ∈ aw_tb) (h3 : Cond.code objectInit ⟨#[0xb1]⟩ 1 none ∈ aw_tb) (hR : 1 ≤ R0.frames ∧ 20 ≤ R0.locals) (hw : (rest.map fun v => v.category).sum ≤ 8) (hd : decode cc pc = .ok (.invokespecial idx, 3)) (kk : AW X nL cells slots ad ce (pc + 3) lv rest) : AW X nL cells slots ad ce pc lv (.ref a :: rest) := by
  obtain ⟨p, l, e, R, s, m, args, below, meth, c, Q, G⟩ := X
  obtain ⟨hx, hb, hml, hown, hts, hlk, hK, hbs⟩ := C
  obtain ⟨rfl, rfl, rfl⟩ := I
  intro H locs ls hH hS hl
  refine W.objInit hx hb hown (hts _ h1) (hts _ h2) (hts _ h3) rfl (by rw [hml]; exact hl.1) rfl hd hR.1 (by have := lv_room (m := m) (pc := pc) (ls := ls) (rest := .ref a :: rest) hw; omega) ?_
  exact kk H locs ls hH hS hl
end AWcall
