def R_law : String := "LeafWitnessLaw"
def lw_P (b : Addr) (xs : List Int32) (args : Array Value) (s : State) : Prop := args = #[.ref b] ∧ s.IntsAt b xs ∧ xs.length ≤ 3072 ∧ (Jvm.Cond.and given_1 narrow_1).before args s = true
def lw_Q (_ : Array Value) (s : State) (o : Outcome) (t : State) : Prop := o = .returned (some (.int 1)) ∧ Framed s o t [] room_1.cells room_1.slots
def lw_Z (below : List Frame) (a : Array Value) (s : State) : State → Prop := fun t => ∃ o, t.status = .running ∧ Ended t below o ∧ lw_Q a s o t
/-- the law's own end, with 1 on the stack, nothing written that was there before, its room as the claim has it -/
theorem lw_ret {p : Program} {l : Launch} {e : Env} {s : State} {m : MethodId} {below : List Frame} {meth : Method} {c : Code} {b : Nat} (hx : p.tables.exec = Jvm.exec) (hb : c.code = code) (hr : meth.sig.returnType = ret) (hlocks : meth.locks = false) {pc : Nat} {H : Heap} {ls : Array Slot} (hdg : decode code pc = .ok (.ireturn, 1)) : W p l e room_1 s m #[Value.ref b] below meth c H [] room_1.cells room_1.slots (lw_Z below #[Value.ref b] s) (F0 m pc ls [.int 1]) := by
  intro T hT X
  obtain ⟨fs, hret, hrun, hended, hW, hframe⟩ := X.leave (v := some (.int 1)) (hlocks := hlocks) (fun h => by rw [hr] at h; cases h)
  have hmeth' : T.vm.method? m = some meth := X.method'
  refine ⟨T.setFrames fs, ?_, .returned (some (.int 1)), hrun, hended, rfl, ⟨_, rfl⟩, hW, hframe⟩
  jvm_step X.here [X.here.top, hx, hb, hdg, hmeth', hr, ret, narrow_b1]
  (try refine ⟨rfl, ?_⟩); (try refine ⟨rfl, ?_⟩)
  first | (intro acts; rw [hret _ acts rfl rfl rfl]) | rw [hret _ _ rfl rfl rfl]
  exact Steps.refl _
/-- what holds at the law's entry: the machine, the code, the tables' words (any of lw_tbl by 'hts w (by decide +kernel)'), the script of L ints xs at the cell b, what the Statement gives of the start (any of its parts by flat_of_before) -/
def lw_At (p : Program) (s : State) (m : MethodId) (meth : Method) (c : Code) (b L : Nat) (xs : Nat → Int32) : Prop :=
  p.tables.exec = Jvm.exec ∧ c.code = code ∧ meth.sig.returnType = ret ∧ c.maxLocals = 7 ∧ s.vm.findClass R_law = some m.cls ∧ (∀ w ∈ lw_tbl, w.before #[Value.ref b] s = true) ∧ va_X b L xs s s.heap ∧ b < s.heap.size ∧ meth.locks = false ∧ (Jvm.Cond.and given_1 narrow_1).before #[Value.ref b] s = true
section GL
variable {D : gD} {p : Program} {l : Launch} {e : Env} {R : Room} {s : State} {m : MethodId} {args : Array Value} {below : List Frame} {meth : Method} {c : Code} {Q : State → Prop} {nL cells slots : Nat} {S S1 : gS} {pc : Nat} {lv : List (Nat × Value)} {rest : List Value} {cc : ByteArray} {own : String}
/-- the law's end, with 1 on the stack -/
theorem g_lend {b : Nat} (X : gX D p l s m #[Value.ref b] meth c code nL own) (hr : meth.sig.returnType = ret) (hds : dB D = s.heap.size) (hc : cells ≤ room_1.cells) (hs : slots ≤ room_1.slots) (hd : decode code pc = .ok (.ireturn, 1)) : gJ D p l e room_1 s m #[Value.ref b] below meth c (lw_Z below #[Value.ref b] s) nL cells slots S pc lv [.int 1] := fun H locs ls hR hL hl =>
  va_forget (fun q hq => by rw [← hds]; exact hL q hq) (W.widen hc hs (lw_ret X.1 X.2.1 hr X.nolocks hd))
def fX (L : Nat) (xs : Nat → Int32) (i : Int32) : Option Int32 := if ¬ (i < 0 ∨ L ≤ i.toNatClampNeg) then some (xs i.toNatClampNeg) else none
theorem g_slen {b L : Nat} {xs : Nat → Int32} (X : gX D p l s m args meth c cc nL own) (hX : va_X b L xs s (dH D)) (hbl : b < dB D) (hd : decode cc pc = .ok (.arraylength, 1)) (kk : gJ D p l e R s m args below meth c Q nL cells slots S (pc + 1) lv (.int (nI L) :: rest)) : gJ D p l e R s m args below meth c Q nL cells slots S pc lv (.ref b :: rest) := fun H locs ls hR hL hl => by
  obtain ⟨scr, h1, h2, h3, h4, h5⟩ := hX
  exact W.alen (n := nI L) X.1 X.2.1 (by rw [hR.2.2.1 b hbl]; exact h1) h2 (by rw [h4] <;> rfl) rfl rfl hd (kk H locs ls hR hL hl)
theorem g_sld {b L : Nat} {xs : Nat → Int32} {i x : Int32} (X : gX D p l s m args meth c cc nL own) (hX : va_X b L xs s (dH D)) (hbl : b < dB D) (hx : fX L xs i = some x) (hd : decode cc pc = .ok (.iaload, 1)) (kk : gJ D p l e R s m args below meth c Q nL cells slots S (pc + 1) lv (.int x :: rest)) : gJ D p l e R s m args below meth c Q nL cells slots S pc lv (.int i :: .ref b :: rest) := fun H locs ls hR hL hl => by
  obtain ⟨hin, h⟩ := g_if hx
  cases h
  obtain ⟨scr, h1, h2, h3, h4, h5⟩ := hX
  have hlt : i.toNatClampNeg < L := Nat.not_le.mp fun q => hin (Or.inr q)
  exact W.iald (v := .int (xs i.toNatClampNeg)) X.1 X.2.1 (by rw [hR.2.2.1 b hbl]; exact h1) h2 h3 (by rw [h4]; exact hin) (h5 _ hlt) rfl rfl hd (kk H locs ls hR hL hl)
theorem g_lastore {i : Nat} {k : Fin 4} {b : Nat} {lv' : List (Nat × Value)} (X : gX D p l s m args meth c cc nL own) (hd : decode cc pc = .ok (.astore_n k, 1)) (hi : (k : Nat) = i) (hn : i < nL) (hf : (i, Value.ref b) :: lv.filter (fun q => !(q.1 == i) && !(q.1 + 1 == i && q.2.category == 2)) = lv') (kk : gJ D p l e R s m args below meth c Q nL cells slots S (pc + 1) lv' rest) : gJ D p l e R s m args below meth c Q nL cells slots S pc lv (.ref b :: rest) := fun H locs ls hR hL hl => lv_astore_n X.1 X.2.1 hd hi hl hn hf (fun ls' hl' => kk H locs ls' hR hL hl')
variable {y : MethodName} {bytes : ByteArray} {maxL n index mc ms : Nat} {ret' : Option FieldType} {rm : Room} {As st0 : List Value} {v : Option Value} {hh : List (Nat × Nat × Nat × Nat)}
theorem g_cSW (X : gX D p l s m args meth c cc nL own) (hM : Met l y (gwW y bytes maxL ret' hh) rm (gPc D S As) (gQ D v S1) mc ms (gF D)) (hlink : Cond.methodLink own index y ∈ TT) (hstat : Cond.static y ∈ TT) (hini : Cond.initialized y.cls ∈ TT) (hcode : Cond.codeWith y bytes maxL ret' hh ∈ TT) (hd : y.cls ≠ "java/lang/invoke/MethodHandle" ∧ y.cls ≠ "java/lang/invoke/VarHandle" ∧ (parseMethodDescriptor y.desc).map (fun d => d.parameters.length) = some n) (hrc : rm.cells = mc) (hrs : rm.slots = ms) (hRm : rm.frames + 1 ≤ R.frames ∧ 8 + (maxL + 11) + rm.locals ≤ R.locals) (hn : As.length = n) (hst : st0 = As.reverse ++ rest) (hroom : (rest.map fun v => v.category).sum ≤ 8) (hdg : decode cc pc = .ok (.invokestatic index, 3)) (hf : cells + mc ≤ R.cells ∧ slots + ms ≤ R.slots)
    (kk : gJ D p l e R s m args below meth c Q nL (cells + mc) (slots + ms) S1 (pc + 3) lv (v.toList ++ rest)) : gJ D p l e R s m args below meth c Q nL cells slots S pc lv st0 := by
  intro H locs ls hR hL hl
  subst hst
  have hG : GoodIn TT (va_wsS own index y (gwW y bytes maxL ret' hh)) := by
    intro w hw
    rcases List.mem_append.mp hw with h | h
    · have : w ∈ TT := by
        rcases List.mem_cons.mp h with h | h
        · subst h; exact hlink
        · rcases List.mem_cons.mp h with h | h
          · subst h; exact hstat
          · rcases List.mem_cons.mp h with h | h
            · subst h; exact hini
            · cases h
      exact ⟨this, TT_good this⟩
    · exact g_good (x := w) hcode w h
  exact g_after (vx_runSW (As := As) (rest := rest) X.fix hM (vx_cwSW n X.ts hG rfl hrc hrs hd hRm) (g_pre X hR) rfl hn hl.1 rfl (lv_room hroom) hdg hf) hL hl kk
/-- what was thrown is caught by the row x of the method's table -/
theorem g_catch {E : String} (X : gX D p l s m args meth c cc nL own) (pre : List ClassFile.ExceptionTableEntry) (x : ClassFile.ExceptionTableEntry) (suf : List ClassFile.ExceptionTableEntry) (hsplit : c.exceptionTable.toList = pre ++ x :: suf) (hpass : ∀ z ∈ pre, z.catchType ≠ 0 ∧ ∃ nm : String, Cond.classLink own z.catchType nm ∈ TT ∧ (E, nm) ∈ g_nc) (hx : covers x pc = true) (h0 : x.catchType ≠ 0) (hlink : Cond.classLink own x.catchType E ∈ TT) (hcast : Cond.castable E E ∈ g_ng) (kk : ∀ q : Nat, gJ D p l e R s m args below meth c Q nL cells slots S x.handlerPc lv [va_rf (some q)]) : gJx D p l e R s m args below meth c Q nL cells slots S pc lv rest E := fun H locs ls q ce hR hL hl hce hcv hcl =>
  vx_catch X.ow pre x suf hsplit (fun z hz => Or.inr ⟨(hpass z hz).1, (hpass z hz).2.choose, X.ts _ (hpass z hz).2.choose_spec.1, X.K.2.2.2.2.2.2.1.2 _ (hpass z hz).2.choose_spec.2⟩) hx h0 (X.ts _ hlink) (va_Nw.use rfl (X.K.2.2.2.2.2.2.1.1 _ hcast)) hce hcv hcl (kk q H locs ls hR hL hl)
end GL
