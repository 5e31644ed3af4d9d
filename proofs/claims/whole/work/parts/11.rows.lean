-- rows
def g_start : List Int32 := [1779033703, -1150833019, 1013904242, -1521486534, 1359893119, -1694144372, 528734635, 1541459225]
def g_round : List Int32 := [1116352408, 1899447441, -1245643825, -373957723, 961987163, 1508970993, -1841331548, -1424204075, -670586216, 310598401, 607225278, 1426881987, 1925078388, -2132889090, -1680079193, -1046744716, -459576895, -272742522, 264347078, 604807628, 770255983, 1249150122, 1555081692, 1996064986, -1740746414, -1473132947, -1341970488, -1084653625, -958395405, -710438585, 113926993, 338241895, 666307205, 773529912, 1294757372, 1396182291, 1695183700, 1986661051, -2117940946, -1838011259, -1564481375, -1474664885, -1035236496, -949202525, -778901479, -694614492, -200395387, 275423344, 430227734, 506948616, 659060556, 883997877, 958139571, 1322822218, 1537002063, 1747873779, 1955562222, 2024104815, -2067236844, -1933114872, -1866530822, -1538233109, -1090935817, -965641998]
def g_strs : List (Nat × String) := [(82, "a KEY has at most 100 bytes"), (92, "the LOG has a HEAD"), (99, "an ENTRY has at most 120 bytes"), (108, "the LOG has 200 ENTRIES"), (117, "TIME is below 0 or below the latest HEAD's"), (119, "the LOG has 40 HEADS"), (133, "what is 0 to 3"), (140, "there is no such HEAD"), (155, "there is no such ENTRY"), (161, "a LEAF has 32 bytes"), (167, "the TREE has no such first LEAVES"), (173, "the TREE has no such WAY"), (183, "the TREE has no such PROOF"), (206, "a HEAD has 80 bytes"), (212, "TIME, SIZE and ROOT have 48 bytes"), (222, "a HEAD and whole digests are wanted"), (249, "the WITNESS has no such HEAD"), (253, "there is no such LOG"), (256, "there is no such WITNESS or LOG")]
def g_ng : List Cond := [Cond.castable "java/lang/IndexOutOfBoundsException" "java/lang/IndexOutOfBoundsException", Cond.declares ⟨"java/lang/RuntimeException", "<init>", "()V"⟩, Cond.declares ⟨"java/lang/RuntimeException", "<init>", "(Ljava/lang/String;)V"⟩, Cond.declares ⟨"java/lang/Exception", "<init>", "()V"⟩, Cond.declares ⟨"java/lang/Exception", "<init>", "(Ljava/lang/String;)V"⟩, Cond.declares ⟨"java/lang/Throwable", "<init>", "()V"⟩, Cond.declares ⟨"java/lang/Throwable", "<init>", "(Ljava/lang/String;)V"⟩, Cond.castable "java/lang/IllegalArgumentException" "java/lang/IllegalArgumentException", Cond.castable "java/lang/IllegalStateException" "java/lang/IllegalStateException", Cond.castable "java/util/NoSuchElementException" "java/util/NoSuchElementException"]
def g_nc : List (String × String) := [("java/lang/IndexOutOfBoundsException", "java/lang/IllegalArgumentException"), ("java/lang/IndexOutOfBoundsException", "java/lang/IllegalStateException"), ("java/lang/IndexOutOfBoundsException", "java/util/NoSuchElementException"), ("java/lang/IllegalArgumentException", "java/lang/IndexOutOfBoundsException"), ("java/lang/IllegalArgumentException", "java/lang/IllegalStateException"), ("java/lang/IllegalArgumentException", "java/util/NoSuchElementException"), ("java/lang/IllegalStateException", "java/lang/IndexOutOfBoundsException"), ("java/lang/IllegalStateException", "java/lang/IllegalArgumentException"), ("java/lang/IllegalStateException", "java/util/NoSuchElementException"), ("java/util/NoSuchElementException", "java/lang/IndexOutOfBoundsException"), ("java/util/NoSuchElementException", "java/lang/IllegalArgumentException"), ("java/util/NoSuchElementException", "java/lang/IllegalStateException")]
theorem g_ng_warm {s U : State} (hW : s.WarmedH U.vm) : ∀ w ∈ g_ng, va_Nw w s → va_Nw w U := by
  intro w hw h
  simp only [g_ng, List.mem_cons, List.not_mem_nil, or_false] at hw
  rcases hw with rfl | rfl | rfl | rfl | rfl | rfl | rfl | rfl | rfl | rfl <;> first | exact va_Nw.warmC hW h | exact va_Nw.warmD hW h
theorem g_ng_ot : ∀ w ∈ g_ng, w.onTables = true := by decide +kernel
/-- what stays known of the tables, in every method -/
def gKn (D : gD) (U : State) : Prop := va_K (dC D, dI D) vwCl (g_tys D) U ∧
  (va_Z RX4 "START" "[I" (.ref (dT D)) (fun q => dB D ≤ q) U (dH D) ∧ va_T .int (dT D) 8 (fun j => .int (g_start.getD j 0)) (fun q => dB D ≤ q) U (dH D)) ∧
  (va_Z RX4 "ROUND" "[I" (.ref (dU D)) (fun q => dB D ≤ q) U (dH D) ∧ va_T .int (dU D) 64 (fun j => .int (g_round.getD j 0)) (fun q => dB D ≤ q) U (dH D)) ∧
  (va_AO RX1 U ∧ va_AO RX3 U ∧ va_AO RX6 U) ∧
  (vx_Zq Bundle.tN "UNASSIGNED_STACK" Bundle.steD (fun q => dB D ≤ q) U (dH D) ∧ vx_Zq Bundle.tN "SUPPRESSED_SENTINEL" Bundle.listD (fun q => dB D ≤ q) U (dH D)) ∧
  (∀ q ∈ g_strs, ∃ sa, vk_R RX7 q.1 q.2 sa U) ∧
  ((∀ w ∈ g_ng, va_Nw w U) ∧ ∀ q ∈ g_nc, va_Nc q.1 q.2 U) ∧
  (va_Nw (.methodLinkNest RX7 27 yX1_init RX7) U ∧ va_Nw (.methodLinkNest RX7 34 yX6_init RX7) U ∧ va_Nw (.methodLinkNest RX7 37 yX2_init RX7) U ∧ va_Nw (.methodLinkNest RX7 44 yX0_init RX7) U ∧ va_Nw (.methodLinkNest RX0 11 yX4_init RX7) U ∧ va_Nw (.methodLinkNest RX1 11 yX4_init RX7) U)
theorem gKn.warm {D : gD} {s U : State} (hW : s.WarmedH U.vm) (h : gKn D s) : gKn D U := by
  obtain ⟨h1, ⟨h2, h3⟩, ⟨h4, h5⟩, ⟨h6, h7, h8⟩, ⟨h9, h10⟩, h11, ⟨h18, h19⟩, h12, h13, h14, h15, h16, h17⟩ := h
  have ha := hW.alike
  exact ⟨va_K.moved ha h1, ⟨va_Z.moved ha h2, va_T.moved ha h3⟩, ⟨va_Z.moved ha h4, va_T.moved ha h5⟩, ⟨va_AO.moved ha h6, va_AO.moved ha h7, va_AO.moved ha h8⟩, ⟨vx_Zq.moved ha h9, vx_Zq.moved ha h10⟩, fun q hq => by
    obtain ⟨sa, hs⟩ := h11 q hq
    exact ⟨sa, vk_R.warm hW hs⟩, ⟨fun w hw => g_ng_warm hW w hw (h18 w hw), fun q hq => va_Nc.moved ha (h19 q hq)⟩, va_Nw.warmM hW h12, va_Nw.warmM hW h13, va_Nw.warmM hW h14, va_Nw.warmM hW h15, va_Nw.warmM hW h16, va_Nw.warmM hW h17⟩
def gF (D : gD) : Addr → Prop := fun q => dB D ≤ q
def gX (D : gD) (p : Program) (l : Launch) (s : State) (m : MethodId) (args : Array Value) (meth : Method) (c : Code) (cc : ByteArray) (nL : Nat) (own : String) : Prop :=
  p.tables.exec = Jvm.exec ∧ c.code = cc ∧ c.maxLocals = nL ∧ s.vm.findClass own = some m.cls ∧ (∀ w ∈ TT, w.before args s = true) ∧ meth.locks = false ∧ gKn D s ∧ l.stackTraces = false ∧ ∀ q, q < dB D → s.heap[q]? = (dH D)[q]?
def gJ (D : gD) (p : Program) (l : Launch) (e : Env) (R : Room) (s : State) (m : MethodId) (args : Array Value) (below : List Frame) (meth : Method) (c : Code) (Q : State → Prop) (nL cells slots : Nat) (S : gS) (pc : Nat) (lv : List (Nat × Value)) (st : List Value) : Prop :=
  ∀ (H : Heap) (locs : List Loc) (ls : Array Slot), g_Rep D S H → (∀ q ∈ locs, gF D q.base) → lv_has ls nL lv → W p l e R s m args below meth c H locs cells slots Q (F0 m pc ls st)
/-- q is thrown, at the instruction pc -/
def gJx (D : gD) (p : Program) (l : Launch) (e : Env) (R : Room) (s : State) (m : MethodId) (args : Array Value) (below : List Frame) (meth : Method) (c : Code) (Q : State → Prop) (nL cells slots : Nat) (S : gS) (pc : Nat) (lv : List (Nat × Value)) (st : List Value) (E : String) : Prop :=
  ∀ (H : Heap) (locs : List Loc) (ls : Array Slot) (q : Addr) (ce : Cell), g_Rep D S H → (∀ q ∈ locs, gF D q.base) → lv_has ls nL lv → H[q]? = some ce → ce.vm = .none → s.vm.findClass E = some ce.cls → vx_W p l e R s m args below meth c H locs cells slots Q (F0 m pc ls st) q
def gPc (D : gD) (S : gS) (av : List Value) : Array Value → State → Prop := fun v U => v = av.toArray ∧ g_Rep D S U.heap ∧ gKn D U
def gQ (D : gD) (v : Option Value) (S : gS) : Array Value → State → Outcome → State → Prop := fun _ _ oc t => oc = .returned v ∧ g_Rep D S t.heap
def gQX {ρ : Type} (D : gD) (mk : ρ → Value) (res : String ⊕ ρ) (S : gS) : Array Value → State → Outcome → State → Prop := fun _ _ oc t => ∃ x, res = .inr x ∧ oc = .returned (some (mk x)) ∧ g_Rep D S t.heap
def gXX {ρ : Type} (D : gD) (res : String ⊕ ρ) (S : gS) : String → State → State → Prop := fun E _ t => res = .inl E ∧ g_Rep D S t.heap
abbrev gws (y : MethodName) (bytes : ByteArray) (maxL : Nat) (ret : Option FieldType) : List Cond := Cond.code y bytes maxL ret :: TT
theorem g_blind (D : gD) (S : gS) (av : List Value) : FrameBlind (gPc D S av) := fun a U g mk q => ⟨q.1, q.2.1, gKn.warm (s := U) (U := U.calling g mk a) (State.WarmedH.refl U) q.2.2⟩

section GJ
variable {D : gD} {p : Program} {l : Launch} {e : Env} {R : Room} {s : State} {m : MethodId} {args : Array Value} {below : List Frame} {meth : Method} {c : Code} {Q : State → Prop} {nL cells slots : Nat} {S S1 : gS} {pc : Nat} {lv : List (Nat × Value)} {rest : List Value} {cc : ByteArray} {own : String}
theorem g_iconst {n : Int} {v : Int32} (X : gX D p l s m args meth c cc nL own) (hd : decode cc pc = .ok (.iconst n, 1)) (hv : Int32.ofInt n = v) (kk : gJ D p l e R s m args below meth c Q nL cells slots S (pc + 1) lv (.int v :: rest)) : gJ D p l e R s m args below meth c Q nL cells slots S pc lv rest := fun H locs ls hR hL hl => lv_iconst X.1 X.2.1 hd hv (kk H locs ls hR hL hl)
theorem g_bipush {n : Int} {v : Int32} (X : gX D p l s m args meth c cc nL own) (hd : decode cc pc = .ok (.bipush n, 2)) (hv : (Int8.ofInt n).toInt32 = v) (kk : gJ D p l e R s m args below meth c Q nL cells slots S (pc + 2) lv (.int v :: rest)) : gJ D p l e R s m args below meth c Q nL cells slots S pc lv rest := fun H locs ls hR hL hl => lv_bipush X.1 X.2.1 hd hv (kk H locs ls hR hL hl)
theorem g_sipush {n : Int} {v : Int32} (X : gX D p l s m args meth c cc nL own) (hd : decode cc pc = .ok (.sipush n, 3)) (hv : (Int16.ofInt n).toInt32 = v) (kk : gJ D p l e R s m args below meth c Q nL cells slots S (pc + 3) lv (.int v :: rest)) : gJ D p l e R s m args below meth c Q nL cells slots S pc lv rest := fun H locs ls hR hL hl => lv_sipush X.1 X.2.1 hd hv (kk H locs ls hR hL hl)
theorem g_lconst {n : Fin 2} {v : Int64} (X : gX D p l s m args meth c cc nL own) (hd : decode cc pc = .ok (.lconst n, 1)) (hv : Int64.ofNat (n : Nat) = v) (kk : gJ D p l e R s m args below meth c Q nL cells slots S (pc + 1) lv (.long v :: rest)) : gJ D p l e R s m args below meth c Q nL cells slots S pc lv rest := fun H locs ls hR hL hl => lv_lconst X.1 X.2.1 hd hv (kk H locs ls hR hL hl)
theorem g_null  (X : gX D p l s m args meth c cc nL own) (hd : decode cc pc = .ok (.aconst_null, 1)) (kk : gJ D p l e R s m args below meth c Q nL cells slots S (pc + 1) lv (va_rf none :: rest)) : gJ D p l e R s m args below meth c Q nL cells slots S pc lv rest := fun H locs ls hR hL hl => lv_null X.1 X.2.1 hd (kk H locs ls hR hL hl)
theorem g_iload_n {k : Fin 4} {i j : Nat} {x : Int32} (X : gX D p l s m args meth c cc nL own) (hd : decode cc pc = .ok (.iload_n k, 1)) (hi : (k : Nat) = i) (hj : lv[j]? = some (i, .int x)) (kk : gJ D p l e R s m args below meth c Q nL cells slots S (pc + 1) lv (.int x :: rest)) : gJ D p l e R s m args below meth c Q nL cells slots S pc lv rest := fun H locs ls hR hL hl => lv_iload_n X.1 X.2.1 hd hi (lv_at hl j hj) (kk H locs ls hR hL hl)
theorem g_iload {i j : Nat} {x : Int32} (X : gX D p l s m args meth c cc nL own) (hd : decode cc pc = .ok (.iload i, 2)) (hj : lv[j]? = some (i, .int x)) (kk : gJ D p l e R s m args below meth c Q nL cells slots S (pc + 2) lv (.int x :: rest)) : gJ D p l e R s m args below meth c Q nL cells slots S pc lv rest := fun H locs ls hR hL hl => lv_iload X.1 X.2.1 hd (lv_at hl j hj) (kk H locs ls hR hL hl)
theorem g_lload_n {k : Fin 4} {i j : Nat} {x : Int64} (X : gX D p l s m args meth c cc nL own) (hd : decode cc pc = .ok (.lload_n k, 1)) (hi : (k : Nat) = i) (hj : lv[j]? = some (i, .long x)) (kk : gJ D p l e R s m args below meth c Q nL cells slots S (pc + 1) lv (.long x :: rest)) : gJ D p l e R s m args below meth c Q nL cells slots S pc lv rest := fun H locs ls hR hL hl => lv_lload_n X.1 X.2.1 hd hi (lv_at hl j hj) (kk H locs ls hR hL hl)
theorem g_lload {i j : Nat} {x : Int64} (X : gX D p l s m args meth c cc nL own) (hd : decode cc pc = .ok (.lload i, 2)) (hj : lv[j]? = some (i, .long x)) (kk : gJ D p l e R s m args below meth c Q nL cells slots S (pc + 2) lv (.long x :: rest)) : gJ D p l e R s m args below meth c Q nL cells slots S pc lv rest := fun H locs ls hR hL hl => lv_lload X.1 X.2.1 hd (lv_at hl j hj) (kk H locs ls hR hL hl)
theorem g_aload_n {k : Fin 4} {i j : Nat} {r : Option Nat} (X : gX D p l s m args meth c cc nL own) (hd : decode cc pc = .ok (.aload_n k, 1)) (hi : (k : Nat) = i) (hj : lv[j]? = some (i, va_rf r)) (kk : gJ D p l e R s m args below meth c Q nL cells slots S (pc + 1) lv (va_rf r :: rest)) : gJ D p l e R s m args below meth c Q nL cells slots S pc lv rest := by
  intro H locs ls hR hL hl
  cases r with
  | none => exact lv_aload_nN X.1 X.2.1 hd hi (lv_at hl j hj) (kk H locs ls hR hL hl)
  | some x => exact lv_aload_n X.1 X.2.1 hd hi (lv_at hl j hj) (kk H locs ls hR hL hl)
theorem g_aload {i j : Nat} {r : Option Nat} (X : gX D p l s m args meth c cc nL own) (hd : decode cc pc = .ok (.aload i, 2)) (hj : lv[j]? = some (i, va_rf r)) (kk : gJ D p l e R s m args below meth c Q nL cells slots S (pc + 2) lv (va_rf r :: rest)) : gJ D p l e R s m args below meth c Q nL cells slots S pc lv rest := by
  intro H locs ls hR hL hl
  cases r with
  | none => exact lv_aloadN X.1 X.2.1 hd (lv_at hl j hj) (kk H locs ls hR hL hl)
  | some x => exact lv_aload X.1 X.2.1 hd (lv_at hl j hj) (kk H locs ls hR hL hl)
theorem g_istore_n {k : Fin 4} {i : Nat} {x : Int32} {lv' : List (Nat × Value)} (X : gX D p l s m args meth c cc nL own) (hd : decode cc pc = .ok (.istore_n k, 1)) (hi : (k : Nat) = i) (hn : i < nL) (hf : (i, Value.int x) :: lv.filter (fun q => !(q.1 == i) && !(q.1 + 1 == i && q.2.category == 2)) = lv') (kk : gJ D p l e R s m args below meth c Q nL cells slots S (pc + 1) lv' rest) : gJ D p l e R s m args below meth c Q nL cells slots S pc lv (.int x :: rest) := fun H locs ls hR hL hl => lv_istore_n X.1 X.2.1 hd hi hl hn hf (fun ls' hl' => kk H locs ls' hR hL hl')
theorem g_istore {i : Nat} {x : Int32} {lv' : List (Nat × Value)} (X : gX D p l s m args meth c cc nL own) (hd : decode cc pc = .ok (.istore i, 2)) (hn : i < nL) (hf : (i, Value.int x) :: lv.filter (fun q => !(q.1 == i) && !(q.1 + 1 == i && q.2.category == 2)) = lv') (kk : gJ D p l e R s m args below meth c Q nL cells slots S (pc + 2) lv' rest) : gJ D p l e R s m args below meth c Q nL cells slots S pc lv (.int x :: rest) := fun H locs ls hR hL hl => lv_istore X.1 X.2.1 hd hl hn hf (fun ls' hl' => kk H locs ls' hR hL hl')
theorem g_lstore_n {k : Fin 4} {i : Nat} {x : Int64} {lv' : List (Nat × Value)} (X : gX D p l s m args meth c cc nL own) (hd : decode cc pc = .ok (.lstore_n k, 1)) (hi : (k : Nat) = i) (hn : i + 1 < nL) (hf : (i, Value.long x) :: lv.filter (fun q => !(q.1 == i) && (!(q.1 == i + 1) && !(q.1 + 1 == i && q.2.category == 2))) = lv') (kk : gJ D p l e R s m args below meth c Q nL cells slots S (pc + 1) lv' rest) : gJ D p l e R s m args below meth c Q nL cells slots S pc lv (.long x :: rest) := fun H locs ls hR hL hl => lv_lstore_n X.1 X.2.1 hd hi hl hn hf (fun ls' hl' => kk H locs ls' hR hL hl')
theorem g_lstore {i : Nat} {x : Int64} {lv' : List (Nat × Value)} (X : gX D p l s m args meth c cc nL own) (hd : decode cc pc = .ok (.lstore i, 2)) (hn : i + 1 < nL) (hf : (i, Value.long x) :: lv.filter (fun q => !(q.1 == i) && (!(q.1 == i + 1) && !(q.1 + 1 == i && q.2.category == 2))) = lv') (kk : gJ D p l e R s m args below meth c Q nL cells slots S (pc + 2) lv' rest) : gJ D p l e R s m args below meth c Q nL cells slots S pc lv (.long x :: rest) := fun H locs ls hR hL hl => lv_lstore X.1 X.2.1 hd hl hn hf (fun ls' hl' => kk H locs ls' hR hL hl')
theorem g_astore_n {k : Fin 4} {i : Nat} {r : Option Nat} {lv' : List (Nat × Value)} (X : gX D p l s m args meth c cc nL own) (hd : decode cc pc = .ok (.astore_n k, 1)) (hi : (k : Nat) = i) (hn : i < nL) (hf : (i, va_rf r) :: lv.filter (fun q => !(q.1 == i) && !(q.1 + 1 == i && q.2.category == 2)) = lv') (kk : gJ D p l e R s m args below meth c Q nL cells slots S (pc + 1) lv' rest) : gJ D p l e R s m args below meth c Q nL cells slots S pc lv (va_rf r :: rest) := by
  intro H locs ls hR hL hl
  cases r with
  | none => exact lv_astore_nN X.1 X.2.1 hd hi hl hn hf (fun ls' hl' => kk H locs ls' hR hL hl')
  | some x => exact lv_astore_n X.1 X.2.1 hd hi hl hn hf (fun ls' hl' => kk H locs ls' hR hL hl')
theorem g_astore {i : Nat} {r : Option Nat} {lv' : List (Nat × Value)} (X : gX D p l s m args meth c cc nL own) (hd : decode cc pc = .ok (.astore i, 2)) (hn : i < nL) (hf : (i, va_rf r) :: lv.filter (fun q => !(q.1 == i) && !(q.1 + 1 == i && q.2.category == 2)) = lv') (kk : gJ D p l e R s m args below meth c Q nL cells slots S (pc + 2) lv' rest) : gJ D p l e R s m args below meth c Q nL cells slots S pc lv (va_rf r :: rest) := by
  intro H locs ls hR hL hl
  cases r with
  | none => exact lv_astoreN X.1 X.2.1 hd hl hn hf (fun ls' hl' => kk H locs ls' hR hL hl')
  | some x => exact lv_astore X.1 X.2.1 hd hl hn hf (fun ls' hl' => kk H locs ls' hR hL hl')
theorem g_iinc {i j : Nat} {n : Int} {x v : Int32} {lv' : List (Nat × Value)} (X : gX D p l s m args meth c cc nL own) (hd : decode cc pc = .ok (.iinc i n, 3)) (hj : lv[j]? = some (i, .int x)) (hv : x + Int32.ofInt n = v) (hn : i < nL) (hf : (i, Value.int v) :: lv.filter (fun q => !(q.1 == i) && !(q.1 + 1 == i && q.2.category == 2)) = lv') (kk : gJ D p l e R s m args below meth c Q nL cells slots S (pc + 3) lv' rest) : gJ D p l e R s m args below meth c Q nL cells slots S pc lv rest := fun H locs ls hR hL hl => lv_iinc X.1 X.2.1 hd hl hj hv hn hf (fun ls' hl' => kk H locs ls' hR hL hl')
theorem g_iadd {x y : Int32} (X : gX D p l s m args meth c cc nL own) (hd : decode cc pc = .ok (.iadd, 1)) (kk : gJ D p l e R s m args below meth c Q nL cells slots S (pc + 1) lv (.int (x + y) :: rest)) : gJ D p l e R s m args below meth c Q nL cells slots S pc lv (.int y :: .int x :: rest) := fun H locs ls hR hL hl => lv_iadd X.1 X.2.1 hd (kk H locs ls hR hL hl)
theorem g_isub {x y : Int32} (X : gX D p l s m args meth c cc nL own) (hd : decode cc pc = .ok (.isub, 1)) (kk : gJ D p l e R s m args below meth c Q nL cells slots S (pc + 1) lv (.int (x - y) :: rest)) : gJ D p l e R s m args below meth c Q nL cells slots S pc lv (.int y :: .int x :: rest) := fun H locs ls hR hL hl => lv_isub X.1 X.2.1 hd (kk H locs ls hR hL hl)
theorem g_imul {x y : Int32} (X : gX D p l s m args meth c cc nL own) (hd : decode cc pc = .ok (.imul, 1)) (kk : gJ D p l e R s m args below meth c Q nL cells slots S (pc + 1) lv (.int (x * y) :: rest)) : gJ D p l e R s m args below meth c Q nL cells slots S pc lv (.int y :: .int x :: rest) := fun H locs ls hR hL hl => lv_imul X.1 X.2.1 hd (kk H locs ls hR hL hl)
theorem g_iand {x y : Int32} (X : gX D p l s m args meth c cc nL own) (hd : decode cc pc = .ok (.iand, 1)) (kk : gJ D p l e R s m args below meth c Q nL cells slots S (pc + 1) lv (.int (x &&& y) :: rest)) : gJ D p l e R s m args below meth c Q nL cells slots S pc lv (.int y :: .int x :: rest) := fun H locs ls hR hL hl => lv_iand X.1 X.2.1 hd (kk H locs ls hR hL hl)
theorem g_ior {x y : Int32} (X : gX D p l s m args meth c cc nL own) (hd : decode cc pc = .ok (.ior, 1)) (kk : gJ D p l e R s m args below meth c Q nL cells slots S (pc + 1) lv (.int (x ||| y) :: rest)) : gJ D p l e R s m args below meth c Q nL cells slots S pc lv (.int y :: .int x :: rest) := fun H locs ls hR hL hl => lv_ior X.1 X.2.1 hd (kk H locs ls hR hL hl)
theorem g_ixor {x y : Int32} (X : gX D p l s m args meth c cc nL own) (hd : decode cc pc = .ok (.ixor, 1)) (kk : gJ D p l e R s m args below meth c Q nL cells slots S (pc + 1) lv (.int (x ^^^ y) :: rest)) : gJ D p l e R s m args below meth c Q nL cells slots S pc lv (.int y :: .int x :: rest) := fun H locs ls hR hL hl => lv_ixor X.1 X.2.1 hd (kk H locs ls hR hL hl)
theorem g_ishl {x y : Int32} (X : gX D p l s m args meth c cc nL own) (hd : decode cc pc = .ok (.ishl, 1)) (kk : gJ D p l e R s m args below meth c Q nL cells slots S (pc + 1) lv (.int (x <<< (y &&& 31)) :: rest)) : gJ D p l e R s m args below meth c Q nL cells slots S pc lv (.int y :: .int x :: rest) := fun H locs ls hR hL hl => lv_ishl X.1 X.2.1 hd (kk H locs ls hR hL hl)
theorem g_ishr {x y : Int32} (X : gX D p l s m args meth c cc nL own) (hd : decode cc pc = .ok (.ishr, 1)) (kk : gJ D p l e R s m args below meth c Q nL cells slots S (pc + 1) lv (.int (x >>> (y &&& 31)) :: rest)) : gJ D p l e R s m args below meth c Q nL cells slots S pc lv (.int y :: .int x :: rest) := fun H locs ls hR hL hl => lv_ishr X.1 X.2.1 hd (kk H locs ls hR hL hl)
theorem g_idiv {x y : Int32} (X : gX D p l s m args meth c cc nL own) (hd : decode cc pc = .ok (.idiv, 1)) (hne : ¬ y = 0) (kk : gJ D p l e R s m args below meth c Q nL cells slots S (pc + 1) lv (.int (x / y) :: rest)) : gJ D p l e R s m args below meth c Q nL cells slots S pc lv (.int y :: .int x :: rest) := fun H locs ls hR hL hl => lv_idiv X.1 X.2.1 hd hne (kk H locs ls hR hL hl)
theorem g_irem {x y : Int32} (X : gX D p l s m args meth c cc nL own) (hd : decode cc pc = .ok (.irem, 1)) (hne : ¬ y = 0) (kk : gJ D p l e R s m args below meth c Q nL cells slots S (pc + 1) lv (.int (x - x / y * y) :: rest)) : gJ D p l e R s m args below meth c Q nL cells slots S pc lv (.int y :: .int x :: rest) := fun H locs ls hR hL hl => lv_irem X.1 X.2.1 hd hne (kk H locs ls hR hL hl)
theorem g_ladd {x y : Int64} (X : gX D p l s m args meth c cc nL own) (hd : decode cc pc = .ok (.ladd, 1)) (kk : gJ D p l e R s m args below meth c Q nL cells slots S (pc + 1) lv (.long (x + y) :: rest)) : gJ D p l e R s m args below meth c Q nL cells slots S pc lv (.long y :: .long x :: rest) := fun H locs ls hR hL hl => lv_ladd X.1 X.2.1 hd (kk H locs ls hR hL hl)
theorem g_lsub {x y : Int64} (X : gX D p l s m args meth c cc nL own) (hd : decode cc pc = .ok (.lsub, 1)) (kk : gJ D p l e R s m args below meth c Q nL cells slots S (pc + 1) lv (.long (x - y) :: rest)) : gJ D p l e R s m args below meth c Q nL cells slots S pc lv (.long y :: .long x :: rest) := fun H locs ls hR hL hl => lv_lsub X.1 X.2.1 hd (kk H locs ls hR hL hl)
theorem g_land {x y : Int64} (X : gX D p l s m args meth c cc nL own) (hd : decode cc pc = .ok (.land, 1)) (kk : gJ D p l e R s m args below meth c Q nL cells slots S (pc + 1) lv (.long (x &&& y) :: rest)) : gJ D p l e R s m args below meth c Q nL cells slots S pc lv (.long y :: .long x :: rest) := fun H locs ls hR hL hl => lv_land X.1 X.2.1 hd (kk H locs ls hR hL hl)
theorem g_lor {x y : Int64} (X : gX D p l s m args meth c cc nL own) (hd : decode cc pc = .ok (.lor, 1)) (kk : gJ D p l e R s m args below meth c Q nL cells slots S (pc + 1) lv (.long (x ||| y) :: rest)) : gJ D p l e R s m args below meth c Q nL cells slots S pc lv (.long y :: .long x :: rest) := fun H locs ls hR hL hl => lv_lor X.1 X.2.1 hd (kk H locs ls hR hL hl)
def g_ushr (x y : Int32) : Int32 := (x.toUInt32 >>> (y.toUInt32 &&& Int32.toUInt32 31)).toInt32
def g_lushr' (x : Int64) (y : Int32) : Int64 := (x.toUInt64 >>> (y.toInt64.toUInt64 &&& Int64.toUInt64 63)).toInt64
theorem g_iushr {x y : Int32} (X : gX D p l s m args meth c cc nL own) (hd : decode cc pc = .ok (.iushr, 1)) (kk : gJ D p l e R s m args below meth c Q nL cells slots S (pc + 1) lv (.int (g_ushr x y) :: rest)) : gJ D p l e R s m args below meth c Q nL cells slots S pc lv (.int y :: .int x :: rest) := fun H locs ls hR hL hl => lv_iushr X.1 X.2.1 hd rfl (kk H locs ls hR hL hl)
theorem g_lushr {x : Int64} {y : Int32} (X : gX D p l s m args meth c cc nL own) (hd : decode cc pc = .ok (.lushr, 1)) (kk : gJ D p l e R s m args below meth c Q nL cells slots S (pc + 1) lv (.long (g_lushr' x y) :: rest)) : gJ D p l e R s m args below meth c Q nL cells slots S pc lv (.int y :: .long x :: rest) := fun H locs ls hR hL hl => lv_lushr X.1 X.2.1 hd rfl (kk H locs ls hR hL hl)
theorem g_lshl {x : Int64} {y : Int32} (X : gX D p l s m args meth c cc nL own) (hd : decode cc pc = .ok (.lshl, 1)) (kk : gJ D p l e R s m args below meth c Q nL cells slots S (pc + 1) lv (.long (x <<< (y.toInt64 &&& 63)) :: rest)) : gJ D p l e R s m args below meth c Q nL cells slots S pc lv (.int y :: .long x :: rest) := fun H locs ls hR hL hl => lv_lshl X.1 X.2.1 hd rfl (kk H locs ls hR hL hl)
theorem g_lshr {x : Int64} {y : Int32} (X : gX D p l s m args meth c cc nL own) (hd : decode cc pc = .ok (.lshr, 1)) (kk : gJ D p l e R s m args below meth c Q nL cells slots S (pc + 1) lv (.long (x >>> (y.toInt64 &&& 63)) :: rest)) : gJ D p l e R s m args below meth c Q nL cells slots S pc lv (.int y :: .long x :: rest) := fun H locs ls hR hL hl => lv_lshr X.1 X.2.1 hd rfl (kk H locs ls hR hL hl)
theorem g_i2l {x : Int32} (X : gX D p l s m args meth c cc nL own) (hd : decode cc pc = .ok (.i2l, 1)) (kk : gJ D p l e R s m args below meth c Q nL cells slots S (pc + 1) lv (.long x.toInt64 :: rest)) : gJ D p l e R s m args below meth c Q nL cells slots S pc lv (.int x :: rest) := fun H locs ls hR hL hl => lv_i2l X.1 X.2.1 hd rfl (kk H locs ls hR hL hl)
theorem g_l2i {x : Int64} (X : gX D p l s m args meth c cc nL own) (hd : decode cc pc = .ok (.l2i, 1)) (kk : gJ D p l e R s m args below meth c Q nL cells slots S (pc + 1) lv (.int x.toInt32 :: rest)) : gJ D p l e R s m args below meth c Q nL cells slots S pc lv (.long x :: rest) := fun H locs ls hR hL hl => lv_l2i X.1 X.2.1 hd rfl (kk H locs ls hR hL hl)
theorem g_i2b {x : Int32} (X : gX D p l s m args meth c cc nL own) (hd : decode cc pc = .ok (.i2b, 1)) (kk : gJ D p l e R s m args below meth c Q nL cells slots S (pc + 1) lv (.int x.toInt8.toInt32 :: rest)) : gJ D p l e R s m args below meth c Q nL cells slots S pc lv (.int x :: rest) := fun H locs ls hR hL hl => lv_i2b X.1 X.2.1 hd rfl (kk H locs ls hR hL hl)
theorem g_lcmp {x y : Int64} (X : gX D p l s m args meth c cc nL own) (hd : decode cc pc = .ok (.lcmp, 1)) (kk : gJ D p l e R s m args below meth c Q nL cells slots S (pc + 1) lv (.int (lg_cmp x y) :: rest)) : gJ D p l e R s m args below meth c Q nL cells slots S pc lv (.long y :: .long x :: rest) := fun H locs ls hR hL hl => W.lcmp X.1 X.2.1 hd (kk H locs ls hR hL hl)
theorem g_dup {va : Value} (X : gX D p l s m args meth c cc nL own) (hd : decode cc pc = .ok (.dup, 1)) (h1 : va.category = 1) (kk : gJ D p l e R s m args below meth c Q nL cells slots S (pc + 1) lv (va :: va :: rest)) : gJ D p l e R s m args below meth c Q nL cells slots S pc lv (va :: rest) := fun H locs ls hR hL hl => lv_dup X.1 X.2.1 hd h1 (kk H locs ls hR hL hl)
theorem g_dup2 {va vb : Value} (X : gX D p l s m args meth c cc nL own) (hd : decode cc pc = .ok (.dup2, 1)) (h1 : va.category = 1) (h2 : vb.category = 1) (kk : gJ D p l e R s m args below meth c Q nL cells slots S (pc + 1) lv (va :: vb :: va :: vb :: rest)) : gJ D p l e R s m args below meth c Q nL cells slots S pc lv (va :: vb :: rest) := fun H locs ls hR hL hl => lv_dup2_11 X.1 X.2.1 hd h1 h2 (kk H locs ls hR hL hl)
theorem g_pop {va : Value} (X : gX D p l s m args meth c cc nL own) (hd : decode cc pc = .ok (.pop, 1)) (h1 : va.category = 1) (kk : gJ D p l e R s m args below meth c Q nL cells slots S (pc + 1) lv rest) : gJ D p l e R s m args below meth c Q nL cells slots S pc lv (va :: rest) := fun H locs ls hR hL hl => lv_pop X.1 X.2.1 hd h1 (kk H locs ls hR hL hl)
theorem g_ci (x : Int32) : (Value.int x).category = 1 := rfl
theorem g_cj (x : Int64) : (Value.long x).category = 2 := rfl
theorem g_cr (x : Nat) : (Value.ref x).category = 1 := rfl
theorem g_rfc (r : Option Nat) : (va_rf r).category = 1 := by cases r <;> rfl
theorem g_if_eq {x : Int32} {off : Int} {tgt : Nat} (X : gX D p l s m args meth c cc nL own) (hd : decode cc pc = .ok (.ifCond .eq off, 3)) (ht : (pc : Int) + off = (tgt : Int)) (kt : x = 0 → gJ D p l e R s m args below meth c Q nL cells slots S tgt lv rest) (kf : ¬ x = 0 → gJ D p l e R s m args below meth c Q nL cells slots S (pc + 3) lv rest) : gJ D p l e R s m args below meth c Q nL cells slots S pc lv (.int x :: rest) := fun H locs ls hR hL hl => lv_if_eq X.1 X.2.1 hd ht (fun h => kt h H locs ls hR hL hl) (fun h => kf h H locs ls hR hL hl)
theorem g_icmp_eq {x y : Int32} {off : Int} {tgt : Nat} (X : gX D p l s m args meth c cc nL own) (hd : decode cc pc = .ok (.if_icmp .eq off, 3)) (ht : (pc : Int) + off = (tgt : Int)) (kt : x = y → gJ D p l e R s m args below meth c Q nL cells slots S tgt lv rest) (kf : ¬ x = y → gJ D p l e R s m args below meth c Q nL cells slots S (pc + 3) lv rest) : gJ D p l e R s m args below meth c Q nL cells slots S pc lv (.int y :: .int x :: rest) := fun H locs ls hR hL hl => lv_icmp_eq X.1 X.2.1 hd ht (fun h => kt h H locs ls hR hL hl) (fun h => kf h H locs ls hR hL hl)
theorem g_if_ne {x : Int32} {off : Int} {tgt : Nat} (X : gX D p l s m args meth c cc nL own) (hd : decode cc pc = .ok (.ifCond .ne off, 3)) (ht : (pc : Int) + off = (tgt : Int)) (kt : ¬ x = 0 → gJ D p l e R s m args below meth c Q nL cells slots S tgt lv rest) (kf : x = 0 → gJ D p l e R s m args below meth c Q nL cells slots S (pc + 3) lv rest) : gJ D p l e R s m args below meth c Q nL cells slots S pc lv (.int x :: rest) := fun H locs ls hR hL hl => lv_if_ne X.1 X.2.1 hd ht (fun h => kt h H locs ls hR hL hl) (fun h => kf h H locs ls hR hL hl)
theorem g_icmp_ne {x y : Int32} {off : Int} {tgt : Nat} (X : gX D p l s m args meth c cc nL own) (hd : decode cc pc = .ok (.if_icmp .ne off, 3)) (ht : (pc : Int) + off = (tgt : Int)) (kt : ¬ x = y → gJ D p l e R s m args below meth c Q nL cells slots S tgt lv rest) (kf : x = y → gJ D p l e R s m args below meth c Q nL cells slots S (pc + 3) lv rest) : gJ D p l e R s m args below meth c Q nL cells slots S pc lv (.int y :: .int x :: rest) := fun H locs ls hR hL hl => lv_icmp_ne X.1 X.2.1 hd ht (fun h => kt h H locs ls hR hL hl) (fun h => kf h H locs ls hR hL hl)
theorem g_if_lt {x : Int32} {off : Int} {tgt : Nat} (X : gX D p l s m args meth c cc nL own) (hd : decode cc pc = .ok (.ifCond .lt off, 3)) (ht : (pc : Int) + off = (tgt : Int)) (kt : x < 0 → gJ D p l e R s m args below meth c Q nL cells slots S tgt lv rest) (kf : ¬ x < 0 → gJ D p l e R s m args below meth c Q nL cells slots S (pc + 3) lv rest) : gJ D p l e R s m args below meth c Q nL cells slots S pc lv (.int x :: rest) := fun H locs ls hR hL hl => lv_if_lt X.1 X.2.1 hd ht (fun h => kt h H locs ls hR hL hl) (fun h => kf h H locs ls hR hL hl)
theorem g_icmp_lt {x y : Int32} {off : Int} {tgt : Nat} (X : gX D p l s m args meth c cc nL own) (hd : decode cc pc = .ok (.if_icmp .lt off, 3)) (ht : (pc : Int) + off = (tgt : Int)) (kt : x < y → gJ D p l e R s m args below meth c Q nL cells slots S tgt lv rest) (kf : ¬ x < y → gJ D p l e R s m args below meth c Q nL cells slots S (pc + 3) lv rest) : gJ D p l e R s m args below meth c Q nL cells slots S pc lv (.int y :: .int x :: rest) := fun H locs ls hR hL hl => lv_icmp_lt X.1 X.2.1 hd ht (fun h => kt h H locs ls hR hL hl) (fun h => kf h H locs ls hR hL hl)
theorem g_if_ge {x : Int32} {off : Int} {tgt : Nat} (X : gX D p l s m args meth c cc nL own) (hd : decode cc pc = .ok (.ifCond .ge off, 3)) (ht : (pc : Int) + off = (tgt : Int)) (kt : 0 ≤ x → gJ D p l e R s m args below meth c Q nL cells slots S tgt lv rest) (kf : ¬ 0 ≤ x → gJ D p l e R s m args below meth c Q nL cells slots S (pc + 3) lv rest) : gJ D p l e R s m args below meth c Q nL cells slots S pc lv (.int x :: rest) := fun H locs ls hR hL hl => lv_if_ge X.1 X.2.1 hd ht (fun h => kt h H locs ls hR hL hl) (fun h => kf h H locs ls hR hL hl)
theorem g_icmp_ge {x y : Int32} {off : Int} {tgt : Nat} (X : gX D p l s m args meth c cc nL own) (hd : decode cc pc = .ok (.if_icmp .ge off, 3)) (ht : (pc : Int) + off = (tgt : Int)) (kt : y ≤ x → gJ D p l e R s m args below meth c Q nL cells slots S tgt lv rest) (kf : ¬ y ≤ x → gJ D p l e R s m args below meth c Q nL cells slots S (pc + 3) lv rest) : gJ D p l e R s m args below meth c Q nL cells slots S pc lv (.int y :: .int x :: rest) := fun H locs ls hR hL hl => lv_icmp_ge X.1 X.2.1 hd ht (fun h => kt h H locs ls hR hL hl) (fun h => kf h H locs ls hR hL hl)
theorem g_if_gt {x : Int32} {off : Int} {tgt : Nat} (X : gX D p l s m args meth c cc nL own) (hd : decode cc pc = .ok (.ifCond .gt off, 3)) (ht : (pc : Int) + off = (tgt : Int)) (kt : 0 < x → gJ D p l e R s m args below meth c Q nL cells slots S tgt lv rest) (kf : ¬ 0 < x → gJ D p l e R s m args below meth c Q nL cells slots S (pc + 3) lv rest) : gJ D p l e R s m args below meth c Q nL cells slots S pc lv (.int x :: rest) := fun H locs ls hR hL hl => lv_if_gt X.1 X.2.1 hd ht (fun h => kt h H locs ls hR hL hl) (fun h => kf h H locs ls hR hL hl)
theorem g_icmp_gt {x y : Int32} {off : Int} {tgt : Nat} (X : gX D p l s m args meth c cc nL own) (hd : decode cc pc = .ok (.if_icmp .gt off, 3)) (ht : (pc : Int) + off = (tgt : Int)) (kt : y < x → gJ D p l e R s m args below meth c Q nL cells slots S tgt lv rest) (kf : ¬ y < x → gJ D p l e R s m args below meth c Q nL cells slots S (pc + 3) lv rest) : gJ D p l e R s m args below meth c Q nL cells slots S pc lv (.int y :: .int x :: rest) := fun H locs ls hR hL hl => lv_icmp_gt X.1 X.2.1 hd ht (fun h => kt h H locs ls hR hL hl) (fun h => kf h H locs ls hR hL hl)
theorem g_if_le {x : Int32} {off : Int} {tgt : Nat} (X : gX D p l s m args meth c cc nL own) (hd : decode cc pc = .ok (.ifCond .le off, 3)) (ht : (pc : Int) + off = (tgt : Int)) (kt : x ≤ 0 → gJ D p l e R s m args below meth c Q nL cells slots S tgt lv rest) (kf : ¬ x ≤ 0 → gJ D p l e R s m args below meth c Q nL cells slots S (pc + 3) lv rest) : gJ D p l e R s m args below meth c Q nL cells slots S pc lv (.int x :: rest) := fun H locs ls hR hL hl => lv_if_le X.1 X.2.1 hd ht (fun h => kt h H locs ls hR hL hl) (fun h => kf h H locs ls hR hL hl)
theorem g_icmp_le {x y : Int32} {off : Int} {tgt : Nat} (X : gX D p l s m args meth c cc nL own) (hd : decode cc pc = .ok (.if_icmp .le off, 3)) (ht : (pc : Int) + off = (tgt : Int)) (kt : x ≤ y → gJ D p l e R s m args below meth c Q nL cells slots S tgt lv rest) (kf : ¬ x ≤ y → gJ D p l e R s m args below meth c Q nL cells slots S (pc + 3) lv rest) : gJ D p l e R s m args below meth c Q nL cells slots S pc lv (.int y :: .int x :: rest) := fun H locs ls hR hL hl => lv_icmp_le X.1 X.2.1 hd ht (fun h => kt h H locs ls hR hL hl) (fun h => kf h H locs ls hR hL hl)
theorem g_goto {off : Int} {tgt : Nat} (X : gX D p l s m args meth c cc nL own) (hd : decode cc pc = .ok (.goto off, 3)) (ht : (pc : Int) + off = (tgt : Int)) (kk : gJ D p l e R s m args below meth c Q nL cells slots S tgt lv rest) : gJ D p l e R s m args below meth c Q nL cells slots S pc lv rest := fun H locs ls hR hL hl => lv_goto X.1 X.2.1 hd ht (kk H locs ls hR hL hl)
theorem g_ifnull {r : Option Nat} {off : Int} {tgt : Nat} (X : gX D p l s m args meth c cc nL own) (hd : decode cc pc = .ok (.ifnull off, 3)) (ht : (pc : Int) + off = (tgt : Int)) (kn : r = none → gJ D p l e R s m args below meth c Q nL cells slots S tgt lv rest) (ks : ∀ a, r = some a → gJ D p l e R s m args below meth c Q nL cells slots S (pc + 3) lv rest) : gJ D p l e R s m args below meth c Q nL cells slots S pc lv (va_rf r :: rest) := by
  intro H locs ls hR hL hl
  cases r with
  | none => exact lv_ifnullN X.1 X.2.1 hd ht (kn rfl H locs ls hR hL hl)
  | some a => exact lv_ifnull X.1 X.2.1 hd (ks a rfl H locs ls hR hL hl)
theorem g_ifnonnull {r : Option Nat} {off : Int} {tgt : Nat} (X : gX D p l s m args meth c cc nL own) (hd : decode cc pc = .ok (.ifnonnull off, 3)) (ht : (pc : Int) + off = (tgt : Int)) (kn : r = none → gJ D p l e R s m args below meth c Q nL cells slots S (pc + 3) lv rest) (ks : ∀ a, r = some a → gJ D p l e R s m args below meth c Q nL cells slots S tgt lv rest) : gJ D p l e R s m args below meth c Q nL cells slots S pc lv (va_rf r :: rest) := by
  intro H locs ls hR hL hl
  cases r with
  | none => exact lv_ifnonnullN X.1 X.2.1 hd (kn rfl H locs ls hR hL hl)
  | some a => exact lv_ifnonnull X.1 X.2.1 hd ht (ks a rfl H locs ls hR hL hl)
theorem g_tableIn {dflt lo hi : Int} {offs : Array Int} {len : Nat} {x : Int32} {off : Int} {tgt : Nat} (X : gX D p l s m args meth c cc nL own) (hd : decode cc pc = .ok (.tableswitch dflt lo hi offs, len)) (h1 : ¬ x.toInt < lo) (h2 : ¬ hi < x.toInt) (ho : offs[(x.toInt - lo).toNat]? = some off) (ht : (pc : Int) + off = (tgt : Int)) (kk : gJ D p l e R s m args below meth c Q nL cells slots S tgt lv rest) : gJ D p l e R s m args below meth c Q nL cells slots S pc lv (.int x :: rest) := fun H locs ls hR hL hl => lv_tableIn X.1 X.2.1 hd h1 h2 ho ht (kk H locs ls hR hL hl)
theorem g_tableOut {dflt lo hi : Int} {offs : Array Int} {len : Nat} {x : Int32} {tgt : Nat} (X : gX D p l s m args meth c cc nL own) (hd : decode cc pc = .ok (.tableswitch dflt lo hi offs, len)) (h : x.toInt < lo ∨ hi < x.toInt) (ht : (pc : Int) + dflt = (tgt : Int)) (kk : gJ D p l e R s m args below meth c Q nL cells slots S tgt lv rest) : gJ D p l e R s m args below meth c Q nL cells slots S pc lv (.int x :: rest) := fun H locs ls hR hL hl => lv_tableOut X.1 X.2.1 hd h ht (kk H locs ls hR hL hl)
theorem g_ldc {index : Nat} {v : Int32} (X : gX D p l s m args meth c cc nL own) (hw : Cond.constant own index v ∈ TT) (hd : decode cc pc = .ok (.ldc index, 2)) (kk : gJ D p l e R s m args below meth c Q nL cells slots S (pc + 2) lv (.int v :: rest)) : gJ D p l e R s m args below meth c Q nL cells slots S pc lv rest := fun H locs ls hR hL hl => lv_ldc X.1 X.2.1 X.2.2.2.1 (X.2.2.2.2.1 _ hw) hd (kk H locs ls hR hL hl)
theorem g_ldcw {index : Nat} {v : Int32} (X : gX D p l s m args meth c cc nL own) (hw : Cond.constant own index v ∈ TT) (hd : decode cc pc = .ok (.ldc_w index, 3)) (kk : gJ D p l e R s m args below meth c Q nL cells slots S (pc + 3) lv (.int v :: rest)) : gJ D p l e R s m args below meth c Q nL cells slots S pc lv rest := fun H locs ls hR hL hl => lv_ldcw X.1 X.2.1 X.2.2.2.1 (X.2.2.2.2.1 _ hw) hd (kk H locs ls hR hL hl)
theorem g_ldc2 {index : Nat} {v : Int64} (X : gX D p l s m args meth c cc nL own) (hw : Cond.constantLong own index v ∈ TT) (hd : decode cc pc = .ok (.ldc2_w index, 3)) (kk : gJ D p l e R s m args below meth c Q nL cells slots S (pc + 3) lv (.long v :: rest)) : gJ D p l e R s m args below meth c Q nL cells slots S pc lv rest := fun H locs ls hR hL hl => lv_ldc2 X.1 X.2.1 X.2.2.2.1 (X.2.2.2.2.1 _ hw) hd (kk H locs ls hR hL hl)
/-! the heap -/
theorem gX.K (X : gX D p l s m args meth c cc nL own) : gKn D s := X.2.2.2.2.2.2.1
theorem gX.ts (X : gX D p l s m args meth c cc nL own) : ∀ w ∈ TT, w.before args s = true := X.2.2.2.2.1
theorem gX.ow (X : gX D p l s m args meth c cc nL own) : s.vm.findClass own = some m.cls := X.2.2.2.1
theorem gX.ml (X : gX D p l s m args meth c cc nL own) : c.maxLocals = nL := X.2.2.1
theorem gX.nolocks (X : gX D p l s m args meth c cc nL own) : meth.locks = false := X.2.2.2.2.2.1
theorem gX.fix (X : gX D p l s m args meth c cc nL own) : CallFix p m c cc nL s args TT own := ⟨X.1, X.2.1, X.ml, X.ow, X.ts⟩
theorem g_Rep.ob {H : Heap} (hR : g_Rep D S H) {a ci : Nat} (hK : gK S a = ci) (hci : ci < 9) {C : String} {T : u_T} {N : Nat} (hc : vwCl[ci]? = some (C, T, N)) : t_OB a (dC D ci) N (dI D ci) H (g_V S a) := by
  obtain ⟨q, g1, g2⟩ := (hR.2.2.2 a (by omega)).2.1 (by omega)
  rw [hK] at g1 g2
  cases g1.symm.trans hc
  exact g2
theorem g_Rep.ar {H : Heap} (hR : g_Rep D S H) {a kd : Nat} (hK : gK S a = kd) (h1 : 9 ≤ kd) (h2 : kd < 16) : H[a]? = some (arrV (dA D kd) (gN S a) (g_V S a)) := by
  have h := (hR.2.2.2 a (by omega)).2.2.1 (by omega)
  unfold g_ar at h
  rw [hK] at h
  exact h
theorem g_get {ci k index : Nat} {C : String} {T : u_T} {N : Nat} (X : gX D p l s m args meth c cc nL own) (hc : vwCl[ci]? = some (C, T, N)) (hin : ∀ w ∈ u_ws C T N, w ∈ TT) (hk : k < N) (hlk : Cond.fieldLink own index (T k).1 (T k).2.1 (T k).2.2.1 ∈ TT) {r : Option Nat} {a : Nat} (hr : r = some a) (hK : gK S a = ci) (hci : ci < 9) {v : Value} (hv : g_v (g_ty ci k) (gI S a k) (gL S a k) (gR S a k) = v) (hd : decode cc pc = .ok (.getfield index, 3)) (kk : gJ D p l e R s m args below meth c Q nL cells slots S (pc + 3) lv (v :: rest)) : gJ D p l e R s m args below meth c Q nL cells slots S pc lv (va_rf r :: rest) := by
  intro H locs ls hR hL hl
  subst hr
  obtain ⟨cell, q1, q2, q3, q4⟩ := hR.ob hK hci hc
  obtain ⟨hS, hfc, kC, hkC, hkind⟩ := X.K.1.1 ci _ hc
  obtain ⟨cf, kf, fi, f, hi, hsl⟩ := hS k hk
  refine W.getf X.1 X.2.1 X.ow (X.ts _ hlk) hi (u_facts hfc hkC (u_lays X.ts hin hk) hi).1 q1 (by rw [q3]; exact fun h => by cases h) (v := v) ?_ rfl rfl hd (kk H locs ls hR hL hl)
  rw [hsl, q4 k hk]
  unfold g_V
  rw [hK, hv]
/-- one place of one cell gets v -/
def gUp (S S' : gS) (a k : Nat) (v : Value) : Prop := (gK S' = gK S ∧ gN S' = gN S ∧ gZ S' = gZ S) ∧ (∀ j, g_V S' a j = updV (g_V S a) k v j) ∧ (∀ b, b ≠ a → g_V S' b = g_V S b ∧ gI S' b = gI S b) ∧ (gK S a = 9 → ∀ j, fits .byte (.int (gI S a j)) = true → fits .byte (.int (gI S' a j)) = true)
theorem gUp.I {ci a k : Nat} {x : Int32} (hK : gK S a = ci) (ht : ∀ y z, g_v (g_ty ci k) x y z = .int x) (hb : ci = 9 → fits .byte (.int x) = true) : gUp S (gsI S a k x) a k (.int x) := by
  refine ⟨⟨rfl, rfl, rfl⟩, fun j => ?_, fun b hb => ?_, fun h9 j hj => ?_⟩
  · show g_v (g_ty (gK S a) j) (va_up (gI S) a (va_up (gI S a) k x) a j) (gL S a j) (gR S a j) = _
    by_cases h : j = k
    · subst h
      rw [hK]
      simp [va_up, updV, ht]
    · simp [va_up, updV, h, g_V]
  · have e : gI (gsI S a k x) b = gI S b := by show va_up (gI S) a _ b = _; simp [va_up, hb]
    refine ⟨?_, e⟩
    funext j
    show g_v (g_ty (gK S b) j) (gI (gsI S a k x) b j) (gL S b j) (gR S b j) = _
    rw [e]
    rfl
  · show fits .byte (.int (va_up (gI S) a (va_up (gI S a) k x) a j)) = true
    by_cases h : j = k
    · subst h
      simp only [va_up, if_true]
      exact hb (by rw [← hK]; exact h9)
    · simp only [va_up, if_true, if_neg h]
      exact hj
theorem gUp.L {ci a k : Nat} {x : Int64} (hK : gK S a = ci) (ht : ∀ y z, g_v (g_ty ci k) y x z = .long x) : gUp S (gsL S a k x) a k (.long x) := by
  refine ⟨⟨rfl, rfl, rfl⟩, fun j => ?_, fun b hb => ?_, fun _ j hj => hj⟩
  · show g_v (g_ty (gK S a) j) (gI S a j) (va_up (gL S) a (va_up (gL S a) k x) a j) (gR S a j) = _
    by_cases h : j = k
    · subst h
      rw [hK]
      simp [va_up, updV, ht]
    · simp [va_up, updV, h, g_V]
  · refine ⟨?_, rfl⟩
    funext j
    show g_v (g_ty (gK S b) j) (gI S b j) (va_up (gL S) a _ b j) (gR S b j) = _
    simp [va_up, hb, g_V]
theorem gUp.A {ci a k : Nat} {x : Option Nat} (hK : gK S a = ci) (ht : ∀ y z, g_v (g_ty ci k) y z x = va_rf x) : gUp S (gsR S a k x) a k (va_rf x) := by
  refine ⟨⟨rfl, rfl, rfl⟩, fun j => ?_, fun b hb => ?_, fun _ j hj => hj⟩
  · show g_v (g_ty (gK S a) j) (gI S a j) (gL S a j) (va_up (gR S) a (va_up (gR S a) k x) a j) = _
    by_cases h : j = k
    · subst h
      rw [hK]
      simp [va_up, updV, ht]
    · simp [va_up, updV, h, g_V]
  · refine ⟨?_, rfl⟩
    funext j
    show g_v (g_ty (gK S b) j) (gI S b j) (gL S b j) (va_up (gR S) a _ b j) = _
    simp [va_up, hb, g_V]
theorem g_Rep.put {H H1 : Heap} {a ci k : Nat} {v : Value} {cell : Cell} (hR : g_Rep D S H) (hU : gUp S S1 a k v) (hK : gK S a = ci) (hci : ci < 9) {C : String} {T : u_T} {N : Nat} (hc : vwCl[ci]? = some (C, T, N)) (hk : k < N) (hap : ∀ x y, x < N → y < N → x ≠ y → dI D ci x ≠ dI D ci y) (q1 : H[a]? = some cell) (q2 : cell.cls = dC D ci) (q3 : cell.vm = .none) (q4 : ∀ j, j < N → cell.slots[dI D ci j]? = some (g_V S a j)) (e1 : H1[a]? = some (cell.setSlot (dI D ci k) v)) (e2 : H1.size = H.size) (e3 : ∀ q, q ≠ a → H1[q]? = H[q]?) : g_Rep D S1 H1 := by
  obtain ⟨⟨u1, u2, u3⟩, u4, u5, u6⟩ := hU
  refine hR.set (a := a) (by omega) u1 u2 u3 u5 e2 e3 ⟨fun _ => ⟨(C, T, N), by rw [u1, hK]; exact hc, ?_⟩, fun h => by rw [u1, hK] at h; omega, fun h => by rw [u1, hK] at h; omega⟩
  rw [u1, hK]
  exact ⟨_, e1, q2, q3, fun j hj => by rw [u4 j]; exact t_set q4 hap hk v j hj⟩
theorem g_put {ci k index : Nat} {C : String} {T : u_T} {N : Nat} (X : gX D p l s m args meth c cc nL own) (hc : vwCl[ci]? = some (C, T, N)) (hin : ∀ w ∈ u_ws C T N, w ∈ TT) (ty0 : Nat → FieldType) (hty : ∀ k, k < N → parseFieldDescriptor (T k).2.2.1 = some (ty0 k)) (hnm : ∀ a, a < N → ∀ b, b < N → a ≠ b → (T a).2.1 ≠ (T b).2.1) (hk : k < N) (hlk : Cond.fieldLink own index (T k).1 (T k).2.1 (T k).2.2.1 ∈ TT) (hfin : (T k).2.2.2 = false) {r : Option Nat} {a : Nat} (hr : r = some a) (hK : gK S a = ci) (hci : ci < 9) {v : Value} (hU : gUp S S1 a k v) (hn : narrow (ty0 k) v = v) (hfit : fits (ty0 k) v = true) (hd : decode cc pc = .ok (.putfield index, 3)) (kk : gJ D p l e R s m args below meth c Q nL cells slots S1 (pc + 3) lv rest) : gJ D p l e R s m args below meth c Q nL cells slots S pc lv (v :: va_rf r :: rest) := by
  intro H locs ls hR hL hl
  subst hr
  have hap := va_apart (own := own) X.ts hin ty0 hty hnm X.K.1 hc
  obtain ⟨cell, q1, q2, q3, q4⟩ := hR.ob hK hci hc
  obtain ⟨hS, hfc, kC, hkC, hkind⟩ := X.K.1.1 ci _ hc
  obtain ⟨cf, kf, fi, f, hi, hsl⟩ := hS k hk
  have hlay := X.ts _ (hin _ (u_in_lay hk))
  unfold u_lay at hlay
  rw [if_neg (by rw [hfin]; decide)] at hlay
  have hst := (u_facts hfc hkC (u_lays X.ts hin hk) hi).1
  have h6 := u_store hfc hkC hkind hlay hi (hty k hk) hn hfit
  refine W.putK X.1 X.2.1 (f := f) ⟨X.ow, X.ts _ hlk, ⟨_, _, _, hi⟩, hst⟩ (by rw [q2]; exact h6) q1 q3 (by rw [hsl]; exact k2_hasslot (q4 k hk)) rfl rfl hd fun H' e1 e2 e3 => ?_
  rw [hsl] at e1
  have hb := (hR.2.2.2 a (by omega)).1
  exact kk H' _ ls (hR.put hU hK hci hc hk hap q1 q2 q3 q4 e1 e2 e3) (fun q hq => by
    rcases List.mem_append.mp hq with h | h
    · exact hL q h
    · rw [List.mem_singleton.mp h]; exact hb) hl
theorem g_putF {ci k index : Nat} {C : String} {T : u_T} {N : Nat} (X : gX D p l s m args meth c cc nL own) (hinit : meth.name = "<init>") (hc : vwCl[ci]? = some (C, T, N)) (hin : ∀ w ∈ u_ws C T N, w ∈ TT) (ty0 : Nat → FieldType) (hty : ∀ k, k < N → parseFieldDescriptor (T k).2.2.1 = some (ty0 k)) (hnm : ∀ a, a < N → ∀ b, b < N → a ≠ b → (T a).2.1 ≠ (T b).2.1) (hk : k < N) (hlk : Cond.fieldLink own index (T k).1 (T k).2.1 (T k).2.2.1 ∈ TT) (hfin : (T k).2.2.2 = true) (hdecl : (T k).1 = own) {r : Option Nat} {a : Nat} (hr : r = some a) (hK : gK S a = ci) (hci : ci < 9) {v : Value} (hU : gUp S S1 a k v) (hn : narrow (ty0 k) v = v) (hfit : fits (ty0 k) v = true) (hd : decode cc pc = .ok (.putfield index, 3)) (kk : gJ D p l e R s m args below meth c Q nL cells slots S1 (pc + 3) lv rest) : gJ D p l e R s m args below meth c Q nL cells slots S pc lv (v :: va_rf r :: rest) := by
  intro H locs ls hR hL hl
  subst hr
  have hap := va_apart (own := own) X.ts hin ty0 hty hnm X.K.1 hc
  obtain ⟨cell, q1, q2, q3, q4⟩ := hR.ob hK hci hc
  obtain ⟨hS, hfc, kC, hkC, hkind⟩ := X.K.1.1 ci _ hc
  obtain ⟨cf, kf, fi, f, hi, hsl⟩ := hS k hk
  have hlay := X.ts _ (hin _ (u_in_lay hk))
  unfold u_lay at hlay
  rw [if_pos hfin] at hlay
  have hst := (u_facts hfc hkC (u_lays X.ts hin hk) hi).1
  have hcf : m.cls = cf := by
    obtain ⟨_, _, c', _, _, _, -, -, hf', -, -, -, hown2, -⟩ := Cond.laysFinal_spec hlay
    have e1 : c' = cf := by have := hi.symm.trans hf'; simp at this; exact this.1.symm
    rw [hdecl] at hown2
    rw [← e1]; exact Option.some.inj (X.ow.symm.trans hown2)
  have h6 := u_fits hfc hkC hkind (Or.inr hlay) hi (hty k hk) hn hfit
  refine W.putFinK X.1 X.2.1 X.ow (X.ts _ hlk) hi hst hcf hinit (by rw [q2]; exact h6) q1 q3 (by rw [hsl]; exact k2_hasslot (q4 k hk)) rfl rfl hd fun H' e1 e2 e3 => ?_
  rw [hsl] at e1
  have hb := (hR.2.2.2 a (by omega)).1
  exact kk H' _ ls (hR.put hU hK hci hc hk hap q1 q2 q3 q4 e1 e2 e3) (fun q hq => by
    rcases List.mem_append.mp hq with h | h
    · exact hL q h
    · rw [List.mem_singleton.mp h]; exact hb) hl
theorem g_fI {ci k index : Nat} {C : String} {T : u_T} {N : Nat} {x : Int32} {r : Option Nat} (X : gX D p l s m args meth c cc nL own) (hc : vwCl[ci]? = some (C, T, N)) (hin : ∀ w ∈ u_ws C T N, w ∈ TT) (hk : k < N) (hlk : Cond.fieldLink own index (T k).1 (T k).2.1 (T k).2.2.1 ∈ TT) (hci : ci < 9) (ht : ∀ x y z, g_v (g_ty ci k) x y z = .int x) (hx : fgI S ci k r = some x) (hd : decode cc pc = .ok (.getfield index, 3)) (kk : gJ D p l e R s m args below meth c Q nL cells slots S (pc + 3) lv (.int x :: rest)) : gJ D p l e R s m args below meth c Q nL cells slots S pc lv (va_rf r :: rest) := by
  obtain ⟨a, hr, hK, rfl⟩ := fgI_s hx
  exact g_get X hc hin hk hlk hr hK hci (ht _ _ _) hd kk
theorem g_fL {ci k index : Nat} {C : String} {T : u_T} {N : Nat} {x : Int64} {r : Option Nat} (X : gX D p l s m args meth c cc nL own) (hc : vwCl[ci]? = some (C, T, N)) (hin : ∀ w ∈ u_ws C T N, w ∈ TT) (hk : k < N) (hlk : Cond.fieldLink own index (T k).1 (T k).2.1 (T k).2.2.1 ∈ TT) (hci : ci < 9) (ht : ∀ x y z, g_v (g_ty ci k) x y z = .long y) (hx : fgL S ci k r = some x) (hd : decode cc pc = .ok (.getfield index, 3)) (kk : gJ D p l e R s m args below meth c Q nL cells slots S (pc + 3) lv (.long x :: rest)) : gJ D p l e R s m args below meth c Q nL cells slots S pc lv (va_rf r :: rest) := by
  obtain ⟨a, hr, hK, rfl⟩ := fgL_s hx
  exact g_get X hc hin hk hlk hr hK hci (ht _ _ _) hd kk
theorem g_fR {ci k index : Nat} {C : String} {T : u_T} {N : Nat} {x : Option Nat} {r : Option Nat} (X : gX D p l s m args meth c cc nL own) (hc : vwCl[ci]? = some (C, T, N)) (hin : ∀ w ∈ u_ws C T N, w ∈ TT) (hk : k < N) (hlk : Cond.fieldLink own index (T k).1 (T k).2.1 (T k).2.2.1 ∈ TT) (hci : ci < 9) (ht : ∀ x y z, g_v (g_ty ci k) x y z = va_rf z) (hx : fgR S ci k r = some x) (hd : decode cc pc = .ok (.getfield index, 3)) (kk : gJ D p l e R s m args below meth c Q nL cells slots S (pc + 3) lv (va_rf x :: rest)) : gJ D p l e R s m args below meth c Q nL cells slots S pc lv (va_rf r :: rest) := by
  obtain ⟨a, hr, hK, rfl⟩ := fgR_s hx
  exact g_get X hc hin hk hlk hr hK hci (ht _ _ _) hd kk
theorem g_rffo {C : String} (r : Option Nat) : narrow (.object C) (va_rf r) = va_rf r ∧ fits (.object C) (va_rf r) = true := by cases r <;> exact ⟨rfl, rfl⟩
theorem g_rffa {t : FieldType} (r : Option Nat) : narrow (.array t) (va_rf r) = va_rf r ∧ fits (.array t) (va_rf r) = true := by cases r <;> exact ⟨rfl, rfl⟩
theorem g_pI {ci k index : Nat} {C : String} {T : u_T} {N : Nat} {x : Int32} {r : Option Nat} (X : gX D p l s m args meth c cc nL own) (hc : vwCl[ci]? = some (C, T, N)) (hin : ∀ w ∈ u_ws C T N, w ∈ TT) (ty0 : Nat → FieldType) (hty : ∀ k, k < N → parseFieldDescriptor (T k).2.2.1 = some (ty0 k)) (hnm : ∀ a, a < N → ∀ b, b < N → a ≠ b → (T a).2.1 ≠ (T b).2.1) (hk : k < N) (hlk : Cond.fieldLink own index (T k).1 (T k).2.1 (T k).2.2.1 ∈ TT) (hfin : (T k).2.2.2 = false) (hci : ci < 9) (ht : ∀ x y z, g_v (g_ty ci k) x y z = .int x) (hi : ty0 k = .int) (hx : fpI S ci k r x = some S1) (hd : decode cc pc = .ok (.putfield index, 3)) (kk : gJ D p l e R s m args below meth c Q nL cells slots S1 (pc + 3) lv rest) : gJ D p l e R s m args below meth c Q nL cells slots S pc lv (.int x :: va_rf r :: rest) := by
  obtain ⟨a, hr, hK, rfl⟩ := fpI_s hx
  exact g_put X hc hin ty0 hty hnm hk hlk hfin hr hK hci (gUp.I hK (fun _ _ => ht _ _ _) (fun h => by omega)) (by rw [hi]; rfl) (by rw [hi]; rfl) hd kk
theorem g_pZ {ci k index : Nat} {C : String} {T : u_T} {N : Nat} {x : Int32} {r : Option Nat} (X : gX D p l s m args meth c cc nL own) (hc : vwCl[ci]? = some (C, T, N)) (hin : ∀ w ∈ u_ws C T N, w ∈ TT) (ty0 : Nat → FieldType) (hty : ∀ k, k < N → parseFieldDescriptor (T k).2.2.1 = some (ty0 k)) (hnm : ∀ a, a < N → ∀ b, b < N → a ≠ b → (T a).2.1 ≠ (T b).2.1) (hk : k < N) (hlk : Cond.fieldLink own index (T k).1 (T k).2.1 (T k).2.2.1 ∈ TT) (hfin : (T k).2.2.2 = false) (hci : ci < 9) (ht : ∀ x y z, g_v (g_ty ci k) x y z = .int x) (hi : ty0 k = .boolean) (hx : fpZ S ci k r x = some S1) (hd : decode cc pc = .ok (.putfield index, 3)) (kk : gJ D p l e R s m args below meth c Q nL cells slots S1 (pc + 3) lv rest) : gJ D p l e R s m args below meth c Q nL cells slots S pc lv (.int x :: va_rf r :: rest) := by
  obtain ⟨a, hr, hK, h01, rfl⟩ := fpZ_s hx
  exact g_put X hc hin ty0 hty hnm hk hlk hfin hr hK hci (gUp.I hK (fun _ _ => ht _ _ _) (fun h => by omega)) (by rw [hi]; rcases h01 with h | h <;> subst h <;> rfl) (by rw [hi]; rcases h01 with h | h <;> subst h <;> rfl) hd kk
theorem g_pL {ci k index : Nat} {C : String} {T : u_T} {N : Nat} {x : Int64} {r : Option Nat} (X : gX D p l s m args meth c cc nL own) (hc : vwCl[ci]? = some (C, T, N)) (hin : ∀ w ∈ u_ws C T N, w ∈ TT) (ty0 : Nat → FieldType) (hty : ∀ k, k < N → parseFieldDescriptor (T k).2.2.1 = some (ty0 k)) (hnm : ∀ a, a < N → ∀ b, b < N → a ≠ b → (T a).2.1 ≠ (T b).2.1) (hk : k < N) (hlk : Cond.fieldLink own index (T k).1 (T k).2.1 (T k).2.2.1 ∈ TT) (hfin : (T k).2.2.2 = false) (hci : ci < 9) (ht : ∀ x y z, g_v (g_ty ci k) x y z = .long y) (hi : ty0 k = .long) (hx : fpL S ci k r x = some S1) (hd : decode cc pc = .ok (.putfield index, 3)) (kk : gJ D p l e R s m args below meth c Q nL cells slots S1 (pc + 3) lv rest) : gJ D p l e R s m args below meth c Q nL cells slots S pc lv (.long x :: va_rf r :: rest) := by
  obtain ⟨a, hr, hK, rfl⟩ := fpL_s hx
  exact g_put X hc hin ty0 hty hnm hk hlk hfin hr hK hci (gUp.L hK (fun _ _ => ht _ _ _)) (by rw [hi]; rfl) (by rw [hi]; rfl) hd kk
theorem g_pR {ci k index : Nat} {C C2 : String} {T : u_T} {N : Nat} {x r : Option Nat} (X : gX D p l s m args meth c cc nL own) (hc : vwCl[ci]? = some (C, T, N)) (hin : ∀ w ∈ u_ws C T N, w ∈ TT) (ty0 : Nat → FieldType) (hty : ∀ k, k < N → parseFieldDescriptor (T k).2.2.1 = some (ty0 k)) (hnm : ∀ a, a < N → ∀ b, b < N → a ≠ b → (T a).2.1 ≠ (T b).2.1) (hk : k < N) (hlk : Cond.fieldLink own index (T k).1 (T k).2.1 (T k).2.2.1 ∈ TT) (hfin : (T k).2.2.2 = false) (hci : ci < 9) (ht : ∀ x y z, g_v (g_ty ci k) x y z = va_rf z) (hi : ty0 k = .object C2) (hx : fpR S ci k r x = some S1) (hd : decode cc pc = .ok (.putfield index, 3)) (kk : gJ D p l e R s m args below meth c Q nL cells slots S1 (pc + 3) lv rest) : gJ D p l e R s m args below meth c Q nL cells slots S pc lv (va_rf x :: va_rf r :: rest) := by
  obtain ⟨a, hr, hK, rfl⟩ := fpR_s hx
  exact g_put X hc hin ty0 hty hnm hk hlk hfin hr hK hci (gUp.A hK (fun _ _ => ht _ _ _)) (by rw [hi]; exact (g_rffo x).1) (by rw [hi]; exact (g_rffo x).2) hd kk
theorem g_pFo {ci k index : Nat} {C C2 : String} {T : u_T} {N : Nat} {x r : Option Nat} (X : gX D p l s m args meth c cc nL own) (hinit : meth.name = "<init>") (hc : vwCl[ci]? = some (C, T, N)) (hin : ∀ w ∈ u_ws C T N, w ∈ TT) (ty0 : Nat → FieldType) (hty : ∀ k, k < N → parseFieldDescriptor (T k).2.2.1 = some (ty0 k)) (hnm : ∀ a, a < N → ∀ b, b < N → a ≠ b → (T a).2.1 ≠ (T b).2.1) (hk : k < N) (hlk : Cond.fieldLink own index (T k).1 (T k).2.1 (T k).2.2.1 ∈ TT) (hfin : (T k).2.2.2 = true) (hdecl : (T k).1 = own) (hci : ci < 9) (ht : ∀ x y z, g_v (g_ty ci k) x y z = va_rf z) (hi : ty0 k = .object C2) (hx : fpR S ci k r x = some S1) (hd : decode cc pc = .ok (.putfield index, 3)) (kk : gJ D p l e R s m args below meth c Q nL cells slots S1 (pc + 3) lv rest) : gJ D p l e R s m args below meth c Q nL cells slots S pc lv (va_rf x :: va_rf r :: rest) := by
  obtain ⟨a, hr, hK, rfl⟩ := fpR_s hx
  exact g_putF X hinit hc hin ty0 hty hnm hk hlk hfin hdecl hr hK hci (gUp.A hK (fun _ _ => ht _ _ _)) (by rw [hi]; exact (g_rffo x).1) (by rw [hi]; exact (g_rffo x).2) hd kk
theorem g_pFa {ci k index : Nat} {C : String} {t2 : FieldType} {T : u_T} {N : Nat} {x r : Option Nat} (X : gX D p l s m args meth c cc nL own) (hinit : meth.name = "<init>") (hc : vwCl[ci]? = some (C, T, N)) (hin : ∀ w ∈ u_ws C T N, w ∈ TT) (ty0 : Nat → FieldType) (hty : ∀ k, k < N → parseFieldDescriptor (T k).2.2.1 = some (ty0 k)) (hnm : ∀ a, a < N → ∀ b, b < N → a ≠ b → (T a).2.1 ≠ (T b).2.1) (hk : k < N) (hlk : Cond.fieldLink own index (T k).1 (T k).2.1 (T k).2.2.1 ∈ TT) (hfin : (T k).2.2.2 = true) (hdecl : (T k).1 = own) (hci : ci < 9) (ht : ∀ x y z, g_v (g_ty ci k) x y z = va_rf z) (hi : ty0 k = .array t2) (hx : fpR S ci k r x = some S1) (hd : decode cc pc = .ok (.putfield index, 3)) (kk : gJ D p l e R s m args below meth c Q nL cells slots S1 (pc + 3) lv rest) : gJ D p l e R s m args below meth c Q nL cells slots S pc lv (va_rf x :: va_rf r :: rest) := by
  obtain ⟨a, hr, hK, rfl⟩ := fpR_s hx
  exact g_putF X hinit hc hin ty0 hty hnm hk hlk hfin hdecl hr hK hci (gUp.A hK (fun _ _ => ht _ _ _)) (by rw [hi]; exact (g_rffa x).1) (by rw [hi]; exact (g_rffa x).2) hd kk
theorem g_sub {lv' : List (Nat × Value)} {st : List Value} (ks : List Nat) (h : lv_pick lv ks = lv') (kk : gJ D p l e R s m args below meth c Q nL cells slots S pc lv' st) : gJ D p l e R s m args below meth c Q nL cells slots S pc lv st := fun H locs ls hR hL hl => kk H locs ls hR hL (lv_sub hl ks h)
theorem g_wid {k n : Nat} {st : List Value} (h1 : cells ≤ k) (h2 : slots ≤ n) (kk : gJ D p l e R s m args below meth c Q nL k n S pc lv st) : gJ D p l e R s m args below meth c Q nL cells slots S pc lv st := fun H locs ls hR hL hl => W.widen h1 h2 (kk H locs ls hR hL hl)

theorem g_iald {r : Option Nat} {i : Int32} {x : Int32} (X : gX D p l s m args meth c cc nL own) (hx : fI S 10 r i = some x) (hd : decode cc pc = .ok (.iaload, 1)) (kk : gJ D p l e R s m args below meth c Q nL cells slots S (pc + 1) lv (.int x :: rest)) : gJ D p l e R s m args below meth c Q nL cells slots S pc lv (.int i :: va_rf r :: rest) := by
  intro H locs ls hR hL hl
  obtain ⟨a, rfl, hK, hin, rfl⟩ := fI_s hx
  have hlt : i.toNatClampNeg < gN S a := Nat.not_le.mp fun q => hin (Or.inr q)
  refine W.iald X.1 X.2.1 (hR.ar hK (by decide) (by decide)) ((X.K.1.2 1 (dA D 10, .int) rfl).1 (gN S a) (g_V S a)) (fun q => by cases q) (by rw [arrV_size]; exact hin) (v := _) (arrV_read _ _ hlt) rfl rfl hd ?_
  have e1 : g_V S a i.toNatClampNeg = .int (gI S a i.toNatClampNeg) := by unfold g_V; rw [hK]; rfl
  rw [e1]
  exact kk H locs ls hR hL hl
theorem g_bald {r : Option Nat} {i : Int32} {x : Int32} (X : gX D p l s m args meth c cc nL own) (hx : fI S 9 r i = some x) (hd : decode cc pc = .ok (.baload, 1)) (kk : gJ D p l e R s m args below meth c Q nL cells slots S (pc + 1) lv (.int x :: rest)) : gJ D p l e R s m args below meth c Q nL cells slots S pc lv (.int i :: va_rf r :: rest) := by
  intro H locs ls hR hL hl
  obtain ⟨a, rfl, hK, hin, rfl⟩ := fI_s hx
  have hlt : i.toNatClampNeg < gN S a := Nat.not_le.mp fun q => hin (Or.inr q)
  refine W.bald X.1 X.2.1 (hR.ar hK (by decide) (by decide)) ((X.K.1.2 0 (dA D 9, .byte) rfl).1 (gN S a) (g_V S a)) (fun q => by cases q) (by rw [arrV_size]; exact hin) (v := _) (arrV_read _ _ hlt) rfl rfl hd ?_
  have e1 : g_V S a i.toNatClampNeg = .int (gI S a i.toNatClampNeg) := by unfold g_V; rw [hK]; rfl
  rw [e1]
  exact kk H locs ls hR hL hl
theorem g_zald {r : Option Nat} {i : Int32} {x : Int32} (X : gX D p l s m args meth c cc nL own) (hx : fI S 12 r i = some x) (hd : decode cc pc = .ok (.baload, 1)) (kk : gJ D p l e R s m args below meth c Q nL cells slots S (pc + 1) lv (.int x :: rest)) : gJ D p l e R s m args below meth c Q nL cells slots S pc lv (.int i :: va_rf r :: rest) := by
  intro H locs ls hR hL hl
  obtain ⟨a, rfl, hK, hin, rfl⟩ := fI_s hx
  have hlt : i.toNatClampNeg < gN S a := Nat.not_le.mp fun q => hin (Or.inr q)
  refine W.zald X.1 X.2.1 (hR.ar hK (by decide) (by decide)) ((X.K.1.2 3 (dA D 12, .boolean) rfl).1 (gN S a) (g_V S a)) (fun q => by cases q) (by rw [arrV_size]; exact hin) (v := _) (arrV_read _ _ hlt) rfl rfl hd ?_
  have e1 : g_V S a i.toNatClampNeg = .int (gI S a i.toNatClampNeg) := by unfold g_V; rw [hK]; rfl
  rw [e1]
  exact kk H locs ls hR hL hl
theorem g_lald {r : Option Nat} {i : Int32} {x : Int64} (X : gX D p l s m args meth c cc nL own) (hx : fL S r i = some x) (hd : decode cc pc = .ok (.laload, 1)) (kk : gJ D p l e R s m args below meth c Q nL cells slots S (pc + 1) lv (.long x :: rest)) : gJ D p l e R s m args below meth c Q nL cells slots S pc lv (.int i :: va_rf r :: rest) := by
  intro H locs ls hR hL hl
  obtain ⟨a, rfl, hK, hin, rfl⟩ := fL_s hx
  have hlt : i.toNatClampNeg < gN S a := Nat.not_le.mp fun q => hin (Or.inr q)
  refine W.lald X.1 X.2.1 (hR.ar hK (by decide) (by decide)) ((X.K.1.2 2 (dA D 11, .long) rfl).1 (gN S a) (g_V S a)) (fun q => by cases q) (by rw [arrV_size]; exact hin) (v := _) (arrV_read _ _ hlt) rfl rfl hd ?_
  have e1 : g_V S a i.toNatClampNeg = .long (gL S a i.toNatClampNeg) := by unfold g_V; rw [hK]; rfl
  rw [e1]
  exact kk H locs ls hR hL hl
theorem g_aald13 {r : Option Nat} {i : Int32} {x : Option Nat} (X : gX D p l s m args meth c cc nL own) (hx : fR S 13 r i = some x) (hd : decode cc pc = .ok (.aaload, 1)) (kk : gJ D p l e R s m args below meth c Q nL cells slots S (pc + 1) lv (va_rf x :: rest)) : gJ D p l e R s m args below meth c Q nL cells slots S pc lv (.int i :: va_rf r :: rest) := by
  intro H locs ls hR hL hl
  obtain ⟨a, rfl, hK, hin, rfl⟩ := fR_s hx
  have hlt : i.toNatClampNeg < gN S a := Nat.not_le.mp fun q => hin (Or.inr q)
  refine W.aald (ty := .object RX1) X.1 X.2.1 (hR.ar hK (by decide) (by decide)) ((X.K.1.2 4 (dA D 13, .object RX1) rfl).1 (gN S a) (g_V S a)) rfl (fun q => by cases q) (by rw [arrV_size]; exact hin) (v := _) (arrV_read _ _ hlt) rfl rfl hd ?_
  have e1 : g_V S a i.toNatClampNeg = va_rf (gR S a i.toNatClampNeg) := by unfold g_V; rw [hK]; rfl
  rw [e1]
  exact kk H locs ls hR hL hl
theorem g_aald14 {r : Option Nat} {i : Int32} {x : Option Nat} (X : gX D p l s m args meth c cc nL own) (hx : fR S 14 r i = some x) (hd : decode cc pc = .ok (.aaload, 1)) (kk : gJ D p l e R s m args below meth c Q nL cells slots S (pc + 1) lv (va_rf x :: rest)) : gJ D p l e R s m args below meth c Q nL cells slots S pc lv (.int i :: va_rf r :: rest) := by
  intro H locs ls hR hL hl
  obtain ⟨a, rfl, hK, hin, rfl⟩ := fR_s hx
  have hlt : i.toNatClampNeg < gN S a := Nat.not_le.mp fun q => hin (Or.inr q)
  refine W.aald (ty := .object RX3) X.1 X.2.1 (hR.ar hK (by decide) (by decide)) ((X.K.1.2 5 (dA D 14, .object RX3) rfl).1 (gN S a) (g_V S a)) rfl (fun q => by cases q) (by rw [arrV_size]; exact hin) (v := _) (arrV_read _ _ hlt) rfl rfl hd ?_
  have e1 : g_V S a i.toNatClampNeg = va_rf (gR S a i.toNatClampNeg) := by unfold g_V; rw [hK]; rfl
  rw [e1]
  exact kk H locs ls hR hL hl
theorem g_aald15 {r : Option Nat} {i : Int32} {x : Option Nat} (X : gX D p l s m args meth c cc nL own) (hx : fR S 15 r i = some x) (hd : decode cc pc = .ok (.aaload, 1)) (kk : gJ D p l e R s m args below meth c Q nL cells slots S (pc + 1) lv (va_rf x :: rest)) : gJ D p l e R s m args below meth c Q nL cells slots S pc lv (.int i :: va_rf r :: rest) := by
  intro H locs ls hR hL hl
  obtain ⟨a, rfl, hK, hin, rfl⟩ := fR_s hx
  have hlt : i.toNatClampNeg < gN S a := Nat.not_le.mp fun q => hin (Or.inr q)
  refine W.aald (ty := .object RX6) X.1 X.2.1 (hR.ar hK (by decide) (by decide)) ((X.K.1.2 6 (dA D 15, .object RX6) rfl).1 (gN S a) (g_V S a)) rfl (fun q => by cases q) (by rw [arrV_size]; exact hin) (v := _) (arrV_read _ _ hlt) rfl rfl hd ?_
  have e1 : g_V S a i.toNatClampNeg = va_rf (gR S a i.toNatClampNeg) := by unfold g_V; rw [hK]; rfl
  rw [e1]
  exact kk H locs ls hR hL hl
theorem g_Rep.ast {H H1 : Heap} {a kd k : Nat} {v : Value} (hR : g_Rep D S H) (hU : gUp S S1 a k v) (hK : gK S a = kd) (h9 : 9 ≤ kd) (h16 : kd < 16) (e1 : H1[a]? = some ((arrV (dA D kd) (gN S a) (g_V S a)).setSlot k v)) (e2 : H1.size = H.size) (e3 : ∀ q, q ≠ a → H1[q]? = H[q]?) : g_Rep D S1 H1 := by
  obtain ⟨⟨u1, u2, u3⟩, u4, u5, u6⟩ := hU
  refine hR.set (a := a) (by omega) u1 u2 u3 u5 e2 e3 ⟨fun h => by rw [u1, hK] at h; omega, fun h => ?_, fun h j => ?_⟩
  · unfold g_ar
    rw [u1, u2, hK, e1, arrV_store]
    congr 2
    funext j
    exact (u4 j).symm
  · rw [u1] at h
    exact u6 h j ((hR.2.2.2 a (by omega)).2.2.2 h j)
theorem g_locs {D : gD} {locs : List Loc} {a k : Nat} (hL : ∀ q ∈ locs, gF D q.base) (hb : dB D ≤ a) : ∀ q ∈ locs ++ [(⟨a, k⟩ : Loc)], gF D q.base := fun q hq => by
  rcases List.mem_append.mp hq with h | h
  · exact hL q h
  · rw [List.mem_singleton.mp h]; exact hb
theorem g_iast {r : Option Nat} {i : Int32} {v : Int32} (X : gX D p l s m args meth c cc nL own) (hx : faI S r i v = some S1) (hd : decode cc pc = .ok (.iastore, 1)) (kk : gJ D p l e R s m args below meth c Q nL cells slots S1 (pc + 1) lv rest) : gJ D p l e R s m args below meth c Q nL cells slots S pc lv (.int v :: .int i :: va_rf r :: rest) := by
  intro H locs ls hR hL hl
  obtain ⟨a, rfl, hK, hin, rfl⟩ := faI_s hx
  have hb := (hR.2.2.2 a (by omega)).1
  refine W.iast X.1 X.2.1 (hR.ar hK (by decide) (by decide)) ((X.K.1.2 1 (dA D 10, .int) rfl).1 (gN S a) (g_V S a)) (fun q => by cases q) (by rw [arrV_size]; exact hin) rfl rfl hd fun H1 e1 e2 e3 => ?_
  exact kk H1 _ ls (hR.ast (v := .int v) (gUp.I hK (fun _ _ => rfl) (fun h => by omega)) hK (by decide) (by decide) e1 e2 e3) (g_locs hL hb) hl
theorem g_bast {r : Option Nat} {i : Int32} {v : Int32} (X : gX D p l s m args meth c cc nL own) (hx : faB S r i v = some S1) (hd : decode cc pc = .ok (.bastore, 1)) (kk : gJ D p l e R s m args below meth c Q nL cells slots S1 (pc + 1) lv rest) : gJ D p l e R s m args below meth c Q nL cells slots S pc lv (.int v :: .int i :: va_rf r :: rest) := by
  intro H locs ls hR hL hl
  obtain ⟨a, rfl, hK, hin, rfl⟩ := faB_s hx
  have hb := (hR.2.2.2 a (by omega)).1
  refine W.bast X.1 X.2.1 (hR.ar hK (by decide) (by decide)) ((X.K.1.2 0 (dA D 9, .byte) rfl).1 (gN S a) (g_V S a)) (fun q => by cases q) (by rw [arrV_size]; exact hin) rfl rfl hd fun H1 e1 e2 e3 => ?_
  exact kk H1 _ ls (hR.ast (v := .int v.toInt8.toInt32) (gUp.I hK (fun _ _ => rfl) (fun _ => pk_fb v)) hK (by decide) (by decide) e1 e2 e3) (g_locs hL hb) hl
theorem g_zast {r : Option Nat} {i : Int32} {v : Int32} (X : gX D p l s m args meth c cc nL own) (hx : faZ S r i v = some S1) (hd : decode cc pc = .ok (.bastore, 1)) (kk : gJ D p l e R s m args below meth c Q nL cells slots S1 (pc + 1) lv rest) : gJ D p l e R s m args below meth c Q nL cells slots S pc lv (.int v :: .int i :: va_rf r :: rest) := by
  intro H locs ls hR hL hl
  obtain ⟨a, rfl, hK, hin, rfl⟩ := faZ_s hx
  have hb := (hR.2.2.2 a (by omega)).1
  refine W.zast X.1 X.2.1 (hR.ar hK (by decide) (by decide)) ((X.K.1.2 3 (dA D 12, .boolean) rfl).1 (gN S a) (g_V S a)) (fun q => by cases q) (by rw [arrV_size]; exact hin) rfl rfl hd fun H1 e1 e2 e3 => ?_
  exact kk H1 _ ls (hR.ast (v := .int (v &&& 1)) (gUp.I hK (fun _ _ => rfl) (fun h => by omega)) hK (by decide) (by decide) e1 e2 e3) (g_locs hL hb) hl
theorem g_last {r : Option Nat} {i : Int32} {v : Int64} (X : gX D p l s m args meth c cc nL own) (hx : faL S r i v = some S1) (hd : decode cc pc = .ok (.lastore, 1)) (kk : gJ D p l e R s m args below meth c Q nL cells slots S1 (pc + 1) lv rest) : gJ D p l e R s m args below meth c Q nL cells slots S pc lv (.long v :: .int i :: va_rf r :: rest) := by
  intro H locs ls hR hL hl
  obtain ⟨a, rfl, hK, hin, rfl⟩ := faL_s hx
  have hb := (hR.2.2.2 a (by omega)).1
  refine W.last X.1 X.2.1 (hR.ar hK (by decide) (by decide)) ((X.K.1.2 2 (dA D 11, .long) rfl).1 (gN S a) (g_V S a)) (fun q => by cases q) (by rw [arrV_size]; exact hin) rfl rfl hd fun H1 e1 e2 e3 => ?_
  exact kk H1 _ ls (hR.ast (v := .long v) (gUp.L hK (fun _ _ => rfl)) hK (by decide) (by decide) e1 e2 e3) (g_locs hL hb) hl
theorem g_aast13 {r : Option Nat} {i : Int32} {v : Option Nat} (X : gX D p l s m args meth c cc nL own) (hx : faR S 13 1 r i v = some S1) (hd : decode cc pc = .ok (.aastore, 1)) (kk : gJ D p l e R s m args below meth c Q nL cells slots S1 (pc + 1) lv rest) : gJ D p l e R s m args below meth c Q nL cells slots S pc lv (va_rf v :: .int i :: va_rf r :: rest) := by
  intro H locs ls hR hL hl
  obtain ⟨a, b, rfl, rfl, hK, hin, hKb, rfl⟩ := faR_s hx
  have hb := (hR.2.2.2 a (by omega)).1
  have hlt : i.toNatClampNeg < gN S a := Nat.not_le.mp fun q => hin (Or.inr q)
  have h0 : ¬ i < 0 := fun q => hin (Or.inl q)
  obtain ⟨cellV, g1, g2, g3, -⟩ := hR.ob (ci := 1) hKb (by decide) rfl
  have hcls := (X.K.1.1 1 _ rfl).2
  obtain ⟨kA, comp, k1, k2, k3, -⟩ := (X.K.1.2 4 (dA D 13, .object RX1) rfl).2
  have hcomp : comp = dC D 1 := Option.some.inj (k3.symm.trans hcls.1)
  subst hcomp
  obtain ⟨kC, hkC, -⟩ := hcls.2
  refine W.aast X.1 X.2.1 (hR.ar hK (by decide) (by decide)) (fun q h => by cases h) (fun h => by cases h) k1 k2 rfl hkC ⟨h0, by rw [arrV_size]; exact hlt⟩ g1 (fun q h => by rw [g3] at h; cases h) (by rw [g2]; exact hkC) (by rw [g2]; exact va_assign hcls) rfl rfl hd fun H1 e1 e2 e3 => ?_
  exact kk H1 _ ls (hR.ast (v := va_rf (some b)) (gUp.A hK (fun _ _ => rfl)) hK (by decide) (by decide) e1 e2 e3) (g_locs hL hb) hl
theorem g_aast14 {r : Option Nat} {i : Int32} {v : Option Nat} (X : gX D p l s m args meth c cc nL own) (hx : faR S 14 3 r i v = some S1) (hd : decode cc pc = .ok (.aastore, 1)) (kk : gJ D p l e R s m args below meth c Q nL cells slots S1 (pc + 1) lv rest) : gJ D p l e R s m args below meth c Q nL cells slots S pc lv (va_rf v :: .int i :: va_rf r :: rest) := by
  intro H locs ls hR hL hl
  obtain ⟨a, b, rfl, rfl, hK, hin, hKb, rfl⟩ := faR_s hx
  have hb := (hR.2.2.2 a (by omega)).1
  have hlt : i.toNatClampNeg < gN S a := Nat.not_le.mp fun q => hin (Or.inr q)
  have h0 : ¬ i < 0 := fun q => hin (Or.inl q)
  obtain ⟨cellV, g1, g2, g3, -⟩ := hR.ob (ci := 3) hKb (by decide) rfl
  have hcls := (X.K.1.1 3 _ rfl).2
  obtain ⟨kA, comp, k1, k2, k3, -⟩ := (X.K.1.2 5 (dA D 14, .object RX3) rfl).2
  have hcomp : comp = dC D 3 := Option.some.inj (k3.symm.trans hcls.1)
  subst hcomp
  obtain ⟨kC, hkC, -⟩ := hcls.2
  refine W.aast X.1 X.2.1 (hR.ar hK (by decide) (by decide)) (fun q h => by cases h) (fun h => by cases h) k1 k2 rfl hkC ⟨h0, by rw [arrV_size]; exact hlt⟩ g1 (fun q h => by rw [g3] at h; cases h) (by rw [g2]; exact hkC) (by rw [g2]; exact va_assign hcls) rfl rfl hd fun H1 e1 e2 e3 => ?_
  exact kk H1 _ ls (hR.ast (v := va_rf (some b)) (gUp.A hK (fun _ _ => rfl)) hK (by decide) (by decide) e1 e2 e3) (g_locs hL hb) hl
theorem g_aast15 {r : Option Nat} {i : Int32} {v : Option Nat} (X : gX D p l s m args meth c cc nL own) (hx : faR S 15 6 r i v = some S1) (hd : decode cc pc = .ok (.aastore, 1)) (kk : gJ D p l e R s m args below meth c Q nL cells slots S1 (pc + 1) lv rest) : gJ D p l e R s m args below meth c Q nL cells slots S pc lv (va_rf v :: .int i :: va_rf r :: rest) := by
  intro H locs ls hR hL hl
  obtain ⟨a, b, rfl, rfl, hK, hin, hKb, rfl⟩ := faR_s hx
  have hb := (hR.2.2.2 a (by omega)).1
  have hlt : i.toNatClampNeg < gN S a := Nat.not_le.mp fun q => hin (Or.inr q)
  have h0 : ¬ i < 0 := fun q => hin (Or.inl q)
  obtain ⟨cellV, g1, g2, g3, -⟩ := hR.ob (ci := 6) hKb (by decide) rfl
  have hcls := (X.K.1.1 6 _ rfl).2
  obtain ⟨kA, comp, k1, k2, k3, -⟩ := (X.K.1.2 6 (dA D 15, .object RX6) rfl).2
  have hcomp : comp = dC D 6 := Option.some.inj (k3.symm.trans hcls.1)
  subst hcomp
  obtain ⟨kC, hkC, -⟩ := hcls.2
  refine W.aast X.1 X.2.1 (hR.ar hK (by decide) (by decide)) (fun q h => by cases h) (fun h => by cases h) k1 k2 rfl hkC ⟨h0, by rw [arrV_size]; exact hlt⟩ g1 (fun q h => by rw [g3] at h; cases h) (by rw [g2]; exact hkC) (by rw [g2]; exact va_assign hcls) rfl rfl hd fun H1 e1 e2 e3 => ?_
  exact kk H1 _ ls (hR.ast (v := va_rf (some b)) (gUp.A hK (fun _ _ => rfl)) hK (by decide) (by decide) e1 e2 e3) (g_locs hL hb) hl
theorem g_alen {r : Option Nat} {x : Int32} (X : gX D p l s m args meth c cc nL own) (hx : fN S r = some x) (hd : decode cc pc = .ok (.arraylength, 1)) (kk : gJ D p l e R s m args below meth c Q nL cells slots S (pc + 1) lv (.int x :: rest)) : gJ D p l e R s m args below meth c Q nL cells slots S pc lv (va_rf r :: rest) := by
  intro H locs ls hR hL hl
  obtain ⟨a, rfl, h9, h16, rfl⟩ := fN_s hx
  have key : ∀ (kd : Nat) (ty : FieldType) (t0 : Nat), gK S a = kd → (g_tys D)[t0]? = some (dA D kd, ty) → 9 ≤ kd → kd < 16 → W p l e R s m args below meth c H locs cells slots Q (F0 m pc ls (va_rf (some a) :: rest)) := fun kd ty t0 hK ht k9 k16 =>
    W.alen (n := nI (gN S a)) X.1 X.2.1 (hR.ar hK k9 k16) ((X.K.1.2 t0 _ ht).1 (gN S a) (g_V S a)) (by rw [arrV_size]; rfl) rfl rfl hd (kk H locs ls hR hL hl)
  rcases (show gK S a = 9 ∨ gK S a = 10 ∨ gK S a = 11 ∨ gK S a = 12 ∨ gK S a = 13 ∨ gK S a = 14 ∨ gK S a = 15 by omega) with h | h | h | h | h | h | h
  · exact key 9 _ 0 h rfl (by decide) (by decide)
  · exact key 10 _ 1 h rfl (by decide) (by decide)
  · exact key 11 _ 2 h rfl (by decide) (by decide)
  · exact key 12 _ 3 h rfl (by decide) (by decide)
  · exact key 13 _ 4 h rfl (by decide) (by decide)
  · exact key 14 _ 5 h rfl (by decide) (by decide)
  · exact key 15 _ 6 h rfl (by decide) (by decide)
theorem g_nwV {S : gS} {kd n : Nat} : g_V (gnw S kd n) (gZ S) = fun j => g_v (g_ty kd j) 0 0 none := by
  funext j
  show g_v (g_ty (va_up (gK S) (gZ S) kd (gZ S)) j) (va_up (gI S) (gZ S) _ (gZ S) j) (va_up (gL S) (gZ S) _ (gZ S) j) (va_up (gR S) (gZ S) _ (gZ S) j) = _
  simp [va_up]
theorem g_nwK {S : gS} {kd n : Nat} : gK (gnw S kd n) (gZ S) = kd := by show va_up (gK S) (gZ S) kd (gZ S) = kd; simp [va_up]
theorem g_nwN {S : gS} {kd n : Nat} : gN (gnw S kd n) (gZ S) = n := by show va_up (gN S) (gZ S) n (gZ S) = n; simp [va_up]
theorem g_nwI {S : gS} {kd n : Nat} : gI (gnw S kd n) (gZ S) = fun _ => 0 := by show va_up (gI S) (gZ S) _ (gZ S) = _; simp [va_up]
theorem g_Rep.newA {H H1 : Heap} {kd n : Nat} (hR : g_Rep D S H) (h9 : 9 ≤ kd) (e1 : H1[H.size]? = some (arrV (dA D kd) n (fun j => g_v (g_ty kd j) 0 0 none))) (e2 : H1.size = H.size + 1) (e3 : ∀ q : Nat, q < H.size → H1[q]? = H[q]?) : g_Rep D (gnw S kd n) H1 := by
  refine hR.new e2 e3 ?_
  rw [hR.1]
  rw [hR.1] at e1
  refine ⟨fun h => by rw [g_nwK] at h; omega, fun _ => ?_, fun _ j => ?_⟩
  · unfold g_ar
    rw [g_nwK, g_nwN, g_nwV]
    exact e1
  · rw [g_nwI]
    rfl
theorem g_newa9 {n : Int32} {k cap : Nat} (X : gX D p l s m args meth c cc nL own) (harr : Cond.arrayClass .byte ∈ TT) (hx : fnA n cap = some k) (hcap : cap * 8 ≤ 536870912) (hc : cells + 1 ≤ R.cells) (hs : slots + cap ≤ R.slots) (hd : decode cc pc = .ok (.newarray .byte, 2)) (kk : gJ D p l e R s m args below meth c Q nL (cells + 1) (slots + k) (gnw S 9 k) (pc + 2) lv (va_rf (some (gZ S)) :: rest)) : gJ D p l e R s m args below meth c Q nL cells slots S pc lv (.int n :: rest) := by
  intro H locs ls hR hL hl
  obtain ⟨h0, h1, h2⟩ := fnA_s hx
  have hcb : componentBytes (newarray.typeOf .byte) ≤ 8 := by decide
  refine va_newaK (atype := .byte) X.1 X.2.1 (X.ts _ harr) rfl hd rfl h0 h1 (Nat.le_trans (Nat.mul_le_mul h2 hcb) hcap) hc (by omega) rfl fun H1 cA e1 e2 e3 _ hn => ?_
  have hcA : cA = dA D 9 := Option.some.inj (hn.symm.trans (X.K.1.2 0 (dA D 9, .byte) rfl).2)
  subst hcA
  have e1' : H1[H.size]? = some (arrV (dA D 9) k (fun j => g_v (g_ty 9 j) 0 0 none)) := e1
  rw [hR.1]
  exact kk H1 locs ls (hR.newA (by decide) e1' e2 e3) hL hl
theorem g_newa10 {n : Int32} {k cap : Nat} (X : gX D p l s m args meth c cc nL own) (harr : Cond.arrayClass .int ∈ TT) (hx : fnA n cap = some k) (hcap : cap * 8 ≤ 536870912) (hc : cells + 1 ≤ R.cells) (hs : slots + cap ≤ R.slots) (hd : decode cc pc = .ok (.newarray .int, 2)) (kk : gJ D p l e R s m args below meth c Q nL (cells + 1) (slots + k) (gnw S 10 k) (pc + 2) lv (va_rf (some (gZ S)) :: rest)) : gJ D p l e R s m args below meth c Q nL cells slots S pc lv (.int n :: rest) := by
  intro H locs ls hR hL hl
  obtain ⟨h0, h1, h2⟩ := fnA_s hx
  have hcb : componentBytes (newarray.typeOf .int) ≤ 8 := by decide
  refine va_newaK (atype := .int) X.1 X.2.1 (X.ts _ harr) rfl hd rfl h0 h1 (Nat.le_trans (Nat.mul_le_mul h2 hcb) hcap) hc (by omega) rfl fun H1 cA e1 e2 e3 _ hn => ?_
  have hcA : cA = dA D 10 := Option.some.inj (hn.symm.trans (X.K.1.2 1 (dA D 10, .int) rfl).2)
  subst hcA
  have e1' : H1[H.size]? = some (arrV (dA D 10) k (fun j => g_v (g_ty 10 j) 0 0 none)) := e1
  rw [hR.1]
  exact kk H1 locs ls (hR.newA (by decide) e1' e2 e3) hL hl
theorem g_newa11 {n : Int32} {k cap : Nat} (X : gX D p l s m args meth c cc nL own) (harr : Cond.arrayClass .long ∈ TT) (hx : fnA n cap = some k) (hcap : cap * 8 ≤ 536870912) (hc : cells + 1 ≤ R.cells) (hs : slots + cap ≤ R.slots) (hd : decode cc pc = .ok (.newarray .long, 2)) (kk : gJ D p l e R s m args below meth c Q nL (cells + 1) (slots + k) (gnw S 11 k) (pc + 2) lv (va_rf (some (gZ S)) :: rest)) : gJ D p l e R s m args below meth c Q nL cells slots S pc lv (.int n :: rest) := by
  intro H locs ls hR hL hl
  obtain ⟨h0, h1, h2⟩ := fnA_s hx
  have hcb : componentBytes (newarray.typeOf .long) ≤ 8 := by decide
  refine va_newaK (atype := .long) X.1 X.2.1 (X.ts _ harr) rfl hd rfl h0 h1 (Nat.le_trans (Nat.mul_le_mul h2 hcb) hcap) hc (by omega) rfl fun H1 cA e1 e2 e3 _ hn => ?_
  have hcA : cA = dA D 11 := Option.some.inj (hn.symm.trans (X.K.1.2 2 (dA D 11, .long) rfl).2)
  subst hcA
  have e1' : H1[H.size]? = some (arrV (dA D 11) k (fun j => g_v (g_ty 11 j) 0 0 none)) := e1
  rw [hR.1]
  exact kk H1 locs ls (hR.newA (by decide) e1' e2 e3) hL hl
theorem g_newa12 {n : Int32} {k cap : Nat} (X : gX D p l s m args meth c cc nL own) (harr : Cond.arrayClass .boolean ∈ TT) (hx : fnA n cap = some k) (hcap : cap * 8 ≤ 536870912) (hc : cells + 1 ≤ R.cells) (hs : slots + cap ≤ R.slots) (hd : decode cc pc = .ok (.newarray .boolean, 2)) (kk : gJ D p l e R s m args below meth c Q nL (cells + 1) (slots + k) (gnw S 12 k) (pc + 2) lv (va_rf (some (gZ S)) :: rest)) : gJ D p l e R s m args below meth c Q nL cells slots S pc lv (.int n :: rest) := by
  intro H locs ls hR hL hl
  obtain ⟨h0, h1, h2⟩ := fnA_s hx
  have hcb : componentBytes (newarray.typeOf .boolean) ≤ 8 := by decide
  refine va_newaK (atype := .boolean) X.1 X.2.1 (X.ts _ harr) rfl hd rfl h0 h1 (Nat.le_trans (Nat.mul_le_mul h2 hcb) hcap) hc (by omega) rfl fun H1 cA e1 e2 e3 _ hn => ?_
  have hcA : cA = dA D 12 := Option.some.inj (hn.symm.trans (X.K.1.2 3 (dA D 12, .boolean) rfl).2)
  subst hcA
  have e1' : H1[H.size]? = some (arrV (dA D 12) k (fun j => g_v (g_ty 12 j) 0 0 none)) := e1
  rw [hR.1]
  exact kk H1 locs ls (hR.newA (by decide) e1' e2 e3) hL hl
theorem g_anew13 {n : Int32} {k cap index : Nat} (X : gX D p l s m args meth c cc nL own) (hcl : Cond.classLink own index RX1 ∈ TT) (hx : fnA n cap = some k) (hcap : cap * 8 ≤ 536870912) (hc : cells + 1 ≤ R.cells) (hs : slots + cap ≤ R.slots) (hd : decode cc pc = .ok (.anewarray index, 3)) (kk : gJ D p l e R s m args below meth c Q nL (cells + 1) (slots + k) (gnw S 13 k) (pc + 3) lv (va_rf (some (gZ S)) :: rest)) : gJ D p l e R s m args below meth c Q nL cells slots S pc lv (.int n :: rest) := by
  intro H locs ls hR hL hl
  obtain ⟨h0, h1, h2⟩ := fnA_s hx
  subst h1
  refine W.anew X.1 X.2.1 X.ow (X.ts _ hcl) (va_AO.use X.K.2.2.2.1.1) rfl hd rfl h0 (by omega) hc (by omega) fun cA kA comp f1 f2 f3 f4 => ?_
  obtain ⟨kA', comp', k1, k2, k3, k4⟩ := (X.K.1.2 4 (dA D 13, .object RX1) rfl).2
  have hcA : cA = dA D 13 := Option.some.inj (f1.symm.trans k4)
  subst hcA
  generalize hH1 : H.push ({ cls := dA D 13, slots := Array.replicate n.toNatClampNeg .null, vm := .none } : Cell) = H1
  have e2 : H1.size = H.size + 1 := by rw [← hH1, Array.size_push]
  have e1 : H1[H.size]? = some (arrV (dA D 13) n.toNatClampNeg (fun j => g_v (g_ty 13 j) 0 0 none)) := by rw [← hH1, Array.getElem?_push_size, arrV_new]; rfl
  have e3 : ∀ q : Nat, q < H.size → H1[q]? = H[q]? := fun q hq => by rw [← hH1, Array.getElem?_push, if_neg (Nat.ne_of_lt hq)]
  rw [hR.1]
  exact kk H1 locs ls (hR.newA (by decide) e1 e2 e3) hL hl
theorem g_anew14 {n : Int32} {k cap index : Nat} (X : gX D p l s m args meth c cc nL own) (hcl : Cond.classLink own index RX3 ∈ TT) (hx : fnA n cap = some k) (hcap : cap * 8 ≤ 536870912) (hc : cells + 1 ≤ R.cells) (hs : slots + cap ≤ R.slots) (hd : decode cc pc = .ok (.anewarray index, 3)) (kk : gJ D p l e R s m args below meth c Q nL (cells + 1) (slots + k) (gnw S 14 k) (pc + 3) lv (va_rf (some (gZ S)) :: rest)) : gJ D p l e R s m args below meth c Q nL cells slots S pc lv (.int n :: rest) := by
  intro H locs ls hR hL hl
  obtain ⟨h0, h1, h2⟩ := fnA_s hx
  subst h1
  refine W.anew X.1 X.2.1 X.ow (X.ts _ hcl) (va_AO.use X.K.2.2.2.1.2.1) rfl hd rfl h0 (by omega) hc (by omega) fun cA kA comp f1 f2 f3 f4 => ?_
  obtain ⟨kA', comp', k1, k2, k3, k4⟩ := (X.K.1.2 5 (dA D 14, .object RX3) rfl).2
  have hcA : cA = dA D 14 := Option.some.inj (f1.symm.trans k4)
  subst hcA
  generalize hH1 : H.push ({ cls := dA D 14, slots := Array.replicate n.toNatClampNeg .null, vm := .none } : Cell) = H1
  have e2 : H1.size = H.size + 1 := by rw [← hH1, Array.size_push]
  have e1 : H1[H.size]? = some (arrV (dA D 14) n.toNatClampNeg (fun j => g_v (g_ty 14 j) 0 0 none)) := by rw [← hH1, Array.getElem?_push_size, arrV_new]; rfl
  have e3 : ∀ q : Nat, q < H.size → H1[q]? = H[q]? := fun q hq => by rw [← hH1, Array.getElem?_push, if_neg (Nat.ne_of_lt hq)]
  rw [hR.1]
  exact kk H1 locs ls (hR.newA (by decide) e1 e2 e3) hL hl
theorem g_anew15 {n : Int32} {k cap index : Nat} (X : gX D p l s m args meth c cc nL own) (hcl : Cond.classLink own index RX6 ∈ TT) (hx : fnA n cap = some k) (hcap : cap * 8 ≤ 536870912) (hc : cells + 1 ≤ R.cells) (hs : slots + cap ≤ R.slots) (hd : decode cc pc = .ok (.anewarray index, 3)) (kk : gJ D p l e R s m args below meth c Q nL (cells + 1) (slots + k) (gnw S 15 k) (pc + 3) lv (va_rf (some (gZ S)) :: rest)) : gJ D p l e R s m args below meth c Q nL cells slots S pc lv (.int n :: rest) := by
  intro H locs ls hR hL hl
  obtain ⟨h0, h1, h2⟩ := fnA_s hx
  subst h1
  refine W.anew X.1 X.2.1 X.ow (X.ts _ hcl) (va_AO.use X.K.2.2.2.1.2.2) rfl hd rfl h0 (by omega) hc (by omega) fun cA kA comp f1 f2 f3 f4 => ?_
  obtain ⟨kA', comp', k1, k2, k3, k4⟩ := (X.K.1.2 6 (dA D 15, .object RX6) rfl).2
  have hcA : cA = dA D 15 := Option.some.inj (f1.symm.trans k4)
  subst hcA
  generalize hH1 : H.push ({ cls := dA D 15, slots := Array.replicate n.toNatClampNeg .null, vm := .none } : Cell) = H1
  have e2 : H1.size = H.size + 1 := by rw [← hH1, Array.size_push]
  have e1 : H1[H.size]? = some (arrV (dA D 15) n.toNatClampNeg (fun j => g_v (g_ty 15 j) 0 0 none)) := by rw [← hH1, Array.getElem?_push_size, arrV_new]; rfl
  have e3 : ∀ q : Nat, q < H.size → H1[q]? = H[q]? := fun q hq => by rw [← hH1, Array.getElem?_push, if_neg (Nat.ne_of_lt hq)]
  rw [hR.1]
  exact kk H1 locs ls (hR.newA (by decide) e1 e2 e3) hL hl
theorem g_new {ci index : Nat} {C : String} {T : u_T} {N : Nat} (X : gX D p l s m args meth c cc nL own) (hc : vwCl[ci]? = some (C, T, N)) (hci : ci < 9) (hin : ∀ w ∈ u_ws C T N, w ∈ TT) (ty : Nat → FieldType) (hty : ∀ k, k < N → parseFieldDescriptor (T k).2.2.1 = some (ty k)) (hfs : ∀ j, j < N → defaultValue (ty j) = g_v (g_ty ci j) 0 0 none) (hcl : Cond.classLink own index C ∈ TT) (hinst : Cond.instantiable C N ∈ TT) (hini : Cond.initialized C ∈ TT) (hcc : cells + 1 ≤ R.cells) (hs : slots + N ≤ R.slots) (hd : decode cc pc = .ok (.new index, 3)) (kk : gJ D p l e R s m args below meth c Q nL (cells + 1) (slots + N) (gnw S ci N) (pc + 3) lv (va_rf (some (gZ S)) :: rest)) : gJ D p l e R s m args below meth c Q nL cells slots S pc lv rest := by
  intro H locs ls hR hL hl
  have hKn := X.K.1.1 ci _ hc
  refine W.newcK X.1 X.2.1 X.ow (X.ts _ hcl) (X.ts _ hinst) (X.ts _ hini) rfl hd hcc hs hKn.2.1 rfl fun H1 kC hkC e1 e2 e3 => ?_
  rw [hR.1]
  refine kk H1 locs ls (hR.new e2 e3 ?_) hL hl
  have h1 := (u_born ty X.ts hin hKn hkC e1 hty).to hfs
  rw [hR.1] at h1 ⊢
  refine ⟨fun _ => ⟨(C, T, N), by rw [g_nwK]; exact hc, ?_⟩, fun h => by rw [g_nwK] at h; omega, fun h => by rw [g_nwK] at h; omega⟩
  rw [g_nwK, g_nwV]
  exact h1
theorem g_obji {idx : Nat} {r : Option Nat} {a : Nat} (X : gX D p l s m args meth c cc nL own) (hr : r = some a) (h1 : Cond.methodLink own idx objectInit ∈ TT) (h2 : Cond.instanceMethod objectInit ∈ TT) (h3 : Cond.code objectInit ⟨#[0xb1]⟩ 1 none ∈ TT) (hd : decode cc pc = .ok (.invokespecial idx, 3)) (hf : 1 ≤ R.frames) (hlo : (rest.map fun v => v.category).sum + 12 ≤ R.locals) (kk : gJ D p l e R s m args below meth c Q nL cells slots S (pc + 3) lv rest) : gJ D p l e R s m args below meth c Q nL cells slots S pc lv (va_rf r :: rest) := by
  intro H locs ls hR hL hl
  subst hr
  exact W.objInit X.1 X.2.1 X.ow (X.ts _ h1) (X.ts _ h2) (X.ts _ h3) rfl (by rw [X.ml]; exact hl.1) rfl hd hf (by show 2 * 0 + _ + 12 ≤ _; omega) (kk H locs ls hR hL hl)
theorem g_getS1 {index : Nat} (X : gX D p l s m args meth c cc nL own) (hlk : Cond.fieldLink own index RX4 "START" "[I" ∈ TT) (hd : decode cc pc = .ok (.getstatic index, 3)) (kk : gJ D p l e R s m args below meth c Q nL cells slots S (pc + 3) lv (.ref (dT D) :: rest)) : gJ D p l e R s m args below meth c Q nL cells slots S pc lv rest := by
  intro H locs ls hR hL hl
  obtain ⟨cf, kf, fi, f, a, cell, h1, h2, h3, h4, h5, h6, h7, h8⟩ := X.K.2.1.1
  exact W.gets X.1 X.2.1 X.ow (X.ts _ hlk) h1 h2 h3 h4 (by rw [hR.2.2.1 a (Nat.not_le.mp h8)]; exact h5) (fun e => by rw [e] at h6; cases h6) h7 rfl hd (kk H locs ls hR hL hl)
theorem g_getS2 {index : Nat} (X : gX D p l s m args meth c cc nL own) (hlk : Cond.fieldLink own index RX4 "ROUND" "[I" ∈ TT) (hd : decode cc pc = .ok (.getstatic index, 3)) (kk : gJ D p l e R s m args below meth c Q nL cells slots S (pc + 3) lv (.ref (dU D) :: rest)) : gJ D p l e R s m args below meth c Q nL cells slots S pc lv rest := by
  intro H locs ls hR hL hl
  obtain ⟨cf, kf, fi, f, a, cell, h1, h2, h3, h4, h5, h6, h7, h8⟩ := X.K.2.2.1.1
  exact W.gets X.1 X.2.1 X.ow (X.ts _ hlk) h1 h2 h3 h4 (by rw [hR.2.2.1 a (Nat.not_le.mp h8)]; exact h5) (fun e => by rw [e] at h6; cases h6) h7 rfl hd (kk H locs ls hR hL hl)
def fT (i : Int32) : Option Int32 := if ¬ (i < 0 ∨ 64 ≤ i.toNatClampNeg) then some (g_round.getD i.toNatClampNeg 0) else none
theorem g_tald {i x : Int32} (X : gX D p l s m args meth c cc nL own) (hx : fT i = some x) (hd : decode cc pc = .ok (.iaload, 1)) (kk : gJ D p l e R s m args below meth c Q nL cells slots S (pc + 1) lv (.int x :: rest)) : gJ D p l e R s m args below meth c Q nL cells slots S pc lv (.int i :: .ref (dU D) :: rest) := by
  intro H locs ls hR hL hl
  obtain ⟨hin, h⟩ := g_if hx
  cases h
  obtain ⟨cell, h1, h2, h3, h4, h5, h6, h7⟩ := X.K.2.2.1.2
  have hlt : i.toNatClampNeg < 64 := Nat.not_le.mp fun q => hin (Or.inr q)
  have hin' : ¬ (i < 0 ∨ cell.slots.size ≤ i.toNatClampNeg) := by
    intro q
    rcases q with q | q
    · exact hin (Or.inl q)
    · omega
  exact W.iald (v := .int (g_round.getD i.toNatClampNeg 0)) X.1 X.2.1 (by rw [hR.2.2.1 _ (Nat.not_le.mp h7)]; exact h1) h2 h3 hin' (h6 _ hlt) rfl rfl hd (kk H locs ls hR hL hl)

theorem g_stretch {cs : Cell} {c0 : ClassId} {sp n : Nat} {f : Nat → Int32} (hv : ∀ i, i < n → cs.slots[sp + i]? = some (.int (f (sp + i)))) : cs.stretch sp n = (arrV c0 (sp + n) (fun j => .int (f j))).stretch sp n := by
  unfold Cell.stretch
  apply List.map_congr_left
  intro i hi
  have hi' := List.mem_range.mp hi
  rw [Array.getD_eq_getD_getElem?, Array.getD_eq_getD_getElem?, arrV_read _ _ (by omega), hv i hi']
theorem g_cpW {H : Heap} {locs : List Loc} {ls : Array Slot} {index src dst : Nat} {sp dp n : Int32} {cs : Cell} {c1 : ClassId} {n1 : Nat} {f g : Nat → Int32} {ty : FieldType} {k0 k1 : Class} {cm0 cm1 : ClassId} (X : gX D p l s m args meth c cc nL own) (hsz : ls.size = nL) (hL : ∀ q ∈ locs, gF D q.base) (hdb : dB D ≤ dst) (w1 : Cond.methodLink own index arraycopyName ∈ TT) (w2 : Cond.native arraycopyName ∈ TT) (w3 : Cond.static arraycopyName ∈ TT) (w4 : Cond.initialized "java/lang/System" ∈ TT)
    (hs : H[src]? = some cs) (hd : H[dst]? = some (arrV c1 n1 (fun j => .int (g j)))) (ho : ∀ k, cs.vm ≠ .statics k) (hu : cs.vm ≠ .unknown) (hk0 : s.vm.classes[cs.cls]? = some k0) (hkk0 : k0.kind = .array cm0 ty) (hk1 : s.vm.classes[c1]? = some k1) (hkk1 : k1.kind = .array cm1 ty) (hprim : refKind ty = false)
    (h1 : ¬ sp < 0) (h2 : ¬ dp < 0) (h3 : ¬ n < 0) (h4 : sp.toNatClampNeg + n.toNatClampNeg ≤ cs.slots.size) (h5 : dp.toNatClampNeg + n.toNatClampNeg ≤ n1) (hv : ∀ i, i < n.toNatClampNeg → cs.slots[sp.toNatClampNeg + i]? = some (.int (f (sp.toNatClampNeg + i)))) (hfit : ∀ i, i < n.toNatClampNeg → fits ty (.int (f (sp.toNatClampNeg + i))) = true)
    (hframes : 1 ≤ R.frames) (hlocals : (rest.map fun v => v.category).sum + (nativeFrameWords "java/lang/System" "arraycopy" 5 + 11) ≤ R.locals) (hdg : decode cc pc = .ok (.invokestatic index, 3))
    (kk : ∀ (H1 : Heap) (locs1 : List Loc), H1[dst]? = some (arrV c1 n1 (fun j => .int (va_cpy f g sp.toNatClampNeg dp.toNatClampNeg n.toNatClampNeg j))) → H1.size = H.size → (∀ q, q ≠ dst → H1[q]? = H[q]?) → (∀ q ∈ locs1, gF D q.base) → W p l e R s m args below meth c H1 locs1 cells slots Q (F0 m (pc + 3) ls rest)) : W p l e R s m args below meth c H locs cells slots Q (F0 m pc ls (.int n :: .int dp :: .ref dst :: .int sp :: .ref src :: rest)) := by
  have nn : ∀ z : Int32, ¬ z < 0 → z.toInt = (z.toNatClampNeg : Int) := by
    intro z hz
    have hz0 : (0 : Int) ≤ z.toInt := by
      have := Int32.not_lt.mp hz
      simpa using Int32.le_iff_toInt_le.mp this
    show z.toInt = ((z.toInt.toNat : Nat) : Int)
    omega
  intro T hT X0
  obtain ⟨vm', X', step⟩ := X0.arraycopy X.1 X.ow (X.ts _ w1) (X.ts _ w2) (X.ts _ w3) (X.ts _ w4) (src := src) (dst := dst) (cs := cs) (cd := arrV c1 n1 (fun j => .int (g j))) (srcPos := sp) (destPos := dp) (n := n) (by rw [hT]; exact hs) (by rw [hT]; exact hd)
    ho (fun _ h => by cases h) hu (fun h => by cases h) hk0 hk1 hkk0 hkk1 (by simp [hprim]) h1 h2 h3
    (by rw [nn sp h1, nn n h3]; omega)
    (by rw [nn dp h2, nn n h3, arrV_size]; omega)
    (fun vm₁ _ i hi => by
      have e : cs.slots.getD (sp.toNatClampNeg + i) .null = .int (f (sp.toNatClampNeg + i)) := by
        rw [Array.getD_eq_getD_getElem?, hv i hi]
        rfl
      refine ⟨?_, ?_⟩
      · rw [e]
        exact hfit i hi
      · rw [e]
        exact trivial)
    (g := F0 m pc ls (.int n :: .int dp :: .ref dst :: .int sp :: .ref src :: rest)) rfl (by rw [X.ml]; exact hsz) (rest := rest) rfl (by rw [X.2.1]; exact hdg) hframes (by show 2 * 0 + _ + _ ≤ _; omega)
  have e1 : copied cs (arrV c1 n1 (fun j => .int (g j))) sp dp n = arrV c1 n1 (fun j => .int (va_cpy f g sp.toNatClampNeg dp.toNatClampNeg n.toNatClampNeg j)) := by
    show (arrV c1 n1 (fun j => .int (g j))).storeRun dp.toNatClampNeg (cs.stretch sp.toNatClampNeg n.toNatClampNeg) = _
    rw [g_stretch (c0 := c1) hv]
    exact va_copied (fun z => .int z) c1 c1 f g (Nat.le_refl _)
  rw [e1] at X' step
  have hl : dst < H.size := (Array.getElem?_eq_some_iff.mp hd).1
  have hheap : ((T.setVm vm').setCell dst (arrV c1 n1 (fun j => .int (va_cpy f g sp.toNatClampNeg dp.toNatClampNeg n.toNatClampNeg j)))).heap = H.setIfInBounds dst (arrV c1 n1 (fun j => .int (va_cpy f g sp.toNatClampNeg dp.toNatClampNeg n.toNatClampNeg j))) := by rw [← hT]; rfl
  obtain ⟨t, a1, b1⟩ := kk _ _ (by simp [Array.getElem?_setIfInBounds, hl]) (by simp) (fun q hq => by simp [Array.getElem?_setIfInBounds, Ne.symm hq]) (fun q hq => by
      rcases List.mem_append.mp hq with h | h
      · exact hL q h
      · obtain ⟨z, -, hz⟩ := List.mem_map.mp h
        rw [← hz]
        exact hdb) _ hheap X'
  exact ⟨t, step t a1, b1⟩
theorem g_Rep.cpy {H H1 : Heap} {b kd : Nat} {f : Nat → Int32} (hR : g_Rep D S H) (hK : gK S b = kd) (h9 : kd = 9 ∨ kd = 10) (hf : kd = 9 → ∀ j, fits .byte (.int (f j)) = true) (e1 : H1[b]? = some (arrV (dA D kd) (gN S b) (fun j => .int (f j)))) (e2 : H1.size = H.size) (e3 : ∀ q, q ≠ b → H1[q]? = H[q]?) : g_Rep D (gsA S b f) H1 := by
  have eb : gI (gsA S b f) b = f := by show va_up (gI S) b f b = f; simp [va_up]
  have ht : ∀ j, g_ty kd j = .byte ∨ g_ty kd j = .int := fun j => by rcases h9 with h | h <;> subst h <;> simp [g_ty]
  refine hR.set (a := b) (S' := gsA S b f) (by omega) rfl rfl rfl (fun q hq => ?_) e2 e3 ⟨fun h => by have : gK S b < 9 := h; omega, fun h => ?_, fun h j => ?_⟩
  · have e : gI (gsA S b f) q = gI S q := by show va_up (gI S) b f q = _; simp [va_up, hq]
    refine ⟨?_, e⟩
    funext j
    show g_v (g_ty (gK S q) j) (gI (gsA S b f) q j) (gL S q j) (gR S q j) = _
    rw [e]
    rfl
  · unfold g_ar
    show H1[b]? = some (arrV (dA D (gK S b)) (gN S b) (g_V (gsA S b f) b))
    rw [hK, e1]
    congr 2
    funext j
    show _ = g_v (g_ty (gK S b) j) (gI (gsA S b f) b j) _ _
    rw [eb, hK]
    rcases ht j with h | h <;> rw [h] <;> rfl
  · rw [eb]
    exact hf (by rw [← hK]; exact h) j
theorem g_arr10 {H : Heap} (hR : g_Rep D S H) {a : Nat} (hK : gK S a = 10) : H[a]? = some (arrV (dA D 10) (gN S a) (fun j => .int (gI S a j))) := by
  have h := hR.ar hK (by decide) (by decide)
  rw [h]
  congr 2
  funext j
  unfold g_V
  rw [hK]
  rfl
theorem g_arr9 {H : Heap} (hR : g_Rep D S H) {a : Nat} (hK : gK S a = 9) : H[a]? = some (arrV (dA D 9) (gN S a) (fun j => .int (gI S a j))) := by
  have h := hR.ar hK (by decide) (by decide)
  rw [h]
  congr 2
  funext j
  unfold g_V
  rw [hK]
  rfl
theorem g_copy {index : Nat} {r0 r1 : Option Nat} {sp dp n : Int32} (X : gX D p l s m args meth c cc nL own) (w1 : Cond.methodLink own index arraycopyName ∈ TT) (w2 : Cond.native arraycopyName ∈ TT) (w3 : Cond.static arraycopyName ∈ TT) (w4 : Cond.initialized "java/lang/System" ∈ TT) (hx : fcp S r0 sp r1 dp n = some S1) (hframes : 1 ≤ R.frames) (hlocals : (rest.map fun v => v.category).sum + (nativeFrameWords "java/lang/System" "arraycopy" 5 + 11) ≤ R.locals) (hd : decode cc pc = .ok (.invokestatic index, 3))
    (kk : gJ D p l e R s m args below meth c Q nL cells slots S1 (pc + 3) lv rest) : gJ D p l e R s m args below meth c Q nL cells slots S pc lv (.int n :: .int dp :: va_rf r1 :: .int sp :: va_rf r0 :: rest) := by
  intro H locs ls hR hL hl
  obtain ⟨a, b, rfl, rfl, ⟨hKa, hKb⟩, ⟨h1, h2, h3, h4, h5⟩, rfl⟩ := fcp_s hx
  have hfa := (hR.2.2.2 a (by omega)).2.2.2 hKa
  have hfb := (hR.2.2.2 b (by omega)).2.2.2 hKb
  obtain ⟨-, k0, hk0, cm0, hkk0⟩ := (X.K.1.2 0 (dA D 9, .byte) rfl).1 0 (fun _ => .null)
  refine g_cpW X hl.1 hL (hR.2.2.2 b (by omega)).1 w1 w2 w3 w4 (g_arr9 hR hKa) (g_arr9 hR hKb) (fun _ h => by cases h) (fun h => by cases h) hk0 hkk0 hk0 hkk0 rfl h1 h2 h3 (by rw [arrV_size]; exact h4) h5 (fun i hi => arrV_read _ _ (by omega)) (fun i _ => hfa _) hframes hlocals hd fun H1 locs1 e1 e2 e3 hL1 => ?_
  exact kk H1 locs1 ls (hR.cpy hKb (Or.inl rfl) (fun _ j => by unfold va_cpy; split; exact hfa _; exact hfb _) e1 e2 e3) hL1 hl
def fcS (S : gS) (r1 : Option Nat) : Option gS := gDe r1 fun b => if gK S b = 10 ∧ 8 ≤ gN S b then some (gsA S b (va_cpy (fun j => g_start.getD j 0) (gI S b) 0 0 8)) else none
theorem g_copyS {index : Nat} {r1 : Option Nat} (X : gX D p l s m args meth c cc nL own) (w1 : Cond.methodLink own index arraycopyName ∈ TT) (w2 : Cond.native arraycopyName ∈ TT) (w3 : Cond.static arraycopyName ∈ TT) (w4 : Cond.initialized "java/lang/System" ∈ TT) (hx : fcS S r1 = some S1) (hframes : 1 ≤ R.frames) (hlocals : (rest.map fun v => v.category).sum + (nativeFrameWords "java/lang/System" "arraycopy" 5 + 11) ≤ R.locals) (hd : decode cc pc = .ok (.invokestatic index, 3))
    (kk : gJ D p l e R s m args below meth c Q nL cells slots S1 (pc + 3) lv rest) : gJ D p l e R s m args below meth c Q nL cells slots S pc lv (.int 8 :: .int 0 :: va_rf r1 :: .int 0 :: .ref (dT D) :: rest) := by
  intro H locs ls hR hL hl
  obtain ⟨b, rfl, hx⟩ := g_de hx
  obtain ⟨⟨hKb, hN⟩, hx⟩ := g_if hx
  cases hx
  obtain ⟨cell, t1, t2, t3, t4, t5, t6, t7⟩ := X.K.2.1.2
  obtain ⟨-, k1, hk1, cm1, hkk1⟩ := (X.K.1.2 1 (dA D 10, .int) rfl).1 0 (fun _ => .null)
  obtain ⟨ho, k0, hk0, cm0, hkk0⟩ := t2
  refine g_cpW (f := fun j => g_start.getD j 0) X hl.1 hL (hR.2.2.2 b (by omega)).1 w1 w2 w3 w4 (by rw [hR.2.2.1 _ (Nat.not_le.mp t7)]; exact t1) (g_arr10 hR hKb) ho t3 hk0 hkk0 hk1 hkk1 rfl (by decide) (by decide) (by decide) (by show 0 + 8 ≤ _; omega) (by show 0 + 8 ≤ _; omega) (fun i hi => t6 _ (by have : i < 8 := hi; show 0 + i < 8; omega)) (fun i _ => rfl) hframes hlocals hd fun H1 locs1 e1 e2 e3 hL1 => ?_
  exact kk H1 locs1 ls (hR.cpy hKb (Or.inr rfl) (fun h => by omega) e1 e2 e3) hL1 hl
/-! returns -/
theorem g_iret {x : Int32} {mc ms : Nat} (X : gX D p l s m args meth c cc nL own) (hr : meth.sig.returnType = some .int) (hc : cells ≤ mc) (hs : slots ≤ ms) (hd : decode cc pc = .ok (.ireturn, 1)) : gJ D p l e R s m args below meth c (MQ below (gQ D (some (.int x)) S) args s mc ms (gF D)) nL cells slots S pc lv [.int x] := fun H locs ls hR hL hl =>
  W.widen hc hs (W.iret X.1 X.2.1 hr (fun t ht _ => ⟨rfl, by rw [ht]; exact hR⟩) hL hd X.nolocks)
theorem g_zret {x : Int32} {mc ms : Nat} (X : gX D p l s m args meth c cc nL own) (hr : meth.sig.returnType = some .boolean) (hz : x = 0 ∨ x = 1) (hc : cells ≤ mc) (hs : slots ≤ ms) (hd : decode cc pc = .ok (.ireturn, 1)) : gJ D p l e R s m args below meth c (MQ below (gQ D (some (.int x)) S) args s mc ms (gF D)) nL cells slots S pc lv [.int x] := fun H locs ls hR hL hl =>
  W.widen hc hs (W.zret X.1 X.2.1 hr (by rcases hz with h | h <;> subst h <;> rfl) (fun t ht _ => ⟨rfl, by rw [ht]; exact hR⟩) hL hd X.nolocks)
theorem g_lret {x : Int64} {mc ms : Nat} (X : gX D p l s m args meth c cc nL own) (hr : meth.sig.returnType = some .long) (hc : cells ≤ mc) (hs : slots ≤ ms) (hd : decode cc pc = .ok (.lreturn, 1)) : gJ D p l e R s m args below meth c (MQ below (gQ D (some (.long x)) S) args s mc ms (gF D)) nL cells slots S pc lv [.long x] := fun H locs ls hR hL hl =>
  W.widen hc hs (W.lret X.1 X.2.1 hr (fun t ht _ => ⟨rfl, by rw [ht]; exact hR⟩) hL hd X.nolocks)
theorem g_rfv (r : Option Nat) : va_rf r = .null ∨ ∃ a, va_rf r = .ref a := by
  cases r with
  | none => exact Or.inl rfl
  | some a => exact Or.inr ⟨a, rfl⟩
theorem g_aret {r : Option Nat} {rt : FieldType} {mc ms : Nat} (X : gX D p l s m args meth c cc nL own) (hr : meth.sig.returnType = some rt) (hrt : (∃ n, rt = .object n) ∨ ∃ t, rt = .array t) (hc : cells ≤ mc) (hs : slots ≤ ms) (hd : decode cc pc = .ok (.areturn, 1)) : gJ D p l e R s m args below meth c (MQ below (gQ D (some (va_rf r)) S) args s mc ms (gF D)) nL cells slots S pc lv [va_rf r] := fun H locs ls hR hL hl =>
  W.widen hc hs (W.aret X.1 X.2.1 hr hrt (g_rfv r) (fun t ht _ => ⟨rfl, by rw [ht]; exact hR⟩) hL hd X.nolocks)
theorem g_vret {mc ms : Nat} (X : gX D p l s m args meth c cc nL own) (hr : meth.sig.returnType = none) (hc : cells ≤ mc) (hs : slots ≤ ms) (hd : decode cc pc = .ok (.return_, 1)) : gJ D p l e R s m args below meth c (MQ below (gQ D none S) args s mc ms (gF D)) nL cells slots S pc lv [] := fun H locs ls hR hL hl =>
  W.widen hc hs (W.vret X.1 X.2.1 hr (fun t ht _ => ⟨rfl, by rw [ht]; exact hR⟩) hL hd X.nolocks)
/-- the end of a body that may throw, where it returns -/
theorem g_xr {ρ : Type} {mk : ρ → Value} {x : ρ} {st : List Value} {mc ms : Nat} {XC : String → State → State → Prop} (k : gJ D p l e R s m args below meth c (MQ below (gQ D (some (mk x)) S) args s mc ms (gF D)) nL cells slots S pc lv st) : gJ D p l e R s m args below meth c (vx_MQ below (gQX D mk (.inr x) S) XC args s mc ms (gF D)) nL cells slots S pc lv st := fun H locs ls hR hL hl => by
  intro T hT X
  obtain ⟨t, a1, o, b1, b2, b3, b4⟩ := k H locs ls hR hL hl T hT X
  exact ⟨t, a1, o, b1, b2, Or.inl ⟨⟨x, rfl, b3⟩, b4⟩⟩
/-! calls -/
theorem g_good {x y : Cond} (hy : y ∈ TT) : GoodIn TT (y :: TT) := fun w h => (List.mem_cons.mp h).elim (fun e => by subst e; exact ⟨hy, TT_good hy⟩) (fun h => ⟨h, TT_good h⟩)
theorem g_pre (X : gX D p l s m args meth c cc nL own) {H : Heap} {av : List Value} (hR : g_Rep D S H) : PreS s H (gPc D S av) av := ⟨g_blind D S av, fun U hU hW => ⟨rfl, by rw [hU]; exact hR, gKn.warm hW X.K⟩⟩
theorem g_after {H : Heap} {locs : List Loc} {ls : Array Slot} {st0 : List Value} {a : Array Value} {v : Option Value} {mc ms : Nat} (hr : va_Run p l e R s m args below meth c H locs cells slots mc ms (F0 m pc ls st0) rest (gQ D v S1 a) (gF D)) (hL : ∀ q ∈ locs, gF D q.base) (hl : lv_has ls nL lv) (kk : gJ D p l e R s m args below meth c Q nL (cells + mc) (slots + ms) S1 (pc + 3) lv (v.toList ++ rest)) : W p l e R s m args below meth c H locs cells slots Q (F0 m pc ls st0) := by
  intro T hT X
  obtain ⟨v', st₀, t, T', L, h0, X', hL', e1, e2, ⟨hv, hq⟩, st⟩ := hr T hT X
  cases hv
  obtain ⟨t2, a1, b1⟩ := kk T'.heap (locs ++ L) ls (by rw [e1]; exact hq) (fun q h => (List.mem_append.mp h).elim (hL q) (hL' q)) hl T' rfl X'
  exact ⟨t2, st t2 a1, b1⟩
theorem g_recv (X : gX D p l s m args meth c cc nL own) {H : Heap} (hR : g_Rep D S H) {b ci : Nat} {C : String} {T : u_T} {N : Nat} (hc : vwCl[ci]? = some (C, T, N)) (hci : ci < 9) (hK : gK S b = ci) : ∃ cell : Cell, H[b]? = some cell ∧ cell.vm.isStatics = false ∧ s.vm.findClass C = some cell.cls := by
  obtain ⟨cell, g1, g2, g3, -⟩ := hR.ob hK hci hc
  exact ⟨cell, g1, by rw [g3]; rfl, by rw [g2]; exact (X.K.1.1 ci _ hc).2.1⟩
variable {y : MethodName} {bytes : ByteArray} {maxL n index mc ms ci : Nat} {ret : Option FieldType} {rm : Room} {As st0 : List Value} {v : Option Value}
theorem g_cV {C : String} {T : u_T} {N : Nat} {r : Option Nat} {b : Nat} (X : gX D p l s m args meth c cc nL own) (hM : Met l y (gws y bytes maxL ret) rm (gPc D S (.ref b :: As)) (gQ D v S1) mc ms (gF D)) (hlink : Cond.methodLink own index y ∈ TT) (hinst : Cond.instanceMethod y ∈ TT) (hsel : Cond.selects C y y ∈ TT) (hini : Cond.initialized C ∈ TT) (hcode : Cond.code y bytes maxL ret ∈ TT) (hd : y.cls = C ∧ y.cls ≠ "java/lang/invoke/MethodHandle" ∧ y.cls ≠ "java/lang/invoke/VarHandle" ∧ (parseMethodDescriptor y.desc).map (fun d => d.parameters.length) = some n) (hrc : rm.cells = mc) (hrs : rm.slots = ms) (hRm : rm.frames + 1 ≤ R.frames ∧ 8 + (maxL + 11) + rm.locals ≤ R.locals) (hc : vwCl[ci]? = some (C, T, N)) (hci : ci < 9) (hr : r = some b) (hK : gK S b = ci) (hn : As.length = n) (hst : st0 = As.reverse ++ va_rf r :: rest) (hroom : (rest.map fun v => v.category).sum ≤ 8) (hdg : decode cc pc = .ok (.invokevirtual index, 3)) (hf : cells + mc ≤ R.cells ∧ slots + ms ≤ R.slots)
    (kk : gJ D p l e R s m args below meth c Q nL (cells + mc) (slots + ms) S1 (pc + 3) lv (v.toList ++ rest)) : gJ D p l e R s m args below meth c Q nL cells slots S pc lv st0 := by
  intro H locs ls hR hL hl
  subst hst
  subst hr
  have hG : GoodIn TT (wsV own index C y (gws y bytes maxL ret)) := by
    intro w hw
    rcases List.mem_append.mp hw with h | h
    · have : w ∈ TT := by
        rcases List.mem_cons.mp h with h | h
        · subst h; exact hlink
        · rcases List.mem_cons.mp h with h | h
          · subst h; exact hinst
          · rcases List.mem_cons.mp h with h | h
            · subst h; exact hsel
            · rcases List.mem_cons.mp h with h | h
              · subst h; exact hini
              · cases h
      exact ⟨this, TT_good this⟩
    · exact g_good (x := w) hcode w h
  exact g_after (va_runV (As := As) (rest := rest) X.fix hM (cwV n X.ts hG rfl hrc hrs hd hRm) ⟨g_blind D S _, g_recv X hR hc hci hK, (g_pre X hR).2⟩ rfl hn hl.1 rfl (lv_room hroom) hdg hf) hL hl kk
theorem g_cS (X : gX D p l s m args meth c cc nL own) (hM : Met l y (gws y bytes maxL ret) rm (gPc D S As) (gQ D v S1) mc ms (gF D)) (hlink : Cond.methodLink own index y ∈ TT) (hstat : Cond.static y ∈ TT) (hini : Cond.initialized y.cls ∈ TT) (hcode : Cond.code y bytes maxL ret ∈ TT) (hd : y.cls ≠ "java/lang/invoke/MethodHandle" ∧ y.cls ≠ "java/lang/invoke/VarHandle" ∧ (parseMethodDescriptor y.desc).map (fun d => d.parameters.length) = some n) (hrc : rm.cells = mc) (hrs : rm.slots = ms) (hRm : rm.frames + 1 ≤ R.frames ∧ 8 + (maxL + 11) + rm.locals ≤ R.locals) (hn : As.length = n) (hst : st0 = As.reverse ++ rest) (hroom : (rest.map fun v => v.category).sum ≤ 8) (hdg : decode cc pc = .ok (.invokestatic index, 3)) (hf : cells + mc ≤ R.cells ∧ slots + ms ≤ R.slots)
    (kk : gJ D p l e R s m args below meth c Q nL (cells + mc) (slots + ms) S1 (pc + 3) lv (v.toList ++ rest)) : gJ D p l e R s m args below meth c Q nL cells slots S pc lv st0 := by
  intro H locs ls hR hL hl
  subst hst
  have hG : GoodIn TT (va_wsS own index y (gws y bytes maxL ret)) := by
    intro w hw
    rcases List.mem_append.mp hw with h | h
    · have : w ∈ TT := by
        rcases List.mem_cons.mp h with h | h
        · subst h; exact hlink
        · rcases List.mem_cons.mp h with h | h
          · subst h; exact hstat
          · rcases List.mem_cons.mp h with h | h
            · subst h; exact hini
            · cases h
      exact ⟨this, TT_good this⟩
    · exact g_good (x := w) hcode w h
  exact g_after (va_runS (As := As) (rest := rest) X.fix hM (va_cwS n X.ts hG rfl hrc hrs hd hRm) (g_pre X hR) rfl hn hl.1 rfl (lv_room hroom) hdg hf) hL hl kk
theorem g_cI {r : Option Nat} {b : Nat} (X : gX D p l s m args meth c cc nL own) (hM : Met l y (gws y bytes maxL none) rm (gPc D S (.ref b :: As)) (gQ D none S1) mc ms (gF D)) (hlink : Cond.methodLink own index y ∈ TT) (hinst : Cond.instanceMethod y ∈ TT) (hini : Cond.initialized y.cls ∈ TT) (hcode : Cond.code y bytes maxL none ∈ TT) (hy : y.name = "<init>") (hd : y.cls ≠ "java/lang/invoke/MethodHandle" ∧ y.cls ≠ "java/lang/invoke/VarHandle" ∧ (parseMethodDescriptor y.desc).map (fun d => d.parameters.length) = some n) (hrc : rm.cells = mc) (hrs : rm.slots = ms) (hRm : rm.frames + 1 ≤ R.frames ∧ 8 + (maxL + 11) + rm.locals ≤ R.locals) (hr : r = some b) (hn : As.length = n) (hst : st0 = As.reverse ++ va_rf r :: rest) (hroom : (rest.map fun v => v.category).sum ≤ 8) (hdg : decode cc pc = .ok (.invokespecial index, 3)) (hf : cells + mc ≤ R.cells ∧ slots + ms ≤ R.slots)
    (kk : gJ D p l e R s m args below meth c Q nL (cells + mc) (slots + ms) S1 (pc + 3) lv rest) : gJ D p l e R s m args below meth c Q nL cells slots S pc lv st0 := by
  intro H locs ls hR hL hl
  subst hst
  subst hr
  exact g_after (v := none) (va_runI (As := As) (rest := rest) X.fix hM (cwI n X.ts (g_good (x := Cond.tt) hcode) rfl hrc hrs (X.ts _ hini) (X.ts _ hlink) (X.ts _ hinst) hy hd hRm) (g_pre X hR) rfl hn hl.1 rfl (lv_room hroom) hdg hf) hL hl kk
theorem g_cN {r : Option Nat} {b : Nat} {host : String} (X : gX D p l s m args meth c cc nL own) (hM : Met l y (gws y bytes maxL none) rm (gPc D S (.ref b :: As)) (gQ D none S1) mc ms (gF D)) (hlink : va_Nw (.methodLinkNest own index y host) s) (hinst : Cond.instanceMethod y ∈ TT) (hini : Cond.initialized y.cls ∈ TT) (hcode : Cond.code y bytes maxL none ∈ TT) (hy : y.name = "<init>") (hd : y.cls ≠ "java/lang/invoke/MethodHandle" ∧ y.cls ≠ "java/lang/invoke/VarHandle" ∧ (parseMethodDescriptor y.desc).map (fun d => d.parameters.length) = some n) (hrc : rm.cells = mc) (hrs : rm.slots = ms) (hRm : rm.frames + 1 ≤ R.frames ∧ 8 + (maxL + 11) + rm.locals ≤ R.locals) (hr : r = some b) (hn : As.length = n) (hst : st0 = As.reverse ++ va_rf r :: rest) (hroom : (rest.map fun v => v.category).sum ≤ 8) (hdg : decode cc pc = .ok (.invokespecial index, 3)) (hf : cells + mc ≤ R.cells ∧ slots + ms ≤ R.slots)
    (kk : gJ D p l e R s m args below meth c Q nL (cells + mc) (slots + ms) S1 (pc + 3) lv rest) : gJ D p l e R s m args below meth c Q nL cells slots S pc lv st0 := by
  intro H locs ls hR hL hl
  subst hst
  subst hr
  exact g_after (v := none) (va_runIN (As := As) (rest := rest) X.fix hM ⟨va_cnB n X.ts (g_good (x := Cond.tt) hcode) rfl hrc hrs hlink (X.ts _ hini) hd hRm, hy, X.ts _ hinst⟩ (g_pre X hR) rfl hn hl.1 rfl (lv_room hroom) hdg hf) hL hl kk
theorem g_mmin {x y : Int32} (X : gX D p l s m args meth c cc nL own) (w1 : Cond.methodLink own index Lib.Math.min.name ∈ TT) (w2 : Cond.static Lib.Math.min.name ∈ TT) (w3 : Cond.initialized "java/lang/Math" ∈ TT) (w4 : Cond.code Lib.Math.min.name Lib.Math.min.code 2 (some .int) ∈ TT) (hf : 1 ≤ R.frames) (hlo : (rest.map fun v => v.category).sum + 13 ≤ R.locals) (hc : cells ≤ R.cells) (hs : slots ≤ R.slots) (hd : decode cc pc = .ok (.invokestatic index, 3)) (kk : gJ D p l e R s m args below meth c Q nL cells slots S (pc + 3) lv (.int (if y < x then y else x) :: rest)) : gJ D p l e R s m args below meth c Q nL cells slots S pc lv (.int y :: .int x :: rest) := fun H locs ls hR hL hl =>
  va_mmin X.1 X.2.1 (by rw [X.ml]; exact hl.1.symm) X.ow (X.ts _ w1) (X.ts _ w2) (X.ts _ w3) (X.ts _ w4) hf hlo hc hs hd (kk H locs ls hR hL hl)
theorem g_mmax {x y : Int32} (X : gX D p l s m args meth c cc nL own) (w1 : Cond.methodLink own index Lib.Math.max.name ∈ TT) (w2 : Cond.static Lib.Math.max.name ∈ TT) (w3 : Cond.initialized "java/lang/Math" ∈ TT) (w4 : Cond.code Lib.Math.max.name Lib.Math.max.code 2 (some .int) ∈ TT) (hf : 1 ≤ R.frames) (hlo : (rest.map fun v => v.category).sum + 13 ≤ R.locals) (hc : cells ≤ R.cells) (hs : slots ≤ R.slots) (hd : decode cc pc = .ok (.invokestatic index, 3)) (kk : gJ D p l e R s m args below meth c Q nL cells slots S (pc + 3) lv (.int (if x < y then y else x) :: rest)) : gJ D p l e R s m args below meth c Q nL cells slots S pc lv (.int y :: .int x :: rest) := fun H locs ls hR hL hl =>
  va_mmax X.1 X.2.1 (by rw [X.ml]; exact hl.1.symm) X.ow (X.ts _ w1) (X.ts _ w2) (X.ts _ w3) (X.ts _ w4) hf hlo hc hs hd (kk H locs ls hR hL hl)

/-! a method's contract out of its walk -/
theorem g_met {l : Launch} {D : gD} {S S1 : gS} {av : List Value} {lv : List (Nat × Value)} {cc : ByteArray} {v : Option Value} (hl : l.stackTraces = false) (hy : plainName y.cls = true) (hlen : (lg_sl av).length ≤ maxL) (hlv : lv_args 0 av = lv)
    (body : ∀ (p : Program) (e : Env) (s : State) (m : MethodId) (args : Array Value) (below : List Frame) (meth : Method) (c : Code), gX D p l s m args meth c cc maxL y.cls → meth.sig.returnType = ret → meth.name = y.name → gJ D p l e rm s m args below meth c (MQ below (gQ D v S1) args s mc ms (gF D)) maxL 0 0 S 0 lv []) : Met l y (gws y cc maxL ret) rm (gPc D S av) (gQ D v S1) mc ms (gF D) := by
  refine Met.ofW (cc := cc) (maxL := maxL) (ret := ret) hy rfl ?_
  intro p e s m args below meth c s₁ B hml hv
  obtain ⟨rfl, hR, hK⟩ := hv
  have hts := atoms_spec (ws := gws y cc maxL ret) B.pre
  have X : gX D p l s m av.toArray meth c cc maxL y.cls := ⟨B.exec, B.bytes, hml, findClass_of_methodNamed B.named, fun w h => hts w (List.mem_cons_of_mem _ h), B.notSynchronized, hK, hl, hR.2.2.1⟩
  have hle := lv_entry av (n := maxL) hlen
  rw [lg_entry_eq]
  generalize (lg_sl av ++ List.replicate (maxL - (lg_sl av).length) Slot.unset).toArray = ls at hle ⊢
  rw [hlv] at hle
  exact body p e s m av.toArray below meth c X B.returns (name_of_methodNamed B.named B.method).1 s.heap [] ls hR (fun q h => by cases h) hle
theorem g_xmet {l : Launch} {D : gD} {S S1 : gS} {av : List Value} {lv : List (Nat × Value)} {cc : ByteArray} {ρ : Type} {mk : ρ → Value} {res : String ⊕ ρ} (hl : l.stackTraces = false) (hy : plainName y.cls = true) (hlen : (lg_sl av).length ≤ maxL) (hlv : lv_args 0 av = lv)
    (body : ∀ (p : Program) (e : Env) (s : State) (m : MethodId) (args : Array Value) (below : List Frame) (meth : Method) (c : Code), gX D p l s m args meth c cc maxL y.cls → meth.sig.returnType = ret → (∀ x ∈ c.exceptionTable.toList, False) → gJ D p l e rm s m args below meth c (vx_MQ below (gQX D mk res S1) (gXX D res S1) args s mc ms (gF D)) maxL 0 0 S 0 lv []) : vx_Met l y (gws y cc maxL ret) rm (gPc D S av) (gQX D mk res S1) (gXX D res S1) mc ms (gF D) := by
  refine vx_ofW (cc := cc) (maxL := maxL) (ret := ret) hy rfl ?_
  intro p e s m args below meth c s₁ B hml ht hv
  obtain ⟨rfl, hR, hK⟩ := hv
  have hts := atoms_spec (ws := gws y cc maxL ret) B.pre
  have X : gX D p l s m av.toArray meth c cc maxL y.cls := ⟨B.exec, B.bytes, hml, findClass_of_methodNamed B.named, fun w h => hts w (List.mem_cons_of_mem _ h), B.notSynchronized, hK, hl, hR.2.2.1⟩
  have hle := lv_entry av (n := maxL) hlen
  rw [lg_entry_eq]
  generalize (lg_sl av ++ List.replicate (maxL - (lg_sl av).length) Slot.unset).toArray = ls at hle ⊢
  rw [hlv] at hle
  exact body p e s m av.toArray below meth c X B.returns ht s.heap [] ls hR (fun q h => by cases h) hle
abbrev gwW (y : MethodName) (bytes : ByteArray) (maxL : Nat) (ret : Option FieldType) (hh : List (Nat × Nat × Nat × Nat)) : List Cond := Cond.codeWith y bytes maxL ret hh :: TT
theorem g_metW {l : Launch} {D : gD} {S S1 : gS} {av : List Value} {lv : List (Nat × Value)} {cc : ByteArray} {v : Option Value} {hh : List (Nat × Nat × Nat × Nat)} (hl : l.stackTraces = false) (hy : plainName y.cls = true) (hlen : (lg_sl av).length ≤ maxL) (hlv : lv_args 0 av = lv)
    (body : ∀ (p : Program) (e : Env) (s : State) (m : MethodId) (args : Array Value) (below : List Frame) (meth : Method) (c : Code), gX D p l s m args meth c cc maxL y.cls → meth.sig.returnType = ret → c.exceptionTable.toList = tableOf hh → gJ D p l e rm s m args below meth c (MQ below (gQ D v S1) args s mc ms (gF D)) maxL 0 0 S 0 lv []) : Met l y (gwW y cc maxL ret hh) rm (gPc D S av) (gQ D v S1) mc ms (gF D) := by
  refine va_MetW (cc := cc) (maxL := maxL) (ret := ret) (hh := hh) hy rfl ?_
  intro p e s m args below meth c s₁ B hml hv
  obtain ⟨rfl, hR, hK⟩ := hv
  have hts := atoms_spec (ws := gwW y cc maxL ret hh) B.pre
  have X : gX D p l s m av.toArray meth c cc maxL y.cls := ⟨B.exec, B.bytes, hml, findClass_of_methodNamed B.named, fun w h => hts w (List.mem_cons_of_mem _ h), B.notSynchronized, hK, hl, hR.2.2.1⟩
  have hle := lv_entry av (n := maxL) hlen
  rw [lg_entry_eq]
  generalize (lg_sl av ++ List.replicate (maxL - (lg_sl av).length) Slot.unset).toArray = ls at hle ⊢
  rw [hlv] at hle
  exact body p e s m av.toArray below meth c X B.returns (vx_table (x := y) B (hts _ List.mem_cons_self)) s.heap [] ls hR (fun q h => by cases h) hle
/-- a call of a method that may throw -/
theorem g_afterX {H : Heap} {locs : List Loc} {ls : Array Slot} {a : Array Value} {ρ : Type} {mk : ρ → Value} {res : String ⊕ ρ} (hr : vx_Run p l e R s m args below meth c H locs cells slots mc ms (F0 m pc ls st0) rest (gQX D mk res S1 a) (gXX D res S1) (gF D)) (hL : ∀ q ∈ locs, gF D q.base) (hl : lv_has ls nL lv) (kr : ∀ x, res = .inr x → gJ D p l e R s m args below meth c Q nL (cells + mc) (slots + ms) S1 (pc + 3) lv (mk x :: rest)) (kx : ∀ E, res = .inl E → gJx D p l e R s m args below meth c Q nL (cells + mc) (slots + ms) S1 pc lv rest E) : W p l e R s m args below meth c H locs cells slots Q (F0 m pc ls st0) := by
  intro T hT X
  rcases hr T hT X with ⟨v', st₀, t, T', L, h0, X', hL', e1, e2, ⟨x, hx, hv, hq⟩, st⟩ | ⟨q, st₀, t, T', L, E, ce, h0, X', hL', e1, e2, ⟨hx, hq⟩, hce, hcv, hcl, st⟩
  · cases hv
    obtain ⟨t2, a1, b1⟩ := kr x hx T'.heap (locs ++ L) ls (by rw [e1]; exact hq) (fun q h => (List.mem_append.mp h).elim (hL q) (hL' q)) hl T' rfl X'
    exact ⟨t2, st t2 a1, b1⟩
  · obtain ⟨t2, a1, b1⟩ := kx E hx T'.heap (locs ++ L) ls q ce (by rw [e1]; exact hq) (fun q h => (List.mem_append.mp h).elim (hL q) (hL' q)) hl (by rw [e1]; exact hce) hcv hcl T' rfl X'
    exact ⟨t2, st.trans a1, b1⟩
theorem g_xV {C : String} {T : u_T} {N : Nat} {r : Option Nat} {b : Nat} {ρ : Type} {mk : ρ → Value} {res : String ⊕ ρ} (X : gX D p l s m args meth c cc nL own) (hM : vx_Met l y (gws y bytes maxL ret) rm (gPc D S (.ref b :: As)) (gQX D mk res S1) (gXX D res S1) mc ms (gF D)) (hlink : Cond.methodLink own index y ∈ TT) (hinst : Cond.instanceMethod y ∈ TT) (hsel : Cond.selects C y y ∈ TT) (hini : Cond.initialized C ∈ TT) (hcode : Cond.code y bytes maxL ret ∈ TT) (hd : y.cls = C ∧ y.cls ≠ "java/lang/invoke/MethodHandle" ∧ y.cls ≠ "java/lang/invoke/VarHandle" ∧ (parseMethodDescriptor y.desc).map (fun d => d.parameters.length) = some n) (hrc : rm.cells = mc) (hrs : rm.slots = ms) (hRm : rm.frames + 1 ≤ R.frames ∧ 8 + (maxL + 11) + rm.locals ≤ R.locals) (hc : vwCl[ci]? = some (C, T, N)) (hci : ci < 9) (hr : r = some b) (hK : gK S b = ci) (hn : As.length = n) (hst : st0 = As.reverse ++ va_rf r :: rest) (hroom : (rest.map fun v => v.category).sum ≤ 8) (hdg : decode cc pc = .ok (.invokevirtual index, 3)) (hf : cells + mc ≤ R.cells ∧ slots + ms ≤ R.slots)
    (kr : ∀ x, res = .inr x → gJ D p l e R s m args below meth c Q nL (cells + mc) (slots + ms) S1 (pc + 3) lv (mk x :: rest)) (kx : ∀ E, res = .inl E → gJx D p l e R s m args below meth c Q nL (cells + mc) (slots + ms) S1 pc lv rest E) : gJ D p l e R s m args below meth c Q nL cells slots S pc lv st0 := by
  intro H locs ls hR hL hl
  subst hst
  subst hr
  have hG : GoodIn TT (wsV own index C y (gws y bytes maxL ret)) := by
    intro w hw
    rcases List.mem_append.mp hw with h | h
    · have : w ∈ TT := by
        rcases List.mem_cons.mp h with h | h
        · subst h; exact hlink
        · rcases List.mem_cons.mp h with h | h
          · subst h; exact hinst
          · rcases List.mem_cons.mp h with h | h
            · subst h; exact hsel
            · rcases List.mem_cons.mp h with h | h
              · subst h; exact hini
              · cases h
      exact ⟨this, TT_good this⟩
    · exact g_good (x := w) hcode w h
  exact g_afterX (vx_runV (As := As) (rest := rest) X.fix hM (cwV n X.ts hG rfl hrc hrs hd hRm) ⟨g_blind D S _, g_recv X hR hc hci hK, (g_pre X hR).2⟩ rfl hn hl.1 rfl (lv_room hroom) hdg hf) hL hl kr kx
/-- what a callee has thrown goes on to the caller -/
theorem g_out {E : String} {S0 : gS} {ρ : Type} {mk : ρ → Value} {st : List Value} (X : gX D p l s m args meth c cc nL own) (ht : ∀ x ∈ c.exceptionTable.toList, False) (hc : cells ≤ mc) (hs : slots ≤ ms) : gJx D p l e R s m args below meth c (vx_MQ below (gQX (ρ := ρ) D mk (.inl E) S0) (gXX (ρ := ρ) D (.inl E) S0) args s mc ms (gF D)) nL cells slots S0 pc lv st E := fun H locs ls q ce hR hL hl hce hcv hcl =>
  vx_out (fun x hx => (ht x hx).elim) X.nolocks hce hcv hcl (fun t ht _ => ⟨rfl, by rw [ht]; exact hR⟩) hL hc hs
abbrev g_nms : List String := ["java/lang/RuntimeException", "java/lang/Exception"]

end GJ
