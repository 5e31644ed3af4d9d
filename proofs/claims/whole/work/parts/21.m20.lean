def f_X8_seenSlot_L2 : Nat → gS → Nat → Int32 → Int32 → Int32 → Option gS
  | 0, _, _, _, _, _ => none
  | k + 1, S0, a0, v1, v2, v3 =>
    if 8 ≤ v3 then
      some S0
    else
      gLet (((80 * v1) + 16) + (4 * v3)) fun x4 =>
      (fgR S0 8 21 (some a0)).bind fun x6 =>
      (fgR S0 8 14 (some a0)).bind fun x8 =>
      (fI S0 10 x8 x4).bind fun x10 =>
      (fgR S0 8 14 (some a0)).bind fun x12 =>
      (fI S0 10 x12 (x4 + 1)).bind fun x14 =>
      (fgR S0 8 14 (some a0)).bind fun x16 =>
      (fI S0 10 x16 (x4 + 2)).bind fun x18 =>
      (fgR S0 8 14 (some a0)).bind fun x20 =>
      (fI S0 10 x20 (x4 + 3)).bind fun x22 =>
      (faI S0 x6 ((8 * v2) + v3) ((((x10 <<< (24 &&& 31)) ||| (x14 <<< (16 &&& 31))) ||| (x18 <<< (8 &&& 31))) ||| x22)).bind fun S24 =>
      gLet (v3 + 1) fun x26 =>
      f_X8_seenSlot_L2 k S24 a0 v1 v2 x26
set_option maxRecDepth 100000 in
set_option maxHeartbeats 4000000 in
theorem w_X8_seenSlot_L2 {p : Program} {l : Launch} {e : Env} {s : State} {m : MethodId} {args : Array Value} {below : List Frame} {meth : Method} {c : Code} {D : gD} {S9 : gS}  (hl : l.stackTraces = false) (X : gX D p l s m args meth c cX8_seenSlot 5 RX8) (hr : meth.sig.returnType = none) : ∀ (k : Nat) (S0 : gS) (a0 : Nat) (v1 : Int32) (v2 : Int32) (v3 : Int32), f_X8_seenSlot_L2 k S0 a0 v1 v2 v3 = some S9 → gJ D p l e { frames := 0, cells := 0, slots := 0, locals := 0 } s m args below meth c (MQ below (gQ D none S9) args s (0) (0) (gF D)) 5 (0) (0) S0 2 [(0, va_rf (some a0)), (1, .int v1), (2, .int v2), (3, .int v3)] [] := by
  intro k
  induction k with
  | zero => intro S0 a0 v1 v2 v3 h0; cases h0
  | succ k ih =>
    intro S0 a0 v1 v2 v3 h0
    have h0 := h0
    unfold f_X8_seenSlot_L2 at h0
    refine g_iload_n (j := 3) X dX8_seenSlot_2 rfl rfl ?_
    refine g_bipush X dX8_seenSlot_3 (v := 8) (by decide) ?_
    refine g_icmp_ge (tgt := 84) X dX8_seenSlot_5 (by decide) (fun c1 => ?_) (fun c1 => ?_)
    · have h2 := g_ip h0 c1; clear h0
      cases h2
      exact g_vret X hr (by decide) (by decide) dX8_seenSlot_84
    · have h3 := g_in h0 c1; clear h0
      refine g_bipush X dX8_seenSlot_8 (v := 80) (by decide) ?_
      refine g_iload_n (j := 1) X dX8_seenSlot_10 rfl rfl ?_
      refine g_imul X dX8_seenSlot_11 ?_
      refine g_bipush X dX8_seenSlot_12 (v := 16) (by decide) ?_
      refine g_iadd X dX8_seenSlot_14 ?_
      refine g_iconst X dX8_seenSlot_15 (v := 4) (by decide) ?_
      refine g_iload_n (j := 3) X dX8_seenSlot_16 rfl rfl ?_
      refine g_imul X dX8_seenSlot_17 ?_
      refine g_iadd X dX8_seenSlot_18 ?_
      obtain ⟨x4, ex4, h5⟩ := g_let h3; clear h3; rw [← ex4]; clear ex4
      refine g_istore (i := 4) (lv' := [(4, .int x4), (0, va_rf (some a0)), (1, .int v1), (2, .int v2), (3, .int v3)]) X dX8_seenSlot_19 (by decide) rfl ?_
      refine g_aload_n (j := 1) X dX8_seenSlot_21 rfl rfl ?_
      obtain ⟨x6, ex6, h7⟩ := g_bd h5; clear h5
      refine g_fR (ci := 8) (k := 21) X rfl il8 (by decide) tw724 (by decide) (fun _ _ _ => rfl) ex6 dX8_seenSlot_22 ?_
      clear ex6
      refine g_bipush X dX8_seenSlot_25 (v := 8) (by decide) ?_
      refine g_iload_n (j := 3) X dX8_seenSlot_27 rfl rfl ?_
      refine g_imul X dX8_seenSlot_28 ?_
      refine g_iload_n (j := 4) X dX8_seenSlot_29 rfl rfl ?_
      refine g_iadd X dX8_seenSlot_30 ?_
      refine g_aload_n (j := 1) X dX8_seenSlot_31 rfl rfl ?_
      obtain ⟨x8, ex8, h9⟩ := g_bd h7; clear h7
      refine g_fR (ci := 8) (k := 14) X rfl il8 (by decide) tw717 (by decide) (fun _ _ _ => rfl) ex8 dX8_seenSlot_32 ?_
      clear ex8
      refine g_iload (j := 0) X dX8_seenSlot_35 rfl ?_
      obtain ⟨x10, ex10, h11⟩ := g_bd h9; clear h9
      refine g_iald X ex10 dX8_seenSlot_37 ?_
      clear ex10
      refine g_bipush X dX8_seenSlot_38 (v := 24) (by decide) ?_
      refine g_ishl X dX8_seenSlot_40 ?_
      refine g_aload_n (j := 1) X dX8_seenSlot_41 rfl rfl ?_
      obtain ⟨x12, ex12, h13⟩ := g_bd h11; clear h11
      refine g_fR (ci := 8) (k := 14) X rfl il8 (by decide) tw717 (by decide) (fun _ _ _ => rfl) ex12 dX8_seenSlot_42 ?_
      clear ex12
      refine g_iload (j := 0) X dX8_seenSlot_45 rfl ?_
      refine g_iconst X dX8_seenSlot_47 (v := 1) (by decide) ?_
      refine g_iadd X dX8_seenSlot_48 ?_
      obtain ⟨x14, ex14, h15⟩ := g_bd h13; clear h13
      refine g_iald X ex14 dX8_seenSlot_49 ?_
      clear ex14
      refine g_bipush X dX8_seenSlot_50 (v := 16) (by decide) ?_
      refine g_ishl X dX8_seenSlot_52 ?_
      refine g_ior X dX8_seenSlot_53 ?_
      refine g_aload_n (j := 1) X dX8_seenSlot_54 rfl rfl ?_
      obtain ⟨x16, ex16, h17⟩ := g_bd h15; clear h15
      refine g_fR (ci := 8) (k := 14) X rfl il8 (by decide) tw717 (by decide) (fun _ _ _ => rfl) ex16 dX8_seenSlot_55 ?_
      clear ex16
      refine g_iload (j := 0) X dX8_seenSlot_58 rfl ?_
      refine g_iconst X dX8_seenSlot_60 (v := 2) (by decide) ?_
      refine g_iadd X dX8_seenSlot_61 ?_
      obtain ⟨x18, ex18, h19⟩ := g_bd h17; clear h17
      refine g_iald X ex18 dX8_seenSlot_62 ?_
      clear ex18
      refine g_bipush X dX8_seenSlot_63 (v := 8) (by decide) ?_
      refine g_ishl X dX8_seenSlot_65 ?_
      refine g_ior X dX8_seenSlot_66 ?_
      refine g_aload_n (j := 1) X dX8_seenSlot_67 rfl rfl ?_
      obtain ⟨x20, ex20, h21⟩ := g_bd h19; clear h19
      refine g_fR (ci := 8) (k := 14) X rfl il8 (by decide) tw717 (by decide) (fun _ _ _ => rfl) ex20 dX8_seenSlot_68 ?_
      clear ex20
      refine g_iload (j := 0) X dX8_seenSlot_71 rfl ?_
      refine g_iconst X dX8_seenSlot_73 (v := 3) (by decide) ?_
      refine g_iadd X dX8_seenSlot_74 ?_
      obtain ⟨x22, ex22, h23⟩ := g_bd h21; clear h21
      refine g_iald X ex22 dX8_seenSlot_75 ?_
      clear ex22
      refine g_ior X dX8_seenSlot_76 ?_
      obtain ⟨S24, eS24, h25⟩ := g_bd h23; clear h23
      refine g_iast X eS24 dX8_seenSlot_77 ?_
      clear eS24
      obtain ⟨x26, ex26, h27⟩ := g_let h25; clear h25
      refine g_iinc (j := 4) (v := x26) (lv' := [(3, .int x26), (4, .int x4), (0, va_rf (some a0)), (1, .int v1), (2, .int v2)]) X dX8_seenSlot_78 rfl (by rw [ex26]; rfl) (by decide) rfl ?_
      clear ex26
      refine g_goto (tgt := 2) X dX8_seenSlot_81 (by decide) ?_
      refine g_sub [2, 3, 4, 0] rfl ?_
      exact ih S24 a0 v1 v2 x26 h27
def f_X8_seenSlot (S0 : gS) (a0 : Nat) (v1 : Int32) (v2 : Int32) : Option gS :=
  f_X8_seenSlot_L2 gFuel S0 a0 v1 v2 0
set_option maxRecDepth 100000 in
set_option maxHeartbeats 4000000 in
theorem c_X8_seenSlot {l : Launch} (hl : l.stackTraces = false) (D : gD)  {S0 S9 : gS} {a0 : Nat} {v1 : Int32} {v2 : Int32} (h0 : f_X8_seenSlot S0 a0 v1 v2 = some S9) : Met l yX8_seenSlot (gws yX8_seenSlot cX8_seenSlot 5 none) { frames := 0, cells := 0, slots := 0, locals := 0 } (gPc D S0 [.ref a0, .int v1, .int v2]) (gQ D none S9) (0) (0) (gF D) := by
  refine g_met (lv := [(0, va_rf (some a0)), (1, .int v1), (2, .int v2)]) hl (by decide) (Nat.le_of_ble_eq_true rfl) rfl (fun p e s m args below meth c X hr hn => ?_)
  have X : gX D p l s m args meth c cX8_seenSlot 5 RX8 := X
  unfold f_X8_seenSlot at h0
  refine g_iconst X dX8_seenSlot_0 (v := 0) (by decide) ?_
  refine g_istore_n (i := 3) (lv' := [(3, .int 0), (0, va_rf (some a0)), (1, .int v1), (2, .int v2)]) X dX8_seenSlot_1 rfl (by decide) rfl ?_
  refine g_sub [1, 2, 3, 0] rfl ?_
  exact w_X8_seenSlot_L2 hl X hr gFuel S0 a0 v1 v2 0 h0
def f_X8_keep_L2 : Nat → gS → Nat → Int32 → Int32 → Option gS
  | 0, _, _, _, _ => none
  | k + 1, S0, a0, v1, v2 =>
    if 80 ≤ v2 then
      (fgR S0 8 15 (some a0)).bind fun x4 =>
      (faZ S0 x4 v1 1).bind fun S6 =>
      some S6
    else
      (fgR S0 8 14 (some a0)).bind fun x8 =>
      (fgR S0 8 1 (some a0)).bind fun x10 =>
      (fI S0 10 x10 v2).bind fun x12 =>
      (faI S0 x8 ((80 * v1) + v2) x12).bind fun S14 =>
      gLet (v2 + 1) fun x16 =>
      f_X8_keep_L2 k S14 a0 v1 x16
set_option maxRecDepth 100000 in
set_option maxHeartbeats 4000000 in
theorem w_X8_keep_L2 {p : Program} {l : Launch} {e : Env} {s : State} {m : MethodId} {args : Array Value} {below : List Frame} {meth : Method} {c : Code} {D : gD} {S9 : gS}  (hl : l.stackTraces = false) (X : gX D p l s m args meth c cX8_keep 3 RX8) (hr : meth.sig.returnType = none) : ∀ (k : Nat) (S0 : gS) (a0 : Nat) (v1 : Int32) (v2 : Int32), f_X8_keep_L2 k S0 a0 v1 v2 = some S9 → gJ D p l e { frames := 0, cells := 0, slots := 0, locals := 0 } s m args below meth c (MQ below (gQ D none S9) args s (0) (0) (gF D)) 3 (0) (0) S0 2 [(0, va_rf (some a0)), (1, .int v1), (2, .int v2)] [] := by
  intro k
  induction k with
  | zero => intro S0 a0 v1 v2 h0; cases h0
  | succ k ih =>
    intro S0 a0 v1 v2 h0
    have h0 := h0
    unfold f_X8_keep_L2 at h0
    refine g_iload_n (j := 2) X dX8_keep_2 rfl rfl ?_
    refine g_bipush X dX8_keep_3 (v := 80) (by decide) ?_
    refine g_icmp_ge (tgt := 31) X dX8_keep_5 (by decide) (fun c1 => ?_) (fun c1 => ?_)
    · have h2 := g_ip h0 c1; clear h0
      refine g_aload_n (j := 0) X dX8_keep_31 rfl rfl ?_
      obtain ⟨x4, ex4, h5⟩ := g_bd h2; clear h2
      refine g_fR (ci := 8) (k := 15) X rfl il8 (by decide) tw718 (by decide) (fun _ _ _ => rfl) ex4 dX8_keep_32 ?_
      clear ex4
      refine g_iload_n (j := 1) X dX8_keep_35 rfl rfl ?_
      refine g_iconst X dX8_keep_36 (v := 1) (by decide) ?_
      obtain ⟨S6, eS6, h7⟩ := g_bd h5; clear h5
      refine g_zast X eS6 dX8_keep_37 ?_
      clear eS6
      cases h7
      exact g_vret X hr (by decide) (by decide) dX8_keep_38
    · have h3 := g_in h0 c1; clear h0
      refine g_aload_n (j := 0) X dX8_keep_8 rfl rfl ?_
      obtain ⟨x8, ex8, h9⟩ := g_bd h3; clear h3
      refine g_fR (ci := 8) (k := 14) X rfl il8 (by decide) tw717 (by decide) (fun _ _ _ => rfl) ex8 dX8_keep_9 ?_
      clear ex8
      refine g_bipush X dX8_keep_12 (v := 80) (by decide) ?_
      refine g_iload_n (j := 1) X dX8_keep_14 rfl rfl ?_
      refine g_imul X dX8_keep_15 ?_
      refine g_iload_n (j := 2) X dX8_keep_16 rfl rfl ?_
      refine g_iadd X dX8_keep_17 ?_
      refine g_aload_n (j := 0) X dX8_keep_18 rfl rfl ?_
      obtain ⟨x10, ex10, h11⟩ := g_bd h9; clear h9
      refine g_fR (ci := 8) (k := 1) X rfl il8 (by decide) tw704 (by decide) (fun _ _ _ => rfl) ex10 dX8_keep_19 ?_
      clear ex10
      refine g_iload_n (j := 2) X dX8_keep_22 rfl rfl ?_
      obtain ⟨x12, ex12, h13⟩ := g_bd h11; clear h11
      refine g_iald X ex12 dX8_keep_23 ?_
      clear ex12
      obtain ⟨S14, eS14, h15⟩ := g_bd h13; clear h13
      refine g_iast X eS14 dX8_keep_24 ?_
      clear eS14
      obtain ⟨x16, ex16, h17⟩ := g_let h15; clear h15
      refine g_iinc (j := 2) (v := x16) (lv' := [(2, .int x16), (0, va_rf (some a0)), (1, .int v1)]) X dX8_keep_25 rfl (by rw [ex16]; rfl) (by decide) rfl ?_
      clear ex16
      refine g_goto (tgt := 2) X dX8_keep_28 (by decide) ?_
      refine g_sub [1, 2, 0] rfl ?_
      exact ih S14 a0 v1 x16 h17
def f_X8_keep (S0 : gS) (a0 : Nat) (v1 : Int32) : Option gS :=
  f_X8_keep_L2 gFuel S0 a0 v1 0
set_option maxRecDepth 100000 in
set_option maxHeartbeats 4000000 in
theorem c_X8_keep {l : Launch} (hl : l.stackTraces = false) (D : gD)  {S0 S9 : gS} {a0 : Nat} {v1 : Int32} (h0 : f_X8_keep S0 a0 v1 = some S9) : Met l yX8_keep (gws yX8_keep cX8_keep 3 none) { frames := 0, cells := 0, slots := 0, locals := 0 } (gPc D S0 [.ref a0, .int v1]) (gQ D none S9) (0) (0) (gF D) := by
  refine g_met (lv := [(0, va_rf (some a0)), (1, .int v1)]) hl (by decide) (Nat.le_of_ble_eq_true rfl) rfl (fun p e s m args below meth c X hr hn => ?_)
  have X : gX D p l s m args meth c cX8_keep 3 RX8 := X
  unfold f_X8_keep at h0
  refine g_iconst X dX8_keep_0 (v := 0) (by decide) ?_
  refine g_istore_n (i := 2) (lv' := [(2, .int 0), (0, va_rf (some a0)), (1, .int v1)]) X dX8_keep_1 rfl (by decide) rfl ?_
  refine g_sub [1, 2, 0] rfl ?_
  exact w_X8_keep_L2 hl X hr gFuel S0 a0 v1 0 h0
def f_X8_copySeen_L2 : Nat → gS → Nat → Int32 → Int32 → Int32 → Option gS
  | 0, _, _, _, _, _ => none
  | k + 1, S0, a0, v1, v2, v3 =>
    if 80 ≤ v3 then
      (fgR S0 8 15 (some a0)).bind fun x4 =>
      (faZ S0 x4 v2 1).bind fun S6 =>
      some S6
    else
      (fgR S0 8 14 (some a0)).bind fun x8 =>
      (fgR S0 8 14 (some a0)).bind fun x10 =>
      (fI S0 10 x10 ((80 * v1) + v3)).bind fun x12 =>
      (faI S0 x8 ((80 * v2) + v3) x12).bind fun S14 =>
      gLet (v3 + 1) fun x16 =>
      f_X8_copySeen_L2 k S14 a0 v1 v2 x16
set_option maxRecDepth 100000 in
set_option maxHeartbeats 4000000 in
theorem w_X8_copySeen_L2 {p : Program} {l : Launch} {e : Env} {s : State} {m : MethodId} {args : Array Value} {below : List Frame} {meth : Method} {c : Code} {D : gD} {S9 : gS}  (hl : l.stackTraces = false) (X : gX D p l s m args meth c cX8_copySeen 4 RX8) (hr : meth.sig.returnType = none) : ∀ (k : Nat) (S0 : gS) (a0 : Nat) (v1 : Int32) (v2 : Int32) (v3 : Int32), f_X8_copySeen_L2 k S0 a0 v1 v2 v3 = some S9 → gJ D p l e { frames := 0, cells := 0, slots := 0, locals := 0 } s m args below meth c (MQ below (gQ D none S9) args s (0) (0) (gF D)) 4 (0) (0) S0 2 [(0, va_rf (some a0)), (1, .int v1), (2, .int v2), (3, .int v3)] [] := by
  intro k
  induction k with
  | zero => intro S0 a0 v1 v2 v3 h0; cases h0
  | succ k ih =>
    intro S0 a0 v1 v2 v3 h0
    have h0 := h0
    unfold f_X8_copySeen_L2 at h0
    refine g_iload_n (j := 3) X dX8_copySeen_2 rfl rfl ?_
    refine g_bipush X dX8_copySeen_3 (v := 80) (by decide) ?_
    refine g_icmp_ge (tgt := 36) X dX8_copySeen_5 (by decide) (fun c1 => ?_) (fun c1 => ?_)
    · have h2 := g_ip h0 c1; clear h0
      refine g_aload_n (j := 0) X dX8_copySeen_36 rfl rfl ?_
      obtain ⟨x4, ex4, h5⟩ := g_bd h2; clear h2
      refine g_fR (ci := 8) (k := 15) X rfl il8 (by decide) tw718 (by decide) (fun _ _ _ => rfl) ex4 dX8_copySeen_37 ?_
      clear ex4
      refine g_iload_n (j := 2) X dX8_copySeen_40 rfl rfl ?_
      refine g_iconst X dX8_copySeen_41 (v := 1) (by decide) ?_
      obtain ⟨S6, eS6, h7⟩ := g_bd h5; clear h5
      refine g_zast X eS6 dX8_copySeen_42 ?_
      clear eS6
      cases h7
      exact g_vret X hr (by decide) (by decide) dX8_copySeen_43
    · have h3 := g_in h0 c1; clear h0
      refine g_aload_n (j := 0) X dX8_copySeen_8 rfl rfl ?_
      obtain ⟨x8, ex8, h9⟩ := g_bd h3; clear h3
      refine g_fR (ci := 8) (k := 14) X rfl il8 (by decide) tw717 (by decide) (fun _ _ _ => rfl) ex8 dX8_copySeen_9 ?_
      clear ex8
      refine g_bipush X dX8_copySeen_12 (v := 80) (by decide) ?_
      refine g_iload_n (j := 2) X dX8_copySeen_14 rfl rfl ?_
      refine g_imul X dX8_copySeen_15 ?_
      refine g_iload_n (j := 3) X dX8_copySeen_16 rfl rfl ?_
      refine g_iadd X dX8_copySeen_17 ?_
      refine g_aload_n (j := 0) X dX8_copySeen_18 rfl rfl ?_
      obtain ⟨x10, ex10, h11⟩ := g_bd h9; clear h9
      refine g_fR (ci := 8) (k := 14) X rfl il8 (by decide) tw717 (by decide) (fun _ _ _ => rfl) ex10 dX8_copySeen_19 ?_
      clear ex10
      refine g_bipush X dX8_copySeen_22 (v := 80) (by decide) ?_
      refine g_iload_n (j := 1) X dX8_copySeen_24 rfl rfl ?_
      refine g_imul X dX8_copySeen_25 ?_
      refine g_iload_n (j := 3) X dX8_copySeen_26 rfl rfl ?_
      refine g_iadd X dX8_copySeen_27 ?_
      obtain ⟨x12, ex12, h13⟩ := g_bd h11; clear h11
      refine g_iald X ex12 dX8_copySeen_28 ?_
      clear ex12
      obtain ⟨S14, eS14, h15⟩ := g_bd h13; clear h13
      refine g_iast X eS14 dX8_copySeen_29 ?_
      clear eS14
      obtain ⟨x16, ex16, h17⟩ := g_let h15; clear h15
      refine g_iinc (j := 3) (v := x16) (lv' := [(3, .int x16), (0, va_rf (some a0)), (1, .int v1), (2, .int v2)]) X dX8_copySeen_30 rfl (by rw [ex16]; rfl) (by decide) rfl ?_
      clear ex16
      refine g_goto (tgt := 2) X dX8_copySeen_33 (by decide) ?_
      refine g_sub [1, 2, 3, 0] rfl ?_
      exact ih S14 a0 v1 v2 x16 h17
def f_X8_copySeen (S0 : gS) (a0 : Nat) (v1 : Int32) (v2 : Int32) : Option gS :=
  f_X8_copySeen_L2 gFuel S0 a0 v1 v2 0
set_option maxRecDepth 100000 in
set_option maxHeartbeats 4000000 in
theorem c_X8_copySeen {l : Launch} (hl : l.stackTraces = false) (D : gD)  {S0 S9 : gS} {a0 : Nat} {v1 : Int32} {v2 : Int32} (h0 : f_X8_copySeen S0 a0 v1 v2 = some S9) : Met l yX8_copySeen (gws yX8_copySeen cX8_copySeen 4 none) { frames := 0, cells := 0, slots := 0, locals := 0 } (gPc D S0 [.ref a0, .int v1, .int v2]) (gQ D none S9) (0) (0) (gF D) := by
  refine g_met (lv := [(0, va_rf (some a0)), (1, .int v1), (2, .int v2)]) hl (by decide) (Nat.le_of_ble_eq_true rfl) rfl (fun p e s m args below meth c X hr hn => ?_)
  have X : gX D p l s m args meth c cX8_copySeen 4 RX8 := X
  unfold f_X8_copySeen at h0
  refine g_iconst X dX8_copySeen_0 (v := 0) (by decide) ?_
  refine g_istore_n (i := 3) (lv' := [(3, .int 0), (0, va_rf (some a0)), (1, .int v1), (2, .int v2)]) X dX8_copySeen_1 rfl (by decide) rfl ?_
  refine g_sub [1, 2, 3, 0] rfl ?_
  exact w_X8_copySeen_L2 hl X hr gFuel S0 a0 v1 v2 0 h0
def f_X8_follow_B275 (S0 : gS) (a0 : Nat) (v4 : Int64) (v8 : Int32) (v9 : Int32) : Option (Int32 × gS) :=
  if v9 = 0 then
    gDc S0 8 (some a0) fun a84 =>
    (f_X8_keep S0 a84 v8).bind fun S86 =>
    some (0, S86)
  else
    gDc S0 8 (some a0) fun a88 =>
    gBi (f_X8_seenLong S0 a88 v8 0) fun x92 S90 =>
    if 0 ≤ (lg_cmp v4 x92) then
      gDc S90 8 (some a0) fun a96 =>
      (f_X8_keep S90 a96 v8).bind fun S98 =>
      some (0, S98)
    else
      some (5, S90)
set_option maxRecDepth 100000 in
set_option maxHeartbeats 4000000 in
theorem w_X8_follow_B275 {p : Program} {l : Launch} {e : Env} {s : State} {m : MethodId} {args : Array Value} {below : List Frame} {meth : Method} {c : Code} {D : gD} {S9 : gS} {res : Int32}  (hl : l.stackTraces = false) (X : gX D p l s m args meth c cX8_follow 13 RX8) (hr : meth.sig.returnType = (some .int)) (S0 : gS) (a0 : Nat) (v4 : Int64) (v8 : Int32) (v9 : Int32) (h0 : f_X8_follow_B275 S0 a0 v4 v8 v9 = some (res, S9)) : gJ D p l e { frames := 6, cells := 143, slots := 1144, locals := 144 } s m args below meth c (MQ below (gQ D (some (.int res)) S9) args s (143) (1144) (gF D)) 13 (143) (1144) S0 275 [(0, va_rf (some a0)), (4, .long v4), (8, .int v8), (9, .int v9)] [] := by
  unfold f_X8_follow_B275 at h0
  refine g_iload (j := 3) X dX8_follow_275 rfl ?_
  refine g_if_eq (tgt := 295) X dX8_follow_277 (by decide) (fun c81 => ?_) (fun c81 => ?_)
  · have h82 := g_ip h0 c81; clear h0
    refine g_aload_n (j := 0) X dX8_follow_295 rfl rfl ?_
    refine g_iload (j := 2) X dX8_follow_296 rfl ?_
    obtain ⟨a84, ea84, ka84, h85⟩ := g_dc h82; clear h82
    obtain ⟨S86, eS86, h87⟩ := g_bd h85; clear h85
    refine g_cV (n := 1) (As := [.int v8]) X (c_X8_keep hl D eS86) tw964 tw965 tw41 tw51 tw966 (by decide +kernel) rfl rfl ⟨Nat.le_of_ble_eq_true rfl, Nat.le_of_ble_eq_true rfl⟩ (ci := 8) rfl (by decide) ea84 ka84 rfl rfl (Nat.le_of_ble_eq_true rfl) dX8_follow_298 ⟨(by decide), (by decide)⟩ ?_
    clear eS86 ea84 ka84
    refine g_iconst X dX8_follow_301 (v := 0) (by decide) ?_
    obtain ⟨rfl, rfl⟩ := g_end h87
    exact g_iret X hr (by decide) (by decide) dX8_follow_302
  · have h83 := g_in h0 c81; clear h0
    refine g_lload (j := 1) X dX8_follow_280 rfl ?_
    refine g_aload_n (j := 0) X dX8_follow_282 rfl rfl ?_
    refine g_iload (j := 2) X dX8_follow_283 rfl ?_
    refine g_iconst X dX8_follow_285 (v := 0) (by decide) ?_
    obtain ⟨a88, ea88, ka88, h89⟩ := g_dc h83; clear h83
    obtain ⟨x92, S90, eS90, h91⟩ := g_bi h89; clear h89
    refine g_cV (n := 2) (As := [.int v8, .int 0]) X (c_X8_seenLong hl D eS90) tw955 tw956 tw38 tw51 tw957 (by decide +kernel) rfl rfl ⟨Nat.le_of_ble_eq_true rfl, Nat.le_of_ble_eq_true rfl⟩ (ci := 8) rfl (by decide) ea88 ka88 rfl rfl (Nat.le_of_ble_eq_true rfl) dX8_follow_286 ⟨(by decide), (by decide)⟩ ?_
    clear eS90 ea88 ka88
    refine g_lcmp X dX8_follow_289 ?_
    refine g_if_ge (tgt := 295) X dX8_follow_290 (by decide) (fun c93 => ?_) (fun c93 => ?_)
    · have h94 := g_ip h91 c93; clear h91
      refine g_aload_n (j := 0) X dX8_follow_295 rfl rfl ?_
      refine g_iload (j := 2) X dX8_follow_296 rfl ?_
      obtain ⟨a96, ea96, ka96, h97⟩ := g_dc h94; clear h94
      obtain ⟨S98, eS98, h99⟩ := g_bd h97; clear h97
      refine g_cV (n := 1) (As := [.int v8]) X (c_X8_keep hl D eS98) tw964 tw965 tw41 tw51 tw966 (by decide +kernel) rfl rfl ⟨Nat.le_of_ble_eq_true rfl, Nat.le_of_ble_eq_true rfl⟩ (ci := 8) rfl (by decide) ea96 ka96 rfl rfl (Nat.le_of_ble_eq_true rfl) dX8_follow_298 ⟨(by decide), (by decide)⟩ ?_
      clear eS98 ea96 ka96
      refine g_iconst X dX8_follow_301 (v := 0) (by decide) ?_
      obtain ⟨rfl, rfl⟩ := g_end h99
      exact g_iret X hr (by decide) (by decide) dX8_follow_302
    · have h95 := g_in h91 c93; clear h91
      refine g_iconst X dX8_follow_293 (v := 5) (by decide) ?_
      obtain ⟨rfl, rfl⟩ := g_end h95
      exact g_iret X hr (by decide) (by decide) dX8_follow_294
def f_X8_follow_B243 (S0 : gS) (a0 : Nat) (v3 : Int32) (v4 : Int64) (v6 : Int64) (v8 : Int32) (v9 : Int32) (v10 : Int64) (t0 : Int32) : Option (Int32 × gS) :=
  if t0 = 0 then
    gDc S0 8 (some a0) fun a73 =>
    gBi (f_X8_goesOn S0 a73 v10 v6 80 v3) fun x77 S75 =>
    if x77 = 0 then
      some (4, S75)
    else
      f_X8_follow_B275 S75 a0 v4 v8 v9
  else
    if v3 = 80 then
      f_X8_follow_B275 S0 a0 v4 v8 v9
    else
      some (4, S0)
set_option maxRecDepth 100000 in
set_option maxHeartbeats 4000000 in
theorem w_X8_follow_B243 {p : Program} {l : Launch} {e : Env} {s : State} {m : MethodId} {args : Array Value} {below : List Frame} {meth : Method} {c : Code} {D : gD} {S9 : gS} {res : Int32}  (hl : l.stackTraces = false) (X : gX D p l s m args meth c cX8_follow 13 RX8) (hr : meth.sig.returnType = (some .int)) (S0 : gS) (a0 : Nat) (v3 : Int32) (v4 : Int64) (v6 : Int64) (v8 : Int32) (v9 : Int32) (v10 : Int64) (t0 : Int32) (h0 : f_X8_follow_B243 S0 a0 v3 v4 v6 v8 v9 v10 t0 = some (res, S9)) : gJ D p l e { frames := 6, cells := 143, slots := 1144, locals := 144 } s m args below meth c (MQ below (gQ D (some (.int res)) S9) args s (143) (1144) (gF D)) 13 (3) (24) S0 243 [(0, va_rf (some a0)), (3, .int v3), (4, .long v4), (6, .long v6), (8, .int v8), (9, .int v9), (10, .long v10)] [.int t0] := by
  unfold f_X8_follow_B243 at h0
  refine g_istore (i := 12) (lv' := [(12, .int t0), (0, va_rf (some a0)), (3, .int v3), (4, .long v4), (6, .long v6), (8, .int v8), (9, .int v9), (10, .long v10)]) X dX8_follow_243 (by decide) rfl ?_
  refine g_iload (j := 0) X dX8_follow_245 rfl ?_
  refine g_if_eq (tgt := 259) X dX8_follow_247 (by decide) (fun c70 => ?_) (fun c70 => ?_)
  · have h71 := g_ip h0 c70; clear h0
    refine g_aload_n (j := 1) X dX8_follow_259 rfl rfl ?_
    refine g_lload (j := 7) X dX8_follow_260 rfl ?_
    refine g_lload (j := 4) X dX8_follow_262 rfl ?_
    refine g_bipush X dX8_follow_264 (v := 80) (by decide) ?_
    refine g_iload_n (j := 2) X dX8_follow_266 rfl rfl ?_
    obtain ⟨a73, ea73, ka73, h74⟩ := g_dc h71; clear h71
    obtain ⟨x77, S75, eS75, h76⟩ := g_bi h74; clear h74
    refine g_cV (n := 4) (As := [.long v10, .long v6, .int 80, .int v3]) X (c_X8_goesOn hl D eS75) tw928 tw929 tw35 tw51 tw930 (by decide +kernel) rfl rfl ⟨Nat.le_of_ble_eq_true rfl, Nat.le_of_ble_eq_true rfl⟩ (ci := 8) rfl (by decide) ea73 ka73 rfl rfl (Nat.le_of_ble_eq_true rfl) dX8_follow_267 ⟨(by decide), (by decide)⟩ ?_
    clear eS75 ea73 ka73
    refine g_if_ne (tgt := 275) X dX8_follow_270 (by decide) (fun c78 => ?_) (fun c78 => ?_)
    · have h79 := g_in h76 c78; clear h76
      refine g_sub [1, 3, 5, 6] rfl ?_
      exact w_X8_follow_B275 hl X hr S75 a0 v4 v8 v9 h79
    · have h80 := g_ip h76 c78; clear h76
      refine g_iconst X dX8_follow_273 (v := 4) (by decide) ?_
      obtain ⟨rfl, rfl⟩ := g_end h80
      exact g_iret X hr (by decide) (by decide) dX8_follow_274
  · have h72 := g_in h0 c70; clear h0
    refine g_iload_n (j := 2) X dX8_follow_250 rfl rfl ?_
    refine g_bipush X dX8_follow_251 (v := 80) (by decide) ?_
    refine g_icmp_eq (tgt := 275) X dX8_follow_253 (by decide) (fun c100 => ?_) (fun c100 => ?_)
    · have h101 := g_ip h72 c100; clear h72
      refine g_sub [1, 3, 5, 6] rfl ?_
      refine g_wid (k := 143) (n := 1144) (by decide) (by decide) ?_
      exact w_X8_follow_B275 hl X hr S0 a0 v4 v8 v9 h101
    · have h102 := g_in h72 c100; clear h72
      refine g_goto (tgt := 273) X dX8_follow_256 (by decide) ?_
      refine g_iconst X dX8_follow_273 (v := 4) (by decide) ?_
      obtain ⟨rfl, rfl⟩ := g_end h102
      exact g_iret X hr (by decide) (by decide) dX8_follow_274
def f_X8_follow_B238 (S0 : gS) (a0 : Nat) (v3 : Int32) (v4 : Int64) (v6 : Int64) (v8 : Int32) (v9 : Int32) (v10 : Int64) : Option (Int32 × gS) :=
  f_X8_follow_B243 S0 a0 v3 v4 v6 v8 v9 v10 1
set_option maxRecDepth 100000 in
set_option maxHeartbeats 4000000 in
theorem w_X8_follow_B238 {p : Program} {l : Launch} {e : Env} {s : State} {m : MethodId} {args : Array Value} {below : List Frame} {meth : Method} {c : Code} {D : gD} {S9 : gS} {res : Int32}  (hl : l.stackTraces = false) (X : gX D p l s m args meth c cX8_follow 13 RX8) (hr : meth.sig.returnType = (some .int)) (S0 : gS) (a0 : Nat) (v3 : Int32) (v4 : Int64) (v6 : Int64) (v8 : Int32) (v9 : Int32) (v10 : Int64) (h0 : f_X8_follow_B238 S0 a0 v3 v4 v6 v8 v9 v10 = some (res, S9)) : gJ D p l e { frames := 6, cells := 143, slots := 1144, locals := 144 } s m args below meth c (MQ below (gQ D (some (.int res)) S9) args s (143) (1144) (gF D)) 13 (3) (24) S0 238 [(0, va_rf (some a0)), (3, .int v3), (4, .long v4), (6, .long v6), (8, .int v8), (9, .int v9), (10, .long v10)] [] := by
  unfold f_X8_follow_B238 at h0
  refine g_iconst X dX8_follow_238 (v := 1) (by decide) ?_
  refine g_goto (tgt := 243) X dX8_follow_239 (by decide) ?_
  refine g_sub [0, 1, 2, 3, 4, 5, 6] rfl ?_
  exact w_X8_follow_B243 hl X hr S0 a0 v3 v4 v6 v8 v9 v10 1 h0
def f_X8_follow_B218 (S0 : gS) (a0 : Nat) (v3 : Int32) (v4 : Int64) (v6 : Int64) (v8 : Int32) (v9 : Int32) (v10 : Int64) : Option (Int32 × gS) :=
  if v9 = 0 then
    f_X8_follow_B238 S0 a0 v3 v4 v6 v8 v9 v10
  else
    if (lg_cmp v6 v10) = 0 then
      f_X8_follow_B238 S0 a0 v3 v4 v6 v8 v9 v10
    else
      if (lg_cmp v10 0) = 0 then
        f_X8_follow_B238 S0 a0 v3 v4 v6 v8 v9 v10
      else
        f_X8_follow_B243 S0 a0 v3 v4 v6 v8 v9 v10 0
set_option maxRecDepth 100000 in
set_option maxHeartbeats 4000000 in
theorem w_X8_follow_B218 {p : Program} {l : Launch} {e : Env} {s : State} {m : MethodId} {args : Array Value} {below : List Frame} {meth : Method} {c : Code} {D : gD} {S9 : gS} {res : Int32}  (hl : l.stackTraces = false) (X : gX D p l s m args meth c cX8_follow 13 RX8) (hr : meth.sig.returnType = (some .int)) (S0 : gS) (a0 : Nat) (v3 : Int32) (v4 : Int64) (v6 : Int64) (v8 : Int32) (v9 : Int32) (v10 : Int64) (h0 : f_X8_follow_B218 S0 a0 v3 v4 v6 v8 v9 v10 = some (res, S9)) : gJ D p l e { frames := 6, cells := 143, slots := 1144, locals := 144 } s m args below meth c (MQ below (gQ D (some (.int res)) S9) args s (143) (1144) (gF D)) 13 (3) (24) S0 218 [(0, va_rf (some a0)), (3, .int v3), (4, .long v4), (6, .long v6), (8, .int v8), (9, .int v9), (10, .long v10)] [] := by
  unfold f_X8_follow_B218 at h0
  refine g_iload (j := 5) X dX8_follow_218 rfl ?_
  refine g_if_eq (tgt := 238) X dX8_follow_220 (by decide) (fun c67 => ?_) (fun c67 => ?_)
  · have h68 := g_ip h0 c67; clear h0
    refine g_sub [0, 1, 2, 3, 4, 5, 6] rfl ?_
    exact w_X8_follow_B238 hl X hr S0 a0 v3 v4 v6 v8 v9 v10 h68
  · have h69 := g_in h0 c67; clear h0
    refine g_lload (j := 3) X dX8_follow_223 rfl ?_
    refine g_lload (j := 6) X dX8_follow_225 rfl ?_
    refine g_lcmp X dX8_follow_227 ?_
    refine g_if_eq (tgt := 238) X dX8_follow_228 (by decide) (fun c103 => ?_) (fun c103 => ?_)
    · have h104 := g_ip h69 c103; clear h69
      refine g_sub [0, 1, 2, 3, 4, 5, 6] rfl ?_
      exact w_X8_follow_B238 hl X hr S0 a0 v3 v4 v6 v8 v9 v10 h104
    · have h105 := g_in h69 c103; clear h69
      refine g_lload (j := 6) X dX8_follow_231 rfl ?_
      refine g_lconst X dX8_follow_233 (v := 0) (by decide) ?_
      refine g_lcmp X dX8_follow_234 ?_
      refine g_if_ne (tgt := 242) X dX8_follow_235 (by decide) (fun c106 => ?_) (fun c106 => ?_)
      · have h107 := g_in h105 c106; clear h105
        refine g_iconst X dX8_follow_242 (v := 0) (by decide) ?_
        refine g_sub [0, 1, 2, 3, 4, 5, 6] rfl ?_
        exact w_X8_follow_B243 hl X hr S0 a0 v3 v4 v6 v8 v9 v10 0 h107
      · have h108 := g_ip h105 c106; clear h105
        refine g_sub [0, 1, 2, 3, 4, 5, 6] rfl ?_
        exact w_X8_follow_B238 hl X hr S0 a0 v3 v4 v6 v8 v9 v10 h108
def f_X8_follow_B146 (S0 : gS) (a0 : Nat) (v3 : Int32) (v4 : Int64) (v6 : Int64) (v8 : Int32) (v9 : Int32) (v10 : Int64) : Option (Int32 × gS) :=
  gDc S0 8 (some a0) fun a56 =>
  (f_X8_seenSlot S0 a56 v8 10).bind fun S58 =>
  gDc S58 8 (some a0) fun a60 =>
  (f_X8_fromTape S58 a60 16 11).bind fun S62 =>
  if v9 = 0 then
    f_X8_follow_B218 S62 a0 v3 v4 v6 v8 v9 v10
  else
    if (lg_cmp v6 v10) = 0 then
      gDc S62 8 (some a0) fun a112 =>
      gBi (f_X8_isSame S62 a112 10 11) fun x116 S114 =>
      if x116 = 0 then
        (fgR S114 8 15 (some a0)).bind fun x120 =>
        (fI S114 12 x120 (v8 + 1)).bind fun x122 =>
        if x122 = 0 then
          gDc S114 8 (some a0) fun a127 =>
          (f_X8_copySeen S114 a127 v8 (v8 + 1)).bind fun S129 =>
          gDc S129 8 (some a0) fun a131 =>
          (f_X8_keep S129 a131 (v8 + 2)).bind fun S133 =>
          some (3, S133)
        else
          some (3, S114)
      else
        f_X8_follow_B218 S114 a0 v3 v4 v6 v8 v9 v10
    else
      f_X8_follow_B218 S62 a0 v3 v4 v6 v8 v9 v10
set_option maxRecDepth 100000 in
set_option maxHeartbeats 4000000 in
theorem w_X8_follow_B146 {p : Program} {l : Launch} {e : Env} {s : State} {m : MethodId} {args : Array Value} {below : List Frame} {meth : Method} {c : Code} {D : gD} {S9 : gS} {res : Int32}  (hl : l.stackTraces = false) (X : gX D p l s m args meth c cX8_follow 13 RX8) (hr : meth.sig.returnType = (some .int)) (S0 : gS) (a0 : Nat) (v3 : Int32) (v4 : Int64) (v6 : Int64) (v8 : Int32) (v9 : Int32) (v10 : Int64) (h0 : f_X8_follow_B146 S0 a0 v3 v4 v6 v8 v9 v10 = some (res, S9)) : gJ D p l e { frames := 6, cells := 143, slots := 1144, locals := 144 } s m args below meth c (MQ below (gQ D (some (.int res)) S9) args s (143) (1144) (gF D)) 13 (3) (24) S0 146 [(0, va_rf (some a0)), (3, .int v3), (4, .long v4), (6, .long v6), (8, .int v8), (9, .int v9), (10, .long v10)] [] := by
  unfold f_X8_follow_B146 at h0
  refine g_aload_n (j := 0) X dX8_follow_146 rfl rfl ?_
  refine g_iload (j := 4) X dX8_follow_147 rfl ?_
  refine g_bipush X dX8_follow_149 (v := 10) (by decide) ?_
  obtain ⟨a56, ea56, ka56, h57⟩ := g_dc h0; clear h0
  obtain ⟨S58, eS58, h59⟩ := g_bd h57; clear h57
  refine g_cV (n := 2) (As := [.int v8, .int 10]) X (c_X8_seenSlot hl D eS58) tw958 tw959 tw39 tw51 tw960 (by decide +kernel) rfl rfl ⟨Nat.le_of_ble_eq_true rfl, Nat.le_of_ble_eq_true rfl⟩ (ci := 8) rfl (by decide) ea56 ka56 rfl rfl (Nat.le_of_ble_eq_true rfl) dX8_follow_151 ⟨(by decide), (by decide)⟩ ?_
  clear eS58 ea56 ka56
  refine g_aload_n (j := 0) X dX8_follow_154 rfl rfl ?_
  refine g_bipush X dX8_follow_155 (v := 16) (by decide) ?_
  refine g_bipush X dX8_follow_157 (v := 11) (by decide) ?_
  obtain ⟨a60, ea60, ka60, h61⟩ := g_dc h59; clear h59
  obtain ⟨S62, eS62, h63⟩ := g_bd h61; clear h61
  refine g_cV (n := 2) (As := [.int 16, .int 11]) X (c_X8_fromTape hl D eS62) tw879 tw880 tw29 tw51 tw881 (by decide +kernel) rfl rfl ⟨Nat.le_of_ble_eq_true rfl, Nat.le_of_ble_eq_true rfl⟩ (ci := 8) rfl (by decide) ea60 ka60 rfl rfl (Nat.le_of_ble_eq_true rfl) dX8_follow_159 ⟨(by decide), (by decide)⟩ ?_
  clear eS62 ea60 ka60
  refine g_iload (j := 5) X dX8_follow_162 rfl ?_
  refine g_if_eq (tgt := 218) X dX8_follow_164 (by decide) (fun c64 => ?_) (fun c64 => ?_)
  · have h65 := g_ip h63 c64; clear h63
    refine g_sub [0, 1, 2, 3, 4, 5, 6] rfl ?_
    exact w_X8_follow_B218 hl X hr S62 a0 v3 v4 v6 v8 v9 v10 h65
  · have h66 := g_in h63 c64; clear h63
    refine g_lload (j := 3) X dX8_follow_167 rfl ?_
    refine g_lload (j := 6) X dX8_follow_169 rfl ?_
    refine g_lcmp X dX8_follow_171 ?_
    refine g_if_ne (tgt := 218) X dX8_follow_172 (by decide) (fun c109 => ?_) (fun c109 => ?_)
    · have h110 := g_in h66 c109; clear h66
      refine g_sub [0, 1, 2, 3, 4, 5, 6] rfl ?_
      exact w_X8_follow_B218 hl X hr S62 a0 v3 v4 v6 v8 v9 v10 h110
    · have h111 := g_ip h66 c109; clear h66
      refine g_aload_n (j := 0) X dX8_follow_175 rfl rfl ?_
      refine g_bipush X dX8_follow_176 (v := 10) (by decide) ?_
      refine g_bipush X dX8_follow_178 (v := 11) (by decide) ?_
      obtain ⟨a112, ea112, ka112, h113⟩ := g_dc h111; clear h111
      obtain ⟨x116, S114, eS114, h115⟩ := g_bi h113; clear h113
      refine g_cV (n := 2) (As := [.int 10, .int 11]) X (c_X8_isSame hl D eS114) tw882 tw883 tw30 tw51 tw884 (by decide +kernel) rfl rfl ⟨Nat.le_of_ble_eq_true rfl, Nat.le_of_ble_eq_true rfl⟩ (ci := 8) rfl (by decide) ea112 ka112 rfl rfl (Nat.le_of_ble_eq_true rfl) dX8_follow_180 ⟨(by decide), (by decide)⟩ ?_
      clear eS114 ea112 ka112
      refine g_if_ne (tgt := 218) X dX8_follow_183 (by decide) (fun c117 => ?_) (fun c117 => ?_)
      · have h118 := g_in h115 c117; clear h115
        refine g_sub [0, 1, 2, 3, 4, 5, 6] rfl ?_
        exact w_X8_follow_B218 hl X hr S114 a0 v3 v4 v6 v8 v9 v10 h118
      · have h119 := g_ip h115 c117; clear h115
        refine g_aload_n (j := 0) X dX8_follow_186 rfl rfl ?_
        obtain ⟨x120, ex120, h121⟩ := g_bd h119; clear h119
        refine g_fR (ci := 8) (k := 15) X rfl il8 (by decide) tw718 (by decide) (fun _ _ _ => rfl) ex120 dX8_follow_187 ?_
        clear ex120
        refine g_iload (j := 4) X dX8_follow_190 rfl ?_
        refine g_iconst X dX8_follow_192 (v := 1) (by decide) ?_
        refine g_iadd X dX8_follow_193 ?_
        obtain ⟨x122, ex122, h123⟩ := g_bd h121; clear h121
        refine g_zald X ex122 dX8_follow_194 ?_
        clear ex122
        refine g_if_ne (tgt := 216) X dX8_follow_195 (by decide) (fun c124 => ?_) (fun c124 => ?_)
        · have h125 := g_in h123 c124; clear h123
          refine g_iconst X dX8_follow_216 (v := 3) (by decide) ?_
          obtain ⟨rfl, rfl⟩ := g_end h125
          exact g_iret X hr (by decide) (by decide) dX8_follow_217
        · have h126 := g_ip h123 c124; clear h123
          refine g_aload_n (j := 0) X dX8_follow_198 rfl rfl ?_
          refine g_iload (j := 4) X dX8_follow_199 rfl ?_
          refine g_iload (j := 4) X dX8_follow_201 rfl ?_
          refine g_iconst X dX8_follow_203 (v := 1) (by decide) ?_
          refine g_iadd X dX8_follow_204 ?_
          obtain ⟨a127, ea127, ka127, h128⟩ := g_dc h126; clear h126
          obtain ⟨S129, eS129, h130⟩ := g_bd h128; clear h128
          refine g_cV (n := 2) (As := [.int v8, .int (v8 + 1)]) X (c_X8_copySeen hl D eS129) tw961 tw962 tw40 tw51 tw963 (by decide +kernel) rfl rfl ⟨Nat.le_of_ble_eq_true rfl, Nat.le_of_ble_eq_true rfl⟩ (ci := 8) rfl (by decide) ea127 ka127 rfl rfl (Nat.le_of_ble_eq_true rfl) dX8_follow_205 ⟨(by decide), (by decide)⟩ ?_
          clear eS129 ea127 ka127
          refine g_aload_n (j := 0) X dX8_follow_208 rfl rfl ?_
          refine g_iload (j := 4) X dX8_follow_209 rfl ?_
          refine g_iconst X dX8_follow_211 (v := 2) (by decide) ?_
          refine g_iadd X dX8_follow_212 ?_
          obtain ⟨a131, ea131, ka131, h132⟩ := g_dc h130; clear h130
          obtain ⟨S133, eS133, h134⟩ := g_bd h132; clear h132
          refine g_cV (n := 1) (As := [.int (v8 + 2)]) X (c_X8_keep hl D eS133) tw964 tw965 tw41 tw51 tw966 (by decide +kernel) rfl rfl ⟨Nat.le_of_ble_eq_true rfl, Nat.le_of_ble_eq_true rfl⟩ (ci := 8) rfl (by decide) ea131 ka131 rfl rfl (Nat.le_of_ble_eq_true rfl) dX8_follow_213 ⟨(by decide), (by decide)⟩ ?_
          clear eS133 ea131 ka131
          refine g_iconst X dX8_follow_216 (v := 3) (by decide) ?_
          obtain ⟨rfl, rfl⟩ := g_end h134
          exact g_iret X hr (by decide) (by decide) dX8_follow_217
def f_X8_follow_B129 (S0 : gS) (a0 : Nat) (v3 : Int32) (v4 : Int64) (v6 : Int64) (v8 : Int32) (v9 : Int32) (t0 : Int64) : Option (Int32 × gS) :=
  if v9 = 0 then
    f_X8_follow_B146 S0 a0 v3 v4 v6 v8 v9 t0
  else
    if 0 ≤ (lg_cmp v6 t0) then
      f_X8_follow_B146 S0 a0 v3 v4 v6 v8 v9 t0
    else
      some (2, S0)
set_option maxRecDepth 100000 in
set_option maxHeartbeats 4000000 in
theorem w_X8_follow_B129 {p : Program} {l : Launch} {e : Env} {s : State} {m : MethodId} {args : Array Value} {below : List Frame} {meth : Method} {c : Code} {D : gD} {S9 : gS} {res : Int32}  (hl : l.stackTraces = false) (X : gX D p l s m args meth c cX8_follow 13 RX8) (hr : meth.sig.returnType = (some .int)) (S0 : gS) (a0 : Nat) (v3 : Int32) (v4 : Int64) (v6 : Int64) (v8 : Int32) (v9 : Int32) (t0 : Int64) (h0 : f_X8_follow_B129 S0 a0 v3 v4 v6 v8 v9 t0 = some (res, S9)) : gJ D p l e { frames := 6, cells := 143, slots := 1144, locals := 144 } s m args below meth c (MQ below (gQ D (some (.int res)) S9) args s (143) (1144) (gF D)) 13 (3) (24) S0 129 [(0, va_rf (some a0)), (3, .int v3), (4, .long v4), (6, .long v6), (8, .int v8), (9, .int v9)] [.long t0] := by
  unfold f_X8_follow_B129 at h0
  refine g_lstore (i := 10) (lv' := [(10, .long t0), (0, va_rf (some a0)), (3, .int v3), (4, .long v4), (6, .long v6), (8, .int v8), (9, .int v9)]) X dX8_follow_129 (by decide) rfl ?_
  refine g_iload (j := 6) X dX8_follow_131 rfl ?_
  refine g_if_eq (tgt := 146) X dX8_follow_133 (by decide) (fun c53 => ?_) (fun c53 => ?_)
  · have h54 := g_ip h0 c53; clear h0
    refine g_sub [1, 2, 3, 4, 5, 6, 0] rfl ?_
    exact w_X8_follow_B146 hl X hr S0 a0 v3 v4 v6 v8 v9 t0 h54
  · have h55 := g_in h0 c53; clear h0
    refine g_lload (j := 4) X dX8_follow_136 rfl ?_
    refine g_lload (j := 0) X dX8_follow_138 rfl ?_
    refine g_lcmp X dX8_follow_140 ?_
    refine g_if_ge (tgt := 146) X dX8_follow_141 (by decide) (fun c135 => ?_) (fun c135 => ?_)
    · have h136 := g_ip h55 c135; clear h55
      refine g_sub [1, 2, 3, 4, 5, 6, 0] rfl ?_
      exact w_X8_follow_B146 hl X hr S0 a0 v3 v4 v6 v8 v9 t0 h136
    · have h137 := g_in h55 c135; clear h55
      refine g_iconst X dX8_follow_144 (v := 2) (by decide) ?_
      obtain ⟨rfl, rfl⟩ := g_end h137
      exact g_iret X hr (by decide) (by decide) dX8_follow_145
def f_X8_follow_B44 (S0 : gS) (a0 : Nat) (v1 : Int32) (v2 : Int32) (v3 : Int32) (t0 : Int32) (t1 : Option Nat) : Option (Int32 × gS) :=
  (fpI S0 8 0 t1 t0).bind fun S12 =>
  (fgI S12 8 0 (some a0)).bind fun x14 =>
  if x14 ≤ 0 then
    gDc S12 8 (some a0) fun a19 =>
    gBi (f_X8_tapeLong S12 a19 0) fun x23 S21 =>
    gDc S21 8 (some a0) fun a24 =>
    gBi (f_X8_tapeLong S21 a24 8) fun x28 S26 =>
    gDc S26 8 (some a0) fun a29 =>
    gBi (f_X8_sealed S26 a29 v2) fun x33 S31 =>
    if x33 = 0 then
      some (1, S31)
    else
      if (lg_cmp x23 0) < 0 then
        some (1, S31)
      else
        if 0 ≤ (lg_cmp x28 0) then
          gBi (f_X8_placeOf S31 v1 v2 0) fun x45 S43 =>
          (fgR S43 8 15 (some a0)).bind fun x46 =>
          (fI S43 12 x46 x45).bind fun x48 =>
          if x48 = 0 then
            f_X8_follow_B129 S43 a0 v3 x23 x28 x45 x48 0
          else
            gDc S43 8 (some a0) fun a138 =>
            gBi (f_X8_seenLong S43 a138 x45 8) fun x142 S140 =>
            f_X8_follow_B129 S140 a0 v3 x23 x28 x45 x48 x142
        else
          some (1, S31)
  else
    some (0, S12)
set_option maxRecDepth 100000 in
set_option maxHeartbeats 4000000 in
theorem w_X8_follow_B44 {p : Program} {l : Launch} {e : Env} {s : State} {m : MethodId} {args : Array Value} {below : List Frame} {meth : Method} {c : Code} {D : gD} {S9 : gS} {res : Int32}  (hl : l.stackTraces = false) (X : gX D p l s m args meth c cX8_follow 13 RX8) (hr : meth.sig.returnType = (some .int)) (S0 : gS) (a0 : Nat) (v1 : Int32) (v2 : Int32) (v3 : Int32) (t0 : Int32) (t1 : Option Nat) (h0 : f_X8_follow_B44 S0 a0 v1 v2 v3 t0 t1 = some (res, S9)) : gJ D p l e { frames := 6, cells := 143, slots := 1144, locals := 144 } s m args below meth c (MQ below (gQ D (some (.int res)) S9) args s (143) (1144) (gF D)) 13 (0) (0) S0 44 [(0, va_rf (some a0)), (1, .int v1), (2, .int v2), (3, .int v3)] [.int t0, va_rf t1] := by
  unfold f_X8_follow_B44 at h0
  obtain ⟨S12, eS12, h13⟩ := g_bd h0; clear h0
  refine g_pI (ci := 8) (k := 0) X rfl il8 tyX8 tyX8_ok nmX8 (by decide) tw703 rfl (by decide) (fun _ _ _ => rfl) rfl eS12 dX8_follow_44 ?_
  clear eS12
  refine g_aload_n (j := 0) X dX8_follow_47 rfl rfl ?_
  obtain ⟨x14, ex14, h15⟩ := g_bd h13; clear h13
  refine g_fI (ci := 8) (k := 0) X rfl il8 (by decide) tw703 (by decide) (fun _ _ _ => rfl) ex14 dX8_follow_48 ?_
  clear ex14
  refine g_if_le (tgt := 56) X dX8_follow_51 (by decide) (fun c16 => ?_) (fun c16 => ?_)
  · have h17 := g_ip h15 c16; clear h15
    refine g_aload_n (j := 0) X dX8_follow_56 rfl rfl ?_
    refine g_iconst X dX8_follow_57 (v := 0) (by decide) ?_
    obtain ⟨a19, ea19, ka19, h20⟩ := g_dc h17; clear h17
    obtain ⟨x23, S21, eS21, h22⟩ := g_bi h20; clear h20
    refine g_cV (n := 1) (As := [.int 0]) X (c_X8_tapeLong hl D eS21) tw938 tw939 tw37 tw51 tw940 (by decide +kernel) rfl rfl ⟨Nat.le_of_ble_eq_true rfl, Nat.le_of_ble_eq_true rfl⟩ (ci := 8) rfl (by decide) ea19 ka19 rfl rfl (Nat.le_of_ble_eq_true rfl) dX8_follow_58 ⟨(by decide), (by decide)⟩ ?_
    clear eS21 ea19 ka19
    refine g_lstore (i := 4) (lv' := [(4, .long x23), (0, va_rf (some a0)), (1, .int v1), (2, .int v2), (3, .int v3)]) X dX8_follow_61 (by decide) rfl ?_
    refine g_aload_n (j := 1) X dX8_follow_63 rfl rfl ?_
    refine g_bipush X dX8_follow_64 (v := 8) (by decide) ?_
    obtain ⟨a24, ea24, ka24, h25⟩ := g_dc h22; clear h22
    obtain ⟨x28, S26, eS26, h27⟩ := g_bi h25; clear h25
    refine g_cV (n := 1) (As := [.int 8]) X (c_X8_tapeLong hl D eS26) tw938 tw939 tw37 tw51 tw940 (by decide +kernel) rfl rfl ⟨Nat.le_of_ble_eq_true rfl, Nat.le_of_ble_eq_true rfl⟩ (ci := 8) rfl (by decide) ea24 ka24 rfl rfl (Nat.le_of_ble_eq_true rfl) dX8_follow_66 ⟨(by decide), (by decide)⟩ ?_
    clear eS26 ea24 ka24
    refine g_lstore (i := 6) (lv' := [(6, .long x28), (4, .long x23), (0, va_rf (some a0)), (1, .int v1), (2, .int v2), (3, .int v3)]) X dX8_follow_69 (by decide) rfl ?_
    refine g_aload_n (j := 2) X dX8_follow_71 rfl rfl ?_
    refine g_iload_n (j := 4) X dX8_follow_72 rfl rfl ?_
    obtain ⟨a29, ea29, ka29, h30⟩ := g_dc h27; clear h27
    obtain ⟨x33, S31, eS31, h32⟩ := g_bi h30; clear h30
    refine g_cV (n := 1) (As := [.int v2]) X (c_X8_sealed hl D eS31) tw935 tw936 tw36 tw51 tw937 (by decide +kernel) rfl rfl ⟨Nat.le_of_ble_eq_true rfl, Nat.le_of_ble_eq_true rfl⟩ (ci := 8) rfl (by decide) ea29 ka29 rfl rfl (Nat.le_of_ble_eq_true rfl) dX8_follow_73 ⟨(by decide), (by decide)⟩ ?_
    clear eS31 ea29 ka29
    refine g_if_eq (tgt := 93) X dX8_follow_76 (by decide) (fun c34 => ?_) (fun c34 => ?_)
    · have h35 := g_ip h32 c34; clear h32
      refine g_iconst X dX8_follow_93 (v := 1) (by decide) ?_
      obtain ⟨rfl, rfl⟩ := g_end h35
      exact g_iret X hr (by decide) (by decide) dX8_follow_94
    · have h36 := g_in h32 c34; clear h32
      refine g_lload (j := 1) X dX8_follow_79 rfl ?_
      refine g_lconst X dX8_follow_81 (v := 0) (by decide) ?_
      refine g_lcmp X dX8_follow_82 ?_
      refine g_if_lt (tgt := 93) X dX8_follow_83 (by decide) (fun c37 => ?_) (fun c37 => ?_)
      · have h38 := g_ip h36 c37; clear h36
        refine g_iconst X dX8_follow_93 (v := 1) (by decide) ?_
        obtain ⟨rfl, rfl⟩ := g_end h38
        exact g_iret X hr (by decide) (by decide) dX8_follow_94
      · have h39 := g_in h36 c37; clear h36
        refine g_lload (j := 0) X dX8_follow_86 rfl ?_
        refine g_lconst X dX8_follow_88 (v := 0) (by decide) ?_
        refine g_lcmp X dX8_follow_89 ?_
        refine g_if_ge (tgt := 95) X dX8_follow_90 (by decide) (fun c40 => ?_) (fun c40 => ?_)
        · have h41 := g_ip h39 c40; clear h39
          refine g_iload_n (j := 3) X dX8_follow_95 rfl rfl ?_
          refine g_iload_n (j := 4) X dX8_follow_96 rfl rfl ?_
          refine g_iconst X dX8_follow_97 (v := 0) (by decide) ?_
          obtain ⟨x45, S43, eS43, h44⟩ := g_bi h41; clear h41
          refine g_cS (n := 3) (As := [.int v1, .int v2, .int 0]) X (c_X8_placeOf hl D eS43) tw952 tw953 tw51 tw954 (by decide +kernel) rfl rfl ⟨Nat.le_of_ble_eq_true rfl, Nat.le_of_ble_eq_true rfl⟩ rfl rfl (Nat.le_of_ble_eq_true rfl) dX8_follow_98 ⟨(by decide), (by decide)⟩ ?_
          clear eS43
          refine g_istore (i := 8) (lv' := [(8, .int x45), (6, .long x28), (4, .long x23), (0, va_rf (some a0)), (1, .int v1), (2, .int v2), (3, .int v3)]) X dX8_follow_101 (by decide) rfl ?_
          refine g_aload_n (j := 3) X dX8_follow_103 rfl rfl ?_
          obtain ⟨x46, ex46, h47⟩ := g_bd h44; clear h44
          refine g_fR (ci := 8) (k := 15) X rfl il8 (by decide) tw718 (by decide) (fun _ _ _ => rfl) ex46 dX8_follow_104 ?_
          clear ex46
          refine g_iload (j := 0) X dX8_follow_107 rfl ?_
          obtain ⟨x48, ex48, h49⟩ := g_bd h47; clear h47
          refine g_zald X ex48 dX8_follow_109 ?_
          clear ex48
          refine g_istore (i := 9) (lv' := [(9, .int x48), (8, .int x45), (6, .long x28), (4, .long x23), (0, va_rf (some a0)), (1, .int v1), (2, .int v2), (3, .int v3)]) X dX8_follow_110 (by decide) rfl ?_
          refine g_iload (j := 0) X dX8_follow_112 rfl ?_
          refine g_if_eq (tgt := 128) X dX8_follow_114 (by decide) (fun c50 => ?_) (fun c50 => ?_)
          · have h51 := g_ip h49 c50; clear h49
            refine g_lconst X dX8_follow_128 (v := 0) (by decide) ?_
            refine g_sub [4, 7, 3, 2, 1, 0] rfl ?_
            exact w_X8_follow_B129 hl X hr S43 a0 v3 x23 x28 x45 x48 0 h51
          · have h52 := g_in h49 c50; clear h49
            refine g_aload_n (j := 4) X dX8_follow_117 rfl rfl ?_
            refine g_iload (j := 1) X dX8_follow_118 rfl ?_
            refine g_bipush X dX8_follow_120 (v := 8) (by decide) ?_
            obtain ⟨a138, ea138, ka138, h139⟩ := g_dc h52; clear h52
            obtain ⟨x142, S140, eS140, h141⟩ := g_bi h139; clear h139
            refine g_cV (n := 2) (As := [.int x45, .int 8]) X (c_X8_seenLong hl D eS140) tw955 tw956 tw38 tw51 tw957 (by decide +kernel) rfl rfl ⟨Nat.le_of_ble_eq_true rfl, Nat.le_of_ble_eq_true rfl⟩ (ci := 8) rfl (by decide) ea138 ka138 rfl rfl (Nat.le_of_ble_eq_true rfl) dX8_follow_122 ⟨(by decide), (by decide)⟩ ?_
            clear eS140 ea138 ka138
            refine g_goto (tgt := 129) X dX8_follow_125 (by decide) ?_
            refine g_sub [4, 7, 3, 2, 1, 0] rfl ?_
            exact w_X8_follow_B129 hl X hr S140 a0 v3 x23 x28 x45 x48 x142 h141
        · have h42 := g_in h39 c40; clear h39
          refine g_iconst X dX8_follow_93 (v := 1) (by decide) ?_
          obtain ⟨rfl, rfl⟩ := g_end h42
          exact g_iret X hr (by decide) (by decide) dX8_follow_94
  · have h18 := g_in h15 c16; clear h15
    refine g_iconst X dX8_follow_54 (v := 0) (by decide) ?_
    obtain ⟨rfl, rfl⟩ := g_end h18
    exact g_iret X hr (by decide) (by decide) dX8_follow_55
def f_X8_follow_B20 (S0 : gS) (a0 : Nat) (v1 : Int32) (v2 : Int32) (v3 : Int32) (t0 : Option Nat) : Option (Int32 × gS) :=
  f_X8_follow_B44 S0 a0 v1 v2 v3 1 t0
set_option maxRecDepth 100000 in
set_option maxHeartbeats 4000000 in
theorem w_X8_follow_B20 {p : Program} {l : Launch} {e : Env} {s : State} {m : MethodId} {args : Array Value} {below : List Frame} {meth : Method} {c : Code} {D : gD} {S9 : gS} {res : Int32}  (hl : l.stackTraces = false) (X : gX D p l s m args meth c cX8_follow 13 RX8) (hr : meth.sig.returnType = (some .int)) (S0 : gS) (a0 : Nat) (v1 : Int32) (v2 : Int32) (v3 : Int32) (t0 : Option Nat) (h0 : f_X8_follow_B20 S0 a0 v1 v2 v3 t0 = some (res, S9)) : gJ D p l e { frames := 6, cells := 143, slots := 1144, locals := 144 } s m args below meth c (MQ below (gQ D (some (.int res)) S9) args s (143) (1144) (gF D)) 13 (0) (0) S0 20 [(0, va_rf (some a0)), (1, .int v1), (2, .int v2), (3, .int v3)] [va_rf t0] := by
  unfold f_X8_follow_B20 at h0
  refine g_iconst X dX8_follow_20 (v := 1) (by decide) ?_
  refine g_goto (tgt := 44) X dX8_follow_21 (by decide) ?_
  refine g_sub [0, 1, 2, 3] rfl ?_
  exact w_X8_follow_B44 hl X hr S0 a0 v1 v2 v3 1 t0 h0
def f_X8_follow_B39 (S0 : gS) (a0 : Nat) (v1 : Int32) (v2 : Int32) (v3 : Int32) (t0 : Option Nat) : Option (Int32 × gS) :=
  f_X8_follow_B44 S0 a0 v1 v2 v3 2 t0
set_option maxRecDepth 100000 in
set_option maxHeartbeats 4000000 in
theorem w_X8_follow_B39 {p : Program} {l : Launch} {e : Env} {s : State} {m : MethodId} {args : Array Value} {below : List Frame} {meth : Method} {c : Code} {D : gD} {S9 : gS} {res : Int32}  (hl : l.stackTraces = false) (X : gX D p l s m args meth c cX8_follow 13 RX8) (hr : meth.sig.returnType = (some .int)) (S0 : gS) (a0 : Nat) (v1 : Int32) (v2 : Int32) (v3 : Int32) (t0 : Option Nat) (h0 : f_X8_follow_B39 S0 a0 v1 v2 v3 t0 = some (res, S9)) : gJ D p l e { frames := 6, cells := 143, slots := 1144, locals := 144 } s m args below meth c (MQ below (gQ D (some (.int res)) S9) args s (143) (1144) (gF D)) 13 (0) (0) S0 39 [(0, va_rf (some a0)), (1, .int v1), (2, .int v2), (3, .int v3)] [va_rf t0] := by
  unfold f_X8_follow_B39 at h0
  refine g_iconst X dX8_follow_39 (v := 2) (by decide) ?_
  refine g_goto (tgt := 44) X dX8_follow_40 (by decide) ?_
  refine g_sub [0, 1, 2, 3] rfl ?_
  exact w_X8_follow_B44 hl X hr S0 a0 v1 v2 v3 2 t0 h0
def f_X8_follow (S0 : gS) (a0 : Nat) (v1 : Int32) (v2 : Int32) : Option (Int32 × gS) :=
  gDc S0 8 (some a0) fun a1 =>
  gBi (f_X8_use S0 a1) fun x5 S3 =>
  gBi (f_X8_isWitness S3 v1) fun x8 S6 =>
  if x8 = 0 then
    f_X8_follow_B20 S6 a0 v1 v2 x5 (some a0)
  else
    gBi (f_X8_isLog S6 v2) fun x145 S143 =>
    if x145 = 0 then
      f_X8_follow_B20 S143 a0 v1 v2 x5 (some a0)
    else
      if x5 < 80 then
        f_X8_follow_B39 S143 a0 v1 v2 x5 (some a0)
      else
        if (x5 - x5 / 32 * 32) = 16 then
          f_X8_follow_B44 S143 a0 v1 v2 x5 0 (some a0)
        else
          f_X8_follow_B39 S143 a0 v1 v2 x5 (some a0)
set_option maxRecDepth 100000 in
set_option maxHeartbeats 4000000 in
theorem c_X8_follow {l : Launch} (hl : l.stackTraces = false) (D : gD)  {S0 S9 : gS} {a0 : Nat} {v1 : Int32} {v2 : Int32} {res : Int32} (h0 : f_X8_follow S0 a0 v1 v2 = some (res, S9)) : Met l yX8_follow (gws yX8_follow cX8_follow 13 (some .int)) { frames := 6, cells := 143, slots := 1144, locals := 144 } (gPc D S0 [.ref a0, .int v1, .int v2]) (gQ D (some (.int res)) S9) (143) (1144) (gF D) := by
  refine g_met (lv := [(0, va_rf (some a0)), (1, .int v1), (2, .int v2)]) hl (by decide) (Nat.le_of_ble_eq_true rfl) rfl (fun p e s m args below meth c X hr hn => ?_)
  have X : gX D p l s m args meth c cX8_follow 13 RX8 := X
  unfold f_X8_follow at h0
  refine g_aload_n (j := 0) X dX8_follow_0 rfl rfl ?_
  obtain ⟨a1, ea1, ka1, h2⟩ := g_dc h0; clear h0
  obtain ⟨x5, S3, eS3, h4⟩ := g_bi h2; clear h2
  refine g_cV (n := 0) (As := []) X (c_X8_use hl D eS3) tw784 tw785 tw15 tw51 tw786 (by decide +kernel) rfl rfl ⟨Nat.le_of_ble_eq_true rfl, Nat.le_of_ble_eq_true rfl⟩ (ci := 8) rfl (by decide) ea1 ka1 rfl rfl (Nat.le_of_ble_eq_true rfl) dX8_follow_1 ⟨(by decide), (by decide)⟩ ?_
  clear eS3 ea1 ka1
  refine g_istore_n (i := 3) (lv' := [(3, .int x5), (0, va_rf (some a0)), (1, .int v1), (2, .int v2)]) X dX8_follow_4 rfl (by decide) rfl ?_
  refine g_aload_n (j := 1) X dX8_follow_5 rfl rfl ?_
  refine g_iload_n (j := 2) X dX8_follow_6 rfl rfl ?_
  obtain ⟨x8, S6, eS6, h7⟩ := g_bi h4; clear h4
  refine g_cS (n := 1) (As := [.int v1]) X (c_X8_isWitness hl D eS6) tw949 tw950 tw51 tw951 (by decide +kernel) rfl rfl ⟨Nat.le_of_ble_eq_true rfl, Nat.le_of_ble_eq_true rfl⟩ rfl rfl (Nat.le_of_ble_eq_true rfl) dX8_follow_7 ⟨(by decide), (by decide)⟩ ?_
  clear eS6
  refine g_if_eq (tgt := 20) X dX8_follow_10 (by decide) (fun c9 => ?_) (fun c9 => ?_)
  · have h10 := g_ip h7 c9; clear h7
    refine g_sub [1, 2, 3, 0] rfl ?_
    exact w_X8_follow_B20 hl X hr S6 a0 v1 v2 x5 (some a0) h10
  · have h11 := g_in h7 c9; clear h7
    refine g_iload_n (j := 3) X dX8_follow_13 rfl rfl ?_
    obtain ⟨x145, S143, eS143, h144⟩ := g_bi h11; clear h11
    refine g_cS (n := 1) (As := [.int v2]) X (c_X8_isLog hl D eS143) tw787 tw788 tw51 tw789 (by decide +kernel) rfl rfl ⟨Nat.le_of_ble_eq_true rfl, Nat.le_of_ble_eq_true rfl⟩ rfl rfl (Nat.le_of_ble_eq_true rfl) dX8_follow_14 ⟨(by decide), (by decide)⟩ ?_
    clear eS143
    refine g_if_ne (tgt := 24) X dX8_follow_17 (by decide) (fun c146 => ?_) (fun c146 => ?_)
    · have h147 := g_in h144 c146; clear h144
      refine g_iload_n (j := 0) X dX8_follow_24 rfl rfl ?_
      refine g_bipush X dX8_follow_25 (v := 80) (by decide) ?_
      refine g_icmp_lt (tgt := 39) X dX8_follow_27 (by decide) (fun c149 => ?_) (fun c149 => ?_)
      · have h150 := g_ip h147 c149; clear h147
        refine g_sub [1, 2, 3, 0] rfl ?_
        exact w_X8_follow_B39 hl X hr S143 a0 v1 v2 x5 (some a0) h150
      · have h151 := g_in h147 c149; clear h147
        refine g_iload_n (j := 0) X dX8_follow_30 rfl rfl ?_
        refine g_bipush X dX8_follow_31 (v := 32) (by decide) ?_
        refine g_irem X dX8_follow_33 (by decide) ?_
        refine g_bipush X dX8_follow_34 (v := 16) (by decide) ?_
        refine g_icmp_eq (tgt := 43) X dX8_follow_36 (by decide) (fun c152 => ?_) (fun c152 => ?_)
        · have h153 := g_ip h151 c152; clear h151
          refine g_iconst X dX8_follow_43 (v := 0) (by decide) ?_
          refine g_sub [1, 2, 3, 0] rfl ?_
          exact w_X8_follow_B44 hl X hr S143 a0 v1 v2 x5 0 (some a0) h153
        · have h154 := g_in h151 c152; clear h151
          refine g_sub [1, 2, 3, 0] rfl ?_
          exact w_X8_follow_B39 hl X hr S143 a0 v1 v2 x5 (some a0) h154
    · have h148 := g_ip h144 c146; clear h144
      refine g_sub [1, 2, 3, 0] rfl ?_
      exact w_X8_follow_B20 hl X hr S143 a0 v1 v2 x5 (some a0) h148
def f_X8_told (S0 : gS) (a0 : Nat) (v1 : Int32) (v2 : Int32) (v3 : Int32) : Option gS :=
  (fgR S0 8 15 (some a0)).bind fun x1 =>
  (fI S0 12 x1 (v1 + 1)).bind fun x3 =>
  if x3 = 0 then
    gDc S0 8 (some a0) fun a8 =>
    (f_X8_copySeen S0 a8 v2 (v1 + 1)).bind fun S10 =>
    gDc S10 8 (some a0) fun a12 =>
    (f_X8_copySeen S10 a12 v3 (v1 + 2)).bind fun S14 =>
    some S14
  else
    some S0
set_option maxRecDepth 100000 in
set_option maxHeartbeats 4000000 in
theorem c_X8_told {l : Launch} (hl : l.stackTraces = false) (D : gD)  {S0 S9 : gS} {a0 : Nat} {v1 : Int32} {v2 : Int32} {v3 : Int32} (h0 : f_X8_told S0 a0 v1 v2 v3 = some S9) : Met l yX8_told (gws yX8_told cX8_told 4 none) { frames := 1, cells := 0, slots := 0, locals := 23 } (gPc D S0 [.ref a0, .int v1, .int v2, .int v3]) (gQ D none S9) (0) (0) (gF D) := by
  refine g_met (lv := [(0, va_rf (some a0)), (1, .int v1), (2, .int v2), (3, .int v3)]) hl (by decide) (Nat.le_of_ble_eq_true rfl) rfl (fun p e s m args below meth c X hr hn => ?_)
  have X : gX D p l s m args meth c cX8_told 4 RX8 := X
  unfold f_X8_told at h0
  refine g_aload_n (j := 0) X dX8_told_0 rfl rfl ?_
  obtain ⟨x1, ex1, h2⟩ := g_bd h0; clear h0
  refine g_fR (ci := 8) (k := 15) X rfl il8 (by decide) tw718 (by decide) (fun _ _ _ => rfl) ex1 dX8_told_1 ?_
  clear ex1
  refine g_iload_n (j := 1) X dX8_told_4 rfl rfl ?_
  refine g_iconst X dX8_told_5 (v := 1) (by decide) ?_
  refine g_iadd X dX8_told_6 ?_
  obtain ⟨x3, ex3, h4⟩ := g_bd h2; clear h2
  refine g_zald X ex3 dX8_told_7 ?_
  clear ex3
  refine g_if_eq (tgt := 12) X dX8_told_8 (by decide) (fun c5 => ?_) (fun c5 => ?_)
  · have h6 := g_ip h4 c5; clear h4
    refine g_aload_n (j := 0) X dX8_told_12 rfl rfl ?_
    refine g_iload_n (j := 2) X dX8_told_13 rfl rfl ?_
    refine g_iload_n (j := 1) X dX8_told_14 rfl rfl ?_
    refine g_iconst X dX8_told_15 (v := 1) (by decide) ?_
    refine g_iadd X dX8_told_16 ?_
    obtain ⟨a8, ea8, ka8, h9⟩ := g_dc h6; clear h6
    obtain ⟨S10, eS10, h11⟩ := g_bd h9; clear h9
    refine g_cV (n := 2) (As := [.int v2, .int (v1 + 1)]) X (c_X8_copySeen hl D eS10) tw961 tw962 tw40 tw51 tw963 (by decide +kernel) rfl rfl ⟨Nat.le_of_ble_eq_true rfl, Nat.le_of_ble_eq_true rfl⟩ (ci := 8) rfl (by decide) ea8 ka8 rfl rfl (Nat.le_of_ble_eq_true rfl) dX8_told_17 ⟨(by decide), (by decide)⟩ ?_
    clear eS10 ea8 ka8
    refine g_aload_n (j := 0) X dX8_told_20 rfl rfl ?_
    refine g_iload_n (j := 3) X dX8_told_21 rfl rfl ?_
    refine g_iload_n (j := 1) X dX8_told_22 rfl rfl ?_
    refine g_iconst X dX8_told_23 (v := 2) (by decide) ?_
    refine g_iadd X dX8_told_24 ?_
    obtain ⟨a12, ea12, ka12, h13⟩ := g_dc h11; clear h11
    obtain ⟨S14, eS14, h15⟩ := g_bd h13; clear h13
    refine g_cV (n := 2) (As := [.int v3, .int (v1 + 2)]) X (c_X8_copySeen hl D eS14) tw961 tw962 tw40 tw51 tw963 (by decide +kernel) rfl rfl ⟨Nat.le_of_ble_eq_true rfl, Nat.le_of_ble_eq_true rfl⟩ (ci := 8) rfl (by decide) ea12 ka12 rfl rfl (Nat.le_of_ble_eq_true rfl) dX8_told_25 ⟨(by decide), (by decide)⟩ ?_
    clear eS14 ea12 ka12
    cases h15
    exact g_vret X hr (by decide) (by decide) dX8_told_28
  · have h7 := g_in h4 c5; clear h4
    cases h7
    exact g_vret X hr (by decide) (by decide) dX8_told_11
