def f_X8_head_L98 : Nat → gS → Nat → Int32 → Int32 → Option (Int32 × gS)
  | 0, _, _, _, _ => none
  | k + 1, S0, a0, v4, v5 =>
    if 16 ≤ v5 then
      some (v4, S0)
    else
      (fgR S0 8 3 (some a0)).bind fun x27 =>
      (fI S0 10 x27 v5).bind fun x29 =>
      gLet ((256 * v4) + x29) fun x31 =>
      gLet (v5 + 1) fun x33 =>
      f_X8_head_L98 k S0 a0 x31 x33
set_option maxRecDepth 100000 in
set_option maxHeartbeats 4000000 in
theorem w_X8_head_L98 {p : Program} {l : Launch} {e : Env} {s : State} {m : MethodId} {args : Array Value} {below : List Frame} {meth : Method} {c : Code} {D : gD} {S9 : gS} {res : Int32}  (hl : l.stackTraces = false) (X : gX D p l s m args meth c cX8_head 6 RX8) (hr : meth.sig.returnType = (some .int)) : ∀ (k : Nat) (S0 : gS) (a0 : Nat) (v4 : Int32) (v5 : Int32), f_X8_head_L98 k S0 a0 v4 v5 = some (res, S9) → gJ D p l e { frames := 1, cells := 0, slots := 0, locals := 20 } s m args below meth c (MQ below (gQ D (some (.int res)) S9) args s (0) (0) (gF D)) 6 (0) (0) S0 98 [(0, va_rf (some a0)), (4, .int v4), (5, .int v5)] [] := by
  intro k
  induction k with
  | zero => intro S0 a0 v4 v5 h0; cases h0
  | succ k ih =>
    intro S0 a0 v4 v5 h0
    have h0 := h0
    unfold f_X8_head_L98 at h0
    refine g_iload (j := 2) X dX8_head_98 rfl ?_
    refine g_bipush X dX8_head_100 (v := 16) (by decide) ?_
    refine g_icmp_ge (tgt := 127) X dX8_head_102 (by decide) (fun c24 => ?_) (fun c24 => ?_)
    · have h25 := g_ip h0 c24; clear h0
      refine g_iload (j := 1) X dX8_head_127 rfl ?_
      obtain ⟨rfl, rfl⟩ := g_end h25
      exact g_iret X hr (by decide) (by decide) dX8_head_129
    · have h26 := g_in h0 c24; clear h0
      refine g_sipush X dX8_head_105 (v := 256) (by decide) ?_
      refine g_iload (j := 1) X dX8_head_108 rfl ?_
      refine g_imul X dX8_head_110 ?_
      refine g_aload_n (j := 0) X dX8_head_111 rfl rfl ?_
      obtain ⟨x27, ex27, h28⟩ := g_bd h26; clear h26
      refine g_fR (ci := 8) (k := 3) X rfl il8 (by decide) tw706 (by decide) (fun _ _ _ => rfl) ex27 dX8_head_112 ?_
      clear ex27
      refine g_iload (j := 2) X dX8_head_115 rfl ?_
      obtain ⟨x29, ex29, h30⟩ := g_bd h28; clear h28
      refine g_iald X ex29 dX8_head_117 ?_
      clear ex29
      refine g_iadd X dX8_head_118 ?_
      obtain ⟨x31, ex31, h32⟩ := g_let h30; clear h30; rw [← ex31]; clear ex31
      refine g_istore (i := 4) (lv' := [(4, .int x31), (0, va_rf (some a0)), (5, .int v5)]) X dX8_head_119 (by decide) rfl ?_
      obtain ⟨x33, ex33, h34⟩ := g_let h32; clear h32
      refine g_iinc (j := 2) (v := x33) (lv' := [(5, .int x33), (4, .int x31), (0, va_rf (some a0))]) X dX8_head_121 rfl (by rw [ex33]; rfl) (by decide) rfl ?_
      clear ex33
      refine g_goto (tgt := 98) X dX8_head_124 (by decide) ?_
      refine g_sub [2, 1, 0] rfl ?_
      exact ih S0 a0 x31 x33 h34
def f_X8_head_L56 : Nat → gS → Nat → Int32 → Int32 → Option (Int32 × gS)
  | 0, _, _, _, _ => none
  | k + 1, S0, a0, v3, v4 =>
    if 80 ≤ v4 then
      (fpI S0 8 4 (some a0) 80).bind fun S22 =>
      f_X8_head_L98 gFuel S22 a0 0 8
    else
      (fgR S0 8 3 (some a0)).bind fun x35 =>
      (fgR S0 8 11 (some a0)).bind fun x37 =>
      (fI S0 10 x37 (v3 + v4)).bind fun x39 =>
      (faI S0 x35 v4 x39).bind fun S41 =>
      gLet (v4 + 1) fun x43 =>
      f_X8_head_L56 k S41 a0 v3 x43
set_option maxRecDepth 100000 in
set_option maxHeartbeats 4000000 in
theorem w_X8_head_L56 {p : Program} {l : Launch} {e : Env} {s : State} {m : MethodId} {args : Array Value} {below : List Frame} {meth : Method} {c : Code} {D : gD} {S9 : gS} {res : Int32}  (hl : l.stackTraces = false) (X : gX D p l s m args meth c cX8_head 6 RX8) (hr : meth.sig.returnType = (some .int)) : ∀ (k : Nat) (S0 : gS) (a0 : Nat) (v3 : Int32) (v4 : Int32), f_X8_head_L56 k S0 a0 v3 v4 = some (res, S9) → gJ D p l e { frames := 1, cells := 0, slots := 0, locals := 20 } s m args below meth c (MQ below (gQ D (some (.int res)) S9) args s (0) (0) (gF D)) 6 (0) (0) S0 56 [(0, va_rf (some a0)), (3, .int v3), (4, .int v4)] [] := by
  intro k
  induction k with
  | zero => intro S0 a0 v3 v4 h0; cases h0
  | succ k ih =>
    intro S0 a0 v3 v4 h0
    have h0 := h0
    unfold f_X8_head_L56 at h0
    refine g_iload (j := 2) X dX8_head_56 rfl ?_
    refine g_bipush X dX8_head_58 (v := 80) (by decide) ?_
    refine g_icmp_ge (tgt := 85) X dX8_head_60 (by decide) (fun c19 => ?_) (fun c19 => ?_)
    · have h20 := g_ip h0 c19; clear h0
      refine g_aload_n (j := 0) X dX8_head_85 rfl rfl ?_
      refine g_bipush X dX8_head_86 (v := 80) (by decide) ?_
      obtain ⟨S22, eS22, h23⟩ := g_bd h20; clear h20
      refine g_pI (ci := 8) (k := 4) X rfl il8 tyX8 tyX8_ok nmX8 (by decide) tw707 rfl (by decide) (fun _ _ _ => rfl) rfl eS22 dX8_head_88 ?_
      clear eS22
      refine g_iconst X dX8_head_91 (v := 0) (by decide) ?_
      refine g_istore (i := 4) (lv' := [(4, .int 0), (0, va_rf (some a0)), (3, .int v3)]) X dX8_head_92 (by decide) rfl ?_
      refine g_bipush X dX8_head_94 (v := 8) (by decide) ?_
      refine g_istore (i := 5) (lv' := [(5, .int 8), (4, .int 0), (0, va_rf (some a0)), (3, .int v3)]) X dX8_head_96 (by decide) rfl ?_
      refine g_sub [2, 1, 0] rfl ?_
      exact w_X8_head_L98 hl X hr gFuel S22 a0 0 8 h23
    · have h21 := g_in h0 c19; clear h0
      refine g_aload_n (j := 0) X dX8_head_63 rfl rfl ?_
      obtain ⟨x35, ex35, h36⟩ := g_bd h21; clear h21
      refine g_fR (ci := 8) (k := 3) X rfl il8 (by decide) tw706 (by decide) (fun _ _ _ => rfl) ex35 dX8_head_64 ?_
      clear ex35
      refine g_iload (j := 2) X dX8_head_67 rfl ?_
      refine g_aload_n (j := 0) X dX8_head_69 rfl rfl ?_
      obtain ⟨x37, ex37, h38⟩ := g_bd h36; clear h36
      refine g_fR (ci := 8) (k := 11) X rfl il8 (by decide) tw714 (by decide) (fun _ _ _ => rfl) ex37 dX8_head_70 ?_
      clear ex37
      refine g_iload_n (j := 1) X dX8_head_73 rfl rfl ?_
      refine g_iload (j := 2) X dX8_head_74 rfl ?_
      refine g_iadd X dX8_head_76 ?_
      obtain ⟨x39, ex39, h40⟩ := g_bd h38; clear h38
      refine g_iald X ex39 dX8_head_77 ?_
      clear ex39
      obtain ⟨S41, eS41, h42⟩ := g_bd h40; clear h40
      refine g_iast X eS41 dX8_head_78 ?_
      clear eS41
      obtain ⟨x43, ex43, h44⟩ := g_let h42; clear h42
      refine g_iinc (j := 2) (v := x43) (lv' := [(4, .int x43), (0, va_rf (some a0)), (3, .int v3)]) X dX8_head_79 rfl (by rw [ex43]; rfl) (by decide) rfl ?_
      clear ex43
      refine g_goto (tgt := 56) X dX8_head_82 (by decide) ?_
      refine g_sub [1, 2, 0] rfl ?_
      exact ih S41 a0 v3 x43 h44
def f_X8_head_B31 (S0 : gS) (a0 : Nat) (v1 : Int32) (v2 : Int32) (t0 : Int32) (t1 : Option Nat) : Option (Int32 × gS) :=
  (fpI S0 8 0 t1 t0).bind fun S10 =>
  (fgI S10 8 0 (some a0)).bind fun x12 =>
  if x12 ≤ 0 then
    gLet (80 * ((40 * v1) + v2)) fun x17 =>
    f_X8_head_L56 gFuel S10 a0 x17 0
  else
    some (0, S10)
set_option maxRecDepth 100000 in
set_option maxHeartbeats 4000000 in
theorem w_X8_head_B31 {p : Program} {l : Launch} {e : Env} {s : State} {m : MethodId} {args : Array Value} {below : List Frame} {meth : Method} {c : Code} {D : gD} {S9 : gS} {res : Int32}  (hl : l.stackTraces = false) (X : gX D p l s m args meth c cX8_head 6 RX8) (hr : meth.sig.returnType = (some .int)) (S0 : gS) (a0 : Nat) (v1 : Int32) (v2 : Int32) (t0 : Int32) (t1 : Option Nat) (h0 : f_X8_head_B31 S0 a0 v1 v2 t0 t1 = some (res, S9)) : gJ D p l e { frames := 1, cells := 0, slots := 0, locals := 20 } s m args below meth c (MQ below (gQ D (some (.int res)) S9) args s (0) (0) (gF D)) 6 (0) (0) S0 31 [(0, va_rf (some a0)), (1, .int v1), (2, .int v2)] [.int t0, va_rf t1] := by
  unfold f_X8_head_B31 at h0
  obtain ⟨S10, eS10, h11⟩ := g_bd h0; clear h0
  refine g_pI (ci := 8) (k := 0) X rfl il8 tyX8 tyX8_ok nmX8 (by decide) tw703 rfl (by decide) (fun _ _ _ => rfl) rfl eS10 dX8_head_31 ?_
  clear eS10
  refine g_aload_n (j := 0) X dX8_head_34 rfl rfl ?_
  obtain ⟨x12, ex12, h13⟩ := g_bd h11; clear h11
  refine g_fI (ci := 8) (k := 0) X rfl il8 (by decide) tw703 (by decide) (fun _ _ _ => rfl) ex12 dX8_head_35 ?_
  clear ex12
  refine g_if_le (tgt := 43) X dX8_head_38 (by decide) (fun c14 => ?_) (fun c14 => ?_)
  · have h15 := g_ip h13 c14; clear h13
    refine g_bipush X dX8_head_43 (v := 80) (by decide) ?_
    refine g_bipush X dX8_head_45 (v := 40) (by decide) ?_
    refine g_iload_n (j := 1) X dX8_head_47 rfl rfl ?_
    refine g_imul X dX8_head_48 ?_
    refine g_iload_n (j := 2) X dX8_head_49 rfl rfl ?_
    refine g_iadd X dX8_head_50 ?_
    refine g_imul X dX8_head_51 ?_
    obtain ⟨x17, ex17, h18⟩ := g_let h15; clear h15; rw [← ex17]; clear ex17
    refine g_istore_n (i := 3) (lv' := [(3, .int x17), (0, va_rf (some a0)), (1, .int v1), (2, .int v2)]) X dX8_head_52 rfl (by decide) rfl ?_
    refine g_iconst X dX8_head_53 (v := 0) (by decide) ?_
    refine g_istore (i := 4) (lv' := [(4, .int 0), (3, .int x17), (0, va_rf (some a0)), (1, .int v1), (2, .int v2)]) X dX8_head_54 (by decide) rfl ?_
    refine g_sub [2, 1, 0] rfl ?_
    exact w_X8_head_L56 hl X hr gFuel S10 a0 x17 0 h18
  · have h16 := g_in h13 c14; clear h13
    refine g_iconst X dX8_head_41 (v := 0) (by decide) ?_
    obtain ⟨rfl, rfl⟩ := g_end h16
    exact g_iret X hr (by decide) (by decide) dX8_head_42
def f_X8_head_B26 (S0 : gS) (a0 : Nat) (v1 : Int32) (v2 : Int32) (t0 : Option Nat) : Option (Int32 × gS) :=
  f_X8_head_B31 S0 a0 v1 v2 2 t0
set_option maxRecDepth 100000 in
set_option maxHeartbeats 4000000 in
theorem w_X8_head_B26 {p : Program} {l : Launch} {e : Env} {s : State} {m : MethodId} {args : Array Value} {below : List Frame} {meth : Method} {c : Code} {D : gD} {S9 : gS} {res : Int32}  (hl : l.stackTraces = false) (X : gX D p l s m args meth c cX8_head 6 RX8) (hr : meth.sig.returnType = (some .int)) (S0 : gS) (a0 : Nat) (v1 : Int32) (v2 : Int32) (t0 : Option Nat) (h0 : f_X8_head_B26 S0 a0 v1 v2 t0 = some (res, S9)) : gJ D p l e { frames := 1, cells := 0, slots := 0, locals := 20 } s m args below meth c (MQ below (gQ D (some (.int res)) S9) args s (0) (0) (gF D)) 6 (0) (0) S0 26 [(0, va_rf (some a0)), (1, .int v1), (2, .int v2)] [va_rf t0] := by
  unfold f_X8_head_B26 at h0
  refine g_iconst X dX8_head_26 (v := 2) (by decide) ?_
  refine g_goto (tgt := 31) X dX8_head_27 (by decide) ?_
  refine g_sub [0, 1, 2] rfl ?_
  exact w_X8_head_B31 hl X hr S0 a0 v1 v2 2 t0 h0
def f_X8_head (S0 : gS) (a0 : Nat) (v1 : Int32) (v2 : Int32) : Option (Int32 × gS) :=
  gBi (f_X8_isLog S0 v1) fun x3 S1 =>
  if x3 = 0 then
    f_X8_head_B31 S1 a0 v1 v2 1 (some a0)
  else
    if v2 < 0 then
      f_X8_head_B26 S1 a0 v1 v2 (some a0)
    else
      (fgR S1 8 13 (some a0)).bind fun x45 =>
      (fI S1 10 x45 v1).bind fun x47 =>
      if v2 < x47 then
        f_X8_head_B31 S1 a0 v1 v2 0 (some a0)
      else
        f_X8_head_B26 S1 a0 v1 v2 (some a0)
set_option maxRecDepth 100000 in
set_option maxHeartbeats 4000000 in
theorem c_X8_head {l : Launch} (hl : l.stackTraces = false) (D : gD)  {S0 S9 : gS} {a0 : Nat} {v1 : Int32} {v2 : Int32} {res : Int32} (h0 : f_X8_head S0 a0 v1 v2 = some (res, S9)) : Met l yX8_head (gws yX8_head cX8_head 6 (some .int)) { frames := 1, cells := 0, slots := 0, locals := 20 } (gPc D S0 [.ref a0, .int v1, .int v2]) (gQ D (some (.int res)) S9) (0) (0) (gF D) := by
  refine g_met (lv := [(0, va_rf (some a0)), (1, .int v1), (2, .int v2)]) hl (by decide) (Nat.le_of_ble_eq_true rfl) rfl (fun p e s m args below meth c X hr hn => ?_)
  have X : gX D p l s m args meth c cX8_head 6 RX8 := X
  unfold f_X8_head at h0
  refine g_aload_n (j := 0) X dX8_head_0 rfl rfl ?_
  refine g_iload_n (j := 1) X dX8_head_1 rfl rfl ?_
  obtain ⟨x3, S1, eS1, h2⟩ := g_bi h0; clear h0
  refine g_cS (n := 1) (As := [.int v1]) X (c_X8_isLog hl D eS1) tw787 tw788 tw51 tw789 (by decide +kernel) rfl rfl ⟨Nat.le_of_ble_eq_true rfl, Nat.le_of_ble_eq_true rfl⟩ rfl rfl (Nat.le_of_ble_eq_true rfl) dX8_head_2 ⟨(by decide), (by decide)⟩ ?_
  clear eS1
  refine g_if_ne (tgt := 12) X dX8_head_5 (by decide) (fun c4 => ?_) (fun c4 => ?_)
  · have h5 := g_in h2 c4; clear h2
    refine g_iload_n (j := 2) X dX8_head_12 rfl rfl ?_
    refine g_if_lt (tgt := 26) X dX8_head_13 (by decide) (fun c7 => ?_) (fun c7 => ?_)
    · have h8 := g_ip h5 c7; clear h5
      refine g_sub [0, 1, 2] rfl ?_
      exact w_X8_head_B26 hl X hr S1 a0 v1 v2 (some a0) h8
    · have h9 := g_in h5 c7; clear h5
      refine g_iload_n (j := 2) X dX8_head_16 rfl rfl ?_
      refine g_aload_n (j := 0) X dX8_head_17 rfl rfl ?_
      obtain ⟨x45, ex45, h46⟩ := g_bd h9; clear h9
      refine g_fR (ci := 8) (k := 13) X rfl il8 (by decide) tw716 (by decide) (fun _ _ _ => rfl) ex45 dX8_head_18 ?_
      clear ex45
      refine g_iload_n (j := 1) X dX8_head_21 rfl rfl ?_
      obtain ⟨x47, ex47, h48⟩ := g_bd h46; clear h46
      refine g_iald X ex47 dX8_head_22 ?_
      clear ex47
      refine g_icmp_lt (tgt := 30) X dX8_head_23 (by decide) (fun c49 => ?_) (fun c49 => ?_)
      · have h50 := g_ip h48 c49; clear h48
        refine g_iconst X dX8_head_30 (v := 0) (by decide) ?_
        refine g_sub [0, 1, 2] rfl ?_
        exact w_X8_head_B31 hl X hr S1 a0 v1 v2 0 (some a0) h50
      · have h51 := g_in h48 c49; clear h48
        refine g_sub [0, 1, 2] rfl ?_
        exact w_X8_head_B26 hl X hr S1 a0 v1 v2 (some a0) h51
  · have h6 := g_ip h2 c4; clear h2
    refine g_iconst X dX8_head_8 (v := 1) (by decide) ?_
    refine g_goto (tgt := 31) X dX8_head_9 (by decide) ?_
    refine g_sub [0, 1, 2] rfl ?_
    exact w_X8_head_B31 hl X hr S1 a0 v1 v2 1 (some a0) h6
def f_X8_entry_L64 : Nat → gS → Nat → Int32 → Int32 → Option (Int32 × gS)
  | 0, _, _, _, _ => none
  | k + 1, S0, a0, v3, v4 =>
    (fgI S0 8 4 (some a0)).bind fun x25 =>
    if x25 ≤ v4 then
      (fgI S0 8 4 (some a0)).bind fun x30 =>
      some (x30, S0)
    else
      (fgR S0 8 3 (some a0)).bind fun x32 =>
      (fgR S0 8 7 (some a0)).bind fun x34 =>
      (fI S0 10 x34 ((120 * v3) + v4)).bind fun x36 =>
      (faI S0 x32 v4 x36).bind fun S38 =>
      gLet (v4 + 1) fun x40 =>
      f_X8_entry_L64 k S38 a0 v3 x40
set_option maxRecDepth 100000 in
set_option maxHeartbeats 4000000 in
theorem w_X8_entry_L64 {p : Program} {l : Launch} {e : Env} {s : State} {m : MethodId} {args : Array Value} {below : List Frame} {meth : Method} {c : Code} {D : gD} {S9 : gS} {res : Int32}  (hl : l.stackTraces = false) (X : gX D p l s m args meth c cX8_entry 5 RX8) (hr : meth.sig.returnType = (some .int)) : ∀ (k : Nat) (S0 : gS) (a0 : Nat) (v3 : Int32) (v4 : Int32), f_X8_entry_L64 k S0 a0 v3 v4 = some (res, S9) → gJ D p l e { frames := 1, cells := 0, slots := 0, locals := 20 } s m args below meth c (MQ below (gQ D (some (.int res)) S9) args s (0) (0) (gF D)) 5 (0) (0) S0 64 [(0, va_rf (some a0)), (3, .int v3), (4, .int v4)] [] := by
  intro k
  induction k with
  | zero => intro S0 a0 v3 v4 h0; cases h0
  | succ k ih =>
    intro S0 a0 v3 v4 h0
    have h0 := h0
    unfold f_X8_entry_L64 at h0
    refine g_iload (j := 2) X dX8_entry_64 rfl ?_
    refine g_aload_n (j := 0) X dX8_entry_66 rfl rfl ?_
    obtain ⟨x25, ex25, h26⟩ := g_bd h0; clear h0
    refine g_fI (ci := 8) (k := 4) X rfl il8 (by decide) tw707 (by decide) (fun _ _ _ => rfl) ex25 dX8_entry_67 ?_
    clear ex25
    refine g_icmp_ge (tgt := 98) X dX8_entry_70 (by decide) (fun c27 => ?_) (fun c27 => ?_)
    · have h28 := g_ip h26 c27; clear h26
      refine g_aload_n (j := 0) X dX8_entry_98 rfl rfl ?_
      obtain ⟨x30, ex30, h31⟩ := g_bd h28; clear h28
      refine g_fI (ci := 8) (k := 4) X rfl il8 (by decide) tw707 (by decide) (fun _ _ _ => rfl) ex30 dX8_entry_99 ?_
      clear ex30
      obtain ⟨rfl, rfl⟩ := g_end h31
      exact g_iret X hr (by decide) (by decide) dX8_entry_102
    · have h29 := g_in h26 c27; clear h26
      refine g_aload_n (j := 0) X dX8_entry_73 rfl rfl ?_
      obtain ⟨x32, ex32, h33⟩ := g_bd h29; clear h29
      refine g_fR (ci := 8) (k := 3) X rfl il8 (by decide) tw706 (by decide) (fun _ _ _ => rfl) ex32 dX8_entry_74 ?_
      clear ex32
      refine g_iload (j := 2) X dX8_entry_77 rfl ?_
      refine g_aload_n (j := 0) X dX8_entry_79 rfl rfl ?_
      obtain ⟨x34, ex34, h35⟩ := g_bd h33; clear h33
      refine g_fR (ci := 8) (k := 7) X rfl il8 (by decide) tw710 (by decide) (fun _ _ _ => rfl) ex34 dX8_entry_80 ?_
      clear ex34
      refine g_bipush X dX8_entry_83 (v := 120) (by decide) ?_
      refine g_iload_n (j := 1) X dX8_entry_85 rfl rfl ?_
      refine g_imul X dX8_entry_86 ?_
      refine g_iload (j := 2) X dX8_entry_87 rfl ?_
      refine g_iadd X dX8_entry_89 ?_
      obtain ⟨x36, ex36, h37⟩ := g_bd h35; clear h35
      refine g_iald X ex36 dX8_entry_90 ?_
      clear ex36
      obtain ⟨S38, eS38, h39⟩ := g_bd h37; clear h37
      refine g_iast X eS38 dX8_entry_91 ?_
      clear eS38
      obtain ⟨x40, ex40, h41⟩ := g_let h39; clear h39
      refine g_iinc (j := 2) (v := x40) (lv' := [(4, .int x40), (0, va_rf (some a0)), (3, .int v3)]) X dX8_entry_92 rfl (by rw [ex40]; rfl) (by decide) rfl ?_
      clear ex40
      refine g_goto (tgt := 64) X dX8_entry_95 (by decide) ?_
      refine g_sub [1, 2, 0] rfl ?_
      exact ih S38 a0 v3 x40 h41
def f_X8_entry_B31 (S0 : gS) (a0 : Nat) (v1 : Int32) (v2 : Int32) (t0 : Int32) (t1 : Option Nat) : Option (Int32 × gS) :=
  (fpI S0 8 0 t1 t0).bind fun S10 =>
  (fgI S10 8 0 (some a0)).bind fun x12 =>
  if x12 ≤ 0 then
    gLet ((200 * v1) + v2) fun x17 =>
    (fgR S10 8 8 (some a0)).bind fun x19 =>
    (fI S10 10 x19 x17).bind fun x21 =>
    (fpI S10 8 4 (some a0) x21).bind fun S23 =>
    f_X8_entry_L64 gFuel S23 a0 x17 0
  else
    some (0, S10)
set_option maxRecDepth 100000 in
set_option maxHeartbeats 4000000 in
theorem w_X8_entry_B31 {p : Program} {l : Launch} {e : Env} {s : State} {m : MethodId} {args : Array Value} {below : List Frame} {meth : Method} {c : Code} {D : gD} {S9 : gS} {res : Int32}  (hl : l.stackTraces = false) (X : gX D p l s m args meth c cX8_entry 5 RX8) (hr : meth.sig.returnType = (some .int)) (S0 : gS) (a0 : Nat) (v1 : Int32) (v2 : Int32) (t0 : Int32) (t1 : Option Nat) (h0 : f_X8_entry_B31 S0 a0 v1 v2 t0 t1 = some (res, S9)) : gJ D p l e { frames := 1, cells := 0, slots := 0, locals := 20 } s m args below meth c (MQ below (gQ D (some (.int res)) S9) args s (0) (0) (gF D)) 5 (0) (0) S0 31 [(0, va_rf (some a0)), (1, .int v1), (2, .int v2)] [.int t0, va_rf t1] := by
  unfold f_X8_entry_B31 at h0
  obtain ⟨S10, eS10, h11⟩ := g_bd h0; clear h0
  refine g_pI (ci := 8) (k := 0) X rfl il8 tyX8 tyX8_ok nmX8 (by decide) tw703 rfl (by decide) (fun _ _ _ => rfl) rfl eS10 dX8_entry_31 ?_
  clear eS10
  refine g_aload_n (j := 0) X dX8_entry_34 rfl rfl ?_
  obtain ⟨x12, ex12, h13⟩ := g_bd h11; clear h11
  refine g_fI (ci := 8) (k := 0) X rfl il8 (by decide) tw703 (by decide) (fun _ _ _ => rfl) ex12 dX8_entry_35 ?_
  clear ex12
  refine g_if_le (tgt := 43) X dX8_entry_38 (by decide) (fun c14 => ?_) (fun c14 => ?_)
  · have h15 := g_ip h13 c14; clear h13
    refine g_sipush X dX8_entry_43 (v := 200) (by decide) ?_
    refine g_iload_n (j := 1) X dX8_entry_46 rfl rfl ?_
    refine g_imul X dX8_entry_47 ?_
    refine g_iload_n (j := 2) X dX8_entry_48 rfl rfl ?_
    refine g_iadd X dX8_entry_49 ?_
    obtain ⟨x17, ex17, h18⟩ := g_let h15; clear h15; rw [← ex17]; clear ex17
    refine g_istore_n (i := 3) (lv' := [(3, .int x17), (0, va_rf (some a0)), (1, .int v1), (2, .int v2)]) X dX8_entry_50 rfl (by decide) rfl ?_
    refine g_aload_n (j := 1) X dX8_entry_51 rfl rfl ?_
    refine g_aload_n (j := 1) X dX8_entry_52 rfl rfl ?_
    obtain ⟨x19, ex19, h20⟩ := g_bd h18; clear h18
    refine g_fR (ci := 8) (k := 8) X rfl il8 (by decide) tw711 (by decide) (fun _ _ _ => rfl) ex19 dX8_entry_53 ?_
    clear ex19
    refine g_iload_n (j := 0) X dX8_entry_56 rfl rfl ?_
    obtain ⟨x21, ex21, h22⟩ := g_bd h20; clear h20
    refine g_iald X ex21 dX8_entry_57 ?_
    clear ex21
    obtain ⟨S23, eS23, h24⟩ := g_bd h22; clear h22
    refine g_pI (ci := 8) (k := 4) X rfl il8 tyX8 tyX8_ok nmX8 (by decide) tw707 rfl (by decide) (fun _ _ _ => rfl) rfl eS23 dX8_entry_58 ?_
    clear eS23
    refine g_iconst X dX8_entry_61 (v := 0) (by decide) ?_
    refine g_istore (i := 4) (lv' := [(4, .int 0), (3, .int x17), (0, va_rf (some a0)), (1, .int v1), (2, .int v2)]) X dX8_entry_62 (by decide) rfl ?_
    refine g_sub [2, 1, 0] rfl ?_
    exact w_X8_entry_L64 hl X hr gFuel S23 a0 x17 0 h24
  · have h16 := g_in h13 c14; clear h13
    refine g_iconst X dX8_entry_41 (v := 0) (by decide) ?_
    obtain ⟨rfl, rfl⟩ := g_end h16
    exact g_iret X hr (by decide) (by decide) dX8_entry_42
def f_X8_entry_B26 (S0 : gS) (a0 : Nat) (v1 : Int32) (v2 : Int32) (t0 : Option Nat) : Option (Int32 × gS) :=
  f_X8_entry_B31 S0 a0 v1 v2 2 t0
set_option maxRecDepth 100000 in
set_option maxHeartbeats 4000000 in
theorem w_X8_entry_B26 {p : Program} {l : Launch} {e : Env} {s : State} {m : MethodId} {args : Array Value} {below : List Frame} {meth : Method} {c : Code} {D : gD} {S9 : gS} {res : Int32}  (hl : l.stackTraces = false) (X : gX D p l s m args meth c cX8_entry 5 RX8) (hr : meth.sig.returnType = (some .int)) (S0 : gS) (a0 : Nat) (v1 : Int32) (v2 : Int32) (t0 : Option Nat) (h0 : f_X8_entry_B26 S0 a0 v1 v2 t0 = some (res, S9)) : gJ D p l e { frames := 1, cells := 0, slots := 0, locals := 20 } s m args below meth c (MQ below (gQ D (some (.int res)) S9) args s (0) (0) (gF D)) 5 (0) (0) S0 26 [(0, va_rf (some a0)), (1, .int v1), (2, .int v2)] [va_rf t0] := by
  unfold f_X8_entry_B26 at h0
  refine g_iconst X dX8_entry_26 (v := 2) (by decide) ?_
  refine g_goto (tgt := 31) X dX8_entry_27 (by decide) ?_
  refine g_sub [0, 1, 2] rfl ?_
  exact w_X8_entry_B31 hl X hr S0 a0 v1 v2 2 t0 h0
def f_X8_entry (S0 : gS) (a0 : Nat) (v1 : Int32) (v2 : Int32) : Option (Int32 × gS) :=
  gBi (f_X8_isLog S0 v1) fun x3 S1 =>
  if x3 = 0 then
    f_X8_entry_B31 S1 a0 v1 v2 1 (some a0)
  else
    if v2 < 0 then
      f_X8_entry_B26 S1 a0 v1 v2 (some a0)
    else
      (fgR S1 8 9 (some a0)).bind fun x42 =>
      (fI S1 10 x42 v1).bind fun x44 =>
      if v2 < x44 then
        f_X8_entry_B31 S1 a0 v1 v2 0 (some a0)
      else
        f_X8_entry_B26 S1 a0 v1 v2 (some a0)
set_option maxRecDepth 100000 in
set_option maxHeartbeats 4000000 in
theorem c_X8_entry {l : Launch} (hl : l.stackTraces = false) (D : gD)  {S0 S9 : gS} {a0 : Nat} {v1 : Int32} {v2 : Int32} {res : Int32} (h0 : f_X8_entry S0 a0 v1 v2 = some (res, S9)) : Met l yX8_entry (gws yX8_entry cX8_entry 5 (some .int)) { frames := 1, cells := 0, slots := 0, locals := 20 } (gPc D S0 [.ref a0, .int v1, .int v2]) (gQ D (some (.int res)) S9) (0) (0) (gF D) := by
  refine g_met (lv := [(0, va_rf (some a0)), (1, .int v1), (2, .int v2)]) hl (by decide) (Nat.le_of_ble_eq_true rfl) rfl (fun p e s m args below meth c X hr hn => ?_)
  have X : gX D p l s m args meth c cX8_entry 5 RX8 := X
  unfold f_X8_entry at h0
  refine g_aload_n (j := 0) X dX8_entry_0 rfl rfl ?_
  refine g_iload_n (j := 1) X dX8_entry_1 rfl rfl ?_
  obtain ⟨x3, S1, eS1, h2⟩ := g_bi h0; clear h0
  refine g_cS (n := 1) (As := [.int v1]) X (c_X8_isLog hl D eS1) tw787 tw788 tw51 tw789 (by decide +kernel) rfl rfl ⟨Nat.le_of_ble_eq_true rfl, Nat.le_of_ble_eq_true rfl⟩ rfl rfl (Nat.le_of_ble_eq_true rfl) dX8_entry_2 ⟨(by decide), (by decide)⟩ ?_
  clear eS1
  refine g_if_ne (tgt := 12) X dX8_entry_5 (by decide) (fun c4 => ?_) (fun c4 => ?_)
  · have h5 := g_in h2 c4; clear h2
    refine g_iload_n (j := 2) X dX8_entry_12 rfl rfl ?_
    refine g_if_lt (tgt := 26) X dX8_entry_13 (by decide) (fun c7 => ?_) (fun c7 => ?_)
    · have h8 := g_ip h5 c7; clear h5
      refine g_sub [0, 1, 2] rfl ?_
      exact w_X8_entry_B26 hl X hr S1 a0 v1 v2 (some a0) h8
    · have h9 := g_in h5 c7; clear h5
      refine g_iload_n (j := 2) X dX8_entry_16 rfl rfl ?_
      refine g_aload_n (j := 0) X dX8_entry_17 rfl rfl ?_
      obtain ⟨x42, ex42, h43⟩ := g_bd h9; clear h9
      refine g_fR (ci := 8) (k := 9) X rfl il8 (by decide) tw712 (by decide) (fun _ _ _ => rfl) ex42 dX8_entry_18 ?_
      clear ex42
      refine g_iload_n (j := 1) X dX8_entry_21 rfl rfl ?_
      obtain ⟨x44, ex44, h45⟩ := g_bd h43; clear h43
      refine g_iald X ex44 dX8_entry_22 ?_
      clear ex44
      refine g_icmp_lt (tgt := 30) X dX8_entry_23 (by decide) (fun c46 => ?_) (fun c46 => ?_)
      · have h47 := g_ip h45 c46; clear h45
        refine g_iconst X dX8_entry_30 (v := 0) (by decide) ?_
        refine g_sub [0, 1, 2] rfl ?_
        exact w_X8_entry_B31 hl X hr S1 a0 v1 v2 0 (some a0) h47
      · have h48 := g_in h45 c46; clear h45
        refine g_sub [0, 1, 2] rfl ?_
        exact w_X8_entry_B26 hl X hr S1 a0 v1 v2 (some a0) h48
  · have h6 := g_ip h2 c4; clear h2
    refine g_iconst X dX8_entry_8 (v := 1) (by decide) ?_
    refine g_goto (tgt := 31) X dX8_entry_9 (by decide) ?_
    refine g_sub [0, 1, 2] rfl ?_
    exact w_X8_entry_B31 hl X hr S1 a0 v1 v2 1 (some a0) h6
def f_X8_leaf_B31 (S0 : gS) (a0 : Nat) (v1 : Int32) (v2 : Int32) (t0 : Int32) (t1 : Option Nat) : Option (Int32 × gS) :=
  (fpI S0 8 0 t1 t0).bind fun S10 =>
  (fgI S10 8 0 (some a0)).bind fun x12 =>
  if x12 ≤ 0 then
    gDc S10 8 (some a0) fun a17 =>
    (f_X8_leafOf S10 a17 v1 v2 0).bind fun S19 =>
    (fpI S19 8 4 (some a0) 0).bind fun S21 =>
    gDc S21 8 (some a0) fun a23 =>
    (f_X8_outSlot S21 a23 0).bind fun S25 =>
    (fgR S25 8 10 (some a0)).bind fun x27 =>
    (fI S25 10 x27 v1).bind fun x29 =>
    if x29 ≤ v2 then
      some (0, S25)
    else
      some (1, S25)
  else
    some (0, S10)
set_option maxRecDepth 100000 in
set_option maxHeartbeats 4000000 in
theorem w_X8_leaf_B31 {p : Program} {l : Launch} {e : Env} {s : State} {m : MethodId} {args : Array Value} {below : List Frame} {meth : Method} {c : Code} {D : gD} {S9 : gS} {res : Int32}  (hl : l.stackTraces = false) (X : gX D p l s m args meth c cX8_leaf 3 RX8) (hr : meth.sig.returnType = (some .boolean)) (S0 : gS) (a0 : Nat) (v1 : Int32) (v2 : Int32) (t0 : Int32) (t1 : Option Nat) (h0 : f_X8_leaf_B31 S0 a0 v1 v2 t0 t1 = some (res, S9)) : gJ D p l e { frames := 4, cells := 1, slots := 8, locals := 102 } s m args below meth c (MQ below (gQ D (some (.int res)) S9) args s (1) (8) (gF D)) 3 (0) (0) S0 31 [(0, va_rf (some a0)), (1, .int v1), (2, .int v2)] [.int t0, va_rf t1] := by
  unfold f_X8_leaf_B31 at h0
  obtain ⟨S10, eS10, h11⟩ := g_bd h0; clear h0
  refine g_pI (ci := 8) (k := 0) X rfl il8 tyX8 tyX8_ok nmX8 (by decide) tw703 rfl (by decide) (fun _ _ _ => rfl) rfl eS10 dX8_leaf_31 ?_
  clear eS10
  refine g_aload_n (j := 0) X dX8_leaf_34 rfl rfl ?_
  obtain ⟨x12, ex12, h13⟩ := g_bd h11; clear h11
  refine g_fI (ci := 8) (k := 0) X rfl il8 (by decide) tw703 (by decide) (fun _ _ _ => rfl) ex12 dX8_leaf_35 ?_
  clear ex12
  refine g_if_le (tgt := 43) X dX8_leaf_38 (by decide) (fun c14 => ?_) (fun c14 => ?_)
  · have h15 := g_ip h13 c14; clear h13
    refine g_aload_n (j := 0) X dX8_leaf_43 rfl rfl ?_
    refine g_iload_n (j := 1) X dX8_leaf_44 rfl rfl ?_
    refine g_iload_n (j := 2) X dX8_leaf_45 rfl rfl ?_
    refine g_iconst X dX8_leaf_46 (v := 0) (by decide) ?_
    obtain ⟨a17, ea17, ka17, h18⟩ := g_dc h15; clear h15
    obtain ⟨S19, eS19, h20⟩ := g_bd h18; clear h18
    refine g_cV (n := 3) (As := [.int v1, .int v2, .int 0]) X (c_X8_leafOf hl D eS19) tw827 tw828 tw21 tw51 tw829 (by decide +kernel) rfl rfl ⟨Nat.le_of_ble_eq_true rfl, Nat.le_of_ble_eq_true rfl⟩ (ci := 8) rfl (by decide) ea17 ka17 rfl rfl (Nat.le_of_ble_eq_true rfl) dX8_leaf_47 ⟨(by decide), (by decide)⟩ ?_
    clear eS19 ea17 ka17
    refine g_aload_n (j := 0) X dX8_leaf_50 rfl rfl ?_
    refine g_iconst X dX8_leaf_51 (v := 0) (by decide) ?_
    obtain ⟨S21, eS21, h22⟩ := g_bd h20; clear h20
    refine g_pI (ci := 8) (k := 4) X rfl il8 tyX8 tyX8_ok nmX8 (by decide) tw707 rfl (by decide) (fun _ _ _ => rfl) rfl eS21 dX8_leaf_52 ?_
    clear eS21
    refine g_aload_n (j := 0) X dX8_leaf_55 rfl rfl ?_
    refine g_iconst X dX8_leaf_56 (v := 0) (by decide) ?_
    obtain ⟨a23, ea23, ka23, h24⟩ := g_dc h22; clear h22
    obtain ⟨S25, eS25, h26⟩ := g_bd h24; clear h24
    refine g_cV (n := 1) (As := [.int 0]) X (c_X8_outSlot hl D eS25) tw872 tw873 tw28 tw51 tw874 (by decide +kernel) rfl rfl ⟨Nat.le_of_ble_eq_true rfl, Nat.le_of_ble_eq_true rfl⟩ (ci := 8) rfl (by decide) ea23 ka23 rfl rfl (Nat.le_of_ble_eq_true rfl) dX8_leaf_57 ⟨(by decide), (by decide)⟩ ?_
    clear eS25 ea23 ka23
    refine g_iload_n (j := 2) X dX8_leaf_60 rfl rfl ?_
    refine g_aload_n (j := 0) X dX8_leaf_61 rfl rfl ?_
    obtain ⟨x27, ex27, h28⟩ := g_bd h26; clear h26
    refine g_fR (ci := 8) (k := 10) X rfl il8 (by decide) tw713 (by decide) (fun _ _ _ => rfl) ex27 dX8_leaf_62 ?_
    clear ex27
    refine g_iload_n (j := 1) X dX8_leaf_65 rfl rfl ?_
    obtain ⟨x29, ex29, h30⟩ := g_bd h28; clear h28
    refine g_iald X ex29 dX8_leaf_66 ?_
    clear ex29
    refine g_icmp_ge (tgt := 74) X dX8_leaf_67 (by decide) (fun c31 => ?_) (fun c31 => ?_)
    · have h32 := g_ip h30 c31; clear h30
      refine g_iconst X dX8_leaf_74 (v := 0) (by decide) ?_
      obtain ⟨rfl, rfl⟩ := g_end h32
      exact g_zret X hr (Or.inl rfl) (by decide) (by decide) dX8_leaf_75
    · have h33 := g_in h30 c31; clear h30
      refine g_iconst X dX8_leaf_70 (v := 1) (by decide) ?_
      refine g_goto (tgt := 75) X dX8_leaf_71 (by decide) ?_
      obtain ⟨rfl, rfl⟩ := g_end h33
      exact g_zret X hr (Or.inr rfl) (by decide) (by decide) dX8_leaf_75
  · have h16 := g_in h13 c14; clear h13
    refine g_iconst X dX8_leaf_41 (v := 0) (by decide) ?_
    obtain ⟨rfl, rfl⟩ := g_end h16
    exact g_zret X hr (Or.inl rfl) (by decide) (by decide) dX8_leaf_42
def f_X8_leaf_B26 (S0 : gS) (a0 : Nat) (v1 : Int32) (v2 : Int32) (t0 : Option Nat) : Option (Int32 × gS) :=
  f_X8_leaf_B31 S0 a0 v1 v2 2 t0
set_option maxRecDepth 100000 in
set_option maxHeartbeats 4000000 in
theorem w_X8_leaf_B26 {p : Program} {l : Launch} {e : Env} {s : State} {m : MethodId} {args : Array Value} {below : List Frame} {meth : Method} {c : Code} {D : gD} {S9 : gS} {res : Int32}  (hl : l.stackTraces = false) (X : gX D p l s m args meth c cX8_leaf 3 RX8) (hr : meth.sig.returnType = (some .boolean)) (S0 : gS) (a0 : Nat) (v1 : Int32) (v2 : Int32) (t0 : Option Nat) (h0 : f_X8_leaf_B26 S0 a0 v1 v2 t0 = some (res, S9)) : gJ D p l e { frames := 4, cells := 1, slots := 8, locals := 102 } s m args below meth c (MQ below (gQ D (some (.int res)) S9) args s (1) (8) (gF D)) 3 (0) (0) S0 26 [(0, va_rf (some a0)), (1, .int v1), (2, .int v2)] [va_rf t0] := by
  unfold f_X8_leaf_B26 at h0
  refine g_iconst X dX8_leaf_26 (v := 2) (by decide) ?_
  refine g_goto (tgt := 31) X dX8_leaf_27 (by decide) ?_
  refine g_sub [0, 1, 2] rfl ?_
  exact w_X8_leaf_B31 hl X hr S0 a0 v1 v2 2 t0 h0
def f_X8_leaf (S0 : gS) (a0 : Nat) (v1 : Int32) (v2 : Int32) : Option (Int32 × gS) :=
  gBi (f_X8_isLog S0 v1) fun x3 S1 =>
  if x3 = 0 then
    f_X8_leaf_B31 S1 a0 v1 v2 1 (some a0)
  else
    if v2 < 0 then
      f_X8_leaf_B26 S1 a0 v1 v2 (some a0)
    else
      (fgR S1 8 9 (some a0)).bind fun x34 =>
      (fI S1 10 x34 v1).bind fun x36 =>
      if v2 < x36 then
        f_X8_leaf_B31 S1 a0 v1 v2 0 (some a0)
      else
        f_X8_leaf_B26 S1 a0 v1 v2 (some a0)
set_option maxRecDepth 100000 in
set_option maxHeartbeats 4000000 in
theorem c_X8_leaf {l : Launch} (hl : l.stackTraces = false) (D : gD)  {S0 S9 : gS} {a0 : Nat} {v1 : Int32} {v2 : Int32} {res : Int32} (h0 : f_X8_leaf S0 a0 v1 v2 = some (res, S9)) : Met l yX8_leaf (gws yX8_leaf cX8_leaf 3 (some .boolean)) { frames := 4, cells := 1, slots := 8, locals := 102 } (gPc D S0 [.ref a0, .int v1, .int v2]) (gQ D (some (.int res)) S9) (1) (8) (gF D) := by
  refine g_met (lv := [(0, va_rf (some a0)), (1, .int v1), (2, .int v2)]) hl (by decide) (Nat.le_of_ble_eq_true rfl) rfl (fun p e s m args below meth c X hr hn => ?_)
  have X : gX D p l s m args meth c cX8_leaf 3 RX8 := X
  unfold f_X8_leaf at h0
  refine g_aload_n (j := 0) X dX8_leaf_0 rfl rfl ?_
  refine g_iload_n (j := 1) X dX8_leaf_1 rfl rfl ?_
  obtain ⟨x3, S1, eS1, h2⟩ := g_bi h0; clear h0
  refine g_cS (n := 1) (As := [.int v1]) X (c_X8_isLog hl D eS1) tw787 tw788 tw51 tw789 (by decide +kernel) rfl rfl ⟨Nat.le_of_ble_eq_true rfl, Nat.le_of_ble_eq_true rfl⟩ rfl rfl (Nat.le_of_ble_eq_true rfl) dX8_leaf_2 ⟨(by decide), (by decide)⟩ ?_
  clear eS1
  refine g_if_ne (tgt := 12) X dX8_leaf_5 (by decide) (fun c4 => ?_) (fun c4 => ?_)
  · have h5 := g_in h2 c4; clear h2
    refine g_iload_n (j := 2) X dX8_leaf_12 rfl rfl ?_
    refine g_if_lt (tgt := 26) X dX8_leaf_13 (by decide) (fun c7 => ?_) (fun c7 => ?_)
    · have h8 := g_ip h5 c7; clear h5
      refine g_sub [0, 1, 2] rfl ?_
      exact w_X8_leaf_B26 hl X hr S1 a0 v1 v2 (some a0) h8
    · have h9 := g_in h5 c7; clear h5
      refine g_iload_n (j := 2) X dX8_leaf_16 rfl rfl ?_
      refine g_aload_n (j := 0) X dX8_leaf_17 rfl rfl ?_
      obtain ⟨x34, ex34, h35⟩ := g_bd h9; clear h9
      refine g_fR (ci := 8) (k := 9) X rfl il8 (by decide) tw712 (by decide) (fun _ _ _ => rfl) ex34 dX8_leaf_18 ?_
      clear ex34
      refine g_iload_n (j := 1) X dX8_leaf_21 rfl rfl ?_
      obtain ⟨x36, ex36, h37⟩ := g_bd h35; clear h35
      refine g_iald X ex36 dX8_leaf_22 ?_
      clear ex36
      refine g_icmp_lt (tgt := 30) X dX8_leaf_23 (by decide) (fun c38 => ?_) (fun c38 => ?_)
      · have h39 := g_ip h37 c38; clear h37
        refine g_iconst X dX8_leaf_30 (v := 0) (by decide) ?_
        refine g_sub [0, 1, 2] rfl ?_
        exact w_X8_leaf_B31 hl X hr S1 a0 v1 v2 0 (some a0) h39
      · have h40 := g_in h37 c38; clear h37
        refine g_sub [0, 1, 2] rfl ?_
        exact w_X8_leaf_B26 hl X hr S1 a0 v1 v2 (some a0) h40
  · have h6 := g_ip h2 c4; clear h2
    refine g_iconst X dX8_leaf_8 (v := 1) (by decide) ?_
    refine g_goto (tgt := 31) X dX8_leaf_9 (by decide) ?_
    refine g_sub [0, 1, 2] rfl ?_
    exact w_X8_leaf_B31 hl X hr S1 a0 v1 v2 1 (some a0) h6
def f_X8_find_L48 : Nat → gS → Nat → Nat → Nat → Int32 → Int32 → Option (Int32 × gS)
  | 0, _, _, _, _, _, _ => none
  | k + 1, S0, cu, su, a0, v1, v3 =>
    gGd (cu ≤ 200 ∧ su ≤ 1600) <|
    (fgR S0 8 10 (some a0)).bind fun x26 =>
    (fI S0 10 x26 v1).bind fun x28 =>
    if x28 ≤ v3 then
      some ((-1), S0)
    else
      gDc S0 8 (some a0) fun a33 =>
      gGd (cu + 1 ≤ 200 ∧ su + 8 ≤ 1600) <|
      (f_X8_leafOf S0 a33 v1 v3 1).bind fun S37 =>
      gDc S37 8 (some a0) fun a39 =>
      gBi (f_X8_isSame S37 a39 0 1) fun x43 S41 =>
      if x43 = 0 then
        gLet (v3 + 1) fun x47 =>
        f_X8_find_L48 k S41 (cu + 1) (su + 8) a0 v1 x47
      else
        some (v3, S41)
set_option maxRecDepth 100000 in
set_option maxHeartbeats 4000000 in
theorem w_X8_find_L48 {p : Program} {l : Launch} {e : Env} {s : State} {m : MethodId} {args : Array Value} {below : List Frame} {meth : Method} {c : Code} {D : gD} {S9 : gS} {res : Int32}  (hl : l.stackTraces = false) (X : gX D p l s m args meth c cX8_find 4 RX8) (hr : meth.sig.returnType = (some .int)) : ∀ (k : Nat) (S0 : gS) (cu su : Nat) (a0 : Nat) (v1 : Int32) (v3 : Int32), f_X8_find_L48 k S0 cu su a0 v1 v3 = some (res, S9) → gJ D p l e { frames := 4, cells := 200, slots := 1600, locals := 102 } s m args below meth c (MQ below (gQ D (some (.int res)) S9) args s (200) (1600) (gF D)) 4 (cu) (su) S0 48 [(0, va_rf (some a0)), (1, .int v1), (3, .int v3)] [] := by
  intro k
  induction k with
  | zero => intro S0 cu su a0 v1 v3 h0; cases h0
  | succ k ih =>
    intro S0 cu su a0 v1 v3 h0
    have h0 := h0
    unfold f_X8_find_L48 at h0
    obtain ⟨gu, hu⟩ := g_gd h0; clear h0
    refine g_iload_n (j := 2) X dX8_find_48 rfl rfl ?_
    refine g_aload_n (j := 0) X dX8_find_49 rfl rfl ?_
    obtain ⟨x26, ex26, h27⟩ := g_bd hu; clear hu
    refine g_fR (ci := 8) (k := 10) X rfl il8 (by decide) tw713 (by decide) (fun _ _ _ => rfl) ex26 dX8_find_50 ?_
    clear ex26
    refine g_iload_n (j := 1) X dX8_find_53 rfl rfl ?_
    obtain ⟨x28, ex28, h29⟩ := g_bd h27; clear h27
    refine g_iald X ex28 dX8_find_54 ?_
    clear ex28
    refine g_icmp_ge (tgt := 82) X dX8_find_55 (by decide) (fun c30 => ?_) (fun c30 => ?_)
    · have h31 := g_ip h29 c30; clear h29
      refine g_iconst X dX8_find_82 (v := (-1)) (by decide) ?_
      obtain ⟨rfl, rfl⟩ := g_end h31
      exact g_iret X hr gu.1 gu.2 dX8_find_83
    · have h32 := g_in h29 c30; clear h29
      refine g_aload_n (j := 0) X dX8_find_58 rfl rfl ?_
      refine g_iload_n (j := 1) X dX8_find_59 rfl rfl ?_
      refine g_iload_n (j := 2) X dX8_find_60 rfl rfl ?_
      refine g_iconst X dX8_find_61 (v := 1) (by decide) ?_
      obtain ⟨a33, ea33, ka33, h34⟩ := g_dc h32; clear h32
      obtain ⟨g35, h36⟩ := g_gd h34; clear h34
      obtain ⟨S37, eS37, h38⟩ := g_bd h36; clear h36
      refine g_cV (n := 3) (As := [.int v1, .int v3, .int 1]) X (c_X8_leafOf hl D eS37) tw827 tw828 tw21 tw51 tw829 (by decide +kernel) rfl rfl ⟨Nat.le_of_ble_eq_true rfl, Nat.le_of_ble_eq_true rfl⟩ (ci := 8) rfl (by decide) ea33 ka33 rfl rfl (Nat.le_of_ble_eq_true rfl) dX8_find_62 ⟨g35.1, g35.2⟩ ?_
      clear eS37 ea33 ka33
      refine g_aload_n (j := 0) X dX8_find_65 rfl rfl ?_
      refine g_iconst X dX8_find_66 (v := 0) (by decide) ?_
      refine g_iconst X dX8_find_67 (v := 1) (by decide) ?_
      obtain ⟨a39, ea39, ka39, h40⟩ := g_dc h38; clear h38
      obtain ⟨x43, S41, eS41, h42⟩ := g_bi h40; clear h40
      refine g_cV (n := 2) (As := [.int 0, .int 1]) X (c_X8_isSame hl D eS41) tw882 tw883 tw30 tw51 tw884 (by decide +kernel) rfl rfl ⟨Nat.le_of_ble_eq_true rfl, Nat.le_of_ble_eq_true rfl⟩ (ci := 8) rfl (by decide) ea39 ka39 rfl rfl (Nat.le_of_ble_eq_true rfl) dX8_find_68 ⟨g35.1, g35.2⟩ ?_
      clear eS41 ea39 ka39
      refine g_if_eq (tgt := 76) X dX8_find_71 (by decide) (fun c44 => ?_) (fun c44 => ?_)
      · have h45 := g_ip h42 c44; clear h42
        obtain ⟨x47, ex47, h48⟩ := g_let h45; clear h45
        refine g_iinc (j := 2) (v := x47) (lv' := [(3, .int x47), (0, va_rf (some a0)), (1, .int v1)]) X dX8_find_76 rfl (by rw [ex47]; rfl) (by decide) rfl ?_
        clear ex47
        refine g_goto (tgt := 48) X dX8_find_79 (by decide) ?_
        refine g_sub [1, 2, 0] rfl ?_
        exact ih S41 (cu + 1) (su + 8) a0 v1 x47 h48
      · have h46 := g_in h42 c44; clear h42
        refine g_iload_n (j := 2) X dX8_find_74 rfl rfl ?_
        obtain ⟨rfl, rfl⟩ := g_end h46
        exact g_iret X hr g35.1 g35.2 dX8_find_75
def f_X8_find_B28 (S0 : gS) (cu su : Nat) (a0 : Nat) (v1 : Int32) (t0 : Int32) (t1 : Option Nat) : Option (Int32 × gS) :=
  gGd (cu ≤ 200 ∧ su ≤ 1600) <|
  (fpI S0 8 0 t1 t0).bind fun S15 =>
  (fgI S15 8 0 (some a0)).bind fun x17 =>
  if x17 ≤ 0 then
    gDc S15 8 (some a0) fun a22 =>
    (f_X8_fromTape S15 a22 0 0).bind fun S24 =>
    f_X8_find_L48 gFuel S24 cu su a0 v1 0
  else
    some (0, S15)
set_option maxRecDepth 100000 in
set_option maxHeartbeats 4000000 in
theorem w_X8_find_B28 {p : Program} {l : Launch} {e : Env} {s : State} {m : MethodId} {args : Array Value} {below : List Frame} {meth : Method} {c : Code} {D : gD} {S9 : gS} {res : Int32}  (hl : l.stackTraces = false) (X : gX D p l s m args meth c cX8_find 4 RX8) (hr : meth.sig.returnType = (some .int)) (S0 : gS) (cu su : Nat) (a0 : Nat) (v1 : Int32) (t0 : Int32) (t1 : Option Nat) (h0 : f_X8_find_B28 S0 cu su a0 v1 t0 t1 = some (res, S9)) : gJ D p l e { frames := 4, cells := 200, slots := 1600, locals := 102 } s m args below meth c (MQ below (gQ D (some (.int res)) S9) args s (200) (1600) (gF D)) 4 (cu) (su) S0 28 [(0, va_rf (some a0)), (1, .int v1)] [.int t0, va_rf t1] := by
  unfold f_X8_find_B28 at h0
  obtain ⟨gu, hu⟩ := g_gd h0; clear h0
  obtain ⟨S15, eS15, h16⟩ := g_bd hu; clear hu
  refine g_pI (ci := 8) (k := 0) X rfl il8 tyX8 tyX8_ok nmX8 (by decide) tw703 rfl (by decide) (fun _ _ _ => rfl) rfl eS15 dX8_find_28 ?_
  clear eS15
  refine g_aload_n (j := 0) X dX8_find_31 rfl rfl ?_
  obtain ⟨x17, ex17, h18⟩ := g_bd h16; clear h16
  refine g_fI (ci := 8) (k := 0) X rfl il8 (by decide) tw703 (by decide) (fun _ _ _ => rfl) ex17 dX8_find_32 ?_
  clear ex17
  refine g_if_le (tgt := 40) X dX8_find_35 (by decide) (fun c19 => ?_) (fun c19 => ?_)
  · have h20 := g_ip h18 c19; clear h18
    refine g_aload_n (j := 0) X dX8_find_40 rfl rfl ?_
    refine g_iconst X dX8_find_41 (v := 0) (by decide) ?_
    refine g_iconst X dX8_find_42 (v := 0) (by decide) ?_
    obtain ⟨a22, ea22, ka22, h23⟩ := g_dc h20; clear h20
    obtain ⟨S24, eS24, h25⟩ := g_bd h23; clear h23
    refine g_cV (n := 2) (As := [.int 0, .int 0]) X (c_X8_fromTape hl D eS24) tw879 tw880 tw29 tw51 tw881 (by decide +kernel) rfl rfl ⟨Nat.le_of_ble_eq_true rfl, Nat.le_of_ble_eq_true rfl⟩ (ci := 8) rfl (by decide) ea22 ka22 rfl rfl (Nat.le_of_ble_eq_true rfl) dX8_find_43 ⟨gu.1, gu.2⟩ ?_
    clear eS24 ea22 ka22
    refine g_iconst X dX8_find_46 (v := 0) (by decide) ?_
    refine g_istore_n (i := 3) (lv' := [(3, .int 0), (0, va_rf (some a0)), (1, .int v1)]) X dX8_find_47 rfl (by decide) rfl ?_
    refine g_sub [1, 2, 0] rfl ?_
    exact w_X8_find_L48 hl X hr gFuel S24 cu su a0 v1 0 h25
  · have h21 := g_in h18 c19; clear h18
    refine g_iconst X dX8_find_38 (v := 0) (by decide) ?_
    obtain ⟨rfl, rfl⟩ := g_end h21
    exact g_iret X hr gu.1 gu.2 dX8_find_39
def f_X8_find (S0 : gS) (a0 : Nat) (v1 : Int32) : Option (Int32 × gS) :=
  gDc S0 8 (some a0) fun a1 =>
  gBi (f_X8_use S0 a1) fun x5 S3 =>
  gBi (f_X8_isLog S3 v1) fun x8 S6 =>
  if x8 = 0 then
    f_X8_find_B28 S6 0 0 a0 v1 1 (some a0)
  else
    if x5 = 32 then
      f_X8_find_B28 S6 0 0 a0 v1 0 (some a0)
    else
      f_X8_find_B28 S6 0 0 a0 v1 2 (some a0)
set_option maxRecDepth 100000 in
set_option maxHeartbeats 4000000 in
theorem c_X8_find {l : Launch} (hl : l.stackTraces = false) (D : gD)  {S0 S9 : gS} {a0 : Nat} {v1 : Int32} {res : Int32} (h0 : f_X8_find S0 a0 v1 = some (res, S9)) : Met l yX8_find (gws yX8_find cX8_find 4 (some .int)) { frames := 4, cells := 200, slots := 1600, locals := 102 } (gPc D S0 [.ref a0, .int v1]) (gQ D (some (.int res)) S9) (200) (1600) (gF D) := by
  refine g_met (lv := [(0, va_rf (some a0)), (1, .int v1)]) hl (by decide) (Nat.le_of_ble_eq_true rfl) rfl (fun p e s m args below meth c X hr hn => ?_)
  have X : gX D p l s m args meth c cX8_find 4 RX8 := X
  unfold f_X8_find at h0
  refine g_aload_n (j := 0) X dX8_find_0 rfl rfl ?_
  obtain ⟨a1, ea1, ka1, h2⟩ := g_dc h0; clear h0
  obtain ⟨x5, S3, eS3, h4⟩ := g_bi h2; clear h2
  refine g_cV (n := 0) (As := []) X (c_X8_use hl D eS3) tw784 tw785 tw15 tw51 tw786 (by decide +kernel) rfl rfl ⟨Nat.le_of_ble_eq_true rfl, Nat.le_of_ble_eq_true rfl⟩ (ci := 8) rfl (by decide) ea1 ka1 rfl rfl (Nat.le_of_ble_eq_true rfl) dX8_find_1 ⟨(by decide), (by decide)⟩ ?_
  clear eS3 ea1 ka1
  refine g_istore_n (i := 2) (lv' := [(2, .int x5), (0, va_rf (some a0)), (1, .int v1)]) X dX8_find_4 rfl (by decide) rfl ?_
  refine g_aload_n (j := 1) X dX8_find_5 rfl rfl ?_
  refine g_iload_n (j := 2) X dX8_find_6 rfl rfl ?_
  obtain ⟨x8, S6, eS6, h7⟩ := g_bi h4; clear h4
  refine g_cS (n := 1) (As := [.int v1]) X (c_X8_isLog hl D eS6) tw787 tw788 tw51 tw789 (by decide +kernel) rfl rfl ⟨Nat.le_of_ble_eq_true rfl, Nat.le_of_ble_eq_true rfl⟩ rfl rfl (Nat.le_of_ble_eq_true rfl) dX8_find_7 ⟨(by decide), (by decide)⟩ ?_
  clear eS6
  refine g_if_ne (tgt := 17) X dX8_find_10 (by decide) (fun c9 => ?_) (fun c9 => ?_)
  · have h10 := g_in h7 c9; clear h7
    refine g_iload_n (j := 0) X dX8_find_17 rfl rfl ?_
    refine g_bipush X dX8_find_18 (v := 32) (by decide) ?_
    refine g_icmp_eq (tgt := 27) X dX8_find_20 (by decide) (fun c12 => ?_) (fun c12 => ?_)
    · have h13 := g_ip h10 c12; clear h10
      refine g_iconst X dX8_find_27 (v := 0) (by decide) ?_
      refine g_sub [1, 2] rfl ?_
      exact w_X8_find_B28 hl X hr S6 0 0 a0 v1 0 (some a0) h13
    · have h14 := g_in h10 c12; clear h10
      refine g_iconst X dX8_find_23 (v := 2) (by decide) ?_
      refine g_goto (tgt := 28) X dX8_find_24 (by decide) ?_
      refine g_sub [1, 2] rfl ?_
      exact w_X8_find_B28 hl X hr S6 0 0 a0 v1 2 (some a0) h14
  · have h11 := g_ip h7 c9; clear h7
    refine g_iconst X dX8_find_13 (v := 1) (by decide) ?_
    refine g_goto (tgt := 28) X dX8_find_14 (by decide) ?_
    refine g_sub [1, 2] rfl ?_
    exact w_X8_find_B28 hl X hr S6 0 0 a0 v1 1 (some a0) h11
def f_X8_root__B31 (S0 : gS) (cu su : Nat) (a0 : Nat) (v1 : Int32) (v2 : Int32) (t0 : Int32) (t1 : Option Nat) : Option (Int32 × gS) :=
  gGd (cu ≤ 400 ∧ su ≤ 3200) <|
  (fpI S0 8 0 t1 t0).bind fun S10 =>
  (fgI S10 8 0 (some a0)).bind fun x12 =>
  if x12 ≤ 0 then
    gGd (cu + (gRb v2) ≤ 400 ∧ su + (8 * gRb v2) ≤ 3200) <|
    (f_X8_root 10 S10 (some a0) v1 0 v2 0).bind fun S19 =>
    (fpI S19 8 4 (some a0) 0).bind fun S21 =>
    gDc S21 8 (some a0) fun a23 =>
    (f_X8_outSlot S21 a23 0).bind fun S25 =>
    some (1, S25)
  else
    some (0, S10)
set_option maxRecDepth 100000 in
set_option maxHeartbeats 4000000 in
theorem w_X8_root__B31 {p : Program} {l : Launch} {e : Env} {s : State} {m : MethodId} {args : Array Value} {below : List Frame} {meth : Method} {c : Code} {D : gD} {S9 : gS} {res : Int32}  (hl : l.stackTraces = false) (X : gX D p l s m args meth c cX8_root_ 3 RX8) (hr : meth.sig.returnType = (some .boolean)) (S0 : gS) (cu su : Nat) (a0 : Nat) (v1 : Int32) (v2 : Int32) (t0 : Int32) (t1 : Option Nat) (h0 : f_X8_root__B31 S0 cu su a0 v1 v2 t0 t1 = some (res, S9)) : gJ D p l e { frames := 19, cells := 400, slots := 3200, locals := 475 } s m args below meth c (MQ below (gQ D (some (.int res)) S9) args s (400) (3200) (gF D)) 3 (cu) (su) S0 31 [(0, va_rf (some a0)), (1, .int v1), (2, .int v2)] [.int t0, va_rf t1] := by
  unfold f_X8_root__B31 at h0
  obtain ⟨gu, hu⟩ := g_gd h0; clear h0
  obtain ⟨S10, eS10, h11⟩ := g_bd hu; clear hu
  refine g_pI (ci := 8) (k := 0) X rfl il8 tyX8 tyX8_ok nmX8 (by decide) tw703 rfl (by decide) (fun _ _ _ => rfl) rfl eS10 dX8_root__31 ?_
  clear eS10
  refine g_aload_n (j := 0) X dX8_root__34 rfl rfl ?_
  obtain ⟨x12, ex12, h13⟩ := g_bd h11; clear h11
  refine g_fI (ci := 8) (k := 0) X rfl il8 (by decide) tw703 (by decide) (fun _ _ _ => rfl) ex12 dX8_root__35 ?_
  clear ex12
  refine g_if_le (tgt := 43) X dX8_root__38 (by decide) (fun c14 => ?_) (fun c14 => ?_)
  · have h15 := g_ip h13 c14; clear h13
    refine g_aload_n (j := 0) X dX8_root__43 rfl rfl ?_
    refine g_iload_n (j := 1) X dX8_root__44 rfl rfl ?_
    refine g_iconst X dX8_root__45 (v := 0) (by decide) ?_
    refine g_iload_n (j := 2) X dX8_root__46 rfl rfl ?_
    refine g_iconst X dX8_root__47 (v := 0) (by decide) ?_
    obtain ⟨g17, h18⟩ := g_gd h15; clear h15
    obtain ⟨S19, eS19, h20⟩ := g_bd h18; clear h18
    refine g_cS (n := 5) (As := [va_rf (some a0), .int v1, .int 0, .int v2, .int 0]) X (c_X8_root hl D 10 eS19) tw801 tw802 tw51 tw803 (by decide +kernel) rfl rfl ⟨Nat.le_of_ble_eq_true rfl, Nat.le_of_ble_eq_true rfl⟩ rfl rfl (Nat.le_of_ble_eq_true rfl) dX8_root__48 ⟨g17.1, g17.2⟩ ?_
    clear eS19
    refine g_aload_n (j := 0) X dX8_root__51 rfl rfl ?_
    refine g_iconst X dX8_root__52 (v := 0) (by decide) ?_
    obtain ⟨S21, eS21, h22⟩ := g_bd h20; clear h20
    refine g_pI (ci := 8) (k := 4) X rfl il8 tyX8 tyX8_ok nmX8 (by decide) tw707 rfl (by decide) (fun _ _ _ => rfl) rfl eS21 dX8_root__53 ?_
    clear eS21
    refine g_aload_n (j := 0) X dX8_root__56 rfl rfl ?_
    refine g_iconst X dX8_root__57 (v := 0) (by decide) ?_
    obtain ⟨a23, ea23, ka23, h24⟩ := g_dc h22; clear h22
    obtain ⟨S25, eS25, h26⟩ := g_bd h24; clear h24
    refine g_cV (n := 1) (As := [.int 0]) X (c_X8_outSlot hl D eS25) tw872 tw873 tw28 tw51 tw874 (by decide +kernel) rfl rfl ⟨Nat.le_of_ble_eq_true rfl, Nat.le_of_ble_eq_true rfl⟩ (ci := 8) rfl (by decide) ea23 ka23 rfl rfl (Nat.le_of_ble_eq_true rfl) dX8_root__58 ⟨g17.1, g17.2⟩ ?_
    clear eS25 ea23 ka23
    refine g_iconst X dX8_root__61 (v := 1) (by decide) ?_
    obtain ⟨rfl, rfl⟩ := g_end h26
    exact g_zret X hr (Or.inr rfl) g17.1 g17.2 dX8_root__62
  · have h16 := g_in h13 c14; clear h13
    refine g_iconst X dX8_root__41 (v := 0) (by decide) ?_
    obtain ⟨rfl, rfl⟩ := g_end h16
    exact g_zret X hr (Or.inl rfl) gu.1 gu.2 dX8_root__42
def f_X8_root__B26 (S0 : gS) (cu su : Nat) (a0 : Nat) (v1 : Int32) (v2 : Int32) (t0 : Option Nat) : Option (Int32 × gS) :=
  gGd (cu ≤ 400 ∧ su ≤ 3200) <|
  f_X8_root__B31 S0 cu su a0 v1 v2 2 t0
set_option maxRecDepth 100000 in
set_option maxHeartbeats 4000000 in
theorem w_X8_root__B26 {p : Program} {l : Launch} {e : Env} {s : State} {m : MethodId} {args : Array Value} {below : List Frame} {meth : Method} {c : Code} {D : gD} {S9 : gS} {res : Int32}  (hl : l.stackTraces = false) (X : gX D p l s m args meth c cX8_root_ 3 RX8) (hr : meth.sig.returnType = (some .boolean)) (S0 : gS) (cu su : Nat) (a0 : Nat) (v1 : Int32) (v2 : Int32) (t0 : Option Nat) (h0 : f_X8_root__B26 S0 cu su a0 v1 v2 t0 = some (res, S9)) : gJ D p l e { frames := 19, cells := 400, slots := 3200, locals := 475 } s m args below meth c (MQ below (gQ D (some (.int res)) S9) args s (400) (3200) (gF D)) 3 (cu) (su) S0 26 [(0, va_rf (some a0)), (1, .int v1), (2, .int v2)] [va_rf t0] := by
  unfold f_X8_root__B26 at h0
  obtain ⟨gu, hu⟩ := g_gd h0; clear h0
  refine g_iconst X dX8_root__26 (v := 2) (by decide) ?_
  refine g_goto (tgt := 31) X dX8_root__27 (by decide) ?_
  refine g_sub [0, 1, 2] rfl ?_
  exact w_X8_root__B31 hl X hr S0 cu su a0 v1 v2 2 t0 hu
def f_X8_root_ (S0 : gS) (a0 : Nat) (v1 : Int32) (v2 : Int32) : Option (Int32 × gS) :=
  gBi (f_X8_isLog S0 v1) fun x3 S1 =>
  if x3 = 0 then
    f_X8_root__B31 S1 0 0 a0 v1 v2 1 (some a0)
  else
    if v2 < 0 then
      f_X8_root__B26 S1 0 0 a0 v1 v2 (some a0)
    else
      (fgR S1 8 10 (some a0)).bind fun x27 =>
      (fI S1 10 x27 v1).bind fun x29 =>
      if v2 ≤ x29 then
        f_X8_root__B31 S1 0 0 a0 v1 v2 0 (some a0)
      else
        f_X8_root__B26 S1 0 0 a0 v1 v2 (some a0)
set_option maxRecDepth 100000 in
set_option maxHeartbeats 4000000 in
theorem c_X8_root_ {l : Launch} (hl : l.stackTraces = false) (D : gD)  {S0 S9 : gS} {a0 : Nat} {v1 : Int32} {v2 : Int32} {res : Int32} (h0 : f_X8_root_ S0 a0 v1 v2 = some (res, S9)) : Met l yX8_root_ (gws yX8_root_ cX8_root_ 3 (some .boolean)) { frames := 19, cells := 400, slots := 3200, locals := 475 } (gPc D S0 [.ref a0, .int v1, .int v2]) (gQ D (some (.int res)) S9) (400) (3200) (gF D) := by
  refine g_met (lv := [(0, va_rf (some a0)), (1, .int v1), (2, .int v2)]) hl (by decide) (Nat.le_of_ble_eq_true rfl) rfl (fun p e s m args below meth c X hr hn => ?_)
  have X : gX D p l s m args meth c cX8_root_ 3 RX8 := X
  unfold f_X8_root_ at h0
  refine g_aload_n (j := 0) X dX8_root__0 rfl rfl ?_
  refine g_iload_n (j := 1) X dX8_root__1 rfl rfl ?_
  obtain ⟨x3, S1, eS1, h2⟩ := g_bi h0; clear h0
  refine g_cS (n := 1) (As := [.int v1]) X (c_X8_isLog hl D eS1) tw787 tw788 tw51 tw789 (by decide +kernel) rfl rfl ⟨Nat.le_of_ble_eq_true rfl, Nat.le_of_ble_eq_true rfl⟩ rfl rfl (Nat.le_of_ble_eq_true rfl) dX8_root__2 ⟨(by decide), (by decide)⟩ ?_
  clear eS1
  refine g_if_ne (tgt := 12) X dX8_root__5 (by decide) (fun c4 => ?_) (fun c4 => ?_)
  · have h5 := g_in h2 c4; clear h2
    refine g_iload_n (j := 2) X dX8_root__12 rfl rfl ?_
    refine g_if_lt (tgt := 26) X dX8_root__13 (by decide) (fun c7 => ?_) (fun c7 => ?_)
    · have h8 := g_ip h5 c7; clear h5
      refine g_sub [0, 1, 2] rfl ?_
      exact w_X8_root__B26 hl X hr S1 0 0 a0 v1 v2 (some a0) h8
    · have h9 := g_in h5 c7; clear h5
      refine g_iload_n (j := 2) X dX8_root__16 rfl rfl ?_
      refine g_aload_n (j := 0) X dX8_root__17 rfl rfl ?_
      obtain ⟨x27, ex27, h28⟩ := g_bd h9; clear h9
      refine g_fR (ci := 8) (k := 10) X rfl il8 (by decide) tw713 (by decide) (fun _ _ _ => rfl) ex27 dX8_root__18 ?_
      clear ex27
      refine g_iload_n (j := 1) X dX8_root__21 rfl rfl ?_
      obtain ⟨x29, ex29, h30⟩ := g_bd h28; clear h28
      refine g_iald X ex29 dX8_root__22 ?_
      clear ex29
      refine g_icmp_le (tgt := 30) X dX8_root__23 (by decide) (fun c31 => ?_) (fun c31 => ?_)
      · have h32 := g_ip h30 c31; clear h30
        refine g_iconst X dX8_root__30 (v := 0) (by decide) ?_
        refine g_sub [0, 1, 2] rfl ?_
        exact w_X8_root__B31 hl X hr S1 0 0 a0 v1 v2 0 (some a0) h32
      · have h33 := g_in h30 c31; clear h30
        refine g_sub [0, 1, 2] rfl ?_
        exact w_X8_root__B26 hl X hr S1 0 0 a0 v1 v2 (some a0) h33
  · have h6 := g_ip h2 c4; clear h2
    refine g_iconst X dX8_root__8 (v := 1) (by decide) ?_
    refine g_goto (tgt := 31) X dX8_root__9 (by decide) ?_
    refine g_sub [0, 1, 2] rfl ?_
    exact w_X8_root__B31 hl X hr S1 0 0 a0 v1 v2 1 (some a0) h6
def f_J13_numberOfLeadingZeros_95d88 (S0 : gS) (v0 : Int64) : Option (Int32 × gS) :=
  gLet ((g_lushr' v0 32).toInt32) fun x1 =>
  if x1 = 0 then
    gBi (f_J6_numberOfLeadingZeros_0f7a4 S0 v0.toInt32) fun x11 S9 =>
    some (32 + x11, S9)
  else
    gBi (f_J6_numberOfLeadingZeros_0f7a4 S0 x1) fun x8 S6 =>
    some (x8, S6)
set_option maxRecDepth 100000 in
set_option maxHeartbeats 4000000 in
theorem c_J13_numberOfLeadingZeros_95d88 {l : Launch} (hl : l.stackTraces = false) (D : gD)  {S0 S9 : gS} {v0 : Int64} {res : Int32} (h0 : f_J13_numberOfLeadingZeros_95d88 S0 v0 = some (res, S9)) : Met l yJ13_numberOfLeadingZeros_95d88 (gws yJ13_numberOfLeadingZeros_95d88 cJ13_numberOfLeadingZeros_95d88 3 (some .int)) { frames := 1, cells := 0, slots := 0, locals := 21 } (gPc D S0 [.long v0]) (gQ D (some (.int res)) S9) (0) (0) (gF D) := by
  refine g_met (lv := [(0, .long v0)]) hl (by decide) (Nat.le_of_ble_eq_true rfl) rfl (fun p e s m args below meth c X hr hn => ?_)
  have X : gX D p l s m args meth c cJ13_numberOfLeadingZeros_95d88 3 RJ13 := X
  unfold f_J13_numberOfLeadingZeros_95d88 at h0
  refine g_lload_n (j := 0) X dJ13_numberOfLeadingZeros_95d88_0 rfl rfl ?_
  refine g_bipush X dJ13_numberOfLeadingZeros_95d88_1 (v := 32) (by decide) ?_
  refine g_lushr X dJ13_numberOfLeadingZeros_95d88_3 ?_
  refine g_l2i X dJ13_numberOfLeadingZeros_95d88_4 ?_
  obtain ⟨x1, ex1, h2⟩ := g_let h0; clear h0; rw [← ex1]; clear ex1
  refine g_istore_n (i := 2) (lv' := [(2, .int x1), (0, .long v0)]) X dJ13_numberOfLeadingZeros_95d88_5 rfl (by decide) rfl ?_
  refine g_iload_n (j := 0) X dJ13_numberOfLeadingZeros_95d88_6 rfl rfl ?_
  refine g_if_ne (tgt := 21) X dJ13_numberOfLeadingZeros_95d88_7 (by decide) (fun c3 => ?_) (fun c3 => ?_)
  · have h4 := g_in h2 c3; clear h2
    refine g_iload_n (j := 0) X dJ13_numberOfLeadingZeros_95d88_21 rfl rfl ?_
    obtain ⟨x8, S6, eS6, h7⟩ := g_bi h4; clear h4
    refine g_cS (n := 1) (As := [.int x1]) X (c_J6_numberOfLeadingZeros_0f7a4 hl D eS6) tw906 tw835 tw61 tw836 (by decide +kernel) rfl rfl ⟨Nat.le_of_ble_eq_true rfl, Nat.le_of_ble_eq_true rfl⟩ rfl rfl (Nat.le_of_ble_eq_true rfl) dJ13_numberOfLeadingZeros_95d88_22 ⟨(by decide), (by decide)⟩ ?_
    clear eS6
    obtain ⟨rfl, rfl⟩ := g_end h7
    exact g_iret X hr (by decide) (by decide) dJ13_numberOfLeadingZeros_95d88_25
  · have h5 := g_ip h2 c3; clear h2
    refine g_bipush X dJ13_numberOfLeadingZeros_95d88_10 (v := 32) (by decide) ?_
    refine g_lload_n (j := 1) X dJ13_numberOfLeadingZeros_95d88_12 rfl rfl ?_
    refine g_l2i X dJ13_numberOfLeadingZeros_95d88_13 ?_
    obtain ⟨x11, S9, eS9, h10⟩ := g_bi h5; clear h5
    refine g_cS (n := 1) (As := [.int v0.toInt32]) X (c_J6_numberOfLeadingZeros_0f7a4 hl D eS9) tw906 tw835 tw61 tw836 (by decide +kernel) rfl rfl ⟨Nat.le_of_ble_eq_true rfl, Nat.le_of_ble_eq_true rfl⟩ rfl rfl (Nat.le_of_ble_eq_true rfl) dJ13_numberOfLeadingZeros_95d88_14 ⟨(by decide), (by decide)⟩ ?_
    clear eS9
    refine g_iadd X dJ13_numberOfLeadingZeros_95d88_17 ?_
    refine g_goto (tgt := 25) X dJ13_numberOfLeadingZeros_95d88_18 (by decide) ?_
    obtain ⟨rfl, rfl⟩ := g_end h10
    exact g_iret X hr (by decide) (by decide) dJ13_numberOfLeadingZeros_95d88_25
def f_J13_highestOneBit_067f4 (S0 : gS) (v0 : Int64) : Option (Int64 × gS) :=
  gBi (f_J13_numberOfLeadingZeros_95d88 S0 v0) fun x3 S1 =>
  some (v0 &&& (g_lushr' (-9223372036854775808) x3), S1)
set_option maxRecDepth 100000 in
set_option maxHeartbeats 4000000 in
theorem c_J13_highestOneBit_067f4 {l : Launch} (hl : l.stackTraces = false) (D : gD)  {S0 S9 : gS} {v0 : Int64} {res : Int64} (h0 : f_J13_highestOneBit_067f4 S0 v0 = some (res, S9)) : Met l yJ13_highestOneBit_067f4 (gws yJ13_highestOneBit_067f4 cJ13_highestOneBit_067f4 2 (some .long)) { frames := 2, cells := 0, slots := 0, locals := 43 } (gPc D S0 [.long v0]) (gQ D (some (.long res)) S9) (0) (0) (gF D) := by
  refine g_met (lv := [(0, .long v0)]) hl (by decide) (Nat.le_of_ble_eq_true rfl) rfl (fun p e s m args below meth c X hr hn => ?_)
  have X : gX D p l s m args meth c cJ13_highestOneBit_067f4 2 RJ13 := X
  unfold f_J13_highestOneBit_067f4 at h0
  refine g_lload_n (j := 0) X dJ13_highestOneBit_067f4_0 rfl rfl ?_
  refine g_ldc2 X tw902 dJ13_highestOneBit_067f4_1 ?_
  refine g_lload_n (j := 0) X dJ13_highestOneBit_067f4_4 rfl rfl ?_
  obtain ⟨x3, S1, eS1, h2⟩ := g_bi h0; clear h0
  refine g_cS (n := 1) (As := [.long v0]) X (c_J13_numberOfLeadingZeros_95d88 hl D eS1) tw903 tw904 tw63 tw905 (by decide +kernel) rfl rfl ⟨Nat.le_of_ble_eq_true rfl, Nat.le_of_ble_eq_true rfl⟩ rfl rfl (Nat.le_of_ble_eq_true rfl) dJ13_highestOneBit_067f4_5 ⟨(by decide), (by decide)⟩ ?_
  clear eS1
  refine g_lushr X dJ13_highestOneBit_067f4_8 ?_
  refine g_land X dJ13_highestOneBit_067f4_9 ?_
  obtain ⟨rfl, rfl⟩ := g_end h2
  exact g_lret X hr (by decide) (by decide) dJ13_highestOneBit_067f4_10
def f_X8_front (S0 : gS) (v0 : Int64) : Option (Int64 × gS) :=
  gBi (f_J13_highestOneBit_067f4 S0 (v0 - 1)) fun x3 S1 =>
  some (x3, S1)
set_option maxRecDepth 100000 in
set_option maxHeartbeats 4000000 in
theorem c_X8_front {l : Launch} (hl : l.stackTraces = false) (D : gD)  {S0 S9 : gS} {v0 : Int64} {res : Int64} (h0 : f_X8_front S0 v0 = some (res, S9)) : Met l yX8_front (gws yX8_front cX8_front 2 (some .long)) { frames := 3, cells := 0, slots := 0, locals := 64 } (gPc D S0 [.long v0]) (gQ D (some (.long res)) S9) (0) (0) (gF D) := by
  refine g_met (lv := [(0, .long v0)]) hl (by decide) (Nat.le_of_ble_eq_true rfl) rfl (fun p e s m args below meth c X hr hn => ?_)
  have X : gX D p l s m args meth c cX8_front 2 RX8 := X
  unfold f_X8_front at h0
  refine g_lload_n (j := 0) X dX8_front_0 rfl rfl ?_
  refine g_lconst X dX8_front_1 (v := 1) (by decide) ?_
  refine g_lsub X dX8_front_2 ?_
  obtain ⟨x3, S1, eS1, h2⟩ := g_bi h0; clear h0
  refine g_cS (n := 1) (As := [.long (v0 - 1)]) X (c_J13_highestOneBit_067f4 hl D eS1) tw899 tw900 tw63 tw901 (by decide +kernel) rfl rfl ⟨Nat.le_of_ble_eq_true rfl, Nat.le_of_ble_eq_true rfl⟩ rfl rfl (Nat.le_of_ble_eq_true rfl) dX8_front_3 ⟨(by decide), (by decide)⟩ ?_
  clear eS1
  obtain ⟨rfl, rfl⟩ := g_end h2
  exact g_lret X hr (by decide) (by decide) dX8_front_6
