def f_X8_sealOf_B52 (S0 : gS) (a0 : Nat) (v1 : Int32) (v2 : Int64) (v4 : Int64) : Option gS :=
  gDc S0 8 (some a0) fun a8 =>
  (f_X8_pad S0 a8 v1 54).bind fun S10 =>
  gDc S10 8 (some a0) fun a12 =>
  (f_X8_say S10 a12 0).bind fun S14 =>
  gDc S14 8 (some a0) fun a16 =>
  (f_X8_say S14 a16 1).bind fun S18 =>
  gDc S18 8 (some a0) fun a20 =>
  (f_X8_sayLong S18 a20 v2).bind fun S22 =>
  gDc S22 8 (some a0) fun a24 =>
  (f_X8_sayLong S22 a24 v4).bind fun S26 =>
  gDc S26 8 (some a0) fun a28 =>
  (f_X8_saySlot S26 a28 0).bind fun S30 =>
  gDc S30 8 (some a0) fun a32 =>
  (f_X8_digest S30 a32 3).bind fun S34 =>
  gDc S34 8 (some a0) fun a36 =>
  (f_X8_pad S34 a36 v1 92).bind fun S38 =>
  gDc S38 8 (some a0) fun a40 =>
  (f_X8_saySlot S38 a40 3).bind fun S42 =>
  gDc S42 8 (some a0) fun a44 =>
  (f_X8_digest S42 a44 1).bind fun S46 =>
  some S46
set_option maxRecDepth 100000 in
set_option maxHeartbeats 4000000 in
theorem w_X8_sealOf_B52 {p : Program} {l : Launch} {e : Env} {s : State} {m : MethodId} {args : Array Value} {below : List Frame} {meth : Method} {c : Code} {D : gD} {S9 : gS}  (hl : l.stackTraces = false) (X : gX D p l s m args meth c cX8_sealOf 8 RX8) (hr : meth.sig.returnType = none) (S0 : gS) (a0 : Nat) (v1 : Int32) (v2 : Int64) (v4 : Int64) (h0 : f_X8_sealOf_B52 S0 a0 v1 v2 v4 = some S9) : gJ D p l e { frames := 3, cells := 3, slots := 24, locals := 77 } s m args below meth c (MQ below (gQ D none S9) args s (3) (24) (gF D)) 8 (1) (8) S0 52 [(0, va_rf (some a0)), (1, .int v1), (2, .long v2), (4, .long v4)] [] := by
  unfold f_X8_sealOf_B52 at h0
  refine g_aload_n (j := 0) X dX8_sealOf_52 rfl rfl ?_
  refine g_iload_n (j := 1) X dX8_sealOf_53 rfl rfl ?_
  refine g_bipush X dX8_sealOf_54 (v := 54) (by decide) ?_
  obtain ⟨a8, ea8, ka8, h9⟩ := g_dc h0; clear h0
  obtain ⟨S10, eS10, h11⟩ := g_bd h9; clear h9
  refine g_cV (n := 2) (As := [.int v1, .int 54]) X (c_X8_pad hl D eS10) tw856 tw857 tw26 tw51 tw858 (by decide +kernel) rfl rfl ⟨by decide, by decide⟩ (ci := 8) rfl (by decide) ea8 ka8 rfl rfl (Nat.le_of_ble_eq_true rfl) dX8_sealOf_56 ⟨(by decide), (by decide)⟩ ?_
  clear eS10 ea8 ka8
  refine g_aload_n (j := 0) X dX8_sealOf_59 rfl rfl ?_
  refine g_iconst X dX8_sealOf_60 (v := 0) (by decide) ?_
  obtain ⟨a12, ea12, ka12, h13⟩ := g_dc h11; clear h11
  obtain ⟨S14, eS14, h15⟩ := g_bd h13; clear h13
  refine g_cV (n := 1) (As := [.int 0]) X (c_X8_say hl D eS14) tw813 tw814 tw18 tw51 tw815 (by decide +kernel) rfl rfl ⟨by decide, by decide⟩ (ci := 8) rfl (by decide) ea12 ka12 rfl rfl (Nat.le_of_ble_eq_true rfl) dX8_sealOf_61 ⟨(by decide), (by decide)⟩ ?_
  clear eS14 ea12 ka12
  refine g_aload_n (j := 0) X dX8_sealOf_64 rfl rfl ?_
  refine g_iconst X dX8_sealOf_65 (v := 1) (by decide) ?_
  obtain ⟨a16, ea16, ka16, h17⟩ := g_dc h15; clear h15
  obtain ⟨S18, eS18, h19⟩ := g_bd h17; clear h17
  refine g_cV (n := 1) (As := [.int 1]) X (c_X8_say hl D eS18) tw813 tw814 tw18 tw51 tw815 (by decide +kernel) rfl rfl ⟨by decide, by decide⟩ (ci := 8) rfl (by decide) ea16 ka16 rfl rfl (Nat.le_of_ble_eq_true rfl) dX8_sealOf_66 ⟨(by decide), (by decide)⟩ ?_
  clear eS18 ea16 ka16
  refine g_aload_n (j := 0) X dX8_sealOf_69 rfl rfl ?_
  refine g_lload_n (j := 2) X dX8_sealOf_70 rfl rfl ?_
  obtain ⟨a20, ea20, ka20, h21⟩ := g_dc h19; clear h19
  obtain ⟨S22, eS22, h23⟩ := g_bd h21; clear h21
  refine g_cV (n := 1) (As := [.long v2]) X (c_X8_sayLong hl D eS22) tw816 tw817 tw19 tw51 tw818 (by decide +kernel) rfl rfl ⟨by decide, by decide⟩ (ci := 8) rfl (by decide) ea20 ka20 rfl rfl (Nat.le_of_ble_eq_true rfl) dX8_sealOf_71 ⟨(by decide), (by decide)⟩ ?_
  clear eS22 ea20 ka20
  refine g_aload_n (j := 0) X dX8_sealOf_74 rfl rfl ?_
  refine g_lload (j := 3) X dX8_sealOf_75 rfl ?_
  obtain ⟨a24, ea24, ka24, h25⟩ := g_dc h23; clear h23
  obtain ⟨S26, eS26, h27⟩ := g_bd h25; clear h25
  refine g_cV (n := 1) (As := [.long v4]) X (c_X8_sayLong hl D eS26) tw816 tw817 tw19 tw51 tw818 (by decide +kernel) rfl rfl ⟨by decide, by decide⟩ (ci := 8) rfl (by decide) ea24 ka24 rfl rfl (Nat.le_of_ble_eq_true rfl) dX8_sealOf_77 ⟨(by decide), (by decide)⟩ ?_
  clear eS26 ea24 ka24
  refine g_aload_n (j := 0) X dX8_sealOf_80 rfl rfl ?_
  refine g_iconst X dX8_sealOf_81 (v := 0) (by decide) ?_
  obtain ⟨a28, ea28, ka28, h29⟩ := g_dc h27; clear h27
  obtain ⟨S30, eS30, h31⟩ := g_bd h29; clear h29
  refine g_cV (n := 1) (As := [.int 0]) X (c_X8_saySlot hl D eS30) tw847 tw848 tw23 tw51 tw849 (by decide +kernel) rfl rfl ⟨by decide, by decide⟩ (ci := 8) rfl (by decide) ea28 ka28 rfl rfl (Nat.le_of_ble_eq_true rfl) dX8_sealOf_82 ⟨(by decide), (by decide)⟩ ?_
  clear eS30 ea28 ka28
  refine g_aload_n (j := 0) X dX8_sealOf_85 rfl rfl ?_
  refine g_iconst X dX8_sealOf_86 (v := 3) (by decide) ?_
  obtain ⟨a32, ea32, ka32, h33⟩ := g_dc h31; clear h31
  obtain ⟨S34, eS34, h35⟩ := g_bd h33; clear h33
  refine g_cV (n := 1) (As := [.int 3]) X (c_X8_digest hl D eS34) tw810 tw811 tw17 tw51 tw812 (by decide +kernel) rfl rfl ⟨by decide, by decide⟩ (ci := 8) rfl (by decide) ea32 ka32 rfl rfl (Nat.le_of_ble_eq_true rfl) dX8_sealOf_87 ⟨(by decide), (by decide)⟩ ?_
  clear eS34 ea32 ka32
  refine g_aload_n (j := 0) X dX8_sealOf_90 rfl rfl ?_
  refine g_iload_n (j := 1) X dX8_sealOf_91 rfl rfl ?_
  refine g_bipush X dX8_sealOf_92 (v := 92) (by decide) ?_
  obtain ⟨a36, ea36, ka36, h37⟩ := g_dc h35; clear h35
  obtain ⟨S38, eS38, h39⟩ := g_bd h37; clear h37
  refine g_cV (n := 2) (As := [.int v1, .int 92]) X (c_X8_pad hl D eS38) tw856 tw857 tw26 tw51 tw858 (by decide +kernel) rfl rfl ⟨by decide, by decide⟩ (ci := 8) rfl (by decide) ea36 ka36 rfl rfl (Nat.le_of_ble_eq_true rfl) dX8_sealOf_94 ⟨(by decide), (by decide)⟩ ?_
  clear eS38 ea36 ka36
  refine g_aload_n (j := 0) X dX8_sealOf_97 rfl rfl ?_
  refine g_iconst X dX8_sealOf_98 (v := 3) (by decide) ?_
  obtain ⟨a40, ea40, ka40, h41⟩ := g_dc h39; clear h39
  obtain ⟨S42, eS42, h43⟩ := g_bd h41; clear h41
  refine g_cV (n := 1) (As := [.int 3]) X (c_X8_saySlot hl D eS42) tw847 tw848 tw23 tw51 tw849 (by decide +kernel) rfl rfl ⟨by decide, by decide⟩ (ci := 8) rfl (by decide) ea40 ka40 rfl rfl (Nat.le_of_ble_eq_true rfl) dX8_sealOf_99 ⟨(by decide), (by decide)⟩ ?_
  clear eS42 ea40 ka40
  refine g_aload_n (j := 0) X dX8_sealOf_102 rfl rfl ?_
  refine g_iconst X dX8_sealOf_103 (v := 1) (by decide) ?_
  obtain ⟨a44, ea44, ka44, h45⟩ := g_dc h43; clear h43
  obtain ⟨S46, eS46, h47⟩ := g_bd h45; clear h45
  refine g_cV (n := 1) (As := [.int 1]) X (c_X8_digest hl D eS46) tw810 tw811 tw17 tw51 tw812 (by decide +kernel) rfl rfl ⟨by decide, by decide⟩ (ci := 8) rfl (by decide) ea44 ka44 rfl rfl (Nat.le_of_ble_eq_true rfl) dX8_sealOf_104 ⟨(by decide), (by decide)⟩ ?_
  clear eS46 ea44 ka44
  cases h47
  exact g_vret X hr (by decide) (by decide) dX8_sealOf_107
def f_X8_sealOf_L18 : Nat → gS → Nat → Int32 → Int64 → Int64 → Int32 → Int32 → Option gS
  | 0, _, _, _, _, _, _, _ => none
  | k + 1, S0, a0, v1, v2, v4, v6, v7 =>
    if v6 ≤ v7 then
      gDc S0 8 (some a0) fun a51 =>
      (f_X8_digest S0 a51 2).bind fun S53 =>
      f_X8_sealOf_B52 S53 a0 v1 v2 v4
    else
      (fgR S0 8 5 (some a0)).bind fun x55 =>
      (fI S0 10 x55 ((100 * v1) + v7)).bind fun x57 =>
      gDc S0 8 (some a0) fun a59 =>
      (f_X8_say S0 a59 x57).bind fun S61 =>
      gLet (v7 + 1) fun x63 =>
      f_X8_sealOf_L18 k S61 a0 v1 v2 v4 v6 x63
set_option maxRecDepth 100000 in
set_option maxHeartbeats 4000000 in
theorem w_X8_sealOf_L18 {p : Program} {l : Launch} {e : Env} {s : State} {m : MethodId} {args : Array Value} {below : List Frame} {meth : Method} {c : Code} {D : gD} {S9 : gS}  (hl : l.stackTraces = false) (X : gX D p l s m args meth c cX8_sealOf 8 RX8) (hr : meth.sig.returnType = none) : ∀ (k : Nat) (S0 : gS) (a0 : Nat) (v1 : Int32) (v2 : Int64) (v4 : Int64) (v6 : Int32) (v7 : Int32), f_X8_sealOf_L18 k S0 a0 v1 v2 v4 v6 v7 = some S9 → gJ D p l e { frames := 3, cells := 3, slots := 24, locals := 77 } s m args below meth c (MQ below (gQ D none S9) args s (3) (24) (gF D)) 8 (0) (0) S0 18 [(0, va_rf (some a0)), (1, .int v1), (2, .long v2), (4, .long v4), (6, .int v6), (7, .int v7)] [] := by
  intro k
  induction k with
  | zero => intro S0 a0 v1 v2 v4 v6 v7 h0; cases h0
  | succ k ih =>
    intro S0 a0 v1 v2 v4 v6 v7 h0
    have h0 := h0
    unfold f_X8_sealOf_L18 at h0
    refine g_iload (j := 5) X dX8_sealOf_18 rfl ?_
    refine g_iload (j := 4) X dX8_sealOf_20 rfl ?_
    refine g_icmp_ge (tgt := 47) X dX8_sealOf_22 (by decide) (fun c48 => ?_) (fun c48 => ?_)
    · have h49 := g_ip h0 c48; clear h0
      refine g_aload_n (j := 0) X dX8_sealOf_47 rfl rfl ?_
      refine g_iconst X dX8_sealOf_48 (v := 2) (by decide) ?_
      obtain ⟨a51, ea51, ka51, h52⟩ := g_dc h49; clear h49
      obtain ⟨S53, eS53, h54⟩ := g_bd h52; clear h52
      refine g_cV (n := 1) (As := [.int 2]) X (c_X8_digest hl D eS53) tw810 tw811 tw17 tw51 tw812 (by decide +kernel) rfl rfl ⟨by decide, by decide⟩ (ci := 8) rfl (by decide) ea51 ka51 rfl rfl (Nat.le_of_ble_eq_true rfl) dX8_sealOf_49 ⟨(by decide), (by decide)⟩ ?_
      clear eS53 ea51 ka51
      refine g_sub [0, 1, 2, 3] rfl ?_
      exact w_X8_sealOf_B52 hl X hr S53 a0 v1 v2 v4 h54
    · have h50 := g_in h0 c48; clear h0
      refine g_aload_n (j := 0) X dX8_sealOf_25 rfl rfl ?_
      refine g_aload_n (j := 0) X dX8_sealOf_26 rfl rfl ?_
      obtain ⟨x55, ex55, h56⟩ := g_bd h50; clear h50
      refine g_fR (ci := 8) (k := 5) X rfl il8 (by decide) tw714 (by decide) (fun _ _ _ => rfl) ex55 dX8_sealOf_27 ?_
      clear ex55
      refine g_bipush X dX8_sealOf_30 (v := 100) (by decide) ?_
      refine g_iload_n (j := 1) X dX8_sealOf_32 rfl rfl ?_
      refine g_imul X dX8_sealOf_33 ?_
      refine g_iload (j := 5) X dX8_sealOf_34 rfl ?_
      refine g_iadd X dX8_sealOf_36 ?_
      obtain ⟨x57, ex57, h58⟩ := g_bd h56; clear h56
      refine g_iald X ex57 dX8_sealOf_37 ?_
      clear ex57
      obtain ⟨a59, ea59, ka59, h60⟩ := g_dc h58; clear h58
      obtain ⟨S61, eS61, h62⟩ := g_bd h60; clear h60
      refine g_cV (n := 1) (As := [.int x57]) X (c_X8_say hl D eS61) tw813 tw814 tw18 tw51 tw815 (by decide +kernel) rfl rfl ⟨by decide, by decide⟩ (ci := 8) rfl (by decide) ea59 ka59 rfl rfl (Nat.le_of_ble_eq_true rfl) dX8_sealOf_38 ⟨(by decide), (by decide)⟩ ?_
      clear eS61 ea59 ka59
      obtain ⟨x63, ex63, h64⟩ := g_let h62; clear h62
      refine g_iinc (j := 5) (v := x63) (lv' := [(7, .int x63), (0, va_rf (some a0)), (1, .int v1), (2, .long v2), (4, .long v4), (6, .int v6)]) X dX8_sealOf_41 rfl (by rw [ex63]; rfl) (by decide) rfl ?_
      clear ex63
      refine g_goto (tgt := 18) X dX8_sealOf_44 (by decide) ?_
      refine g_sub [1, 2, 3, 4, 5, 0] rfl ?_
      exact ih S61 a0 v1 v2 v4 v6 x63 h64
def f_X8_sealOf (S0 : gS) (a0 : Nat) (v1 : Int32) (v2 : Int64) (v4 : Int64) : Option gS :=
  (fgR S0 8 6 (some a0)).bind fun x1 =>
  (fI S0 10 x1 v1).bind fun x3 =>
  if x3 ≤ 64 then
    f_X8_sealOf_B52 S0 a0 v1 v2 v4
  else
    f_X8_sealOf_L18 gFuel S0 a0 v1 v2 v4 x3 0
set_option maxRecDepth 100000 in
set_option maxHeartbeats 4000000 in
theorem c_X8_sealOf {l : Launch} (hl : l.stackTraces = false) (D : gD)  {S0 S9 : gS} {a0 : Nat} {v1 : Int32} {v2 : Int64} {v4 : Int64} (h0 : f_X8_sealOf S0 a0 v1 v2 v4 = some S9) : Met l yX8_sealOf (gws yX8_sealOf cX8_sealOf 8 none) { frames := 3, cells := 3, slots := 24, locals := 77 } (gPc D S0 [.ref a0, .int v1, .long v2, .long v4]) (gQ D none S9) (3) (24) (gF D) := by
  refine g_met (lv := [(0, va_rf (some a0)), (1, .int v1), (2, .long v2), (4, .long v4)]) hl (by decide) (Nat.le_of_ble_eq_true rfl) rfl (fun p e s m args below meth c X hr hn => ?_)
  have X : gX D p l s m args meth c cX8_sealOf 8 RX8 := X
  unfold f_X8_sealOf at h0
  refine g_aload_n (j := 0) X dX8_sealOf_0 rfl rfl ?_
  obtain ⟨x1, ex1, h2⟩ := g_bd h0; clear h0
  refine g_fR (ci := 8) (k := 6) X rfl il8 (by decide) tw715 (by decide) (fun _ _ _ => rfl) ex1 dX8_sealOf_1 ?_
  clear ex1
  refine g_iload_n (j := 1) X dX8_sealOf_4 rfl rfl ?_
  obtain ⟨x3, ex3, h4⟩ := g_bd h2; clear h2
  refine g_iald X ex3 dX8_sealOf_5 ?_
  clear ex3
  refine g_istore (i := 6) (lv' := [(6, .int x3), (0, va_rf (some a0)), (1, .int v1), (2, .long v2), (4, .long v4)]) X dX8_sealOf_6 (by decide) rfl ?_
  refine g_iload (j := 0) X dX8_sealOf_8 rfl ?_
  refine g_bipush X dX8_sealOf_10 (v := 64) (by decide) ?_
  refine g_icmp_le (tgt := 52) X dX8_sealOf_12 (by decide) (fun c5 => ?_) (fun c5 => ?_)
  · have h6 := g_ip h4 c5; clear h4
    refine g_sub [1, 2, 3, 4] rfl ?_
    refine g_wid (k := 1) (n := 8) (by decide) (by decide) ?_
    exact w_X8_sealOf_B52 hl X hr S0 a0 v1 v2 v4 h6
  · have h7 := g_in h4 c5; clear h4
    refine g_iconst X dX8_sealOf_15 (v := 0) (by decide) ?_
    refine g_istore (i := 7) (lv' := [(7, .int 0), (6, .int x3), (0, va_rf (some a0)), (1, .int v1), (2, .long v2), (4, .long v4)]) X dX8_sealOf_16 (by decide) rfl ?_
    refine g_sub [2, 3, 4, 5, 1, 0] rfl ?_
    exact w_X8_sealOf_L18 hl X hr gFuel S0 a0 v1 v2 v4 x3 0 h7
def f_X8_key_L55 : Nat → gS → Nat → Int32 → Int32 → Int32 → Option (Int32 × gS)
  | 0, _, _, _, _, _ => none
  | k + 1, S0, a0, v1, v2, v3 =>
    if v2 ≤ v3 then
      (fgR S0 8 6 (some a0)).bind fun x32 =>
      (faI S0 x32 v1 v2).bind fun S34 =>
      some (v2, S34)
    else
      (fgR S0 8 5 (some a0)).bind fun x36 =>
      (fgR S0 8 1 (some a0)).bind fun x38 =>
      (fI S0 10 x38 v3).bind fun x40 =>
      (faI S0 x36 ((100 * v1) + v3) x40).bind fun S42 =>
      gLet (v3 + 1) fun x44 =>
      f_X8_key_L55 k S42 a0 v1 v2 x44
set_option maxRecDepth 100000 in
set_option maxHeartbeats 4000000 in
theorem w_X8_key_L55 {p : Program} {l : Launch} {e : Env} {s : State} {m : MethodId} {args : Array Value} {below : List Frame} {meth : Method} {c : Code} {D : gD} {S9 : gS} {res : Int32}  (hl : l.stackTraces = false) (X : gX D p l s m args meth c cX8_key 4 RX8) (hr : meth.sig.returnType = (some .int)) : ∀ (k : Nat) (S0 : gS) (a0 : Nat) (v1 : Int32) (v2 : Int32) (v3 : Int32), f_X8_key_L55 k S0 a0 v1 v2 v3 = some (res, S9) → gJ D p l e { frames := 1, cells := 0, slots := 0, locals := 21 } s m args below meth c (MQ below (gQ D (some (.int res)) S9) args s (0) (0) (gF D)) 4 (0) (0) S0 55 [(0, va_rf (some a0)), (1, .int v1), (2, .int v2), (3, .int v3)] [] := by
  intro k
  induction k with
  | zero => intro S0 a0 v1 v2 v3 h0; cases h0
  | succ k ih =>
    intro S0 a0 v1 v2 v3 h0
    have h0 := h0
    unfold f_X8_key_L55 at h0
    refine g_iload_n (j := 3) X dX8_key_55 rfl rfl ?_
    refine g_iload_n (j := 2) X dX8_key_56 rfl rfl ?_
    refine g_icmp_ge (tgt := 83) X dX8_key_57 (by decide) (fun c29 => ?_) (fun c29 => ?_)
    · have h30 := g_ip h0 c29; clear h0
      refine g_aload_n (j := 0) X dX8_key_83 rfl rfl ?_
      obtain ⟨x32, ex32, h33⟩ := g_bd h30; clear h30
      refine g_fR (ci := 8) (k := 6) X rfl il8 (by decide) tw715 (by decide) (fun _ _ _ => rfl) ex32 dX8_key_84 ?_
      clear ex32
      refine g_iload_n (j := 1) X dX8_key_87 rfl rfl ?_
      refine g_iload_n (j := 2) X dX8_key_88 rfl rfl ?_
      obtain ⟨S34, eS34, h35⟩ := g_bd h33; clear h33
      refine g_iast X eS34 dX8_key_89 ?_
      clear eS34
      refine g_iload_n (j := 2) X dX8_key_90 rfl rfl ?_
      obtain ⟨rfl, rfl⟩ := g_end h35
      exact g_iret X hr (by decide) (by decide) dX8_key_91
    · have h31 := g_in h0 c29; clear h0
      refine g_aload_n (j := 0) X dX8_key_60 rfl rfl ?_
      obtain ⟨x36, ex36, h37⟩ := g_bd h31; clear h31
      refine g_fR (ci := 8) (k := 5) X rfl il8 (by decide) tw714 (by decide) (fun _ _ _ => rfl) ex36 dX8_key_61 ?_
      clear ex36
      refine g_bipush X dX8_key_64 (v := 100) (by decide) ?_
      refine g_iload_n (j := 1) X dX8_key_66 rfl rfl ?_
      refine g_imul X dX8_key_67 ?_
      refine g_iload_n (j := 3) X dX8_key_68 rfl rfl ?_
      refine g_iadd X dX8_key_69 ?_
      refine g_aload_n (j := 0) X dX8_key_70 rfl rfl ?_
      obtain ⟨x38, ex38, h39⟩ := g_bd h37; clear h37
      refine g_fR (ci := 8) (k := 1) X rfl il8 (by decide) tw710 (by decide) (fun _ _ _ => rfl) ex38 dX8_key_71 ?_
      clear ex38
      refine g_iload_n (j := 3) X dX8_key_74 rfl rfl ?_
      obtain ⟨x40, ex40, h41⟩ := g_bd h39; clear h39
      refine g_iald X ex40 dX8_key_75 ?_
      clear ex40
      obtain ⟨S42, eS42, h43⟩ := g_bd h41; clear h41
      refine g_iast X eS42 dX8_key_76 ?_
      clear eS42
      obtain ⟨x44, ex44, h45⟩ := g_let h43; clear h43
      refine g_iinc (j := 3) (v := x44) (lv' := [(3, .int x44), (0, va_rf (some a0)), (1, .int v1), (2, .int v2)]) X dX8_key_77 rfl (by rw [ex44]; rfl) (by decide) rfl ?_
      clear ex44
      refine g_goto (tgt := 55) X dX8_key_80 (by decide) ?_
      refine g_sub [1, 2, 3, 0] rfl ?_
      exact ih S42 a0 v1 v2 x44 h45
def f_X8_key_B41 (S0 : gS) (a0 : Nat) (v1 : Int32) (v2 : Int32) (t0 : Int32) (t1 : Option Nat) : Option (Int32 × gS) :=
  (fpI S0 8 0 t1 t0).bind fun S22 =>
  (fgI S22 8 0 (some a0)).bind fun x24 =>
  if x24 ≤ 0 then
    f_X8_key_L55 gFuel S22 a0 v1 v2 0
  else
    some (0, S22)
set_option maxRecDepth 100000 in
set_option maxHeartbeats 4000000 in
theorem w_X8_key_B41 {p : Program} {l : Launch} {e : Env} {s : State} {m : MethodId} {args : Array Value} {below : List Frame} {meth : Method} {c : Code} {D : gD} {S9 : gS} {res : Int32}  (hl : l.stackTraces = false) (X : gX D p l s m args meth c cX8_key 4 RX8) (hr : meth.sig.returnType = (some .int)) (S0 : gS) (a0 : Nat) (v1 : Int32) (v2 : Int32) (t0 : Int32) (t1 : Option Nat) (h0 : f_X8_key_B41 S0 a0 v1 v2 t0 t1 = some (res, S9)) : gJ D p l e { frames := 1, cells := 0, slots := 0, locals := 21 } s m args below meth c (MQ below (gQ D (some (.int res)) S9) args s (0) (0) (gF D)) 4 (0) (0) S0 41 [(0, va_rf (some a0)), (1, .int v1), (2, .int v2)] [.int t0, va_rf t1] := by
  unfold f_X8_key_B41 at h0
  obtain ⟨S22, eS22, h23⟩ := g_bd h0; clear h0
  refine g_pI (ci := 8) (k := 0) X rfl il8 tyX8 tyX8_ok nmX8 (by decide) tw709 rfl (by decide) (fun _ _ _ => rfl) rfl eS22 dX8_key_41 ?_
  clear eS22
  refine g_aload_n (j := 0) X dX8_key_44 rfl rfl ?_
  obtain ⟨x24, ex24, h25⟩ := g_bd h23; clear h23
  refine g_fI (ci := 8) (k := 0) X rfl il8 (by decide) tw709 (by decide) (fun _ _ _ => rfl) ex24 dX8_key_45 ?_
  clear ex24
  refine g_if_le (tgt := 53) X dX8_key_48 (by decide) (fun c26 => ?_) (fun c26 => ?_)
  · have h27 := g_ip h25 c26; clear h25
    refine g_iconst X dX8_key_53 (v := 0) (by decide) ?_
    refine g_istore_n (i := 3) (lv' := [(3, .int 0), (0, va_rf (some a0)), (1, .int v1), (2, .int v2)]) X dX8_key_54 rfl (by decide) rfl ?_
    refine g_sub [1, 2, 3, 0] rfl ?_
    exact w_X8_key_L55 hl X hr gFuel S22 a0 v1 v2 0 h27
  · have h28 := g_in h25 c26; clear h25
    refine g_iconst X dX8_key_51 (v := 0) (by decide) ?_
    obtain ⟨rfl, rfl⟩ := g_end h28
    exact g_iret X hr (by decide) (by decide) dX8_key_52
def f_X8_key (S0 : gS) (a0 : Nat) (v1 : Int32) : Option (Int32 × gS) :=
  gDc S0 8 (some a0) fun a1 =>
  gBi (f_X8_use S0 a1) fun x5 S3 =>
  gBi (f_X8_isLog S3 v1) fun x8 S6 =>
  if x8 = 0 then
    f_X8_key_B41 S6 a0 v1 x5 1 (some a0)
  else
    if x5 ≤ 100 then
      (fgR S6 8 13 (some a0)).bind fun x15 =>
      (fI S6 10 x15 v1).bind fun x17 =>
      if x17 ≤ 0 then
        f_X8_key_B41 S6 a0 v1 x5 0 (some a0)
      else
        f_X8_key_B41 S6 a0 v1 x5 3 (some a0)
    else
      f_X8_key_B41 S6 a0 v1 x5 2 (some a0)
set_option maxRecDepth 100000 in
set_option maxHeartbeats 4000000 in
theorem c_X8_key {l : Launch} (hl : l.stackTraces = false) (D : gD)  {S0 S9 : gS} {a0 : Nat} {v1 : Int32} {res : Int32} (h0 : f_X8_key S0 a0 v1 = some (res, S9)) : Met l yX8_key (gws yX8_key cX8_key 4 (some .int)) { frames := 1, cells := 0, slots := 0, locals := 21 } (gPc D S0 [.ref a0, .int v1]) (gQ D (some (.int res)) S9) (0) (0) (gF D) := by
  refine g_met (lv := [(0, va_rf (some a0)), (1, .int v1)]) hl (by decide) (Nat.le_of_ble_eq_true rfl) rfl (fun p e s m args below meth c X hr hn => ?_)
  have X : gX D p l s m args meth c cX8_key 4 RX8 := X
  unfold f_X8_key at h0
  refine g_aload_n (j := 0) X dX8_key_0 rfl rfl ?_
  obtain ⟨a1, ea1, ka1, h2⟩ := g_dc h0; clear h0
  obtain ⟨x5, S3, eS3, h4⟩ := g_bi h2; clear h2
  refine g_cV (n := 0) (As := []) X (c_X8_use hl D eS3) tw790 tw791 tw15 tw51 tw792 (by decide +kernel) rfl rfl ⟨by decide, by decide⟩ (ci := 8) rfl (by decide) ea1 ka1 rfl rfl (Nat.le_of_ble_eq_true rfl) dX8_key_1 ⟨(by decide), (by decide)⟩ ?_
  clear eS3 ea1 ka1
  refine g_istore_n (i := 2) (lv' := [(2, .int x5), (0, va_rf (some a0)), (1, .int v1)]) X dX8_key_4 rfl (by decide) rfl ?_
  refine g_aload_n (j := 1) X dX8_key_5 rfl rfl ?_
  refine g_iload_n (j := 2) X dX8_key_6 rfl rfl ?_
  obtain ⟨x8, S6, eS6, h7⟩ := g_bi h4; clear h4
  refine g_cS (n := 1) (As := [.int v1]) X (c_X8_isLog hl D eS6) tw793 tw794 tw51 tw795 (by decide +kernel) rfl rfl ⟨by decide, by decide⟩ rfl rfl (Nat.le_of_ble_eq_true rfl) dX8_key_7 ⟨(by decide), (by decide)⟩ ?_
  clear eS6
  refine g_if_ne (tgt := 17) X dX8_key_10 (by decide) (fun c9 => ?_) (fun c9 => ?_)
  · have h10 := g_in h7 c9; clear h7
    refine g_iload_n (j := 0) X dX8_key_17 rfl rfl ?_
    refine g_bipush X dX8_key_18 (v := 100) (by decide) ?_
    refine g_icmp_le (tgt := 27) X dX8_key_20 (by decide) (fun c12 => ?_) (fun c12 => ?_)
    · have h13 := g_ip h10 c12; clear h10
      refine g_aload_n (j := 1) X dX8_key_27 rfl rfl ?_
      obtain ⟨x15, ex15, h16⟩ := g_bd h13; clear h13
      refine g_fR (ci := 8) (k := 13) X rfl il8 (by decide) tw722 (by decide) (fun _ _ _ => rfl) ex15 dX8_key_28 ?_
      clear ex15
      refine g_iload_n (j := 2) X dX8_key_31 rfl rfl ?_
      obtain ⟨x17, ex17, h18⟩ := g_bd h16; clear h16
      refine g_iald X ex17 dX8_key_32 ?_
      clear ex17
      refine g_if_le (tgt := 40) X dX8_key_33 (by decide) (fun c19 => ?_) (fun c19 => ?_)
      · have h20 := g_ip h18 c19; clear h18
        refine g_iconst X dX8_key_40 (v := 0) (by decide) ?_
        refine g_sub [1, 2, 0] rfl ?_
        exact w_X8_key_B41 hl X hr S6 a0 v1 x5 0 (some a0) h20
      · have h21 := g_in h18 c19; clear h18
        refine g_iconst X dX8_key_36 (v := 3) (by decide) ?_
        refine g_goto (tgt := 41) X dX8_key_37 (by decide) ?_
        refine g_sub [1, 2, 0] rfl ?_
        exact w_X8_key_B41 hl X hr S6 a0 v1 x5 3 (some a0) h21
    · have h14 := g_in h10 c12; clear h10
      refine g_iconst X dX8_key_23 (v := 2) (by decide) ?_
      refine g_goto (tgt := 41) X dX8_key_24 (by decide) ?_
      refine g_sub [1, 2, 0] rfl ?_
      exact w_X8_key_B41 hl X hr S6 a0 v1 x5 2 (some a0) h14
  · have h11 := g_ip h7 c9; clear h7
    refine g_iconst X dX8_key_13 (v := 1) (by decide) ?_
    refine g_goto (tgt := 41) X dX8_key_14 (by decide) ?_
    refine g_sub [1, 2, 0] rfl ?_
    exact w_X8_key_B41 hl X hr S6 a0 v1 x5 1 (some a0) h11
def f_X8_isEntry_L19 : Nat → gS → Nat → Int32 → Int32 → Int32 → Int32 → Option (Int32 × gS)
  | 0, _, _, _, _, _, _ => none
  | k + 1, S0, a0, v1, v2, v3, v4 =>
    if v2 ≤ v4 then
      if v3 = 0 ∨ v3 = 1 then
        some (v3, S0)
      else none
    else
      if v3 = 0 then
        if v3 = 0 ∨ v3 = 1 then
          some (v3, S0)
        else none
      else
        (fgR S0 8 7 (some a0)).bind fun x18 =>
        (fI S0 10 x18 ((120 * v1) + v4)).bind fun x20 =>
        (fgR S0 8 1 (some a0)).bind fun x22 =>
        (fI S0 10 x22 v4).bind fun x24 =>
        if x20 = x24 then
          gLet (v4 + 1) fun x31 =>
          f_X8_isEntry_L19 k S0 a0 v1 v2 1 x31
        else
          gLet (v4 + 1) fun x29 =>
          f_X8_isEntry_L19 k S0 a0 v1 v2 0 x29
set_option maxRecDepth 100000 in
set_option maxHeartbeats 4000000 in
theorem w_X8_isEntry_L19 {p : Program} {l : Launch} {e : Env} {s : State} {m : MethodId} {args : Array Value} {below : List Frame} {meth : Method} {c : Code} {D : gD} {S9 : gS} {res : Int32}  (hl : l.stackTraces = false) (X : gX D p l s m args meth c cX8_isEntry 5 RX8) (hr : meth.sig.returnType = (some .boolean)) : ∀ (k : Nat) (S0 : gS) (a0 : Nat) (v1 : Int32) (v2 : Int32) (v3 : Int32) (v4 : Int32), f_X8_isEntry_L19 k S0 a0 v1 v2 v3 v4 = some (res, S9) → gJ D p l e { frames := 0, cells := 0, slots := 0, locals := 0 } s m args below meth c (MQ below (gQ D (some (.int res)) S9) args s (0) (0) (gF D)) 5 (0) (0) S0 19 [(0, va_rf (some a0)), (1, .int v1), (2, .int v2), (3, .int v3), (4, .int v4)] [] := by
  intro k
  induction k with
  | zero => intro S0 a0 v1 v2 v3 v4 h0; cases h0
  | succ k ih =>
    intro S0 a0 v1 v2 v3 v4 h0
    have h0 := h0
    unfold f_X8_isEntry_L19 at h0
    refine g_iload (j := 4) X dX8_isEntry_19 rfl ?_
    refine g_iload_n (j := 2) X dX8_isEntry_21 rfl rfl ?_
    refine g_icmp_ge (tgt := 63) X dX8_isEntry_22 (by decide) (fun c8 => ?_) (fun c8 => ?_)
    · have h9 := g_ip h0 c8; clear h0
      refine g_iload_n (j := 3) X dX8_isEntry_63 rfl rfl ?_
      obtain ⟨c11, h12⟩ := g_if h9; clear h9
      obtain ⟨rfl, rfl⟩ := g_end h12
      exact g_zret X hr c11 (by decide) (by decide) dX8_isEntry_64
    · have h10 := g_in h0 c8; clear h0
      refine g_iload_n (j := 3) X dX8_isEntry_25 rfl rfl ?_
      refine g_if_eq (tgt := 63) X dX8_isEntry_26 (by decide) (fun c13 => ?_) (fun c13 => ?_)
      · have h14 := g_ip h10 c13; clear h10
        refine g_iload_n (j := 3) X dX8_isEntry_63 rfl rfl ?_
        obtain ⟨c16, h17⟩ := g_if h14; clear h14
        obtain ⟨rfl, rfl⟩ := g_end h17
        exact g_zret X hr c16 (by decide) (by decide) dX8_isEntry_64
      · have h15 := g_in h10 c13; clear h10
        refine g_aload_n (j := 0) X dX8_isEntry_29 rfl rfl ?_
        obtain ⟨x18, ex18, h19⟩ := g_bd h15; clear h15
        refine g_fR (ci := 8) (k := 7) X rfl il8 (by decide) tw716 (by decide) (fun _ _ _ => rfl) ex18 dX8_isEntry_30 ?_
        clear ex18
        refine g_bipush X dX8_isEntry_33 (v := 120) (by decide) ?_
        refine g_iload_n (j := 1) X dX8_isEntry_35 rfl rfl ?_
        refine g_imul X dX8_isEntry_36 ?_
        refine g_iload (j := 4) X dX8_isEntry_37 rfl ?_
        refine g_iadd X dX8_isEntry_39 ?_
        obtain ⟨x20, ex20, h21⟩ := g_bd h19; clear h19
        refine g_iald X ex20 dX8_isEntry_40 ?_
        clear ex20
        refine g_aload_n (j := 0) X dX8_isEntry_41 rfl rfl ?_
        obtain ⟨x22, ex22, h23⟩ := g_bd h21; clear h21
        refine g_fR (ci := 8) (k := 1) X rfl il8 (by decide) tw710 (by decide) (fun _ _ _ => rfl) ex22 dX8_isEntry_42 ?_
        clear ex22
        refine g_iload (j := 4) X dX8_isEntry_45 rfl ?_
        obtain ⟨x24, ex24, h25⟩ := g_bd h23; clear h23
        refine g_iald X ex24 dX8_isEntry_47 ?_
        clear ex24
        refine g_icmp_ne (tgt := 55) X dX8_isEntry_48 (by decide) (fun c26 => ?_) (fun c26 => ?_)
        · have h27 := g_in h25 c26; clear h25
          refine g_iconst X dX8_isEntry_55 (v := 0) (by decide) ?_
          refine g_istore_n (i := 3) (lv' := [(3, .int 0), (0, va_rf (some a0)), (1, .int v1), (2, .int v2), (4, .int v4)]) X dX8_isEntry_56 rfl (by decide) rfl ?_
          obtain ⟨x29, ex29, h30⟩ := g_let h27; clear h27
          refine g_iinc (j := 4) (v := x29) (lv' := [(4, .int x29), (3, .int 0), (0, va_rf (some a0)), (1, .int v1), (2, .int v2)]) X dX8_isEntry_57 rfl (by rw [ex29]; rfl) (by decide) rfl ?_
          clear ex29
          refine g_goto (tgt := 19) X dX8_isEntry_60 (by decide) ?_
          refine g_sub [2, 3, 4, 1, 0] rfl ?_
          exact ih S0 a0 v1 v2 0 x29 h30
        · have h28 := g_ip h25 c26; clear h25
          refine g_iconst X dX8_isEntry_51 (v := 1) (by decide) ?_
          refine g_goto (tgt := 56) X dX8_isEntry_52 (by decide) ?_
          refine g_istore_n (i := 3) (lv' := [(3, .int 1), (0, va_rf (some a0)), (1, .int v1), (2, .int v2), (4, .int v4)]) X dX8_isEntry_56 rfl (by decide) rfl ?_
          obtain ⟨x31, ex31, h32⟩ := g_let h28; clear h28
          refine g_iinc (j := 4) (v := x31) (lv' := [(4, .int x31), (3, .int 1), (0, va_rf (some a0)), (1, .int v1), (2, .int v2)]) X dX8_isEntry_57 rfl (by rw [ex31]; rfl) (by decide) rfl ?_
          clear ex31
          refine g_goto (tgt := 19) X dX8_isEntry_60 (by decide) ?_
          refine g_sub [2, 3, 4, 1, 0] rfl ?_
          exact ih S0 a0 v1 v2 1 x31 h32
def f_X8_isEntry_B15 (S0 : gS) (a0 : Nat) (v1 : Int32) (v2 : Int32) (t0 : Int32) : Option (Int32 × gS) :=
  f_X8_isEntry_L19 gFuel S0 a0 v1 v2 t0 0
set_option maxRecDepth 100000 in
set_option maxHeartbeats 4000000 in
theorem w_X8_isEntry_B15 {p : Program} {l : Launch} {e : Env} {s : State} {m : MethodId} {args : Array Value} {below : List Frame} {meth : Method} {c : Code} {D : gD} {S9 : gS} {res : Int32}  (hl : l.stackTraces = false) (X : gX D p l s m args meth c cX8_isEntry 5 RX8) (hr : meth.sig.returnType = (some .boolean)) (S0 : gS) (a0 : Nat) (v1 : Int32) (v2 : Int32) (t0 : Int32) (h0 : f_X8_isEntry_B15 S0 a0 v1 v2 t0 = some (res, S9)) : gJ D p l e { frames := 0, cells := 0, slots := 0, locals := 0 } s m args below meth c (MQ below (gQ D (some (.int res)) S9) args s (0) (0) (gF D)) 5 (0) (0) S0 15 [(0, va_rf (some a0)), (1, .int v1), (2, .int v2)] [.int t0] := by
  unfold f_X8_isEntry_B15 at h0
  refine g_istore_n (i := 3) (lv' := [(3, .int t0), (0, va_rf (some a0)), (1, .int v1), (2, .int v2)]) X dX8_isEntry_15 rfl (by decide) rfl ?_
  refine g_iconst X dX8_isEntry_16 (v := 0) (by decide) ?_
  refine g_istore (i := 4) (lv' := [(4, .int 0), (3, .int t0), (0, va_rf (some a0)), (1, .int v1), (2, .int v2)]) X dX8_isEntry_17 (by decide) rfl ?_
  refine g_sub [2, 3, 4, 1, 0] rfl ?_
  exact w_X8_isEntry_L19 hl X hr gFuel S0 a0 v1 v2 t0 0 h0
def f_X8_isEntry (S0 : gS) (a0 : Nat) (v1 : Int32) (v2 : Int32) : Option (Int32 × gS) :=
  (fgR S0 8 8 (some a0)).bind fun x1 =>
  (fI S0 10 x1 v1).bind fun x3 =>
  if x3 = v2 then
    f_X8_isEntry_B15 S0 a0 v1 v2 1
  else
    f_X8_isEntry_B15 S0 a0 v1 v2 0
set_option maxRecDepth 100000 in
set_option maxHeartbeats 4000000 in
theorem c_X8_isEntry {l : Launch} (hl : l.stackTraces = false) (D : gD)  {S0 S9 : gS} {a0 : Nat} {v1 : Int32} {v2 : Int32} {res : Int32} (h0 : f_X8_isEntry S0 a0 v1 v2 = some (res, S9)) : Met l yX8_isEntry (gws yX8_isEntry cX8_isEntry 5 (some .boolean)) { frames := 0, cells := 0, slots := 0, locals := 0 } (gPc D S0 [.ref a0, .int v1, .int v2]) (gQ D (some (.int res)) S9) (0) (0) (gF D) := by
  refine g_met (lv := [(0, va_rf (some a0)), (1, .int v1), (2, .int v2)]) hl (by decide) (Nat.le_of_ble_eq_true rfl) rfl (fun p e s m args below meth c X hr hn => ?_)
  have X : gX D p l s m args meth c cX8_isEntry 5 RX8 := X
  unfold f_X8_isEntry at h0
  refine g_aload_n (j := 0) X dX8_isEntry_0 rfl rfl ?_
  obtain ⟨x1, ex1, h2⟩ := g_bd h0; clear h0
  refine g_fR (ci := 8) (k := 8) X rfl il8 (by decide) tw717 (by decide) (fun _ _ _ => rfl) ex1 dX8_isEntry_1 ?_
  clear ex1
  refine g_iload_n (j := 1) X dX8_isEntry_4 rfl rfl ?_
  obtain ⟨x3, ex3, h4⟩ := g_bd h2; clear h2
  refine g_iald X ex3 dX8_isEntry_5 ?_
  clear ex3
  refine g_iload_n (j := 2) X dX8_isEntry_6 rfl rfl ?_
  refine g_icmp_ne (tgt := 14) X dX8_isEntry_7 (by decide) (fun c5 => ?_) (fun c5 => ?_)
  · have h6 := g_in h4 c5; clear h4
    refine g_iconst X dX8_isEntry_14 (v := 0) (by decide) ?_
    refine g_sub [0, 1, 2] rfl ?_
    exact w_X8_isEntry_B15 hl X hr S0 a0 v1 v2 0 h6
  · have h7 := g_ip h4 c5; clear h4
    refine g_iconst X dX8_isEntry_10 (v := 1) (by decide) ?_
    refine g_goto (tgt := 15) X dX8_isEntry_11 (by decide) ?_
    refine g_sub [0, 1, 2] rfl ?_
    exact w_X8_isEntry_B15 hl X hr S0 a0 v1 v2 1 h7
def f_X8_submit_L117 : Nat → gS → Nat → Int32 → Int32 → Int32 → Int32 → Option (Int32 × gS)
  | 0, _, _, _, _, _, _ => none
  | k + 1, S0, a0, v1, v2, v3, v4 =>
    if v2 ≤ v4 then
      (fgR S0 8 9 (some a0)).bind fun x49 =>
      (fI S0 10 x49 v1).bind fun x51 =>
      (faI S0 x49 v1 (x51 + 1)).bind fun S53 =>
      (fgR S53 8 9 (some a0)).bind fun x55 =>
      (fI S53 10 x55 v1).bind fun x57 =>
      some (x57 - 1, S53)
    else
      (fgR S0 8 7 (some a0)).bind fun x59 =>
      (fgR S0 8 1 (some a0)).bind fun x61 =>
      (fI S0 10 x61 v4).bind fun x63 =>
      (faI S0 x59 ((120 * v3) + v4) x63).bind fun S65 =>
      gLet (v4 + 1) fun x67 =>
      f_X8_submit_L117 k S65 a0 v1 v2 v3 x67
set_option maxRecDepth 100000 in
set_option maxHeartbeats 4000000 in
theorem w_X8_submit_L117 {p : Program} {l : Launch} {e : Env} {s : State} {m : MethodId} {args : Array Value} {below : List Frame} {meth : Method} {c : Code} {D : gD} {S9 : gS} {res : Int32}  (hl : l.stackTraces = false) (X : gX D p l s m args meth c cX8_submit 5 RX8) (hr : meth.sig.returnType = (some .int)) : ∀ (k : Nat) (S0 : gS) (a0 : Nat) (v1 : Int32) (v2 : Int32) (v3 : Int32) (v4 : Int32), f_X8_submit_L117 k S0 a0 v1 v2 v3 v4 = some (res, S9) → gJ D p l e { frames := 1, cells := 0, slots := 0, locals := 24 } s m args below meth c (MQ below (gQ D (some (.int res)) S9) args s (0) (0) (gF D)) 5 (0) (0) S0 117 [(0, va_rf (some a0)), (1, .int v1), (2, .int v2), (3, .int v3), (4, .int v4)] [] := by
  intro k
  induction k with
  | zero => intro S0 a0 v1 v2 v3 v4 h0; cases h0
  | succ k ih =>
    intro S0 a0 v1 v2 v3 v4 h0
    have h0 := h0
    unfold f_X8_submit_L117 at h0
    refine g_iload (j := 4) X dX8_submit_117 rfl ?_
    refine g_iload_n (j := 2) X dX8_submit_119 rfl rfl ?_
    refine g_icmp_ge (tgt := 148) X dX8_submit_120 (by decide) (fun c46 => ?_) (fun c46 => ?_)
    · have h47 := g_ip h0 c46; clear h0
      refine g_aload_n (j := 0) X dX8_submit_148 rfl rfl ?_
      obtain ⟨x49, ex49, h50⟩ := g_bd h47; clear h47
      refine g_fR (ci := 8) (k := 9) X rfl il8 (by decide) tw718 (by decide) (fun _ _ _ => rfl) ex49 dX8_submit_149 ?_
      clear ex49
      refine g_iload_n (j := 1) X dX8_submit_152 rfl rfl ?_
      refine g_dup2 X dX8_submit_153 rfl (g_rfc _) ?_
      obtain ⟨x51, ex51, h52⟩ := g_bd h50; clear h50
      refine g_iald X ex51 dX8_submit_154 ?_
      clear ex51
      refine g_iconst X dX8_submit_155 (v := 1) (by decide) ?_
      refine g_iadd X dX8_submit_156 ?_
      obtain ⟨S53, eS53, h54⟩ := g_bd h52; clear h52
      refine g_iast X eS53 dX8_submit_157 ?_
      clear eS53
      refine g_aload_n (j := 0) X dX8_submit_158 rfl rfl ?_
      obtain ⟨x55, ex55, h56⟩ := g_bd h54; clear h54
      refine g_fR (ci := 8) (k := 9) X rfl il8 (by decide) tw718 (by decide) (fun _ _ _ => rfl) ex55 dX8_submit_159 ?_
      clear ex55
      refine g_iload_n (j := 1) X dX8_submit_162 rfl rfl ?_
      obtain ⟨x57, ex57, h58⟩ := g_bd h56; clear h56
      refine g_iald X ex57 dX8_submit_163 ?_
      clear ex57
      refine g_iconst X dX8_submit_164 (v := 1) (by decide) ?_
      refine g_isub X dX8_submit_165 ?_
      obtain ⟨rfl, rfl⟩ := g_end h58
      exact g_iret X hr (by decide) (by decide) dX8_submit_166
    · have h48 := g_in h0 c46; clear h0
      refine g_aload_n (j := 0) X dX8_submit_123 rfl rfl ?_
      obtain ⟨x59, ex59, h60⟩ := g_bd h48; clear h48
      refine g_fR (ci := 8) (k := 7) X rfl il8 (by decide) tw716 (by decide) (fun _ _ _ => rfl) ex59 dX8_submit_124 ?_
      clear ex59
      refine g_bipush X dX8_submit_127 (v := 120) (by decide) ?_
      refine g_iload_n (j := 3) X dX8_submit_129 rfl rfl ?_
      refine g_imul X dX8_submit_130 ?_
      refine g_iload (j := 4) X dX8_submit_131 rfl ?_
      refine g_iadd X dX8_submit_133 ?_
      refine g_aload_n (j := 0) X dX8_submit_134 rfl rfl ?_
      obtain ⟨x61, ex61, h62⟩ := g_bd h60; clear h60
      refine g_fR (ci := 8) (k := 1) X rfl il8 (by decide) tw710 (by decide) (fun _ _ _ => rfl) ex61 dX8_submit_135 ?_
      clear ex61
      refine g_iload (j := 4) X dX8_submit_138 rfl ?_
      obtain ⟨x63, ex63, h64⟩ := g_bd h62; clear h62
      refine g_iald X ex63 dX8_submit_140 ?_
      clear ex63
      obtain ⟨S65, eS65, h66⟩ := g_bd h64; clear h64
      refine g_iast X eS65 dX8_submit_141 ?_
      clear eS65
      obtain ⟨x67, ex67, h68⟩ := g_let h66; clear h66
      refine g_iinc (j := 4) (v := x67) (lv' := [(4, .int x67), (0, va_rf (some a0)), (1, .int v1), (2, .int v2), (3, .int v3)]) X dX8_submit_142 rfl (by rw [ex67]; rfl) (by decide) rfl ?_
      clear ex67
      refine g_goto (tgt := 117) X dX8_submit_145 (by decide) ?_
      refine g_sub [1, 2, 3, 4, 0] rfl ?_
      exact ih S65 a0 v1 v2 v3 x67 h68
def f_X8_submit_L42 : Nat → gS → Nat → Int32 → Int32 → Int32 → Option (Int32 × gS)
  | 0, _, _, _, _, _ => none
  | k + 1, S0, a0, v1, v2, v3 =>
    (fgR S0 8 9 (some a0)).bind fun x22 =>
    (fI S0 10 x22 v1).bind fun x24 =>
    if x24 ≤ v3 then
      (fgR S0 8 9 (some a0)).bind fun x29 =>
      (fI S0 10 x29 v1).bind fun x31 =>
      if x31 = 200 then
        (fpI S0 8 0 (some a0) 3).bind fun S69 =>
        some (0, S69)
      else
        (fgR S0 8 9 (some a0)).bind fun x36 =>
        (fI S0 10 x36 v1).bind fun x38 =>
        gLet ((200 * v1) + x38) fun x40 =>
        (fgR S0 8 8 (some a0)).bind fun x42 =>
        (faI S0 x42 x40 v2).bind fun S44 =>
        f_X8_submit_L117 gFuel S44 a0 v1 v2 x40 0
    else
      gDc S0 8 (some a0) fun a71 =>
      gBi (f_X8_isEntry S0 a71 ((200 * v1) + v3) v2) fun x75 S73 =>
      if x75 = 0 then
        gLet (v3 + 1) fun x79 =>
        f_X8_submit_L42 k S73 a0 v1 v2 x79
      else
        some (v3, S73)
set_option maxRecDepth 100000 in
set_option maxHeartbeats 4000000 in
theorem w_X8_submit_L42 {p : Program} {l : Launch} {e : Env} {s : State} {m : MethodId} {args : Array Value} {below : List Frame} {meth : Method} {c : Code} {D : gD} {S9 : gS} {res : Int32}  (hl : l.stackTraces = false) (X : gX D p l s m args meth c cX8_submit 5 RX8) (hr : meth.sig.returnType = (some .int)) : ∀ (k : Nat) (S0 : gS) (a0 : Nat) (v1 : Int32) (v2 : Int32) (v3 : Int32), f_X8_submit_L42 k S0 a0 v1 v2 v3 = some (res, S9) → gJ D p l e { frames := 1, cells := 0, slots := 0, locals := 24 } s m args below meth c (MQ below (gQ D (some (.int res)) S9) args s (0) (0) (gF D)) 5 (0) (0) S0 42 [(0, va_rf (some a0)), (1, .int v1), (2, .int v2), (3, .int v3)] [] := by
  intro k
  induction k with
  | zero => intro S0 a0 v1 v2 v3 h0; cases h0
  | succ k ih =>
    intro S0 a0 v1 v2 v3 h0
    have h0 := h0
    unfold f_X8_submit_L42 at h0
    refine g_iload_n (j := 3) X dX8_submit_42 rfl rfl ?_
    refine g_aload_n (j := 0) X dX8_submit_43 rfl rfl ?_
    obtain ⟨x22, ex22, h23⟩ := g_bd h0; clear h0
    refine g_fR (ci := 8) (k := 9) X rfl il8 (by decide) tw718 (by decide) (fun _ _ _ => rfl) ex22 dX8_submit_44 ?_
    clear ex22
    refine g_iload_n (j := 1) X dX8_submit_47 rfl rfl ?_
    obtain ⟨x24, ex24, h25⟩ := g_bd h23; clear h23
    refine g_iald X ex24 dX8_submit_48 ?_
    clear ex24
    refine g_icmp_ge (tgt := 75) X dX8_submit_49 (by decide) (fun c26 => ?_) (fun c26 => ?_)
    · have h27 := g_ip h25 c26; clear h25
      refine g_aload_n (j := 0) X dX8_submit_75 rfl rfl ?_
      obtain ⟨x29, ex29, h30⟩ := g_bd h27; clear h27
      refine g_fR (ci := 8) (k := 9) X rfl il8 (by decide) tw718 (by decide) (fun _ _ _ => rfl) ex29 dX8_submit_76 ?_
      clear ex29
      refine g_iload_n (j := 1) X dX8_submit_79 rfl rfl ?_
      obtain ⟨x31, ex31, h32⟩ := g_bd h30; clear h30
      refine g_iald X ex31 dX8_submit_80 ?_
      clear ex31
      refine g_sipush X dX8_submit_81 (v := 200) (by decide) ?_
      refine g_icmp_ne (tgt := 94) X dX8_submit_84 (by decide) (fun c33 => ?_) (fun c33 => ?_)
      · have h34 := g_in h32 c33; clear h32
        refine g_sipush X dX8_submit_94 (v := 200) (by decide) ?_
        refine g_iload_n (j := 1) X dX8_submit_97 rfl rfl ?_
        refine g_imul X dX8_submit_98 ?_
        refine g_aload_n (j := 0) X dX8_submit_99 rfl rfl ?_
        obtain ⟨x36, ex36, h37⟩ := g_bd h34; clear h34
        refine g_fR (ci := 8) (k := 9) X rfl il8 (by decide) tw718 (by decide) (fun _ _ _ => rfl) ex36 dX8_submit_100 ?_
        clear ex36
        refine g_iload_n (j := 1) X dX8_submit_103 rfl rfl ?_
        obtain ⟨x38, ex38, h39⟩ := g_bd h37; clear h37
        refine g_iald X ex38 dX8_submit_104 ?_
        clear ex38
        refine g_iadd X dX8_submit_105 ?_
        obtain ⟨x40, ex40, h41⟩ := g_let h39; clear h39; rw [← ex40]; clear ex40
        refine g_istore_n (i := 3) (lv' := [(3, .int x40), (0, va_rf (some a0)), (1, .int v1), (2, .int v2)]) X dX8_submit_106 rfl (by decide) rfl ?_
        refine g_aload_n (j := 1) X dX8_submit_107 rfl rfl ?_
        obtain ⟨x42, ex42, h43⟩ := g_bd h41; clear h41
        refine g_fR (ci := 8) (k := 8) X rfl il8 (by decide) tw717 (by decide) (fun _ _ _ => rfl) ex42 dX8_submit_108 ?_
        clear ex42
        refine g_iload_n (j := 0) X dX8_submit_111 rfl rfl ?_
        refine g_iload_n (j := 3) X dX8_submit_112 rfl rfl ?_
        obtain ⟨S44, eS44, h45⟩ := g_bd h43; clear h43
        refine g_iast X eS44 dX8_submit_113 ?_
        clear eS44
        refine g_iconst X dX8_submit_114 (v := 0) (by decide) ?_
        refine g_istore (i := 4) (lv' := [(4, .int 0), (3, .int x40), (0, va_rf (some a0)), (1, .int v1), (2, .int v2)]) X dX8_submit_115 (by decide) rfl ?_
        refine g_sub [2, 3, 4, 1, 0] rfl ?_
        exact w_X8_submit_L117 hl X hr gFuel S44 a0 v1 v2 x40 0 h45
      · have h35 := g_ip h32 c33; clear h32
        refine g_aload_n (j := 0) X dX8_submit_87 rfl rfl ?_
        refine g_iconst X dX8_submit_88 (v := 3) (by decide) ?_
        obtain ⟨S69, eS69, h70⟩ := g_bd h35; clear h35
        refine g_pI (ci := 8) (k := 0) X rfl il8 tyX8 tyX8_ok nmX8 (by decide) tw709 rfl (by decide) (fun _ _ _ => rfl) rfl eS69 dX8_submit_89 ?_
        clear eS69
        refine g_iconst X dX8_submit_92 (v := 0) (by decide) ?_
        obtain ⟨rfl, rfl⟩ := g_end h70
        exact g_iret X hr (by decide) (by decide) dX8_submit_93
    · have h28 := g_in h25 c26; clear h25
      refine g_aload_n (j := 0) X dX8_submit_52 rfl rfl ?_
      refine g_sipush X dX8_submit_53 (v := 200) (by decide) ?_
      refine g_iload_n (j := 1) X dX8_submit_56 rfl rfl ?_
      refine g_imul X dX8_submit_57 ?_
      refine g_iload_n (j := 3) X dX8_submit_58 rfl rfl ?_
      refine g_iadd X dX8_submit_59 ?_
      refine g_iload_n (j := 2) X dX8_submit_60 rfl rfl ?_
      obtain ⟨a71, ea71, ka71, h72⟩ := g_dc h28; clear h28
      obtain ⟨x75, S73, eS73, h74⟩ := g_bi h72; clear h72
      refine g_cV (n := 2) (As := [.int ((200 * v1) + v3), .int v2]) X (c_X8_isEntry hl D eS73) tw800 tw801 tw16 tw51 tw802 (by decide +kernel) rfl rfl ⟨by decide, by decide⟩ (ci := 8) rfl (by decide) ea71 ka71 rfl rfl (Nat.le_of_ble_eq_true rfl) dX8_submit_61 ⟨(by decide), (by decide)⟩ ?_
      clear eS73 ea71 ka71
      refine g_if_eq (tgt := 69) X dX8_submit_64 (by decide) (fun c76 => ?_) (fun c76 => ?_)
      · have h77 := g_ip h74 c76; clear h74
        obtain ⟨x79, ex79, h80⟩ := g_let h77; clear h77
        refine g_iinc (j := 3) (v := x79) (lv' := [(3, .int x79), (0, va_rf (some a0)), (1, .int v1), (2, .int v2)]) X dX8_submit_69 rfl (by rw [ex79]; rfl) (by decide) rfl ?_
        clear ex79
        refine g_goto (tgt := 42) X dX8_submit_72 (by decide) ?_
        refine g_sub [1, 2, 3, 0] rfl ?_
        exact ih S73 a0 v1 v2 x79 h80
      · have h78 := g_in h74 c76; clear h74
        refine g_iload_n (j := 3) X dX8_submit_67 rfl rfl ?_
        obtain ⟨rfl, rfl⟩ := g_end h78
        exact g_iret X hr (by decide) (by decide) dX8_submit_68
def f_X8_submit_B28 (S0 : gS) (a0 : Nat) (v1 : Int32) (v2 : Int32) (t0 : Int32) (t1 : Option Nat) : Option (Int32 × gS) :=
  (fpI S0 8 0 t1 t0).bind fun S15 =>
  (fgI S15 8 0 (some a0)).bind fun x17 =>
  if x17 ≤ 0 then
    f_X8_submit_L42 gFuel S15 a0 v1 v2 0
  else
    some (0, S15)
set_option maxRecDepth 100000 in
set_option maxHeartbeats 4000000 in
theorem w_X8_submit_B28 {p : Program} {l : Launch} {e : Env} {s : State} {m : MethodId} {args : Array Value} {below : List Frame} {meth : Method} {c : Code} {D : gD} {S9 : gS} {res : Int32}  (hl : l.stackTraces = false) (X : gX D p l s m args meth c cX8_submit 5 RX8) (hr : meth.sig.returnType = (some .int)) (S0 : gS) (a0 : Nat) (v1 : Int32) (v2 : Int32) (t0 : Int32) (t1 : Option Nat) (h0 : f_X8_submit_B28 S0 a0 v1 v2 t0 t1 = some (res, S9)) : gJ D p l e { frames := 1, cells := 0, slots := 0, locals := 24 } s m args below meth c (MQ below (gQ D (some (.int res)) S9) args s (0) (0) (gF D)) 5 (0) (0) S0 28 [(0, va_rf (some a0)), (1, .int v1), (2, .int v2)] [.int t0, va_rf t1] := by
  unfold f_X8_submit_B28 at h0
  obtain ⟨S15, eS15, h16⟩ := g_bd h0; clear h0
  refine g_pI (ci := 8) (k := 0) X rfl il8 tyX8 tyX8_ok nmX8 (by decide) tw709 rfl (by decide) (fun _ _ _ => rfl) rfl eS15 dX8_submit_28 ?_
  clear eS15
  refine g_aload_n (j := 0) X dX8_submit_31 rfl rfl ?_
  obtain ⟨x17, ex17, h18⟩ := g_bd h16; clear h16
  refine g_fI (ci := 8) (k := 0) X rfl il8 (by decide) tw709 (by decide) (fun _ _ _ => rfl) ex17 dX8_submit_32 ?_
  clear ex17
  refine g_if_le (tgt := 40) X dX8_submit_35 (by decide) (fun c19 => ?_) (fun c19 => ?_)
  · have h20 := g_ip h18 c19; clear h18
    refine g_iconst X dX8_submit_40 (v := 0) (by decide) ?_
    refine g_istore_n (i := 3) (lv' := [(3, .int 0), (0, va_rf (some a0)), (1, .int v1), (2, .int v2)]) X dX8_submit_41 rfl (by decide) rfl ?_
    refine g_sub [1, 2, 3, 0] rfl ?_
    exact w_X8_submit_L42 hl X hr gFuel S15 a0 v1 v2 0 h20
  · have h21 := g_in h18 c19; clear h18
    refine g_iconst X dX8_submit_38 (v := 0) (by decide) ?_
    obtain ⟨rfl, rfl⟩ := g_end h21
    exact g_iret X hr (by decide) (by decide) dX8_submit_39
def f_X8_submit (S0 : gS) (a0 : Nat) (v1 : Int32) : Option (Int32 × gS) :=
  gDc S0 8 (some a0) fun a1 =>
  gBi (f_X8_use S0 a1) fun x5 S3 =>
  gBi (f_X8_isLog S3 v1) fun x8 S6 =>
  if x8 = 0 then
    f_X8_submit_B28 S6 a0 v1 x5 1 (some a0)
  else
    if x5 ≤ 120 then
      f_X8_submit_B28 S6 a0 v1 x5 0 (some a0)
    else
      f_X8_submit_B28 S6 a0 v1 x5 2 (some a0)
set_option maxRecDepth 100000 in
set_option maxHeartbeats 4000000 in
theorem c_X8_submit {l : Launch} (hl : l.stackTraces = false) (D : gD)  {S0 S9 : gS} {a0 : Nat} {v1 : Int32} {res : Int32} (h0 : f_X8_submit S0 a0 v1 = some (res, S9)) : Met l yX8_submit (gws yX8_submit cX8_submit 5 (some .int)) { frames := 1, cells := 0, slots := 0, locals := 24 } (gPc D S0 [.ref a0, .int v1]) (gQ D (some (.int res)) S9) (0) (0) (gF D) := by
  refine g_met (lv := [(0, va_rf (some a0)), (1, .int v1)]) hl (by decide) (Nat.le_of_ble_eq_true rfl) rfl (fun p e s m args below meth c X hr hn => ?_)
  have X : gX D p l s m args meth c cX8_submit 5 RX8 := X
  unfold f_X8_submit at h0
  refine g_aload_n (j := 0) X dX8_submit_0 rfl rfl ?_
  obtain ⟨a1, ea1, ka1, h2⟩ := g_dc h0; clear h0
  obtain ⟨x5, S3, eS3, h4⟩ := g_bi h2; clear h2
  refine g_cV (n := 0) (As := []) X (c_X8_use hl D eS3) tw790 tw791 tw15 tw51 tw792 (by decide +kernel) rfl rfl ⟨by decide, by decide⟩ (ci := 8) rfl (by decide) ea1 ka1 rfl rfl (Nat.le_of_ble_eq_true rfl) dX8_submit_1 ⟨(by decide), (by decide)⟩ ?_
  clear eS3 ea1 ka1
  refine g_istore_n (i := 2) (lv' := [(2, .int x5), (0, va_rf (some a0)), (1, .int v1)]) X dX8_submit_4 rfl (by decide) rfl ?_
  refine g_aload_n (j := 1) X dX8_submit_5 rfl rfl ?_
  refine g_iload_n (j := 2) X dX8_submit_6 rfl rfl ?_
  obtain ⟨x8, S6, eS6, h7⟩ := g_bi h4; clear h4
  refine g_cS (n := 1) (As := [.int v1]) X (c_X8_isLog hl D eS6) tw793 tw794 tw51 tw795 (by decide +kernel) rfl rfl ⟨by decide, by decide⟩ rfl rfl (Nat.le_of_ble_eq_true rfl) dX8_submit_7 ⟨(by decide), (by decide)⟩ ?_
  clear eS6
  refine g_if_ne (tgt := 17) X dX8_submit_10 (by decide) (fun c9 => ?_) (fun c9 => ?_)
  · have h10 := g_in h7 c9; clear h7
    refine g_iload_n (j := 0) X dX8_submit_17 rfl rfl ?_
    refine g_bipush X dX8_submit_18 (v := 120) (by decide) ?_
    refine g_icmp_le (tgt := 27) X dX8_submit_20 (by decide) (fun c12 => ?_) (fun c12 => ?_)
    · have h13 := g_ip h10 c12; clear h10
      refine g_iconst X dX8_submit_27 (v := 0) (by decide) ?_
      refine g_sub [1, 2, 0] rfl ?_
      exact w_X8_submit_B28 hl X hr S6 a0 v1 x5 0 (some a0) h13
    · have h14 := g_in h10 c12; clear h10
      refine g_iconst X dX8_submit_23 (v := 2) (by decide) ?_
      refine g_goto (tgt := 28) X dX8_submit_24 (by decide) ?_
      refine g_sub [1, 2, 0] rfl ?_
      exact w_X8_submit_B28 hl X hr S6 a0 v1 x5 2 (some a0) h14
  · have h11 := g_ip h7 c9; clear h7
    refine g_iconst X dX8_submit_13 (v := 1) (by decide) ?_
    refine g_goto (tgt := 28) X dX8_submit_14 (by decide) ?_
    refine g_sub [1, 2, 0] rfl ?_
    exact w_X8_submit_B28 hl X hr S6 a0 v1 x5 1 (some a0) h11
def f_X8_headByte (S0 : gS) (a0 : Nat) (v1 : Int32) (v2 : Int64) (v4 : Int64) : Option (Int32 × gS) :=
  if 8 ≤ v1 then
    if 16 ≤ v1 then
      gLet (v1 - 16) fun x7 =>
      (fgR S0 8 21 (some a0)).bind fun x9 =>
      (fI S0 10 x9 (x7 / 4)).bind fun x11 =>
      some ((x11 >>> ((24 - (8 * (x7 - x7 / 4 * 4))) &&& 31)) &&& 255, S0)
    else
      some (((v4 >>> ((56 - (8 * (v1 - 8))).toInt64 &&& 63)).toInt32) &&& 255, S0)
  else
    some (((v2 >>> ((56 - (8 * v1)).toInt64 &&& 63)).toInt32) &&& 255, S0)
set_option maxRecDepth 100000 in
set_option maxHeartbeats 4000000 in
theorem c_X8_headByte {l : Launch} (hl : l.stackTraces = false) (D : gD)  {S0 S9 : gS} {a0 : Nat} {v1 : Int32} {v2 : Int64} {v4 : Int64} {res : Int32} (h0 : f_X8_headByte S0 a0 v1 v2 v4 = some (res, S9)) : Met l yX8_headByte (gws yX8_headByte cX8_headByte 7 (some .int)) { frames := 0, cells := 0, slots := 0, locals := 0 } (gPc D S0 [.ref a0, .int v1, .long v2, .long v4]) (gQ D (some (.int res)) S9) (0) (0) (gF D) := by
  refine g_met (lv := [(0, va_rf (some a0)), (1, .int v1), (2, .long v2), (4, .long v4)]) hl (by decide) (Nat.le_of_ble_eq_true rfl) rfl (fun p e s m args below meth c X hr hn => ?_)
  have X : gX D p l s m args meth c cX8_headByte 7 RX8 := X
  unfold f_X8_headByte at h0
  refine g_iload_n (j := 1) X dX8_headByte_0 rfl rfl ?_
  refine g_bipush X dX8_headByte_1 (v := 8) (by decide) ?_
  refine g_icmp_ge (tgt := 21) X dX8_headByte_3 (by decide) (fun c1 => ?_) (fun c1 => ?_)
  · have h2 := g_ip h0 c1; clear h0
    refine g_iload_n (j := 1) X dX8_headByte_21 rfl rfl ?_
    refine g_bipush X dX8_headByte_22 (v := 16) (by decide) ?_
    refine g_icmp_ge (tgt := 46) X dX8_headByte_24 (by decide) (fun c4 => ?_) (fun c4 => ?_)
    · have h5 := g_ip h2 c4; clear h2
      refine g_iload_n (j := 1) X dX8_headByte_46 rfl rfl ?_
      refine g_bipush X dX8_headByte_47 (v := 16) (by decide) ?_
      refine g_isub X dX8_headByte_49 ?_
      obtain ⟨x7, ex7, h8⟩ := g_let h5; clear h5; rw [← ex7]; clear ex7
      refine g_istore (i := 6) (lv' := [(6, .int x7), (0, va_rf (some a0)), (1, .int v1), (2, .long v2), (4, .long v4)]) X dX8_headByte_50 (by decide) rfl ?_
      refine g_aload_n (j := 1) X dX8_headByte_52 rfl rfl ?_
      obtain ⟨x9, ex9, h10⟩ := g_bd h8; clear h8
      refine g_fR (ci := 8) (k := 21) X rfl il8 (by decide) tw730 (by decide) (fun _ _ _ => rfl) ex9 dX8_headByte_53 ?_
      clear ex9
      refine g_iload (j := 0) X dX8_headByte_56 rfl ?_
      refine g_iconst X dX8_headByte_58 (v := 4) (by decide) ?_
      refine g_idiv X dX8_headByte_59 (by decide) ?_
      obtain ⟨x11, ex11, h12⟩ := g_bd h10; clear h10
      refine g_iald X ex11 dX8_headByte_60 ?_
      clear ex11
      refine g_bipush X dX8_headByte_61 (v := 24) (by decide) ?_
      refine g_bipush X dX8_headByte_63 (v := 8) (by decide) ?_
      refine g_iload (j := 0) X dX8_headByte_65 rfl ?_
      refine g_iconst X dX8_headByte_67 (v := 4) (by decide) ?_
      refine g_irem X dX8_headByte_68 (by decide) ?_
      refine g_imul X dX8_headByte_69 ?_
      refine g_isub X dX8_headByte_70 ?_
      refine g_ishr X dX8_headByte_71 ?_
      refine g_sipush X dX8_headByte_72 (v := 255) (by decide) ?_
      refine g_iand X dX8_headByte_75 ?_
      obtain ⟨rfl, rfl⟩ := g_end h12
      exact g_iret X hr (by decide) (by decide) dX8_headByte_76
    · have h6 := g_in h2 c4; clear h2
      refine g_lload (j := 3) X dX8_headByte_27 rfl ?_
      refine g_bipush X dX8_headByte_29 (v := 56) (by decide) ?_
      refine g_bipush X dX8_headByte_31 (v := 8) (by decide) ?_
      refine g_iload_n (j := 1) X dX8_headByte_33 rfl rfl ?_
      refine g_bipush X dX8_headByte_34 (v := 8) (by decide) ?_
      refine g_isub X dX8_headByte_36 ?_
      refine g_imul X dX8_headByte_37 ?_
      refine g_isub X dX8_headByte_38 ?_
      refine g_lshr X dX8_headByte_39 ?_
      refine g_l2i X dX8_headByte_40 ?_
      refine g_sipush X dX8_headByte_41 (v := 255) (by decide) ?_
      refine g_iand X dX8_headByte_44 ?_
      obtain ⟨rfl, rfl⟩ := g_end h6
      exact g_iret X hr (by decide) (by decide) dX8_headByte_45
  · have h3 := g_in h0 c1; clear h0
    refine g_lload_n (j := 2) X dX8_headByte_6 rfl rfl ?_
    refine g_bipush X dX8_headByte_7 (v := 56) (by decide) ?_
    refine g_bipush X dX8_headByte_9 (v := 8) (by decide) ?_
    refine g_iload_n (j := 1) X dX8_headByte_11 rfl rfl ?_
    refine g_imul X dX8_headByte_12 ?_
    refine g_isub X dX8_headByte_13 ?_
    refine g_lshr X dX8_headByte_14 ?_
    refine g_l2i X dX8_headByte_15 ?_
    refine g_sipush X dX8_headByte_16 (v := 255) (by decide) ?_
    refine g_iand X dX8_headByte_19 ?_
    obtain ⟨rfl, rfl⟩ := g_end h3
    exact g_iret X hr (by decide) (by decide) dX8_headByte_20
