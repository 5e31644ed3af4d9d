def f_X8_submit_L117 : Nat → gS → Nat → Int32 → Int32 → Int32 → Int32 → Option (Int32 × gS)
  | 0, _, _, _, _, _, _ => none
  | k + 1, S0, a0, v1, v2, v3, v4 =>
    if v2 ≤ v4 then
      (fgR S0 8 9 (some a0)).bind fun x49 =>
      (fI S0 10 x49 v1).bind fun x51 =>
      (faI S0 x49 v1 (x51 + 1)).bind fun S53 =>
      (fgR S53 8 9 (some a0)).bind fun x55 =>
      (fI S53 10 x55 v1).bind fun x57 =>
      some (x57 - 1, S53)
    else
      (fgR S0 8 7 (some a0)).bind fun x59 =>
      (fgR S0 8 1 (some a0)).bind fun x61 =>
      (fI S0 10 x61 v4).bind fun x63 =>
      (faI S0 x59 ((120 * v3) + v4) x63).bind fun S65 =>
      gLet (v4 + 1) fun x67 =>
      f_X8_submit_L117 k S65 a0 v1 v2 v3 x67
set_option maxRecDepth 100000 in
set_option maxHeartbeats 4000000 in
theorem w_X8_submit_L117 {p : Program} {l : Launch} {e : Env} {s : State} {m : MethodId} {args : Array Value} {below : List Frame} {meth : Method} {c : Code} {D : gD} {S9 : gS} {res : Int32}  (hl : l.stackTraces = false) (X : gX D p l s m args meth c cX8_submit 5 RX8) (hr : meth.sig.returnType = (some .int)) : ∀ (k : Nat) (S0 : gS) (a0 : Nat) (v1 : Int32) (v2 : Int32) (v3 : Int32) (v4 : Int32), f_X8_submit_L117 k S0 a0 v1 v2 v3 v4 = some (res, S9) → gJ D p l e { frames := 1, cells := 0, slots := 0, locals := 24 } s m args below meth c (MQ below (gQ D (some (.int res)) S9) args s (0) (0) (gF D)) 5 (0) (0) S0 117 [(0, va_rf (some a0)), (1, .int v1), (2, .int v2), (3, .int v3), (4, .int v4)] [] := by
  intro k
  induction k with
  | zero => intro S0 a0 v1 v2 v3 v4 h0; cases h0
  | succ k ih =>
    intro S0 a0 v1 v2 v3 v4 h0
    have h0 := h0
    unfold f_X8_submit_L117 at h0
    refine g_iload (j := 4) X dX8_submit_117 rfl ?_
    refine g_iload_n (j := 2) X dX8_submit_119 rfl rfl ?_
    refine g_icmp_ge (tgt := 148) X dX8_submit_120 (by decide) (fun c46 => ?_) (fun c46 => ?_)
    · have h47 := g_ip h0 c46; clear h0
      refine g_aload_n (j := 0) X dX8_submit_148 rfl rfl ?_
      obtain ⟨x49, ex49, h50⟩ := g_bd h47; clear h47
      refine g_fR (ci := 8) (k := 9) X rfl il8 (by decide) tw712 (by decide) (fun _ _ _ => rfl) ex49 dX8_submit_149 ?_
      clear ex49
      refine g_iload_n (j := 1) X dX8_submit_152 rfl rfl ?_
      refine g_dup2 X dX8_submit_153 rfl (g_rfc _) ?_
      obtain ⟨x51, ex51, h52⟩ := g_bd h50; clear h50
      refine g_iald X ex51 dX8_submit_154 ?_
      clear ex51
      refine g_iconst X dX8_submit_155 (v := 1) (by decide) ?_
      refine g_iadd X dX8_submit_156 ?_
      obtain ⟨S53, eS53, h54⟩ := g_bd h52; clear h52
      refine g_iast X eS53 dX8_submit_157 ?_
      clear eS53
      refine g_aload_n (j := 0) X dX8_submit_158 rfl rfl ?_
      obtain ⟨x55, ex55, h56⟩ := g_bd h54; clear h54
      refine g_fR (ci := 8) (k := 9) X rfl il8 (by decide) tw712 (by decide) (fun _ _ _ => rfl) ex55 dX8_submit_159 ?_
      clear ex55
      refine g_iload_n (j := 1) X dX8_submit_162 rfl rfl ?_
      obtain ⟨x57, ex57, h58⟩ := g_bd h56; clear h56
      refine g_iald X ex57 dX8_submit_163 ?_
      clear ex57
      refine g_iconst X dX8_submit_164 (v := 1) (by decide) ?_
      refine g_isub X dX8_submit_165 ?_
      obtain ⟨rfl, rfl⟩ := g_end h58
      exact g_iret X hr (by decide) (by decide) dX8_submit_166
    · have h48 := g_in h0 c46; clear h0
      refine g_aload_n (j := 0) X dX8_submit_123 rfl rfl ?_
      obtain ⟨x59, ex59, h60⟩ := g_bd h48; clear h48
      refine g_fR (ci := 8) (k := 7) X rfl il8 (by decide) tw710 (by decide) (fun _ _ _ => rfl) ex59 dX8_submit_124 ?_
      clear ex59
      refine g_bipush X dX8_submit_127 (v := 120) (by decide) ?_
      refine g_iload_n (j := 3) X dX8_submit_129 rfl rfl ?_
      refine g_imul X dX8_submit_130 ?_
      refine g_iload (j := 4) X dX8_submit_131 rfl ?_
      refine g_iadd X dX8_submit_133 ?_
      refine g_aload_n (j := 0) X dX8_submit_134 rfl rfl ?_
      obtain ⟨x61, ex61, h62⟩ := g_bd h60; clear h60
      refine g_fR (ci := 8) (k := 1) X rfl il8 (by decide) tw704 (by decide) (fun _ _ _ => rfl) ex61 dX8_submit_135 ?_
      clear ex61
      refine g_iload (j := 4) X dX8_submit_138 rfl ?_
      obtain ⟨x63, ex63, h64⟩ := g_bd h62; clear h62
      refine g_iald X ex63 dX8_submit_140 ?_
      clear ex63
      obtain ⟨S65, eS65, h66⟩ := g_bd h64; clear h64
      refine g_iast X eS65 dX8_submit_141 ?_
      clear eS65
      obtain ⟨x67, ex67, h68⟩ := g_let h66; clear h66
      refine g_iinc (j := 4) (v := x67) (lv' := [(4, .int x67), (0, va_rf (some a0)), (1, .int v1), (2, .int v2), (3, .int v3)]) X dX8_submit_142 rfl (by rw [ex67]; rfl) (by decide) rfl ?_
      clear ex67
      refine g_goto (tgt := 117) X dX8_submit_145 (by decide) ?_
      refine g_sub [1, 2, 3, 4, 0] rfl ?_
      exact ih S65 a0 v1 v2 v3 x67 h68
def f_X8_submit_L42 : Nat → gS → Nat → Int32 → Int32 → Int32 → Option (Int32 × gS)
  | 0, _, _, _, _, _ => none
  | k + 1, S0, a0, v1, v2, v3 =>
    (fgR S0 8 9 (some a0)).bind fun x22 =>
    (fI S0 10 x22 v1).bind fun x24 =>
    if x24 ≤ v3 then
      (fgR S0 8 9 (some a0)).bind fun x29 =>
      (fI S0 10 x29 v1).bind fun x31 =>
      if x31 = 200 then
        (fpI S0 8 0 (some a0) 3).bind fun S69 =>
        some (0, S69)
      else
        (fgR S0 8 9 (some a0)).bind fun x36 =>
        (fI S0 10 x36 v1).bind fun x38 =>
        gLet ((200 * v1) + x38) fun x40 =>
        (fgR S0 8 8 (some a0)).bind fun x42 =>
        (faI S0 x42 x40 v2).bind fun S44 =>
        f_X8_submit_L117 gFuel S44 a0 v1 v2 x40 0
    else
      gDc S0 8 (some a0) fun a71 =>
      gBi (f_X8_isEntry S0 a71 ((200 * v1) + v3) v2) fun x75 S73 =>
      if x75 = 0 then
        gLet (v3 + 1) fun x79 =>
        f_X8_submit_L42 k S73 a0 v1 v2 x79
      else
        some (v3, S73)
set_option maxRecDepth 100000 in
set_option maxHeartbeats 4000000 in
theorem w_X8_submit_L42 {p : Program} {l : Launch} {e : Env} {s : State} {m : MethodId} {args : Array Value} {below : List Frame} {meth : Method} {c : Code} {D : gD} {S9 : gS} {res : Int32}  (hl : l.stackTraces = false) (X : gX D p l s m args meth c cX8_submit 5 RX8) (hr : meth.sig.returnType = (some .int)) : ∀ (k : Nat) (S0 : gS) (a0 : Nat) (v1 : Int32) (v2 : Int32) (v3 : Int32), f_X8_submit_L42 k S0 a0 v1 v2 v3 = some (res, S9) → gJ D p l e { frames := 1, cells := 0, slots := 0, locals := 24 } s m args below meth c (MQ below (gQ D (some (.int res)) S9) args s (0) (0) (gF D)) 5 (0) (0) S0 42 [(0, va_rf (some a0)), (1, .int v1), (2, .int v2), (3, .int v3)] [] := by
  intro k
  induction k with
  | zero => intro S0 a0 v1 v2 v3 h0; cases h0
  | succ k ih =>
    intro S0 a0 v1 v2 v3 h0
    have h0 := h0
    unfold f_X8_submit_L42 at h0
    refine g_iload_n (j := 3) X dX8_submit_42 rfl rfl ?_
    refine g_aload_n (j := 0) X dX8_submit_43 rfl rfl ?_
    obtain ⟨x22, ex22, h23⟩ := g_bd h0; clear h0
    refine g_fR (ci := 8) (k := 9) X rfl il8 (by decide) tw712 (by decide) (fun _ _ _ => rfl) ex22 dX8_submit_44 ?_
    clear ex22
    refine g_iload_n (j := 1) X dX8_submit_47 rfl rfl ?_
    obtain ⟨x24, ex24, h25⟩ := g_bd h23; clear h23
    refine g_iald X ex24 dX8_submit_48 ?_
    clear ex24
    refine g_icmp_ge (tgt := 75) X dX8_submit_49 (by decide) (fun c26 => ?_) (fun c26 => ?_)
    · have h27 := g_ip h25 c26; clear h25
      refine g_aload_n (j := 0) X dX8_submit_75 rfl rfl ?_
      obtain ⟨x29, ex29, h30⟩ := g_bd h27; clear h27
      refine g_fR (ci := 8) (k := 9) X rfl il8 (by decide) tw712 (by decide) (fun _ _ _ => rfl) ex29 dX8_submit_76 ?_
      clear ex29
      refine g_iload_n (j := 1) X dX8_submit_79 rfl rfl ?_
      obtain ⟨x31, ex31, h32⟩ := g_bd h30; clear h30
      refine g_iald X ex31 dX8_submit_80 ?_
      clear ex31
      refine g_sipush X dX8_submit_81 (v := 200) (by decide) ?_
      refine g_icmp_ne (tgt := 94) X dX8_submit_84 (by decide) (fun c33 => ?_) (fun c33 => ?_)
      · have h34 := g_in h32 c33; clear h32
        refine g_sipush X dX8_submit_94 (v := 200) (by decide) ?_
        refine g_iload_n (j := 1) X dX8_submit_97 rfl rfl ?_
        refine g_imul X dX8_submit_98 ?_
        refine g_aload_n (j := 0) X dX8_submit_99 rfl rfl ?_
        obtain ⟨x36, ex36, h37⟩ := g_bd h34; clear h34
        refine g_fR (ci := 8) (k := 9) X rfl il8 (by decide) tw712 (by decide) (fun _ _ _ => rfl) ex36 dX8_submit_100 ?_
        clear ex36
        refine g_iload_n (j := 1) X dX8_submit_103 rfl rfl ?_
        obtain ⟨x38, ex38, h39⟩ := g_bd h37; clear h37
        refine g_iald X ex38 dX8_submit_104 ?_
        clear ex38
        refine g_iadd X dX8_submit_105 ?_
        obtain ⟨x40, ex40, h41⟩ := g_let h39; clear h39; rw [← ex40]; clear ex40
        refine g_istore_n (i := 3) (lv' := [(3, .int x40), (0, va_rf (some a0)), (1, .int v1), (2, .int v2)]) X dX8_submit_106 rfl (by decide) rfl ?_
        refine g_aload_n (j := 1) X dX8_submit_107 rfl rfl ?_
        obtain ⟨x42, ex42, h43⟩ := g_bd h41; clear h41
        refine g_fR (ci := 8) (k := 8) X rfl il8 (by decide) tw711 (by decide) (fun _ _ _ => rfl) ex42 dX8_submit_108 ?_
        clear ex42
        refine g_iload_n (j := 0) X dX8_submit_111 rfl rfl ?_
        refine g_iload_n (j := 3) X dX8_submit_112 rfl rfl ?_
        obtain ⟨S44, eS44, h45⟩ := g_bd h43; clear h43
        refine g_iast X eS44 dX8_submit_113 ?_
        clear eS44
        refine g_iconst X dX8_submit_114 (v := 0) (by decide) ?_
        refine g_istore (i := 4) (lv' := [(4, .int 0), (3, .int x40), (0, va_rf (some a0)), (1, .int v1), (2, .int v2)]) X dX8_submit_115 (by decide) rfl ?_
        refine g_sub [2, 3, 4, 1, 0] rfl ?_
        exact w_X8_submit_L117 hl X hr gFuel S44 a0 v1 v2 x40 0 h45
      · have h35 := g_ip h32 c33; clear h32
        refine g_aload_n (j := 0) X dX8_submit_87 rfl rfl ?_
        refine g_iconst X dX8_submit_88 (v := 3) (by decide) ?_
        obtain ⟨S69, eS69, h70⟩ := g_bd h35; clear h35
        refine g_pI (ci := 8) (k := 0) X rfl il8 tyX8 tyX8_ok nmX8 (by decide) tw703 rfl (by decide) (fun _ _ _ => rfl) rfl eS69 dX8_submit_89 ?_
        clear eS69
        refine g_iconst X dX8_submit_92 (v := 0) (by decide) ?_
        obtain ⟨rfl, rfl⟩ := g_end h70
        exact g_iret X hr (by decide) (by decide) dX8_submit_93
    · have h28 := g_in h25 c26; clear h25
      refine g_aload_n (j := 0) X dX8_submit_52 rfl rfl ?_
      refine g_sipush X dX8_submit_53 (v := 200) (by decide) ?_
      refine g_iload_n (j := 1) X dX8_submit_56 rfl rfl ?_
      refine g_imul X dX8_submit_57 ?_
      refine g_iload_n (j := 3) X dX8_submit_58 rfl rfl ?_
      refine g_iadd X dX8_submit_59 ?_
      refine g_iload_n (j := 2) X dX8_submit_60 rfl rfl ?_
      obtain ⟨a71, ea71, ka71, h72⟩ := g_dc h28; clear h28
      obtain ⟨x75, S73, eS73, h74⟩ := g_bi h72; clear h72
      refine g_cV (n := 2) (As := [.int ((200 * v1) + v3), .int v2]) X (c_X8_isEntry hl D eS73) tw794 tw795 tw16 tw51 tw796 (by decide +kernel) rfl rfl ⟨Nat.le_of_ble_eq_true rfl, Nat.le_of_ble_eq_true rfl⟩ (ci := 8) rfl (by decide) ea71 ka71 rfl rfl (Nat.le_of_ble_eq_true rfl) dX8_submit_61 ⟨(by decide), (by decide)⟩ ?_
      clear eS73 ea71 ka71
      refine g_if_eq (tgt := 69) X dX8_submit_64 (by decide) (fun c76 => ?_) (fun c76 => ?_)
      · have h77 := g_ip h74 c76; clear h74
        obtain ⟨x79, ex79, h80⟩ := g_let h77; clear h77
        refine g_iinc (j := 3) (v := x79) (lv' := [(3, .int x79), (0, va_rf (some a0)), (1, .int v1), (2, .int v2)]) X dX8_submit_69 rfl (by rw [ex79]; rfl) (by decide) rfl ?_
        clear ex79
        refine g_goto (tgt := 42) X dX8_submit_72 (by decide) ?_
        refine g_sub [1, 2, 3, 0] rfl ?_
        exact ih S73 a0 v1 v2 x79 h80
      · have h78 := g_in h74 c76; clear h74
        refine g_iload_n (j := 3) X dX8_submit_67 rfl rfl ?_
        obtain ⟨rfl, rfl⟩ := g_end h78
        exact g_iret X hr (by decide) (by decide) dX8_submit_68
def f_X8_submit_B28 (S0 : gS) (a0 : Nat) (v1 : Int32) (v2 : Int32) (t0 : Int32) (t1 : Option Nat) : Option (Int32 × gS) :=
  (fpI S0 8 0 t1 t0).bind fun S15 =>
  (fgI S15 8 0 (some a0)).bind fun x17 =>
  if x17 ≤ 0 then
    f_X8_submit_L42 gFuel S15 a0 v1 v2 0
  else
    some (0, S15)
set_option maxRecDepth 100000 in
set_option maxHeartbeats 4000000 in
theorem w_X8_submit_B28 {p : Program} {l : Launch} {e : Env} {s : State} {m : MethodId} {args : Array Value} {below : List Frame} {meth : Method} {c : Code} {D : gD} {S9 : gS} {res : Int32}  (hl : l.stackTraces = false) (X : gX D p l s m args meth c cX8_submit 5 RX8) (hr : meth.sig.returnType = (some .int)) (S0 : gS) (a0 : Nat) (v1 : Int32) (v2 : Int32) (t0 : Int32) (t1 : Option Nat) (h0 : f_X8_submit_B28 S0 a0 v1 v2 t0 t1 = some (res, S9)) : gJ D p l e { frames := 1, cells := 0, slots := 0, locals := 24 } s m args below meth c (MQ below (gQ D (some (.int res)) S9) args s (0) (0) (gF D)) 5 (0) (0) S0 28 [(0, va_rf (some a0)), (1, .int v1), (2, .int v2)] [.int t0, va_rf t1] := by
  unfold f_X8_submit_B28 at h0
  obtain ⟨S15, eS15, h16⟩ := g_bd h0; clear h0
  refine g_pI (ci := 8) (k := 0) X rfl il8 tyX8 tyX8_ok nmX8 (by decide) tw703 rfl (by decide) (fun _ _ _ => rfl) rfl eS15 dX8_submit_28 ?_
  clear eS15
  refine g_aload_n (j := 0) X dX8_submit_31 rfl rfl ?_
  obtain ⟨x17, ex17, h18⟩ := g_bd h16; clear h16
  refine g_fI (ci := 8) (k := 0) X rfl il8 (by decide) tw703 (by decide) (fun _ _ _ => rfl) ex17 dX8_submit_32 ?_
  clear ex17
  refine g_if_le (tgt := 40) X dX8_submit_35 (by decide) (fun c19 => ?_) (fun c19 => ?_)
  · have h20 := g_ip h18 c19; clear h18
    refine g_iconst X dX8_submit_40 (v := 0) (by decide) ?_
    refine g_istore_n (i := 3) (lv' := [(3, .int 0), (0, va_rf (some a0)), (1, .int v1), (2, .int v2)]) X dX8_submit_41 rfl (by decide) rfl ?_
    refine g_sub [1, 2, 3, 0] rfl ?_
    exact w_X8_submit_L42 hl X hr gFuel S15 a0 v1 v2 0 h20
  · have h21 := g_in h18 c19; clear h18
    refine g_iconst X dX8_submit_38 (v := 0) (by decide) ?_
    obtain ⟨rfl, rfl⟩ := g_end h21
    exact g_iret X hr (by decide) (by decide) dX8_submit_39
def f_X8_submit (S0 : gS) (a0 : Nat) (v1 : Int32) : Option (Int32 × gS) :=
  gDc S0 8 (some a0) fun a1 =>
  gBi (f_X8_use S0 a1) fun x5 S3 =>
  gBi (f_X8_isLog S3 v1) fun x8 S6 =>
  if x8 = 0 then
    f_X8_submit_B28 S6 a0 v1 x5 1 (some a0)
  else
    if x5 ≤ 120 then
      f_X8_submit_B28 S6 a0 v1 x5 0 (some a0)
    else
      f_X8_submit_B28 S6 a0 v1 x5 2 (some a0)
set_option maxRecDepth 100000 in
set_option maxHeartbeats 4000000 in
theorem c_X8_submit {l : Launch} (hl : l.stackTraces = false) (D : gD)  {S0 S9 : gS} {a0 : Nat} {v1 : Int32} {res : Int32} (h0 : f_X8_submit S0 a0 v1 = some (res, S9)) : Met l yX8_submit (gws yX8_submit cX8_submit 5 (some .int)) { frames := 1, cells := 0, slots := 0, locals := 24 } (gPc D S0 [.ref a0, .int v1]) (gQ D (some (.int res)) S9) (0) (0) (gF D) := by
  refine g_met (lv := [(0, va_rf (some a0)), (1, .int v1)]) hl (by decide) (Nat.le_of_ble_eq_true rfl) rfl (fun p e s m args below meth c X hr hn => ?_)
  have X : gX D p l s m args meth c cX8_submit 5 RX8 := X
  unfold f_X8_submit at h0
  refine g_aload_n (j := 0) X dX8_submit_0 rfl rfl ?_
  obtain ⟨a1, ea1, ka1, h2⟩ := g_dc h0; clear h0
  obtain ⟨x5, S3, eS3, h4⟩ := g_bi h2; clear h2
  refine g_cV (n := 0) (As := []) X (c_X8_use hl D eS3) tw784 tw785 tw15 tw51 tw786 (by decide +kernel) rfl rfl ⟨Nat.le_of_ble_eq_true rfl, Nat.le_of_ble_eq_true rfl⟩ (ci := 8) rfl (by decide) ea1 ka1 rfl rfl (Nat.le_of_ble_eq_true rfl) dX8_submit_1 ⟨(by decide), (by decide)⟩ ?_
  clear eS3 ea1 ka1
  refine g_istore_n (i := 2) (lv' := [(2, .int x5), (0, va_rf (some a0)), (1, .int v1)]) X dX8_submit_4 rfl (by decide) rfl ?_
  refine g_aload_n (j := 1) X dX8_submit_5 rfl rfl ?_
  refine g_iload_n (j := 2) X dX8_submit_6 rfl rfl ?_
  obtain ⟨x8, S6, eS6, h7⟩ := g_bi h4; clear h4
  refine g_cS (n := 1) (As := [.int v1]) X (c_X8_isLog hl D eS6) tw787 tw788 tw51 tw789 (by decide +kernel) rfl rfl ⟨Nat.le_of_ble_eq_true rfl, Nat.le_of_ble_eq_true rfl⟩ rfl rfl (Nat.le_of_ble_eq_true rfl) dX8_submit_7 ⟨(by decide), (by decide)⟩ ?_
  clear eS6
  refine g_if_ne (tgt := 17) X dX8_submit_10 (by decide) (fun c9 => ?_) (fun c9 => ?_)
  · have h10 := g_in h7 c9; clear h7
    refine g_iload_n (j := 0) X dX8_submit_17 rfl rfl ?_
    refine g_bipush X dX8_submit_18 (v := 120) (by decide) ?_
    refine g_icmp_le (tgt := 27) X dX8_submit_20 (by decide) (fun c12 => ?_) (fun c12 => ?_)
    · have h13 := g_ip h10 c12; clear h10
      refine g_iconst X dX8_submit_27 (v := 0) (by decide) ?_
      refine g_sub [1, 2, 0] rfl ?_
      exact w_X8_submit_B28 hl X hr S6 a0 v1 x5 0 (some a0) h13
    · have h14 := g_in h10 c12; clear h10
      refine g_iconst X dX8_submit_23 (v := 2) (by decide) ?_
      refine g_goto (tgt := 28) X dX8_submit_24 (by decide) ?_
      refine g_sub [1, 2, 0] rfl ?_
      exact w_X8_submit_B28 hl X hr S6 a0 v1 x5 2 (some a0) h14
  · have h11 := g_ip h7 c9; clear h7
    refine g_iconst X dX8_submit_13 (v := 1) (by decide) ?_
    refine g_goto (tgt := 28) X dX8_submit_14 (by decide) ?_
    refine g_sub [1, 2, 0] rfl ?_
    exact w_X8_submit_B28 hl X hr S6 a0 v1 x5 1 (some a0) h11
def f_X8_headByte (S0 : gS) (a0 : Nat) (v1 : Int32) (v2 : Int64) (v4 : Int64) : Option (Int32 × gS) :=
  if 8 ≤ v1 then
    if 16 ≤ v1 then
      gLet (v1 - 16) fun x7 =>
      (fgR S0 8 21 (some a0)).bind fun x9 =>
      (fI S0 10 x9 (x7 / 4)).bind fun x11 =>
      some ((x11 >>> ((24 - (8 * (x7 - x7 / 4 * 4))) &&& 31)) &&& 255, S0)
    else
      some (((v4 >>> ((56 - (8 * (v1 - 8))).toInt64 &&& 63)).toInt32) &&& 255, S0)
  else
    some (((v2 >>> ((56 - (8 * v1)).toInt64 &&& 63)).toInt32) &&& 255, S0)
set_option maxRecDepth 100000 in
set_option maxHeartbeats 4000000 in
theorem c_X8_headByte {l : Launch} (hl : l.stackTraces = false) (D : gD)  {S0 S9 : gS} {a0 : Nat} {v1 : Int32} {v2 : Int64} {v4 : Int64} {res : Int32} (h0 : f_X8_headByte S0 a0 v1 v2 v4 = some (res, S9)) : Met l yX8_headByte (gws yX8_headByte cX8_headByte 7 (some .int)) { frames := 0, cells := 0, slots := 0, locals := 0 } (gPc D S0 [.ref a0, .int v1, .long v2, .long v4]) (gQ D (some (.int res)) S9) (0) (0) (gF D) := by
  refine g_met (lv := [(0, va_rf (some a0)), (1, .int v1), (2, .long v2), (4, .long v4)]) hl (by decide) (Nat.le_of_ble_eq_true rfl) rfl (fun p e s m args below meth c X hr hn => ?_)
  have X : gX D p l s m args meth c cX8_headByte 7 RX8 := X
  unfold f_X8_headByte at h0
  refine g_iload_n (j := 1) X dX8_headByte_0 rfl rfl ?_
  refine g_bipush X dX8_headByte_1 (v := 8) (by decide) ?_
  refine g_icmp_ge (tgt := 21) X dX8_headByte_3 (by decide) (fun c1 => ?_) (fun c1 => ?_)
  · have h2 := g_ip h0 c1; clear h0
    refine g_iload_n (j := 1) X dX8_headByte_21 rfl rfl ?_
    refine g_bipush X dX8_headByte_22 (v := 16) (by decide) ?_
    refine g_icmp_ge (tgt := 46) X dX8_headByte_24 (by decide) (fun c4 => ?_) (fun c4 => ?_)
    · have h5 := g_ip h2 c4; clear h2
      refine g_iload_n (j := 1) X dX8_headByte_46 rfl rfl ?_
      refine g_bipush X dX8_headByte_47 (v := 16) (by decide) ?_
      refine g_isub X dX8_headByte_49 ?_
      obtain ⟨x7, ex7, h8⟩ := g_let h5; clear h5; rw [← ex7]; clear ex7
      refine g_istore (i := 6) (lv' := [(6, .int x7), (0, va_rf (some a0)), (1, .int v1), (2, .long v2), (4, .long v4)]) X dX8_headByte_50 (by decide) rfl ?_
      refine g_aload_n (j := 1) X dX8_headByte_52 rfl rfl ?_
      obtain ⟨x9, ex9, h10⟩ := g_bd h8; clear h8
      refine g_fR (ci := 8) (k := 21) X rfl il8 (by decide) tw724 (by decide) (fun _ _ _ => rfl) ex9 dX8_headByte_53 ?_
      clear ex9
      refine g_iload (j := 0) X dX8_headByte_56 rfl ?_
      refine g_iconst X dX8_headByte_58 (v := 4) (by decide) ?_
      refine g_idiv X dX8_headByte_59 (by decide) ?_
      obtain ⟨x11, ex11, h12⟩ := g_bd h10; clear h10
      refine g_iald X ex11 dX8_headByte_60 ?_
      clear ex11
      refine g_bipush X dX8_headByte_61 (v := 24) (by decide) ?_
      refine g_bipush X dX8_headByte_63 (v := 8) (by decide) ?_
      refine g_iload (j := 0) X dX8_headByte_65 rfl ?_
      refine g_iconst X dX8_headByte_67 (v := 4) (by decide) ?_
      refine g_irem X dX8_headByte_68 (by decide) ?_
      refine g_imul X dX8_headByte_69 ?_
      refine g_isub X dX8_headByte_70 ?_
      refine g_ishr X dX8_headByte_71 ?_
      refine g_sipush X dX8_headByte_72 (v := 255) (by decide) ?_
      refine g_iand X dX8_headByte_75 ?_
      obtain ⟨rfl, rfl⟩ := g_end h12
      exact g_iret X hr (by decide) (by decide) dX8_headByte_76
    · have h6 := g_in h2 c4; clear h2
      refine g_lload (j := 3) X dX8_headByte_27 rfl ?_
      refine g_bipush X dX8_headByte_29 (v := 56) (by decide) ?_
      refine g_bipush X dX8_headByte_31 (v := 8) (by decide) ?_
      refine g_iload_n (j := 1) X dX8_headByte_33 rfl rfl ?_
      refine g_bipush X dX8_headByte_34 (v := 8) (by decide) ?_
      refine g_isub X dX8_headByte_36 ?_
      refine g_imul X dX8_headByte_37 ?_
      refine g_isub X dX8_headByte_38 ?_
      refine g_lshr X dX8_headByte_39 ?_
      refine g_l2i X dX8_headByte_40 ?_
      refine g_sipush X dX8_headByte_41 (v := 255) (by decide) ?_
      refine g_iand X dX8_headByte_44 ?_
      obtain ⟨rfl, rfl⟩ := g_end h6
      exact g_iret X hr (by decide) (by decide) dX8_headByte_45
  · have h3 := g_in h0 c1; clear h0
    refine g_lload_n (j := 2) X dX8_headByte_6 rfl rfl ?_
    refine g_bipush X dX8_headByte_7 (v := 56) (by decide) ?_
    refine g_bipush X dX8_headByte_9 (v := 8) (by decide) ?_
    refine g_iload_n (j := 1) X dX8_headByte_11 rfl rfl ?_
    refine g_imul X dX8_headByte_12 ?_
    refine g_isub X dX8_headByte_13 ?_
    refine g_lshr X dX8_headByte_14 ?_
    refine g_l2i X dX8_headByte_15 ?_
    refine g_sipush X dX8_headByte_16 (v := 255) (by decide) ?_
    refine g_iand X dX8_headByte_19 ?_
    obtain ⟨rfl, rfl⟩ := g_end h3
    exact g_iret X hr (by decide) (by decide) dX8_headByte_20
def f_X8_cut_L140 : Nat → gS → Nat → Nat → Nat → Int32 → Int64 → Int32 → Int32 → Option (Int32 × gS)
  | 0, _, _, _, _, _, _, _, _ => none
  | k + 1, S0, cu, su, a0, v1, v2, v4, v5 =>
    gGd (cu ≤ 410 ∧ su ≤ 3280) <|
    if 80 ≤ v5 then
      (fgR S0 8 13 (some a0)).bind fun x60 =>
      (fI S0 10 x60 v1).bind fun x62 =>
      (faI S0 x60 v1 (x62 + 1)).bind fun S64 =>
      (fgR S64 8 13 (some a0)).bind fun x66 =>
      (fI S64 10 x66 v1).bind fun x68 =>
      some (x68 - 1, S64)
    else
      (fgR S0 8 11 (some a0)).bind fun x70 =>
      (fgR S0 8 10 (some a0)).bind fun x72 =>
      (fI S0 10 x72 v1).bind fun x74 =>
      gDc S0 8 (some a0) fun a76 =>
      gBi (f_X8_headByte S0 a76 v5 v2 x74.toInt64) fun x80 S78 =>
      (faI S78 x70 (v4 + v5) x80).bind fun S81 =>
      gLet (v5 + 1) fun x83 =>
      f_X8_cut_L140 k S81 cu su a0 v1 v2 v4 x83
set_option maxRecDepth 100000 in
set_option maxHeartbeats 4000000 in
theorem w_X8_cut_L140 {p : Program} {l : Launch} {e : Env} {s : State} {m : MethodId} {args : Array Value} {below : List Frame} {meth : Method} {c : Code} {D : gD} {S9 : gS} {res : Int32}  (hl : l.stackTraces = false) (X : gX D p l s m args meth c cX8_cut 6 RX8) (hr : meth.sig.returnType = (some .int)) : ∀ (k : Nat) (S0 : gS) (cu su : Nat) (a0 : Nat) (v1 : Int32) (v2 : Int64) (v4 : Int32) (v5 : Int32), f_X8_cut_L140 k S0 cu su a0 v1 v2 v4 v5 = some (res, S9) → gJ D p l e { frames := 19, cells := 410, slots := 3280, locals := 475 } s m args below meth c (MQ below (gQ D (some (.int res)) S9) args s (410) (3280) (gF D)) 6 (cu) (su) S0 140 [(0, va_rf (some a0)), (1, .int v1), (2, .long v2), (4, .int v4), (5, .int v5)] [] := by
  intro k
  induction k with
  | zero => intro S0 cu su a0 v1 v2 v4 v5 h0; cases h0
  | succ k ih =>
    intro S0 cu su a0 v1 v2 v4 v5 h0
    have h0 := h0
    unfold f_X8_cut_L140 at h0
    obtain ⟨gu, hu⟩ := g_gd h0; clear h0
    refine g_iload (j := 4) X dX8_cut_140 rfl ?_
    refine g_bipush X dX8_cut_142 (v := 80) (by decide) ?_
    refine g_icmp_ge (tgt := 177) X dX8_cut_144 (by decide) (fun c57 => ?_) (fun c57 => ?_)
    · have h58 := g_ip hu c57; clear hu
      refine g_aload_n (j := 0) X dX8_cut_177 rfl rfl ?_
      obtain ⟨x60, ex60, h61⟩ := g_bd h58; clear h58
      refine g_fR (ci := 8) (k := 13) X rfl il8 (by decide) tw716 (by decide) (fun _ _ _ => rfl) ex60 dX8_cut_178 ?_
      clear ex60
      refine g_iload_n (j := 1) X dX8_cut_181 rfl rfl ?_
      refine g_dup2 X dX8_cut_182 rfl (g_rfc _) ?_
      obtain ⟨x62, ex62, h63⟩ := g_bd h61; clear h61
      refine g_iald X ex62 dX8_cut_183 ?_
      clear ex62
      refine g_iconst X dX8_cut_184 (v := 1) (by decide) ?_
      refine g_iadd X dX8_cut_185 ?_
      obtain ⟨S64, eS64, h65⟩ := g_bd h63; clear h63
      refine g_iast X eS64 dX8_cut_186 ?_
      clear eS64
      refine g_aload_n (j := 0) X dX8_cut_187 rfl rfl ?_
      obtain ⟨x66, ex66, h67⟩ := g_bd h65; clear h65
      refine g_fR (ci := 8) (k := 13) X rfl il8 (by decide) tw716 (by decide) (fun _ _ _ => rfl) ex66 dX8_cut_188 ?_
      clear ex66
      refine g_iload_n (j := 1) X dX8_cut_191 rfl rfl ?_
      obtain ⟨x68, ex68, h69⟩ := g_bd h67; clear h67
      refine g_iald X ex68 dX8_cut_192 ?_
      clear ex68
      refine g_iconst X dX8_cut_193 (v := 1) (by decide) ?_
      refine g_isub X dX8_cut_194 ?_
      obtain ⟨rfl, rfl⟩ := g_end h69
      exact g_iret X hr gu.1 gu.2 dX8_cut_195
    · have h59 := g_in hu c57; clear hu
      refine g_aload_n (j := 0) X dX8_cut_147 rfl rfl ?_
      obtain ⟨x70, ex70, h71⟩ := g_bd h59; clear h59
      refine g_fR (ci := 8) (k := 11) X rfl il8 (by decide) tw714 (by decide) (fun _ _ _ => rfl) ex70 dX8_cut_148 ?_
      clear ex70
      refine g_iload (j := 3) X dX8_cut_151 rfl ?_
      refine g_iload (j := 4) X dX8_cut_153 rfl ?_
      refine g_iadd X dX8_cut_155 ?_
      refine g_aload_n (j := 0) X dX8_cut_156 rfl rfl ?_
      refine g_iload (j := 4) X dX8_cut_157 rfl ?_
      refine g_lload_n (j := 2) X dX8_cut_159 rfl rfl ?_
      refine g_aload_n (j := 0) X dX8_cut_160 rfl rfl ?_
      obtain ⟨x72, ex72, h73⟩ := g_bd h71; clear h71
      refine g_fR (ci := 8) (k := 10) X rfl il8 (by decide) tw713 (by decide) (fun _ _ _ => rfl) ex72 dX8_cut_161 ?_
      clear ex72
      refine g_iload_n (j := 1) X dX8_cut_164 rfl rfl ?_
      obtain ⟨x74, ex74, h75⟩ := g_bd h73; clear h73
      refine g_iald X ex74 dX8_cut_165 ?_
      clear ex74
      refine g_i2l X dX8_cut_166 ?_
      obtain ⟨a76, ea76, ka76, h77⟩ := g_dc h75; clear h75
      obtain ⟨x80, S78, eS78, h79⟩ := g_bi h77; clear h77
      refine g_cV (n := 3) (As := [.int v5, .long v2, .long x74.toInt64]) X (c_X8_headByte hl D eS78) tw853 tw854 tw27 tw51 tw855 (by decide +kernel) rfl rfl ⟨Nat.le_of_ble_eq_true rfl, Nat.le_of_ble_eq_true rfl⟩ (ci := 8) rfl (by decide) ea76 ka76 rfl rfl (by simp [g_rfc, g_ci, g_cj, g_cr]) dX8_cut_167 ⟨gu.1, gu.2⟩ ?_
      clear eS78 ea76 ka76
      obtain ⟨S81, eS81, h82⟩ := g_bd h79; clear h79
      refine g_iast X eS81 dX8_cut_170 ?_
      clear eS81
      obtain ⟨x83, ex83, h84⟩ := g_let h82; clear h82
      refine g_iinc (j := 4) (v := x83) (lv' := [(5, .int x83), (0, va_rf (some a0)), (1, .int v1), (2, .long v2), (4, .int v4)]) X dX8_cut_171 rfl (by rw [ex83]; rfl) (by decide) rfl ?_
      clear ex83
      refine g_goto (tgt := 140) X dX8_cut_174 (by decide) ?_
      refine g_sub [1, 2, 3, 4, 0] rfl ?_
      exact ih S81 cu su a0 v1 v2 v4 x83 h84
def f_X8_cut_B58 (S0 : gS) (cu su : Nat) (a0 : Nat) (v1 : Int32) (v2 : Int64) (t0 : Int32) (t1 : Option Nat) : Option (Int32 × gS) :=
  gGd (cu ≤ 410 ∧ su ≤ 3280) <|
  (fpI S0 8 0 t1 t0).bind fun S10 =>
  (fgI S10 8 0 (some a0)).bind fun x12 =>
  if x12 ≤ 0 then
    (fgR S10 8 10 (some a0)).bind fun x17 =>
    (fgR S10 8 9 (some a0)).bind fun x19 =>
    (fI S10 10 x19 v1).bind fun x21 =>
    (faI S10 x17 v1 x21).bind fun S23 =>
    (fgR S23 8 12 (some a0)).bind fun x25 =>
    (faL S23 x25 v1 v2).bind fun S27 =>
    (fgR S27 8 10 (some a0)).bind fun x29 =>
    (fI S27 10 x29 v1).bind fun x31 =>
    gGd (cu + (gRb x31) ≤ 410 ∧ su + (8 * gRb x31) ≤ 3280) <|
    (f_X8_root 10 S27 (some a0) v1 0 x31 4).bind fun S35 =>
    gDc S35 8 (some a0) fun a37 =>
    (f_X8_copy S35 a37 4 0).bind fun S39 =>
    (fgR S39 8 10 (some a0)).bind fun x41 =>
    (fI S39 10 x41 v1).bind fun x43 =>
    gDc S39 8 (some a0) fun a45 =>
    gGd (cu + (gRb x31) + 3 ≤ 410 ∧ su + (8 * gRb x31) + 24 ≤ 3280) <|
    (f_X8_sealOf S39 a45 v1 v2 x43.toInt64).bind fun S49 =>
    (fgR S49 8 13 (some a0)).bind fun x51 =>
    (fI S49 10 x51 v1).bind fun x53 =>
    gLet (80 * ((40 * v1) + x53)) fun x55 =>
    f_X8_cut_L140 gFuel S49 (cu + (gRb x31) + 3) (su + (8 * gRb x31) + 24) a0 v1 v2 x55 0
  else
    some (0, S10)
set_option maxRecDepth 100000 in
set_option maxHeartbeats 4000000 in
theorem w_X8_cut_B58 {p : Program} {l : Launch} {e : Env} {s : State} {m : MethodId} {args : Array Value} {below : List Frame} {meth : Method} {c : Code} {D : gD} {S9 : gS} {res : Int32}  (hl : l.stackTraces = false) (X : gX D p l s m args meth c cX8_cut 6 RX8) (hr : meth.sig.returnType = (some .int)) (S0 : gS) (cu su : Nat) (a0 : Nat) (v1 : Int32) (v2 : Int64) (t0 : Int32) (t1 : Option Nat) (h0 : f_X8_cut_B58 S0 cu su a0 v1 v2 t0 t1 = some (res, S9)) : gJ D p l e { frames := 19, cells := 410, slots := 3280, locals := 475 } s m args below meth c (MQ below (gQ D (some (.int res)) S9) args s (410) (3280) (gF D)) 6 (cu) (su) S0 58 [(0, va_rf (some a0)), (1, .int v1), (2, .long v2)] [.int t0, va_rf t1] := by
  unfold f_X8_cut_B58 at h0
  obtain ⟨gu, hu⟩ := g_gd h0; clear h0
  obtain ⟨S10, eS10, h11⟩ := g_bd hu; clear hu
  refine g_pI (ci := 8) (k := 0) X rfl il8 tyX8 tyX8_ok nmX8 (by decide) tw703 rfl (by decide) (fun _ _ _ => rfl) rfl eS10 dX8_cut_58 ?_
  clear eS10
  refine g_aload_n (j := 0) X dX8_cut_61 rfl rfl ?_
  obtain ⟨x12, ex12, h13⟩ := g_bd h11; clear h11
  refine g_fI (ci := 8) (k := 0) X rfl il8 (by decide) tw703 (by decide) (fun _ _ _ => rfl) ex12 dX8_cut_62 ?_
  clear ex12
  refine g_if_le (tgt := 70) X dX8_cut_65 (by decide) (fun c14 => ?_) (fun c14 => ?_)
  · have h15 := g_ip h13 c14; clear h13
    refine g_aload_n (j := 0) X dX8_cut_70 rfl rfl ?_
    obtain ⟨x17, ex17, h18⟩ := g_bd h15; clear h15
    refine g_fR (ci := 8) (k := 10) X rfl il8 (by decide) tw713 (by decide) (fun _ _ _ => rfl) ex17 dX8_cut_71 ?_
    clear ex17
    refine g_iload_n (j := 1) X dX8_cut_74 rfl rfl ?_
    refine g_aload_n (j := 0) X dX8_cut_75 rfl rfl ?_
    obtain ⟨x19, ex19, h20⟩ := g_bd h18; clear h18
    refine g_fR (ci := 8) (k := 9) X rfl il8 (by decide) tw712 (by decide) (fun _ _ _ => rfl) ex19 dX8_cut_76 ?_
    clear ex19
    refine g_iload_n (j := 1) X dX8_cut_79 rfl rfl ?_
    obtain ⟨x21, ex21, h22⟩ := g_bd h20; clear h20
    refine g_iald X ex21 dX8_cut_80 ?_
    clear ex21
    obtain ⟨S23, eS23, h24⟩ := g_bd h22; clear h22
    refine g_iast X eS23 dX8_cut_81 ?_
    clear eS23
    refine g_aload_n (j := 0) X dX8_cut_82 rfl rfl ?_
    obtain ⟨x25, ex25, h26⟩ := g_bd h24; clear h24
    refine g_fR (ci := 8) (k := 12) X rfl il8 (by decide) tw715 (by decide) (fun _ _ _ => rfl) ex25 dX8_cut_83 ?_
    clear ex25
    refine g_iload_n (j := 1) X dX8_cut_86 rfl rfl ?_
    refine g_lload_n (j := 2) X dX8_cut_87 rfl rfl ?_
    obtain ⟨S27, eS27, h28⟩ := g_bd h26; clear h26
    refine g_last X eS27 dX8_cut_88 ?_
    clear eS27
    refine g_aload_n (j := 0) X dX8_cut_89 rfl rfl ?_
    refine g_iload_n (j := 1) X dX8_cut_90 rfl rfl ?_
    refine g_iconst X dX8_cut_91 (v := 0) (by decide) ?_
    refine g_aload_n (j := 0) X dX8_cut_92 rfl rfl ?_
    obtain ⟨x29, ex29, h30⟩ := g_bd h28; clear h28
    refine g_fR (ci := 8) (k := 10) X rfl il8 (by decide) tw713 (by decide) (fun _ _ _ => rfl) ex29 dX8_cut_93 ?_
    clear ex29
    refine g_iload_n (j := 1) X dX8_cut_96 rfl rfl ?_
    obtain ⟨x31, ex31, h32⟩ := g_bd h30; clear h30
    refine g_iald X ex31 dX8_cut_97 ?_
    clear ex31
    refine g_iconst X dX8_cut_98 (v := 4) (by decide) ?_
    obtain ⟨g33, h34⟩ := g_gd h32; clear h32
    obtain ⟨S35, eS35, h36⟩ := g_bd h34; clear h34
    refine g_cS (n := 5) (As := [va_rf (some a0), .int v1, .int 0, .int x31, .int 4]) X (c_X8_root hl D 10 eS35) tw801 tw802 tw51 tw803 (by decide +kernel) rfl rfl ⟨Nat.le_of_ble_eq_true rfl, Nat.le_of_ble_eq_true rfl⟩ rfl rfl (Nat.le_of_ble_eq_true rfl) dX8_cut_99 ⟨g33.1, g33.2⟩ ?_
    clear eS35
    refine g_aload_n (j := 0) X dX8_cut_102 rfl rfl ?_
    refine g_iconst X dX8_cut_103 (v := 4) (by decide) ?_
    refine g_iconst X dX8_cut_104 (v := 0) (by decide) ?_
    obtain ⟨a37, ea37, ka37, h38⟩ := g_dc h36; clear h36
    obtain ⟨S39, eS39, h40⟩ := g_bd h38; clear h38
    refine g_cV (n := 2) (As := [.int 4, .int 0]) X (c_X8_copy hl D eS39) tw844 tw845 tw24 tw51 tw846 (by decide +kernel) rfl rfl ⟨Nat.le_of_ble_eq_true rfl, Nat.le_of_ble_eq_true rfl⟩ (ci := 8) rfl (by decide) ea37 ka37 rfl rfl (Nat.le_of_ble_eq_true rfl) dX8_cut_105 ⟨g33.1, g33.2⟩ ?_
    clear eS39 ea37 ka37
    refine g_aload_n (j := 0) X dX8_cut_108 rfl rfl ?_
    refine g_iload_n (j := 1) X dX8_cut_109 rfl rfl ?_
    refine g_lload_n (j := 2) X dX8_cut_110 rfl rfl ?_
    refine g_aload_n (j := 0) X dX8_cut_111 rfl rfl ?_
    obtain ⟨x41, ex41, h42⟩ := g_bd h40; clear h40
    refine g_fR (ci := 8) (k := 10) X rfl il8 (by decide) tw713 (by decide) (fun _ _ _ => rfl) ex41 dX8_cut_112 ?_
    clear ex41
    refine g_iload_n (j := 1) X dX8_cut_115 rfl rfl ?_
    obtain ⟨x43, ex43, h44⟩ := g_bd h42; clear h42
    refine g_iald X ex43 dX8_cut_116 ?_
    clear ex43
    refine g_i2l X dX8_cut_117 ?_
    obtain ⟨a45, ea45, ka45, h46⟩ := g_dc h44; clear h44
    obtain ⟨g47, h48⟩ := g_gd h46; clear h46
    obtain ⟨S49, eS49, h50⟩ := g_bd h48; clear h48
    refine g_cV (n := 3) (As := [.int v1, .long v2, .long x43.toInt64]) X (c_X8_sealOf hl D eS49) tw847 tw848 tw25 tw51 tw849 (by decide +kernel) rfl rfl ⟨Nat.le_of_ble_eq_true rfl, Nat.le_of_ble_eq_true rfl⟩ (ci := 8) rfl (by decide) ea45 ka45 rfl rfl (Nat.le_of_ble_eq_true rfl) dX8_cut_118 ⟨g47.1, g47.2⟩ ?_
    clear eS49 ea45 ka45
    refine g_bipush X dX8_cut_121 (v := 80) (by decide) ?_
    refine g_bipush X dX8_cut_123 (v := 40) (by decide) ?_
    refine g_iload_n (j := 1) X dX8_cut_125 rfl rfl ?_
    refine g_imul X dX8_cut_126 ?_
    refine g_aload_n (j := 0) X dX8_cut_127 rfl rfl ?_
    obtain ⟨x51, ex51, h52⟩ := g_bd h50; clear h50
    refine g_fR (ci := 8) (k := 13) X rfl il8 (by decide) tw716 (by decide) (fun _ _ _ => rfl) ex51 dX8_cut_128 ?_
    clear ex51
    refine g_iload_n (j := 1) X dX8_cut_131 rfl rfl ?_
    obtain ⟨x53, ex53, h54⟩ := g_bd h52; clear h52
    refine g_iald X ex53 dX8_cut_132 ?_
    clear ex53
    refine g_iadd X dX8_cut_133 ?_
    refine g_imul X dX8_cut_134 ?_
    obtain ⟨x55, ex55, h56⟩ := g_let h54; clear h54; rw [← ex55]; clear ex55
    refine g_istore (i := 4) (lv' := [(4, .int x55), (0, va_rf (some a0)), (1, .int v1), (2, .long v2)]) X dX8_cut_135 (by decide) rfl ?_
    refine g_iconst X dX8_cut_137 (v := 0) (by decide) ?_
    refine g_istore (i := 5) (lv' := [(5, .int 0), (4, .int x55), (0, va_rf (some a0)), (1, .int v1), (2, .long v2)]) X dX8_cut_138 (by decide) rfl ?_
    refine g_sub [2, 3, 4, 1, 0] rfl ?_
    exact w_X8_cut_L140 hl X hr gFuel S49 (cu + (gRb x31) + 3) (su + (8 * gRb x31) + 24) a0 v1 v2 x55 0 h56
  · have h16 := g_in h13 c14; clear h13
    refine g_iconst X dX8_cut_68 (v := 0) (by decide) ?_
    obtain ⟨rfl, rfl⟩ := g_end h16
    exact g_iret X hr gu.1 gu.2 dX8_cut_69
def f_X8_cut_B38 (S0 : gS) (cu su : Nat) (a0 : Nat) (v1 : Int32) (v2 : Int64) (t0 : Option Nat) : Option (Int32 × gS) :=
  gGd (cu ≤ 410 ∧ su ≤ 3280) <|
  f_X8_cut_B58 S0 cu su a0 v1 v2 2 t0
set_option maxRecDepth 100000 in
set_option maxHeartbeats 4000000 in
theorem w_X8_cut_B38 {p : Program} {l : Launch} {e : Env} {s : State} {m : MethodId} {args : Array Value} {below : List Frame} {meth : Method} {c : Code} {D : gD} {S9 : gS} {res : Int32}  (hl : l.stackTraces = false) (X : gX D p l s m args meth c cX8_cut 6 RX8) (hr : meth.sig.returnType = (some .int)) (S0 : gS) (cu su : Nat) (a0 : Nat) (v1 : Int32) (v2 : Int64) (t0 : Option Nat) (h0 : f_X8_cut_B38 S0 cu su a0 v1 v2 t0 = some (res, S9)) : gJ D p l e { frames := 19, cells := 410, slots := 3280, locals := 475 } s m args below meth c (MQ below (gQ D (some (.int res)) S9) args s (410) (3280) (gF D)) 6 (cu) (su) S0 38 [(0, va_rf (some a0)), (1, .int v1), (2, .long v2)] [va_rf t0] := by
  unfold f_X8_cut_B38 at h0
  obtain ⟨gu, hu⟩ := g_gd h0; clear h0
  refine g_iconst X dX8_cut_38 (v := 2) (by decide) ?_
  refine g_goto (tgt := 58) X dX8_cut_39 (by decide) ?_
  refine g_sub [0, 1, 2] rfl ?_
  exact w_X8_cut_B58 hl X hr S0 cu su a0 v1 v2 2 t0 hu
def f_X8_cut_B42 (S0 : gS) (cu su : Nat) (a0 : Nat) (v1 : Int32) (v2 : Int64) (t0 : Option Nat) : Option (Int32 × gS) :=
  gGd (cu ≤ 410 ∧ su ≤ 3280) <|
  (fgR S0 8 13 (some a0)).bind fun x92 =>
  (fI S0 10 x92 v1).bind fun x94 =>
  if x94 = 40 then
    f_X8_cut_B58 S0 cu su a0 v1 v2 3 t0
  else
    f_X8_cut_B58 S0 cu su a0 v1 v2 0 t0
set_option maxRecDepth 100000 in
set_option maxHeartbeats 4000000 in
theorem w_X8_cut_B42 {p : Program} {l : Launch} {e : Env} {s : State} {m : MethodId} {args : Array Value} {below : List Frame} {meth : Method} {c : Code} {D : gD} {S9 : gS} {res : Int32}  (hl : l.stackTraces = false) (X : gX D p l s m args meth c cX8_cut 6 RX8) (hr : meth.sig.returnType = (some .int)) (S0 : gS) (cu su : Nat) (a0 : Nat) (v1 : Int32) (v2 : Int64) (t0 : Option Nat) (h0 : f_X8_cut_B42 S0 cu su a0 v1 v2 t0 = some (res, S9)) : gJ D p l e { frames := 19, cells := 410, slots := 3280, locals := 475 } s m args below meth c (MQ below (gQ D (some (.int res)) S9) args s (410) (3280) (gF D)) 6 (cu) (su) S0 42 [(0, va_rf (some a0)), (1, .int v1), (2, .long v2)] [va_rf t0] := by
  unfold f_X8_cut_B42 at h0
  obtain ⟨gu, hu⟩ := g_gd h0; clear h0
  refine g_aload_n (j := 0) X dX8_cut_42 rfl rfl ?_
  obtain ⟨x92, ex92, h93⟩ := g_bd hu; clear hu
  refine g_fR (ci := 8) (k := 13) X rfl il8 (by decide) tw716 (by decide) (fun _ _ _ => rfl) ex92 dX8_cut_43 ?_
  clear ex92
  refine g_iload_n (j := 1) X dX8_cut_46 rfl rfl ?_
  obtain ⟨x94, ex94, h95⟩ := g_bd h93; clear h93
  refine g_iald X ex94 dX8_cut_47 ?_
  clear ex94
  refine g_bipush X dX8_cut_48 (v := 40) (by decide) ?_
  refine g_icmp_ne (tgt := 57) X dX8_cut_50 (by decide) (fun c96 => ?_) (fun c96 => ?_)
  · have h97 := g_in h95 c96; clear h95
    refine g_iconst X dX8_cut_57 (v := 0) (by decide) ?_
    refine g_sub [0, 1, 2] rfl ?_
    exact w_X8_cut_B58 hl X hr S0 cu su a0 v1 v2 0 t0 h97
  · have h98 := g_ip h95 c96; clear h95
    refine g_iconst X dX8_cut_53 (v := 3) (by decide) ?_
    refine g_goto (tgt := 58) X dX8_cut_54 (by decide) ?_
    refine g_sub [0, 1, 2] rfl ?_
    exact w_X8_cut_B58 hl X hr S0 cu su a0 v1 v2 3 t0 h98
def f_X8_cut (S0 : gS) (a0 : Nat) (v1 : Int32) (v2 : Int64) : Option (Int32 × gS) :=
  gBi (f_X8_isLog S0 v1) fun x3 S1 =>
  if x3 = 0 then
    f_X8_cut_B58 S1 0 0 a0 v1 v2 1 (some a0)
  else
    if (lg_cmp v2 0) < 0 then
      f_X8_cut_B38 S1 0 0 a0 v1 v2 (some a0)
    else
      (fgR S1 8 13 (some a0)).bind fun x85 =>
      (fI S1 10 x85 v1).bind fun x87 =>
      if x87 ≤ 0 then
        f_X8_cut_B42 S1 0 0 a0 v1 v2 (some a0)
      else
        (fgR S1 8 12 (some a0)).bind fun x99 =>
        (fL S1 x99 v1).bind fun x101 =>
        if 0 ≤ (lg_cmp v2 x101) then
          f_X8_cut_B42 S1 0 0 a0 v1 v2 (some a0)
        else
          f_X8_cut_B38 S1 0 0 a0 v1 v2 (some a0)
set_option maxRecDepth 100000 in
set_option maxHeartbeats 4000000 in
theorem c_X8_cut {l : Launch} (hl : l.stackTraces = false) (D : gD)  {S0 S9 : gS} {a0 : Nat} {v1 : Int32} {v2 : Int64} {res : Int32} (h0 : f_X8_cut S0 a0 v1 v2 = some (res, S9)) : Met l yX8_cut (gws yX8_cut cX8_cut 6 (some .int)) { frames := 19, cells := 410, slots := 3280, locals := 475 } (gPc D S0 [.ref a0, .int v1, .long v2]) (gQ D (some (.int res)) S9) (410) (3280) (gF D) := by
  refine g_met (lv := [(0, va_rf (some a0)), (1, .int v1), (2, .long v2)]) hl (by decide) (Nat.le_of_ble_eq_true rfl) rfl (fun p e s m args below meth c X hr hn => ?_)
  have X : gX D p l s m args meth c cX8_cut 6 RX8 := X
  unfold f_X8_cut at h0
  refine g_aload_n (j := 0) X dX8_cut_0 rfl rfl ?_
  refine g_iload_n (j := 1) X dX8_cut_1 rfl rfl ?_
  obtain ⟨x3, S1, eS1, h2⟩ := g_bi h0; clear h0
  refine g_cS (n := 1) (As := [.int v1]) X (c_X8_isLog hl D eS1) tw787 tw788 tw51 tw789 (by decide +kernel) rfl rfl ⟨Nat.le_of_ble_eq_true rfl, Nat.le_of_ble_eq_true rfl⟩ rfl rfl (Nat.le_of_ble_eq_true rfl) dX8_cut_2 ⟨(by decide), (by decide)⟩ ?_
  clear eS1
  refine g_if_ne (tgt := 12) X dX8_cut_5 (by decide) (fun c4 => ?_) (fun c4 => ?_)
  · have h5 := g_in h2 c4; clear h2
    refine g_lload_n (j := 2) X dX8_cut_12 rfl rfl ?_
    refine g_lconst X dX8_cut_13 (v := 0) (by decide) ?_
    refine g_lcmp X dX8_cut_14 ?_
    refine g_if_lt (tgt := 38) X dX8_cut_15 (by decide) (fun c7 => ?_) (fun c7 => ?_)
    · have h8 := g_ip h5 c7; clear h5
      refine g_sub [0, 1, 2] rfl ?_
      exact w_X8_cut_B38 hl X hr S1 0 0 a0 v1 v2 (some a0) h8
    · have h9 := g_in h5 c7; clear h5
      refine g_aload_n (j := 0) X dX8_cut_18 rfl rfl ?_
      obtain ⟨x85, ex85, h86⟩ := g_bd h9; clear h9
      refine g_fR (ci := 8) (k := 13) X rfl il8 (by decide) tw716 (by decide) (fun _ _ _ => rfl) ex85 dX8_cut_19 ?_
      clear ex85
      refine g_iload_n (j := 1) X dX8_cut_22 rfl rfl ?_
      obtain ⟨x87, ex87, h88⟩ := g_bd h86; clear h86
      refine g_iald X ex87 dX8_cut_23 ?_
      clear ex87
      refine g_if_le (tgt := 42) X dX8_cut_24 (by decide) (fun c89 => ?_) (fun c89 => ?_)
      · have h90 := g_ip h88 c89; clear h88
        refine g_sub [0, 1, 2] rfl ?_
        exact w_X8_cut_B42 hl X hr S1 0 0 a0 v1 v2 (some a0) h90
      · have h91 := g_in h88 c89; clear h88
        refine g_lload_n (j := 2) X dX8_cut_27 rfl rfl ?_
        refine g_aload_n (j := 0) X dX8_cut_28 rfl rfl ?_
        obtain ⟨x99, ex99, h100⟩ := g_bd h91; clear h91
        refine g_fR (ci := 8) (k := 12) X rfl il8 (by decide) tw715 (by decide) (fun _ _ _ => rfl) ex99 dX8_cut_29 ?_
        clear ex99
        refine g_iload_n (j := 1) X dX8_cut_32 rfl rfl ?_
        obtain ⟨x101, ex101, h102⟩ := g_bd h100; clear h100
        refine g_lald X ex101 dX8_cut_33 ?_
        clear ex101
        refine g_lcmp X dX8_cut_34 ?_
        refine g_if_ge (tgt := 42) X dX8_cut_35 (by decide) (fun c103 => ?_) (fun c103 => ?_)
        · have h104 := g_ip h102 c103; clear h102
          refine g_sub [0, 1, 2] rfl ?_
          exact w_X8_cut_B42 hl X hr S1 0 0 a0 v1 v2 (some a0) h104
        · have h105 := g_in h102 c103; clear h102
          refine g_sub [0, 1, 2] rfl ?_
          exact w_X8_cut_B38 hl X hr S1 0 0 a0 v1 v2 (some a0) h105
  · have h6 := g_ip h2 c4; clear h2
    refine g_iconst X dX8_cut_8 (v := 1) (by decide) ?_
    refine g_goto (tgt := 58) X dX8_cut_9 (by decide) ?_
    refine g_sub [0, 1, 2] rfl ?_
    exact w_X8_cut_B58 hl X hr S1 0 0 a0 v1 v2 1 (some a0) h6
def f_X8_size_B26 (S0 : gS) (a0 : Nat) (v1 : Int32) (v2 : Int32) (t0 : Int32) (t1 : Option Nat) : Option (Int32 × gS) :=
  (fpI S0 8 0 t1 t0).bind fun S10 =>
  (fgI S10 8 0 (some a0)).bind fun x12 =>
  if x12 ≤ 0 then
    if v2 = 0 then
      (fgR S10 8 9 (some a0)).bind fun x38 =>
      (fI S10 10 x38 v1).bind fun x40 =>
      some (x40, S10)
    else
      if v2 = 1 then
        (fgR S10 8 10 (some a0)).bind fun x34 =>
        (fI S10 10 x34 v1).bind fun x36 =>
        some (x36, S10)
      else
        if v2 = 2 then
          (fgR S10 8 13 (some a0)).bind fun x30 =>
          (fI S10 10 x30 v1).bind fun x32 =>
          some (x32, S10)
        else
          (fgR S10 8 6 (some a0)).bind fun x26 =>
          (fI S10 10 x26 v1).bind fun x28 =>
          some (x28, S10)
  else
    some (0, S10)
set_option maxRecDepth 100000 in
set_option maxHeartbeats 4000000 in
theorem w_X8_size_B26 {p : Program} {l : Launch} {e : Env} {s : State} {m : MethodId} {args : Array Value} {below : List Frame} {meth : Method} {c : Code} {D : gD} {S9 : gS} {res : Int32}  (hl : l.stackTraces = false) (X : gX D p l s m args meth c cX8_size 3 RX8) (hr : meth.sig.returnType = (some .int)) (S0 : gS) (a0 : Nat) (v1 : Int32) (v2 : Int32) (t0 : Int32) (t1 : Option Nat) (h0 : f_X8_size_B26 S0 a0 v1 v2 t0 t1 = some (res, S9)) : gJ D p l e { frames := 1, cells := 0, slots := 0, locals := 20 } s m args below meth c (MQ below (gQ D (some (.int res)) S9) args s (0) (0) (gF D)) 3 (0) (0) S0 26 [(0, va_rf (some a0)), (1, .int v1), (2, .int v2)] [.int t0, va_rf t1] := by
  unfold f_X8_size_B26 at h0
  obtain ⟨S10, eS10, h11⟩ := g_bd h0; clear h0
  refine g_pI (ci := 8) (k := 0) X rfl il8 tyX8 tyX8_ok nmX8 (by decide) tw703 rfl (by decide) (fun _ _ _ => rfl) rfl eS10 dX8_size_26 ?_
  clear eS10
  refine g_aload_n (j := 0) X dX8_size_29 rfl rfl ?_
  obtain ⟨x12, ex12, h13⟩ := g_bd h11; clear h11
  refine g_fI (ci := 8) (k := 0) X rfl il8 (by decide) tw703 (by decide) (fun _ _ _ => rfl) ex12 dX8_size_30 ?_
  clear ex12
  refine g_if_le (tgt := 38) X dX8_size_33 (by decide) (fun c14 => ?_) (fun c14 => ?_)
  · have h15 := g_ip h13 c14; clear h13
    refine g_iload_n (j := 2) X dX8_size_38 rfl rfl ?_
    refine g_if_ne (tgt := 51) X dX8_size_39 (by decide) (fun c17 => ?_) (fun c17 => ?_)
    · have h18 := g_in h15 c17; clear h15
      refine g_iload_n (j := 2) X dX8_size_51 rfl rfl ?_
      refine g_iconst X dX8_size_52 (v := 1) (by decide) ?_
      refine g_icmp_ne (tgt := 65) X dX8_size_53 (by decide) (fun c20 => ?_) (fun c20 => ?_)
      · have h21 := g_in h18 c20; clear h18
        refine g_iload_n (j := 2) X dX8_size_65 rfl rfl ?_
        refine g_iconst X dX8_size_66 (v := 2) (by decide) ?_
        refine g_icmp_ne (tgt := 79) X dX8_size_67 (by decide) (fun c23 => ?_) (fun c23 => ?_)
        · have h24 := g_in h21 c23; clear h21
          refine g_aload_n (j := 0) X dX8_size_79 rfl rfl ?_
          obtain ⟨x26, ex26, h27⟩ := g_bd h24; clear h24
          refine g_fR (ci := 8) (k := 6) X rfl il8 (by decide) tw709 (by decide) (fun _ _ _ => rfl) ex26 dX8_size_80 ?_
          clear ex26
          refine g_iload_n (j := 1) X dX8_size_83 rfl rfl ?_
          obtain ⟨x28, ex28, h29⟩ := g_bd h27; clear h27
          refine g_iald X ex28 dX8_size_84 ?_
          clear ex28
          obtain ⟨rfl, rfl⟩ := g_end h29
          exact g_iret X hr (by decide) (by decide) dX8_size_85
        · have h25 := g_ip h21 c23; clear h21
          refine g_aload_n (j := 0) X dX8_size_70 rfl rfl ?_
          obtain ⟨x30, ex30, h31⟩ := g_bd h25; clear h25
          refine g_fR (ci := 8) (k := 13) X rfl il8 (by decide) tw716 (by decide) (fun _ _ _ => rfl) ex30 dX8_size_71 ?_
          clear ex30
          refine g_iload_n (j := 1) X dX8_size_74 rfl rfl ?_
          obtain ⟨x32, ex32, h33⟩ := g_bd h31; clear h31
          refine g_iald X ex32 dX8_size_75 ?_
          clear ex32
          refine g_goto (tgt := 85) X dX8_size_76 (by decide) ?_
          obtain ⟨rfl, rfl⟩ := g_end h33
          exact g_iret X hr (by decide) (by decide) dX8_size_85
      · have h22 := g_ip h18 c20; clear h18
        refine g_aload_n (j := 0) X dX8_size_56 rfl rfl ?_
        obtain ⟨x34, ex34, h35⟩ := g_bd h22; clear h22
        refine g_fR (ci := 8) (k := 10) X rfl il8 (by decide) tw713 (by decide) (fun _ _ _ => rfl) ex34 dX8_size_57 ?_
        clear ex34
        refine g_iload_n (j := 1) X dX8_size_60 rfl rfl ?_
        obtain ⟨x36, ex36, h37⟩ := g_bd h35; clear h35
        refine g_iald X ex36 dX8_size_61 ?_
        clear ex36
        refine g_goto (tgt := 85) X dX8_size_62 (by decide) ?_
        obtain ⟨rfl, rfl⟩ := g_end h37
        exact g_iret X hr (by decide) (by decide) dX8_size_85
    · have h19 := g_ip h15 c17; clear h15
      refine g_aload_n (j := 0) X dX8_size_42 rfl rfl ?_
      obtain ⟨x38, ex38, h39⟩ := g_bd h19; clear h19
      refine g_fR (ci := 8) (k := 9) X rfl il8 (by decide) tw712 (by decide) (fun _ _ _ => rfl) ex38 dX8_size_43 ?_
      clear ex38
      refine g_iload_n (j := 1) X dX8_size_46 rfl rfl ?_
      obtain ⟨x40, ex40, h41⟩ := g_bd h39; clear h39
      refine g_iald X ex40 dX8_size_47 ?_
      clear ex40
      refine g_goto (tgt := 85) X dX8_size_48 (by decide) ?_
      obtain ⟨rfl, rfl⟩ := g_end h41
      exact g_iret X hr (by decide) (by decide) dX8_size_85
  · have h16 := g_in h13 c14; clear h13
    refine g_iconst X dX8_size_36 (v := 0) (by decide) ?_
    obtain ⟨rfl, rfl⟩ := g_end h16
    exact g_iret X hr (by decide) (by decide) dX8_size_37
def f_X8_size_B21 (S0 : gS) (a0 : Nat) (v1 : Int32) (v2 : Int32) (t0 : Option Nat) : Option (Int32 × gS) :=
  f_X8_size_B26 S0 a0 v1 v2 2 t0
set_option maxRecDepth 100000 in
set_option maxHeartbeats 4000000 in
theorem w_X8_size_B21 {p : Program} {l : Launch} {e : Env} {s : State} {m : MethodId} {args : Array Value} {below : List Frame} {meth : Method} {c : Code} {D : gD} {S9 : gS} {res : Int32}  (hl : l.stackTraces = false) (X : gX D p l s m args meth c cX8_size 3 RX8) (hr : meth.sig.returnType = (some .int)) (S0 : gS) (a0 : Nat) (v1 : Int32) (v2 : Int32) (t0 : Option Nat) (h0 : f_X8_size_B21 S0 a0 v1 v2 t0 = some (res, S9)) : gJ D p l e { frames := 1, cells := 0, slots := 0, locals := 20 } s m args below meth c (MQ below (gQ D (some (.int res)) S9) args s (0) (0) (gF D)) 3 (0) (0) S0 21 [(0, va_rf (some a0)), (1, .int v1), (2, .int v2)] [va_rf t0] := by
  unfold f_X8_size_B21 at h0
  refine g_iconst X dX8_size_21 (v := 2) (by decide) ?_
  refine g_goto (tgt := 26) X dX8_size_22 (by decide) ?_
  refine g_sub [0, 1, 2] rfl ?_
  exact w_X8_size_B26 hl X hr S0 a0 v1 v2 2 t0 h0
def f_X8_size (S0 : gS) (a0 : Nat) (v1 : Int32) (v2 : Int32) : Option (Int32 × gS) :=
  gBi (f_X8_isLog S0 v1) fun x3 S1 =>
  if x3 = 0 then
    f_X8_size_B26 S1 a0 v1 v2 1 (some a0)
  else
    if v2 < 0 then
      f_X8_size_B21 S1 a0 v1 v2 (some a0)
    else
      if v2 ≤ 3 then
        f_X8_size_B26 S1 a0 v1 v2 0 (some a0)
      else
        f_X8_size_B21 S1 a0 v1 v2 (some a0)
set_option maxRecDepth 100000 in
set_option maxHeartbeats 4000000 in
theorem c_X8_size {l : Launch} (hl : l.stackTraces = false) (D : gD)  {S0 S9 : gS} {a0 : Nat} {v1 : Int32} {v2 : Int32} {res : Int32} (h0 : f_X8_size S0 a0 v1 v2 = some (res, S9)) : Met l yX8_size (gws yX8_size cX8_size 3 (some .int)) { frames := 1, cells := 0, slots := 0, locals := 20 } (gPc D S0 [.ref a0, .int v1, .int v2]) (gQ D (some (.int res)) S9) (0) (0) (gF D) := by
  refine g_met (lv := [(0, va_rf (some a0)), (1, .int v1), (2, .int v2)]) hl (by decide) (Nat.le_of_ble_eq_true rfl) rfl (fun p e s m args below meth c X hr hn => ?_)
  have X : gX D p l s m args meth c cX8_size 3 RX8 := X
  unfold f_X8_size at h0
  refine g_aload_n (j := 0) X dX8_size_0 rfl rfl ?_
  refine g_iload_n (j := 1) X dX8_size_1 rfl rfl ?_
  obtain ⟨x3, S1, eS1, h2⟩ := g_bi h0; clear h0
  refine g_cS (n := 1) (As := [.int v1]) X (c_X8_isLog hl D eS1) tw787 tw788 tw51 tw789 (by decide +kernel) rfl rfl ⟨Nat.le_of_ble_eq_true rfl, Nat.le_of_ble_eq_true rfl⟩ rfl rfl (Nat.le_of_ble_eq_true rfl) dX8_size_2 ⟨(by decide), (by decide)⟩ ?_
  clear eS1
  refine g_if_ne (tgt := 12) X dX8_size_5 (by decide) (fun c4 => ?_) (fun c4 => ?_)
  · have h5 := g_in h2 c4; clear h2
    refine g_iload_n (j := 2) X dX8_size_12 rfl rfl ?_
    refine g_if_lt (tgt := 21) X dX8_size_13 (by decide) (fun c7 => ?_) (fun c7 => ?_)
    · have h8 := g_ip h5 c7; clear h5
      refine g_sub [0, 1, 2] rfl ?_
      exact w_X8_size_B21 hl X hr S1 a0 v1 v2 (some a0) h8
    · have h9 := g_in h5 c7; clear h5
      refine g_iload_n (j := 2) X dX8_size_16 rfl rfl ?_
      refine g_iconst X dX8_size_17 (v := 3) (by decide) ?_
      refine g_icmp_le (tgt := 25) X dX8_size_18 (by decide) (fun c42 => ?_) (fun c42 => ?_)
      · have h43 := g_ip h9 c42; clear h9
        refine g_iconst X dX8_size_25 (v := 0) (by decide) ?_
        refine g_sub [0, 1, 2] rfl ?_
        exact w_X8_size_B26 hl X hr S1 a0 v1 v2 0 (some a0) h43
      · have h44 := g_in h9 c42; clear h9
        refine g_sub [0, 1, 2] rfl ?_
        exact w_X8_size_B21 hl X hr S1 a0 v1 v2 (some a0) h44
  · have h6 := g_ip h2 c4; clear h2
    refine g_iconst X dX8_size_8 (v := 1) (by decide) ?_
    refine g_goto (tgt := 26) X dX8_size_9 (by decide) ?_
    refine g_sub [0, 1, 2] rfl ?_
    exact w_X8_size_B26 hl X hr S1 a0 v1 v2 1 (some a0) h6
