def f_X4_addRow_L13 : Nat → gS → Nat → Option Nat → Int32 → Int32 → Int32 → Option gS
  | 0, _, _, _, _, _, _ => none
  | k + 1, S0, a0, v1, v2, v3, v4 =>
    if v3 ≤ v4 then
      some S0
    else
      (fI S0 9 v1 (v2 + v4)).bind fun x10 =>
      gDc S0 4 (some a0) fun a12 =>
      (f_X4_put S0 a12 x10).bind fun S14 =>
      (fgI S14 4 2 (some a0)).bind fun x16 =>
      if x16 < 64 then
        gLet (v4 + 1) fun x21 =>
        f_X4_addRow_L13 k S14 a0 v1 v2 v3 x21
      else
        gDc S14 4 (some a0) fun a23 =>
        (f_X4_mix S14 a23).bind fun S25 =>
        gLet (v4 + 1) fun x27 =>
        f_X4_addRow_L13 k S25 a0 v1 v2 v3 x27
set_option maxRecDepth 100000 in
set_option maxHeartbeats 4000000 in
theorem w_X4_addRow_L13 {p : Program} {l : Launch} {e : Env} {s : State} {m : MethodId} {args : Array Value} {below : List Frame} {meth : Method} {c : Code} {D : gD} {S9 : gS}  (hl : l.stackTraces = false) (X : gX D p l s m args meth c cX4_addRow 5 RX4) (hr : meth.sig.returnType = none) : ∀ (k : Nat) (S0 : gS) (a0 : Nat) (v1 : Option Nat) (v2 : Int32) (v3 : Int32) (v4 : Int32), f_X4_addRow_L13 k S0 a0 v1 v2 v3 v4 = some S9 → gJ D p l e { frames := 1, cells := 0, slots := 0, locals := 34 } s m args below meth c (MQ below (gQ D none S9) args s (0) (0) (gF D)) 5 (0) (0) S0 13 [(0, va_rf (some a0)), (1, va_rf v1), (2, .int v2), (3, .int v3), (4, .int v4)] [] := by
  intro k
  induction k with
  | zero => intro S0 a0 v1 v2 v3 v4 h0; cases h0
  | succ k ih =>
    intro S0 a0 v1 v2 v3 v4 h0
    have h0 := h0
    unfold f_X4_addRow_L13 at h0
    refine g_iload (j := 4) X dX4_addRow_13 rfl ?_
    refine g_iload_n (j := 3) X dX4_addRow_15 rfl rfl ?_
    refine g_icmp_ge (tgt := 48) X dX4_addRow_16 (by decide) (fun c7 => ?_) (fun c7 => ?_)
    · have h8 := g_ip h0 c7; clear h0
      cases h8
      exact g_vret X hr (by decide) (by decide) dX4_addRow_48
    · have h9 := g_in h0 c7; clear h0
      refine g_aload_n (j := 0) X dX4_addRow_19 rfl rfl ?_
      refine g_aload_n (j := 1) X dX4_addRow_20 rfl rfl ?_
      refine g_iload_n (j := 2) X dX4_addRow_21 rfl rfl ?_
      refine g_iload (j := 4) X dX4_addRow_22 rfl ?_
      refine g_iadd X dX4_addRow_24 ?_
      obtain ⟨x10, ex10, h11⟩ := g_bd h9; clear h9
      refine g_bald X ex10 dX4_addRow_25 ?_
      clear ex10
      obtain ⟨a12, ea12, ka12, h13⟩ := g_dc h11; clear h11
      obtain ⟨S14, eS14, h15⟩ := g_bd h13; clear h13
      refine g_cV (n := 1) (As := [.int x10]) X (c_X4_put hl D eS14) tw300 tw301 tw4 tw47 tw302 (by decide +kernel) rfl rfl ⟨Nat.le_of_ble_eq_true rfl, Nat.le_of_ble_eq_true rfl⟩ (ci := 4) rfl (by decide) ea12 ka12 rfl rfl (Nat.le_of_ble_eq_true rfl) dX4_addRow_26 ⟨(by decide), (by decide)⟩ ?_
      clear eS14 ea12 ka12
      refine g_aload_n (j := 0) X dX4_addRow_29 rfl rfl ?_
      obtain ⟨x16, ex16, h17⟩ := g_bd h15; clear h15
      refine g_fI (ci := 4) (k := 2) X rfl il4 (by decide) tw98 (by decide) (fun _ _ _ => rfl) ex16 dX4_addRow_30 ?_
      clear ex16
      refine g_bipush X dX4_addRow_33 (v := 64) (by decide) ?_
      refine g_icmp_lt (tgt := 42) X dX4_addRow_35 (by decide) (fun c18 => ?_) (fun c18 => ?_)
      · have h19 := g_ip h17 c18; clear h17
        obtain ⟨x21, ex21, h22⟩ := g_let h19; clear h19
        refine g_iinc (j := 4) (v := x21) (lv' := [(4, .int x21), (0, va_rf (some a0)), (1, va_rf v1), (2, .int v2), (3, .int v3)]) X dX4_addRow_42 rfl (by rw [ex21]; rfl) (by decide) rfl ?_
        clear ex21
        refine g_goto (tgt := 13) X dX4_addRow_45 (by decide) ?_
        refine g_sub [1, 2, 3, 4, 0] rfl ?_
        exact ih S14 a0 v1 v2 v3 x21 h22
      · have h20 := g_in h17 c18; clear h17
        refine g_aload_n (j := 0) X dX4_addRow_38 rfl rfl ?_
        obtain ⟨a23, ea23, ka23, h24⟩ := g_dc h20; clear h20
        obtain ⟨S25, eS25, h26⟩ := g_bd h24; clear h24
        refine g_cV (n := 0) (As := []) X (c_X4_mix hl D eS25) tw303 tw304 tw5 tw47 tw305 (by decide +kernel) rfl rfl ⟨Nat.le_of_ble_eq_true rfl, Nat.le_of_ble_eq_true rfl⟩ (ci := 4) rfl (by decide) ea23 ka23 rfl rfl (Nat.le_of_ble_eq_true rfl) dX4_addRow_39 ⟨(by decide), (by decide)⟩ ?_
        clear eS25 ea23 ka23
        obtain ⟨x27, ex27, h28⟩ := g_let h26; clear h26
        refine g_iinc (j := 4) (v := x27) (lv' := [(4, .int x27), (0, va_rf (some a0)), (1, va_rf v1), (2, .int v2), (3, .int v3)]) X dX4_addRow_42 rfl (by rw [ex27]; rfl) (by decide) rfl ?_
        clear ex27
        refine g_goto (tgt := 13) X dX4_addRow_45 (by decide) ?_
        refine g_sub [1, 2, 3, 4, 0] rfl ?_
        exact ih S25 a0 v1 v2 v3 x27 h28
def f_X4_addRow (S0 : gS) (a0 : Nat) (v1 : Option Nat) (v2 : Int32) (v3 : Int32) : Option gS :=
  gBi (f_X3_holds S0 v1 v2 v3) fun x3 S1 =>
  if x3 = 0 then
    some S1
  else
    f_X4_addRow_L13 gFuel S1 a0 v1 v2 v3 0
set_option maxRecDepth 100000 in
set_option maxHeartbeats 4000000 in
theorem c_X4_addRow {l : Launch} (hl : l.stackTraces = false) (D : gD)  {S0 S9 : gS} {a0 : Nat} {v1 : Option Nat} {v2 : Int32} {v3 : Int32} (h0 : f_X4_addRow S0 a0 v1 v2 v3 = some S9) : Met l yX4_addRow (gws yX4_addRow cX4_addRow 5 none) { frames := 1, cells := 0, slots := 0, locals := 34 } (gPc D S0 [.ref a0, va_rf v1, .int v2, .int v3]) (gQ D none S9) (0) (0) (gF D) := by
  refine g_met (lv := [(0, va_rf (some a0)), (1, va_rf v1), (2, .int v2), (3, .int v3)]) hl (by decide) (by simp [lg_sl, g_rfc, g_ci, g_cj, g_cr]) (by simp [lv_args, g_rfc, g_ci, g_cj, g_cr]; try rfl) (fun p e s m args below meth c X hr hn => ?_)
  have X : gX D p l s m args meth c cX4_addRow 5 RX4 := X
  unfold f_X4_addRow at h0
  refine g_aload_n (j := 1) X dX4_addRow_0 rfl rfl ?_
  refine g_iload_n (j := 2) X dX4_addRow_1 rfl rfl ?_
  refine g_iload_n (j := 3) X dX4_addRow_2 rfl rfl ?_
  obtain ⟨x3, S1, eS1, h2⟩ := g_bi h0; clear h0
  refine g_cS (n := 3) (As := [va_rf v1, .int v2, .int v3]) X (c_X3_holds hl D eS1) tw311 tw224 tw52 tw225 (by decide +kernel) rfl rfl ⟨Nat.le_of_ble_eq_true rfl, Nat.le_of_ble_eq_true rfl⟩ rfl rfl (Nat.le_of_ble_eq_true rfl) dX4_addRow_3 ⟨(by decide), (by decide)⟩ ?_
  clear eS1
  refine g_if_ne (tgt := 10) X dX4_addRow_6 (by decide) (fun c4 => ?_) (fun c4 => ?_)
  · have h5 := g_in h2 c4; clear h2
    refine g_iconst X dX4_addRow_10 (v := 0) (by decide) ?_
    refine g_istore (i := 4) (lv' := [(4, .int 0), (0, va_rf (some a0)), (1, va_rf v1), (2, .int v2), (3, .int v3)]) X dX4_addRow_11 (by decide) rfl ?_
    refine g_sub [1, 2, 3, 4, 0] rfl ?_
    exact w_X4_addRow_L13 hl X hr gFuel S1 a0 v1 v2 v3 0 h5
  · have h6 := g_ip h2 c4; clear h2
    cases h6
    exact g_vret X hr (by decide) (by decide) dX4_addRow_9
def f_X4_finish_L116 : Nat → gS → Nat → Option Nat → Int32 → Option gS
  | 0, _, _, _, _ => none
  | k + 1, S0, a0, v1, v4 =>
    if 32 ≤ v4 then
      some S0
    else
      (fgR S0 4 0 (some a0)).bind fun x24 =>
      (fI S0 10 x24 (v4 >>> (2 &&& 31))).bind fun x26 =>
      (faB S0 v1 v4 ((g_ushr x26 (24 - (8 * (v4 &&& 3)))).toInt8.toInt32)).bind fun S28 =>
      gLet (v4 + 1) fun x30 =>
      f_X4_finish_L116 k S28 a0 v1 x30
set_option maxRecDepth 100000 in
set_option maxHeartbeats 4000000 in
theorem w_X4_finish_L116 {p : Program} {l : Launch} {e : Env} {s : State} {m : MethodId} {args : Array Value} {below : List Frame} {meth : Method} {c : Code} {D : gD} {S9 : gS}  (hl : l.stackTraces = false) (X : gX D p l s m args meth c cX4_finish 6 RX4) (hr : meth.sig.returnType = none) : ∀ (k : Nat) (S0 : gS) (a0 : Nat) (v1 : Option Nat) (v4 : Int32), f_X4_finish_L116 k S0 a0 v1 v4 = some S9 → gJ D p l e { frames := 1, cells := 0, slots := 0, locals := 34 } s m args below meth c (MQ below (gQ D none S9) args s (0) (0) (gF D)) 6 (0) (0) S0 116 [(0, va_rf (some a0)), (1, va_rf v1), (4, .int v4)] [] := by
  intro k
  induction k with
  | zero => intro S0 a0 v1 v4 h0; cases h0
  | succ k ih =>
    intro S0 a0 v1 v4 h0
    have h0 := h0
    unfold f_X4_finish_L116 at h0
    refine g_iload (j := 2) X dX4_finish_116 rfl ?_
    refine g_bipush X dX4_finish_118 (v := 32) (by decide) ?_
    refine g_icmp_ge (tgt := 154) X dX4_finish_120 (by decide) (fun c21 => ?_) (fun c21 => ?_)
    · have h22 := g_ip h0 c21; clear h0
      cases h22
      exact g_vret X hr (by decide) (by decide) dX4_finish_154
    · have h23 := g_in h0 c21; clear h0
      refine g_aload_n (j := 1) X dX4_finish_123 rfl rfl ?_
      refine g_iload (j := 2) X dX4_finish_124 rfl ?_
      refine g_aload_n (j := 0) X dX4_finish_126 rfl rfl ?_
      obtain ⟨x24, ex24, h25⟩ := g_bd h23; clear h23
      refine g_fR (ci := 4) (k := 0) X rfl il4 (by decide) tw96 (by decide) (fun _ _ _ => rfl) ex24 dX4_finish_127 ?_
      clear ex24
      refine g_iload (j := 2) X dX4_finish_130 rfl ?_
      refine g_iconst X dX4_finish_132 (v := 2) (by decide) ?_
      refine g_ishr X dX4_finish_133 ?_
      obtain ⟨x26, ex26, h27⟩ := g_bd h25; clear h25
      refine g_iald X ex26 dX4_finish_134 ?_
      clear ex26
      refine g_bipush X dX4_finish_135 (v := 24) (by decide) ?_
      refine g_bipush X dX4_finish_137 (v := 8) (by decide) ?_
      refine g_iload (j := 2) X dX4_finish_139 rfl ?_
      refine g_iconst X dX4_finish_141 (v := 3) (by decide) ?_
      refine g_iand X dX4_finish_142 ?_
      refine g_imul X dX4_finish_143 ?_
      refine g_isub X dX4_finish_144 ?_
      refine g_iushr X dX4_finish_145 ?_
      refine g_i2b X dX4_finish_146 ?_
      obtain ⟨S28, eS28, h29⟩ := g_bd h27; clear h27
      refine g_bast X eS28 dX4_finish_147 ?_
      clear eS28
      obtain ⟨x30, ex30, h31⟩ := g_let h29; clear h29
      refine g_iinc (j := 2) (v := x30) (lv' := [(4, .int x30), (0, va_rf (some a0)), (1, va_rf v1)]) X dX4_finish_148 rfl (by rw [ex30]; rfl) (by decide) rfl ?_
      clear ex30
      refine g_goto (tgt := 116) X dX4_finish_151 (by decide) ?_
      refine g_sub [1, 2, 0] rfl ?_
      exact ih S28 a0 v1 x30 h31
def f_X4_finish_L39 : Nat → gS → Nat → Option Nat → Int32 → Int32 → Int32 → Option gS
  | 0, _, _, _, _, _, _ => none
  | k + 1, S0, a0, v1, v2, v3, v4 =>
    if v4 ≤ 0 then
      gBi (f_X3_holds S0 v1 0 32) fun x17 S15 =>
      if x17 = 0 then
        some S15
      else
        f_X4_finish_L116 gFuel S15 a0 v1 0
    else
      if v4 ≤ 4 then
        gLet (g_ushr v2 (8 * (v4 - 1))) fun x35 =>
        if v4 = v3 then
          gDc S0 4 (some a0) fun a57 =>
          (f_X4_put S0 a57 128).bind fun S59 =>
          (fgI S59 4 2 (some a0)).bind fun x61 =>
          if x61 < 64 then
            gLet (v4 + (-1)) fun x66 =>
            f_X4_finish_L39 k S59 a0 v1 v2 v3 x66
          else
            gDc S59 4 (some a0) fun a68 =>
            (f_X4_mix S59 a68).bind fun S70 =>
            gLet (v4 + (-1)) fun x72 =>
            f_X4_finish_L39 k S70 a0 v1 v2 v3 x72
        else
          gDc S0 4 (some a0) fun a40 =>
          (f_X4_put S0 a40 x35).bind fun S42 =>
          (fgI S42 4 2 (some a0)).bind fun x44 =>
          if x44 < 64 then
            gLet (v4 + (-1)) fun x49 =>
            f_X4_finish_L39 k S42 a0 v1 v2 v3 x49
          else
            gDc S42 4 (some a0) fun a51 =>
            (f_X4_mix S42 a51).bind fun S53 =>
            gLet (v4 + (-1)) fun x55 =>
            f_X4_finish_L39 k S53 a0 v1 v2 v3 x55
      else
        if v4 = v3 then
          gDc S0 4 (some a0) fun a94 =>
          (f_X4_put S0 a94 128).bind fun S96 =>
          (fgI S96 4 2 (some a0)).bind fun x98 =>
          if x98 < 64 then
            gLet (v4 + (-1)) fun x103 =>
            f_X4_finish_L39 k S96 a0 v1 v2 v3 x103
          else
            gDc S96 4 (some a0) fun a105 =>
            (f_X4_mix S96 a105).bind fun S107 =>
            gLet (v4 + (-1)) fun x109 =>
            f_X4_finish_L39 k S107 a0 v1 v2 v3 x109
        else
          gDc S0 4 (some a0) fun a77 =>
          (f_X4_put S0 a77 0).bind fun S79 =>
          (fgI S79 4 2 (some a0)).bind fun x81 =>
          if x81 < 64 then
            gLet (v4 + (-1)) fun x86 =>
            f_X4_finish_L39 k S79 a0 v1 v2 v3 x86
          else
            gDc S79 4 (some a0) fun a88 =>
            (f_X4_mix S79 a88).bind fun S90 =>
            gLet (v4 + (-1)) fun x92 =>
            f_X4_finish_L39 k S90 a0 v1 v2 v3 x92
set_option maxRecDepth 100000 in
set_option maxHeartbeats 4000000 in
theorem w_X4_finish_L39 {p : Program} {l : Launch} {e : Env} {s : State} {m : MethodId} {args : Array Value} {below : List Frame} {meth : Method} {c : Code} {D : gD} {S9 : gS}  (hl : l.stackTraces = false) (X : gX D p l s m args meth c cX4_finish 6 RX4) (hr : meth.sig.returnType = none) : ∀ (k : Nat) (S0 : gS) (a0 : Nat) (v1 : Option Nat) (v2 : Int32) (v3 : Int32) (v4 : Int32), f_X4_finish_L39 k S0 a0 v1 v2 v3 v4 = some S9 → gJ D p l e { frames := 1, cells := 0, slots := 0, locals := 34 } s m args below meth c (MQ below (gQ D none S9) args s (0) (0) (gF D)) 6 (0) (0) S0 39 [(0, va_rf (some a0)), (1, va_rf v1), (2, .int v2), (3, .int v3), (4, .int v4)] [] := by
  intro k
  induction k with
  | zero => intro S0 a0 v1 v2 v3 v4 h0; cases h0
  | succ k ih =>
    intro S0 a0 v1 v2 v3 v4 h0
    have h0 := h0
    unfold f_X4_finish_L39 at h0
    refine g_iload (j := 4) X dX4_finish_39 rfl ?_
    refine g_if_le (tgt := 102) X dX4_finish_41 (by decide) (fun c12 => ?_) (fun c12 => ?_)
    · have h13 := g_ip h0 c12; clear h0
      refine g_aload_n (j := 1) X dX4_finish_102 rfl rfl ?_
      refine g_iconst X dX4_finish_103 (v := 0) (by decide) ?_
      refine g_bipush X dX4_finish_104 (v := 32) (by decide) ?_
      obtain ⟨x17, S15, eS15, h16⟩ := g_bi h13; clear h13
      refine g_cS (n := 3) (As := [va_rf v1, .int 0, .int 32]) X (c_X3_holds hl D eS15) tw311 tw224 tw52 tw225 (by decide +kernel) rfl rfl ⟨Nat.le_of_ble_eq_true rfl, Nat.le_of_ble_eq_true rfl⟩ rfl rfl (Nat.le_of_ble_eq_true rfl) dX4_finish_106 ⟨(by decide), (by decide)⟩ ?_
      clear eS15
      refine g_if_ne (tgt := 113) X dX4_finish_109 (by decide) (fun c18 => ?_) (fun c18 => ?_)
      · have h19 := g_in h16 c18; clear h16
        refine g_iconst X dX4_finish_113 (v := 0) (by decide) ?_
        refine g_istore (i := 4) (lv' := [(4, .int 0), (0, va_rf (some a0)), (1, va_rf v1), (2, .int v2), (3, .int v3)]) X dX4_finish_114 (by decide) rfl ?_
        refine g_sub [1, 2, 0] rfl ?_
        exact w_X4_finish_L116 hl X hr gFuel S15 a0 v1 0 h19
      · have h20 := g_ip h16 c18; clear h16
        cases h20
        exact g_vret X hr (by decide) (by decide) dX4_finish_112
    · have h14 := g_in h0 c12; clear h0
      refine g_iload (j := 4) X dX4_finish_44 rfl ?_
      refine g_iconst X dX4_finish_46 (v := 4) (by decide) ?_
      refine g_icmp_le (tgt := 54) X dX4_finish_47 (by decide) (fun c32 => ?_) (fun c32 => ?_)
      · have h33 := g_ip h14 c32; clear h14
        refine g_iload_n (j := 2) X dX4_finish_54 rfl rfl ?_
        refine g_bipush X dX4_finish_55 (v := 8) (by decide) ?_
        refine g_iload (j := 4) X dX4_finish_57 rfl ?_
        refine g_iconst X dX4_finish_59 (v := 1) (by decide) ?_
        refine g_isub X dX4_finish_60 ?_
        refine g_imul X dX4_finish_61 ?_
        refine g_iushr X dX4_finish_62 ?_
        obtain ⟨x35, ex35, h36⟩ := g_let h33; clear h33; rw [← ex35]; clear ex35
        refine g_istore (i := 5) (lv' := [(5, .int x35), (0, va_rf (some a0)), (1, va_rf v1), (2, .int v2), (3, .int v3), (4, .int v4)]) X dX4_finish_63 (by decide) rfl ?_
        refine g_aload_n (j := 1) X dX4_finish_65 rfl rfl ?_
        refine g_iload (j := 5) X dX4_finish_66 rfl ?_
        refine g_iload_n (j := 4) X dX4_finish_68 rfl rfl ?_
        refine g_icmp_ne (tgt := 78) X dX4_finish_69 (by decide) (fun c37 => ?_) (fun c37 => ?_)
        · have h38 := g_in h36 c37; clear h36
          refine g_iload (j := 0) X dX4_finish_78 rfl ?_
          obtain ⟨a40, ea40, ka40, h41⟩ := g_dc h38; clear h38
          obtain ⟨S42, eS42, h43⟩ := g_bd h41; clear h41
          refine g_cV (n := 1) (As := [.int x35]) X (c_X4_put hl D eS42) tw300 tw301 tw4 tw47 tw302 (by decide +kernel) rfl rfl ⟨Nat.le_of_ble_eq_true rfl, Nat.le_of_ble_eq_true rfl⟩ (ci := 4) rfl (by decide) ea40 ka40 rfl rfl (Nat.le_of_ble_eq_true rfl) dX4_finish_80 ⟨(by decide), (by decide)⟩ ?_
          clear eS42 ea40 ka40
          refine g_aload_n (j := 1) X dX4_finish_83 rfl rfl ?_
          obtain ⟨x44, ex44, h45⟩ := g_bd h43; clear h43
          refine g_fI (ci := 4) (k := 2) X rfl il4 (by decide) tw98 (by decide) (fun _ _ _ => rfl) ex44 dX4_finish_84 ?_
          clear ex44
          refine g_bipush X dX4_finish_87 (v := 64) (by decide) ?_
          refine g_icmp_lt (tgt := 96) X dX4_finish_89 (by decide) (fun c46 => ?_) (fun c46 => ?_)
          · have h47 := g_ip h45 c46; clear h45
            obtain ⟨x49, ex49, h50⟩ := g_let h47; clear h47
            refine g_iinc (j := 5) (v := x49) (lv' := [(4, .int x49), (5, .int x35), (0, va_rf (some a0)), (1, va_rf v1), (2, .int v2), (3, .int v3)]) X dX4_finish_96 rfl (by rw [ex49]; rfl) (by decide) rfl ?_
            clear ex49
            refine g_goto (tgt := 39) X dX4_finish_99 (by decide) ?_
            refine g_sub [2, 3, 4, 5, 0] rfl ?_
            exact ih S42 a0 v1 v2 v3 x49 h50
          · have h48 := g_in h45 c46; clear h45
            refine g_aload_n (j := 1) X dX4_finish_92 rfl rfl ?_
            obtain ⟨a51, ea51, ka51, h52⟩ := g_dc h48; clear h48
            obtain ⟨S53, eS53, h54⟩ := g_bd h52; clear h52
            refine g_cV (n := 0) (As := []) X (c_X4_mix hl D eS53) tw303 tw304 tw5 tw47 tw305 (by decide +kernel) rfl rfl ⟨Nat.le_of_ble_eq_true rfl, Nat.le_of_ble_eq_true rfl⟩ (ci := 4) rfl (by decide) ea51 ka51 rfl rfl (Nat.le_of_ble_eq_true rfl) dX4_finish_93 ⟨(by decide), (by decide)⟩ ?_
            clear eS53 ea51 ka51
            obtain ⟨x55, ex55, h56⟩ := g_let h54; clear h54
            refine g_iinc (j := 5) (v := x55) (lv' := [(4, .int x55), (5, .int x35), (0, va_rf (some a0)), (1, va_rf v1), (2, .int v2), (3, .int v3)]) X dX4_finish_96 rfl (by rw [ex55]; rfl) (by decide) rfl ?_
            clear ex55
            refine g_goto (tgt := 39) X dX4_finish_99 (by decide) ?_
            refine g_sub [2, 3, 4, 5, 0] rfl ?_
            exact ih S53 a0 v1 v2 v3 x55 h56
        · have h39 := g_ip h36 c37; clear h36
          refine g_sipush X dX4_finish_72 (v := 128) (by decide) ?_
          refine g_goto (tgt := 80) X dX4_finish_75 (by decide) ?_
          obtain ⟨a57, ea57, ka57, h58⟩ := g_dc h39; clear h39
          obtain ⟨S59, eS59, h60⟩ := g_bd h58; clear h58
          refine g_cV (n := 1) (As := [.int 128]) X (c_X4_put hl D eS59) tw300 tw301 tw4 tw47 tw302 (by decide +kernel) rfl rfl ⟨Nat.le_of_ble_eq_true rfl, Nat.le_of_ble_eq_true rfl⟩ (ci := 4) rfl (by decide) ea57 ka57 rfl rfl (Nat.le_of_ble_eq_true rfl) dX4_finish_80 ⟨(by decide), (by decide)⟩ ?_
          clear eS59 ea57 ka57
          refine g_aload_n (j := 1) X dX4_finish_83 rfl rfl ?_
          obtain ⟨x61, ex61, h62⟩ := g_bd h60; clear h60
          refine g_fI (ci := 4) (k := 2) X rfl il4 (by decide) tw98 (by decide) (fun _ _ _ => rfl) ex61 dX4_finish_84 ?_
          clear ex61
          refine g_bipush X dX4_finish_87 (v := 64) (by decide) ?_
          refine g_icmp_lt (tgt := 96) X dX4_finish_89 (by decide) (fun c63 => ?_) (fun c63 => ?_)
          · have h64 := g_ip h62 c63; clear h62
            obtain ⟨x66, ex66, h67⟩ := g_let h64; clear h64
            refine g_iinc (j := 5) (v := x66) (lv' := [(4, .int x66), (5, .int x35), (0, va_rf (some a0)), (1, va_rf v1), (2, .int v2), (3, .int v3)]) X dX4_finish_96 rfl (by rw [ex66]; rfl) (by decide) rfl ?_
            clear ex66
            refine g_goto (tgt := 39) X dX4_finish_99 (by decide) ?_
            refine g_sub [2, 3, 4, 5, 0] rfl ?_
            exact ih S59 a0 v1 v2 v3 x66 h67
          · have h65 := g_in h62 c63; clear h62
            refine g_aload_n (j := 1) X dX4_finish_92 rfl rfl ?_
            obtain ⟨a68, ea68, ka68, h69⟩ := g_dc h65; clear h65
            obtain ⟨S70, eS70, h71⟩ := g_bd h69; clear h69
            refine g_cV (n := 0) (As := []) X (c_X4_mix hl D eS70) tw303 tw304 tw5 tw47 tw305 (by decide +kernel) rfl rfl ⟨Nat.le_of_ble_eq_true rfl, Nat.le_of_ble_eq_true rfl⟩ (ci := 4) rfl (by decide) ea68 ka68 rfl rfl (Nat.le_of_ble_eq_true rfl) dX4_finish_93 ⟨(by decide), (by decide)⟩ ?_
            clear eS70 ea68 ka68
            obtain ⟨x72, ex72, h73⟩ := g_let h71; clear h71
            refine g_iinc (j := 5) (v := x72) (lv' := [(4, .int x72), (5, .int x35), (0, va_rf (some a0)), (1, va_rf v1), (2, .int v2), (3, .int v3)]) X dX4_finish_96 rfl (by rw [ex72]; rfl) (by decide) rfl ?_
            clear ex72
            refine g_goto (tgt := 39) X dX4_finish_99 (by decide) ?_
            refine g_sub [2, 3, 4, 5, 0] rfl ?_
            exact ih S70 a0 v1 v2 v3 x72 h73
      · have h34 := g_in h14 c32; clear h14
        refine g_iconst X dX4_finish_50 (v := 0) (by decide) ?_
        refine g_goto (tgt := 63) X dX4_finish_51 (by decide) ?_
        refine g_istore (i := 5) (lv' := [(5, .int 0), (0, va_rf (some a0)), (1, va_rf v1), (2, .int v2), (3, .int v3), (4, .int v4)]) X dX4_finish_63 (by decide) rfl ?_
        refine g_aload_n (j := 1) X dX4_finish_65 rfl rfl ?_
        refine g_iload (j := 5) X dX4_finish_66 rfl ?_
        refine g_iload_n (j := 4) X dX4_finish_68 rfl rfl ?_
        refine g_icmp_ne (tgt := 78) X dX4_finish_69 (by decide) (fun c74 => ?_) (fun c74 => ?_)
        · have h75 := g_in h34 c74; clear h34
          refine g_iload (j := 0) X dX4_finish_78 rfl ?_
          obtain ⟨a77, ea77, ka77, h78⟩ := g_dc h75; clear h75
          obtain ⟨S79, eS79, h80⟩ := g_bd h78; clear h78
          refine g_cV (n := 1) (As := [.int 0]) X (c_X4_put hl D eS79) tw300 tw301 tw4 tw47 tw302 (by decide +kernel) rfl rfl ⟨Nat.le_of_ble_eq_true rfl, Nat.le_of_ble_eq_true rfl⟩ (ci := 4) rfl (by decide) ea77 ka77 rfl rfl (Nat.le_of_ble_eq_true rfl) dX4_finish_80 ⟨(by decide), (by decide)⟩ ?_
          clear eS79 ea77 ka77
          refine g_aload_n (j := 1) X dX4_finish_83 rfl rfl ?_
          obtain ⟨x81, ex81, h82⟩ := g_bd h80; clear h80
          refine g_fI (ci := 4) (k := 2) X rfl il4 (by decide) tw98 (by decide) (fun _ _ _ => rfl) ex81 dX4_finish_84 ?_
          clear ex81
          refine g_bipush X dX4_finish_87 (v := 64) (by decide) ?_
          refine g_icmp_lt (tgt := 96) X dX4_finish_89 (by decide) (fun c83 => ?_) (fun c83 => ?_)
          · have h84 := g_ip h82 c83; clear h82
            obtain ⟨x86, ex86, h87⟩ := g_let h84; clear h84
            refine g_iinc (j := 5) (v := x86) (lv' := [(4, .int x86), (5, .int 0), (0, va_rf (some a0)), (1, va_rf v1), (2, .int v2), (3, .int v3)]) X dX4_finish_96 rfl (by rw [ex86]; rfl) (by decide) rfl ?_
            clear ex86
            refine g_goto (tgt := 39) X dX4_finish_99 (by decide) ?_
            refine g_sub [2, 3, 4, 5, 0] rfl ?_
            exact ih S79 a0 v1 v2 v3 x86 h87
          · have h85 := g_in h82 c83; clear h82
            refine g_aload_n (j := 1) X dX4_finish_92 rfl rfl ?_
            obtain ⟨a88, ea88, ka88, h89⟩ := g_dc h85; clear h85
            obtain ⟨S90, eS90, h91⟩ := g_bd h89; clear h89
            refine g_cV (n := 0) (As := []) X (c_X4_mix hl D eS90) tw303 tw304 tw5 tw47 tw305 (by decide +kernel) rfl rfl ⟨Nat.le_of_ble_eq_true rfl, Nat.le_of_ble_eq_true rfl⟩ (ci := 4) rfl (by decide) ea88 ka88 rfl rfl (Nat.le_of_ble_eq_true rfl) dX4_finish_93 ⟨(by decide), (by decide)⟩ ?_
            clear eS90 ea88 ka88
            obtain ⟨x92, ex92, h93⟩ := g_let h91; clear h91
            refine g_iinc (j := 5) (v := x92) (lv' := [(4, .int x92), (5, .int 0), (0, va_rf (some a0)), (1, va_rf v1), (2, .int v2), (3, .int v3)]) X dX4_finish_96 rfl (by rw [ex92]; rfl) (by decide) rfl ?_
            clear ex92
            refine g_goto (tgt := 39) X dX4_finish_99 (by decide) ?_
            refine g_sub [2, 3, 4, 5, 0] rfl ?_
            exact ih S90 a0 v1 v2 v3 x92 h93
        · have h76 := g_ip h34 c74; clear h34
          refine g_sipush X dX4_finish_72 (v := 128) (by decide) ?_
          refine g_goto (tgt := 80) X dX4_finish_75 (by decide) ?_
          obtain ⟨a94, ea94, ka94, h95⟩ := g_dc h76; clear h76
          obtain ⟨S96, eS96, h97⟩ := g_bd h95; clear h95
          refine g_cV (n := 1) (As := [.int 128]) X (c_X4_put hl D eS96) tw300 tw301 tw4 tw47 tw302 (by decide +kernel) rfl rfl ⟨Nat.le_of_ble_eq_true rfl, Nat.le_of_ble_eq_true rfl⟩ (ci := 4) rfl (by decide) ea94 ka94 rfl rfl (Nat.le_of_ble_eq_true rfl) dX4_finish_80 ⟨(by decide), (by decide)⟩ ?_
          clear eS96 ea94 ka94
          refine g_aload_n (j := 1) X dX4_finish_83 rfl rfl ?_
          obtain ⟨x98, ex98, h99⟩ := g_bd h97; clear h97
          refine g_fI (ci := 4) (k := 2) X rfl il4 (by decide) tw98 (by decide) (fun _ _ _ => rfl) ex98 dX4_finish_84 ?_
          clear ex98
          refine g_bipush X dX4_finish_87 (v := 64) (by decide) ?_
          refine g_icmp_lt (tgt := 96) X dX4_finish_89 (by decide) (fun c100 => ?_) (fun c100 => ?_)
          · have h101 := g_ip h99 c100; clear h99
            obtain ⟨x103, ex103, h104⟩ := g_let h101; clear h101
            refine g_iinc (j := 5) (v := x103) (lv' := [(4, .int x103), (5, .int 0), (0, va_rf (some a0)), (1, va_rf v1), (2, .int v2), (3, .int v3)]) X dX4_finish_96 rfl (by rw [ex103]; rfl) (by decide) rfl ?_
            clear ex103
            refine g_goto (tgt := 39) X dX4_finish_99 (by decide) ?_
            refine g_sub [2, 3, 4, 5, 0] rfl ?_
            exact ih S96 a0 v1 v2 v3 x103 h104
          · have h102 := g_in h99 c100; clear h99
            refine g_aload_n (j := 1) X dX4_finish_92 rfl rfl ?_
            obtain ⟨a105, ea105, ka105, h106⟩ := g_dc h102; clear h102
            obtain ⟨S107, eS107, h108⟩ := g_bd h106; clear h106
            refine g_cV (n := 0) (As := []) X (c_X4_mix hl D eS107) tw303 tw304 tw5 tw47 tw305 (by decide +kernel) rfl rfl ⟨Nat.le_of_ble_eq_true rfl, Nat.le_of_ble_eq_true rfl⟩ (ci := 4) rfl (by decide) ea105 ka105 rfl rfl (Nat.le_of_ble_eq_true rfl) dX4_finish_93 ⟨(by decide), (by decide)⟩ ?_
            clear eS107 ea105 ka105
            obtain ⟨x109, ex109, h110⟩ := g_let h108; clear h108
            refine g_iinc (j := 5) (v := x109) (lv' := [(4, .int x109), (5, .int 0), (0, va_rf (some a0)), (1, va_rf v1), (2, .int v2), (3, .int v3)]) X dX4_finish_96 rfl (by rw [ex109]; rfl) (by decide) rfl ?_
            clear ex109
            refine g_goto (tgt := 39) X dX4_finish_99 (by decide) ?_
            refine g_sub [2, 3, 4, 5, 0] rfl ?_
            exact ih S107 a0 v1 v2 v3 x109 h110
def f_X4_finish_B35 (S0 : gS) (a0 : Nat) (v1 : Option Nat) (v2 : Int32) (t0 : Int32) : Option gS :=
  f_X4_finish_L39 gFuel S0 a0 v1 v2 t0 t0
set_option maxRecDepth 100000 in
set_option maxHeartbeats 4000000 in
theorem w_X4_finish_B35 {p : Program} {l : Launch} {e : Env} {s : State} {m : MethodId} {args : Array Value} {below : List Frame} {meth : Method} {c : Code} {D : gD} {S9 : gS}  (hl : l.stackTraces = false) (X : gX D p l s m args meth c cX4_finish 6 RX4) (hr : meth.sig.returnType = none) (S0 : gS) (a0 : Nat) (v1 : Option Nat) (v2 : Int32) (t0 : Int32) (h0 : f_X4_finish_B35 S0 a0 v1 v2 t0 = some S9) : gJ D p l e { frames := 1, cells := 0, slots := 0, locals := 34 } s m args below meth c (MQ below (gQ D none S9) args s (0) (0) (gF D)) 6 (0) (0) S0 35 [(0, va_rf (some a0)), (1, va_rf v1), (2, .int v2)] [.int t0] := by
  unfold f_X4_finish_B35 at h0
  refine g_istore_n (i := 3) (lv' := [(3, .int t0), (0, va_rf (some a0)), (1, va_rf v1), (2, .int v2)]) X dX4_finish_35 rfl (by decide) rfl ?_
  refine g_iload_n (j := 0) X dX4_finish_36 rfl rfl ?_
  refine g_istore (i := 4) (lv' := [(4, .int t0), (3, .int t0), (0, va_rf (some a0)), (1, va_rf v1), (2, .int v2)]) X dX4_finish_37 (by decide) rfl ?_
  refine g_sub [2, 3, 4, 1, 0] rfl ?_
  exact w_X4_finish_L39 hl X hr gFuel S0 a0 v1 v2 t0 t0 h0
def f_X4_finish (S0 : gS) (a0 : Nat) (v1 : Option Nat) : Option gS :=
  (fgI S0 4 3 (some a0)).bind fun x1 =>
  gLet (x1 * 8) fun x3 =>
  (fgI S0 4 2 (some a0)).bind fun x5 =>
  if 56 ≤ x5 then
    (fgI S0 4 2 (some a0)).bind fun x10 =>
    f_X4_finish_B35 S0 a0 v1 x3 (128 - x10)
  else
    (fgI S0 4 2 (some a0)).bind fun x111 =>
    f_X4_finish_B35 S0 a0 v1 x3 (64 - x111)
set_option maxRecDepth 100000 in
set_option maxHeartbeats 4000000 in
theorem c_X4_finish {l : Launch} (hl : l.stackTraces = false) (D : gD)  {S0 S9 : gS} {a0 : Nat} {v1 : Option Nat} (h0 : f_X4_finish S0 a0 v1 = some S9) : Met l yX4_finish (gws yX4_finish cX4_finish 6 none) { frames := 1, cells := 0, slots := 0, locals := 34 } (gPc D S0 [.ref a0, va_rf v1]) (gQ D none S9) (0) (0) (gF D) := by
  refine g_met (lv := [(0, va_rf (some a0)), (1, va_rf v1)]) hl (by decide) (by simp [lg_sl, g_rfc, g_ci, g_cj, g_cr]) (by simp [lv_args, g_rfc, g_ci, g_cj, g_cr]; try rfl) (fun p e s m args below meth c X hr hn => ?_)
  have X : gX D p l s m args meth c cX4_finish 6 RX4 := X
  unfold f_X4_finish at h0
  refine g_aload_n (j := 0) X dX4_finish_0 rfl rfl ?_
  obtain ⟨x1, ex1, h2⟩ := g_bd h0; clear h0
  refine g_fI (ci := 4) (k := 3) X rfl il4 (by decide) tw99 (by decide) (fun _ _ _ => rfl) ex1 dX4_finish_1 ?_
  clear ex1
  refine g_bipush X dX4_finish_4 (v := 8) (by decide) ?_
  refine g_imul X dX4_finish_6 ?_
  obtain ⟨x3, ex3, h4⟩ := g_let h2; clear h2; rw [← ex3]; clear ex3
  refine g_istore_n (i := 2) (lv' := [(2, .int x3), (0, va_rf (some a0)), (1, va_rf v1)]) X dX4_finish_7 rfl (by decide) (by simp [g_rfc, g_ci, g_cj, g_cr]) ?_
  refine g_aload_n (j := 1) X dX4_finish_8 rfl rfl ?_
  obtain ⟨x5, ex5, h6⟩ := g_bd h4; clear h4
  refine g_fI (ci := 4) (k := 2) X rfl il4 (by decide) tw98 (by decide) (fun _ _ _ => rfl) ex5 dX4_finish_9 ?_
  clear ex5
  refine g_bipush X dX4_finish_12 (v := 56) (by decide) ?_
  refine g_icmp_ge (tgt := 27) X dX4_finish_14 (by decide) (fun c7 => ?_) (fun c7 => ?_)
  · have h8 := g_ip h6 c7; clear h6
    refine g_sipush X dX4_finish_27 (v := 128) (by decide) ?_
    refine g_aload_n (j := 1) X dX4_finish_30 rfl rfl ?_
    obtain ⟨x10, ex10, h11⟩ := g_bd h8; clear h8
    refine g_fI (ci := 4) (k := 2) X rfl il4 (by decide) tw98 (by decide) (fun _ _ _ => rfl) ex10 dX4_finish_31 ?_
    clear ex10
    refine g_isub X dX4_finish_34 ?_
    refine g_sub [1, 2, 0] rfl ?_
    exact w_X4_finish_B35 hl X hr S0 a0 v1 x3 (128 - x10) h11
  · have h9 := g_in h6 c7; clear h6
    refine g_bipush X dX4_finish_17 (v := 64) (by decide) ?_
    refine g_aload_n (j := 1) X dX4_finish_19 rfl rfl ?_
    obtain ⟨x111, ex111, h112⟩ := g_bd h9; clear h9
    refine g_fI (ci := 4) (k := 2) X rfl il4 (by decide) tw98 (by decide) (fun _ _ _ => rfl) ex111 dX4_finish_20 ?_
    clear ex111
    refine g_isub X dX4_finish_23 ?_
    refine g_goto (tgt := 35) X dX4_finish_24 (by decide) ?_
    refine g_sub [1, 2, 0] rfl ?_
    exact w_X4_finish_B35 hl X hr S0 a0 v1 x3 (64 - x111) h112
def f_X4_node (S0 : gS) (a0 : Nat) (v1 : Option Nat) (v2 : Int32) (v3 : Option Nat) (v4 : Int32) (v5 : Option Nat) : Option gS :=
  gDc S0 4 (some a0) fun a1 =>
  (f_X4_begin S0 a1).bind fun S3 =>
  gDc S3 4 (some a0) fun a5 =>
  (f_X4_add S3 a5 1).bind fun S7 =>
  gDc S7 4 (some a0) fun a9 =>
  (f_X4_addRow S7 a9 v1 v2 32).bind fun S11 =>
  gDc S11 4 (some a0) fun a13 =>
  (f_X4_addRow S11 a13 v3 v4 32).bind fun S15 =>
  gDc S15 4 (some a0) fun a17 =>
  (f_X4_finish S15 a17 v5).bind fun S19 =>
  some S19
set_option maxRecDepth 100000 in
set_option maxHeartbeats 4000000 in
theorem c_X4_node {l : Launch} (hl : l.stackTraces = false) (D : gD)  {S0 S9 : gS} {a0 : Nat} {v1 : Option Nat} {v2 : Int32} {v3 : Option Nat} {v4 : Int32} {v5 : Option Nat} (h0 : f_X4_node S0 a0 v1 v2 v3 v4 v5 = some S9) : Met l yX4_node (gws yX4_node cX4_node 6 none) { frames := 2, cells := 0, slots := 0, locals := 60 } (gPc D S0 [.ref a0, va_rf v1, .int v2, va_rf v3, .int v4, va_rf v5]) (gQ D none S9) (0) (0) (gF D) := by
  refine g_met (lv := [(0, va_rf (some a0)), (1, va_rf v1), (2, .int v2), (3, va_rf v3), (4, .int v4), (5, va_rf v5)]) hl (by decide) (by simp [lg_sl, g_rfc, g_ci, g_cj, g_cr]) (by simp [lv_args, g_rfc, g_ci, g_cj, g_cr]; try rfl) (fun p e s m args below meth c X hr hn => ?_)
  have X : gX D p l s m args meth c cX4_node 6 RX4 := X
  unfold f_X4_node at h0
  refine g_aload_n (j := 0) X dX4_node_0 rfl rfl ?_
  obtain ⟨a1, ea1, ka1, h2⟩ := g_dc h0; clear h0
  obtain ⟨S3, eS3, h4⟩ := g_bd h2; clear h2
  refine g_cV (n := 0) (As := []) X (c_X4_begin hl D eS3) tw290 tw291 tw292 tw47 tw293 (by decide +kernel) rfl rfl ⟨Nat.le_of_ble_eq_true rfl, Nat.le_of_ble_eq_true rfl⟩ (ci := 4) rfl (by decide) ea1 ka1 rfl rfl (Nat.le_of_ble_eq_true rfl) dX4_node_1 ⟨(by decide), (by decide)⟩ ?_
  clear eS3 ea1 ka1
  refine g_aload_n (j := 0) X dX4_node_4 rfl rfl ?_
  refine g_iconst X dX4_node_5 (v := 1) (by decide) ?_
  obtain ⟨a5, ea5, ka5, h6⟩ := g_dc h4; clear h4
  obtain ⟨S7, eS7, h8⟩ := g_bd h6; clear h6
  refine g_cV (n := 1) (As := [.int 1]) X (c_X4_add hl D eS7) tw296 tw297 tw298 tw47 tw299 (by decide +kernel) rfl rfl ⟨Nat.le_of_ble_eq_true rfl, Nat.le_of_ble_eq_true rfl⟩ (ci := 4) rfl (by decide) ea5 ka5 rfl rfl (Nat.le_of_ble_eq_true rfl) dX4_node_6 ⟨(by decide), (by decide)⟩ ?_
  clear eS7 ea5 ka5
  refine g_aload_n (j := 0) X dX4_node_9 rfl rfl ?_
  refine g_aload_n (j := 1) X dX4_node_10 rfl rfl ?_
  refine g_iload_n (j := 2) X dX4_node_11 rfl rfl ?_
  refine g_bipush X dX4_node_12 (v := 32) (by decide) ?_
  obtain ⟨a9, ea9, ka9, h10⟩ := g_dc h8; clear h8
  obtain ⟨S11, eS11, h12⟩ := g_bd h10; clear h10
  refine g_cV (n := 3) (As := [va_rf v1, .int v2, .int 32]) X (c_X4_addRow hl D eS11) tw307 tw308 tw309 tw47 tw310 (by decide +kernel) rfl rfl ⟨Nat.le_of_ble_eq_true rfl, Nat.le_of_ble_eq_true rfl⟩ (ci := 4) rfl (by decide) ea9 ka9 rfl rfl (Nat.le_of_ble_eq_true rfl) dX4_node_14 ⟨(by decide), (by decide)⟩ ?_
  clear eS11 ea9 ka9
  refine g_aload_n (j := 0) X dX4_node_17 rfl rfl ?_
  refine g_aload_n (j := 3) X dX4_node_18 rfl rfl ?_
  refine g_iload (j := 4) X dX4_node_19 rfl ?_
  refine g_bipush X dX4_node_21 (v := 32) (by decide) ?_
  obtain ⟨a13, ea13, ka13, h14⟩ := g_dc h12; clear h12
  obtain ⟨S15, eS15, h16⟩ := g_bd h14; clear h14
  refine g_cV (n := 3) (As := [va_rf v3, .int v4, .int 32]) X (c_X4_addRow hl D eS15) tw307 tw308 tw309 tw47 tw310 (by decide +kernel) rfl rfl ⟨Nat.le_of_ble_eq_true rfl, Nat.le_of_ble_eq_true rfl⟩ (ci := 4) rfl (by decide) ea13 ka13 rfl rfl (Nat.le_of_ble_eq_true rfl) dX4_node_23 ⟨(by decide), (by decide)⟩ ?_
  clear eS15 ea13 ka13
  refine g_aload_n (j := 0) X dX4_node_26 rfl rfl ?_
  refine g_aload (j := 5) X dX4_node_27 rfl ?_
  obtain ⟨a17, ea17, ka17, h18⟩ := g_dc h16; clear h16
  obtain ⟨S19, eS19, h20⟩ := g_bd h18; clear h18
  refine g_cV (n := 1) (As := [va_rf v5]) X (c_X4_finish hl D eS19) tw312 tw313 tw314 tw47 tw315 (by decide +kernel) rfl rfl ⟨Nat.le_of_ble_eq_true rfl, Nat.le_of_ble_eq_true rfl⟩ (ci := 4) rfl (by decide) ea17 ka17 rfl rfl (Nat.le_of_ble_eq_true rfl) dX4_node_29 ⟨(by decide), (by decide)⟩ ?_
  clear eS19 ea17 ka17
  cases h20
  exact g_vret X hr (by decide) (by decide) dX4_node_32
def f_X0_climb_L28 : Nat → gS → Nat → Option Nat → Option Nat → Int32 → Int32 → Option gS
  | 0, _, _, _, _, _, _ => none
  | k + 1, S0, a0, v1, v2, v4, v5 =>
    if v5 < 0 then
      some S0
    else
      if 64 ≤ v5 then
        some S0
      else
        (fgR S0 2 2 v1).bind fun x16 =>
        (fI S0 12 x16 v5).bind fun x18 =>
        if x18 = 0 then
          (fgR S0 0 0 (some a0)).bind fun x23 =>
          (fgR S0 0 2 (some a0)).bind fun x25 =>
          (fgR S0 0 2 (some a0)).bind fun x27 =>
          gDc S0 4 x23 fun a29 =>
          (f_X4_node S0 a29 x25 0 v2 v4 x27).bind fun S31 =>
          gLet (v4 + 32) fun x33 =>
          gLet (v5 + (-1)) fun x35 =>
          f_X0_climb_L28 k S31 a0 v1 v2 x33 x35
        else
          (fgR S0 0 0 (some a0)).bind fun x37 =>
          (fgR S0 0 1 (some a0)).bind fun x39 =>
          (fgR S0 0 1 (some a0)).bind fun x41 =>
          gDc S0 4 x37 fun a43 =>
          (f_X4_node S0 a43 v2 v4 x39 0 x41).bind fun S45 =>
          (fgR S45 0 0 (some a0)).bind fun x47 =>
          (fgR S45 0 2 (some a0)).bind fun x49 =>
          (fgR S45 0 2 (some a0)).bind fun x51 =>
          gDc S45 4 x47 fun a53 =>
          (f_X4_node S45 a53 v2 v4 x49 0 x51).bind fun S55 =>
          gLet (v4 + 32) fun x57 =>
          gLet (v5 + (-1)) fun x59 =>
          f_X0_climb_L28 k S55 a0 v1 v2 x57 x59
set_option maxRecDepth 100000 in
set_option maxHeartbeats 4000000 in
theorem w_X0_climb_L28 {p : Program} {l : Launch} {e : Env} {s : State} {m : MethodId} {args : Array Value} {below : List Frame} {meth : Method} {c : Code} {D : gD} {S9 : gS}  (hl : l.stackTraces = false) (X : gX D p l s m args meth c cX0_climb 6 RX0) (hr : meth.sig.returnType = none) : ∀ (k : Nat) (S0 : gS) (a0 : Nat) (v1 : Option Nat) (v2 : Option Nat) (v4 : Int32) (v5 : Int32), f_X0_climb_L28 k S0 a0 v1 v2 v4 v5 = some S9 → gJ D p l e { frames := 3, cells := 0, slots := 0, locals := 86 } s m args below meth c (MQ below (gQ D none S9) args s (0) (0) (gF D)) 6 (0) (0) S0 28 [(0, va_rf (some a0)), (1, va_rf v1), (2, va_rf v2), (4, .int v4), (5, .int v5)] [] := by
  intro k
  induction k with
  | zero => intro S0 a0 v1 v2 v4 v5 h0; cases h0
  | succ k ih =>
    intro S0 a0 v1 v2 v4 v5 h0
    have h0 := h0
    unfold f_X0_climb_L28 at h0
    refine g_iload (j := 4) X dX0_climb_28 rfl ?_
    refine g_if_lt (tgt := 119) X dX0_climb_30 (by decide) (fun c10 => ?_) (fun c10 => ?_)
    · have h11 := g_ip h0 c10; clear h0
      cases h11
      exact g_vret X hr (by decide) (by decide) dX0_climb_119
    · have h12 := g_in h0 c10; clear h0
      refine g_iload (j := 4) X dX0_climb_33 rfl ?_
      refine g_bipush X dX0_climb_35 (v := 64) (by decide) ?_
      refine g_icmp_ge (tgt := 119) X dX0_climb_37 (by decide) (fun c13 => ?_) (fun c13 => ?_)
      · have h14 := g_ip h12 c13; clear h12
        cases h14
        exact g_vret X hr (by decide) (by decide) dX0_climb_119
      · have h15 := g_in h12 c13; clear h12
        refine g_aload_n (j := 1) X dX0_climb_40 rfl rfl ?_
        obtain ⟨x16, ex16, h17⟩ := g_bd h15; clear h15
        refine g_fR (ci := 2) (k := 2) X rfl il2 (by decide) tw154 (by decide) (fun _ _ _ => rfl) ex16 dX0_climb_41 ?_
        clear ex16
        refine g_iload (j := 4) X dX0_climb_44 rfl ?_
        obtain ⟨x18, ex18, h19⟩ := g_bd h17; clear h17
        refine g_zald X ex18 dX0_climb_46 ?_
        clear ex18
        refine g_if_eq (tgt := 91) X dX0_climb_47 (by decide) (fun c20 => ?_) (fun c20 => ?_)
        · have h21 := g_ip h19 c20; clear h19
          refine g_aload_n (j := 0) X dX0_climb_91 rfl rfl ?_
          obtain ⟨x23, ex23, h24⟩ := g_bd h21; clear h21
          refine g_fR (ci := 0) (k := 0) X rfl il0 (by decide) tw180 (by decide) (fun _ _ _ => rfl) ex23 dX0_climb_92 ?_
          clear ex23
          refine g_aload_n (j := 0) X dX0_climb_95 rfl rfl ?_
          obtain ⟨x25, ex25, h26⟩ := g_bd h24; clear h24
          refine g_fR (ci := 0) (k := 2) X rfl il0 (by decide) tw182 (by decide) (fun _ _ _ => rfl) ex25 dX0_climb_96 ?_
          clear ex25
          refine g_iconst X dX0_climb_99 (v := 0) (by decide) ?_
          refine g_aload_n (j := 2) X dX0_climb_100 rfl rfl ?_
          refine g_iload (j := 3) X dX0_climb_101 rfl ?_
          refine g_aload_n (j := 0) X dX0_climb_103 rfl rfl ?_
          obtain ⟨x27, ex27, h28⟩ := g_bd h26; clear h26
          refine g_fR (ci := 0) (k := 2) X rfl il0 (by decide) tw182 (by decide) (fun _ _ _ => rfl) ex27 dX0_climb_104 ?_
          clear ex27
          obtain ⟨a29, ea29, ka29, h30⟩ := g_dc h28; clear h28
          obtain ⟨S31, eS31, h32⟩ := g_bd h30; clear h30
          refine g_cV (n := 5) (As := [va_rf x25, .int 0, va_rf v2, .int v4, va_rf x27]) X (c_X4_node hl D eS31) tw286 tw287 tw288 tw47 tw289 (by decide +kernel) rfl rfl ⟨Nat.le_of_ble_eq_true rfl, Nat.le_of_ble_eq_true rfl⟩ (ci := 4) rfl (by decide) ea29 ka29 rfl rfl (Nat.le_of_ble_eq_true rfl) dX0_climb_107 ⟨(by decide), (by decide)⟩ ?_
          clear eS31 ea29 ka29
          obtain ⟨x33, ex33, h34⟩ := g_let h32; clear h32
          refine g_iinc (j := 3) (v := x33) (lv' := [(4, .int x33), (0, va_rf (some a0)), (1, va_rf v1), (2, va_rf v2), (5, .int v5)]) X dX0_climb_110 rfl (by rw [ex33]; rfl) (by decide) rfl ?_
          clear ex33
          obtain ⟨x35, ex35, h36⟩ := g_let h34; clear h34
          refine g_iinc (j := 4) (v := x35) (lv' := [(5, .int x35), (4, .int x33), (0, va_rf (some a0)), (1, va_rf v1), (2, va_rf v2)]) X dX0_climb_113 rfl (by rw [ex35]; rfl) (by decide) rfl ?_
          clear ex35
          refine g_goto (tgt := 28) X dX0_climb_116 (by decide) ?_
          refine g_sub [2, 3, 4, 1, 0] rfl ?_
          exact ih S31 a0 v1 v2 x33 x35 h36
        · have h22 := g_in h19 c20; clear h19
          refine g_aload_n (j := 0) X dX0_climb_50 rfl rfl ?_
          obtain ⟨x37, ex37, h38⟩ := g_bd h22; clear h22
          refine g_fR (ci := 0) (k := 0) X rfl il0 (by decide) tw180 (by decide) (fun _ _ _ => rfl) ex37 dX0_climb_51 ?_
          clear ex37
          refine g_aload_n (j := 2) X dX0_climb_54 rfl rfl ?_
          refine g_iload (j := 3) X dX0_climb_55 rfl ?_
          refine g_aload_n (j := 0) X dX0_climb_57 rfl rfl ?_
          obtain ⟨x39, ex39, h40⟩ := g_bd h38; clear h38
          refine g_fR (ci := 0) (k := 1) X rfl il0 (by decide) tw181 (by decide) (fun _ _ _ => rfl) ex39 dX0_climb_58 ?_
          clear ex39
          refine g_iconst X dX0_climb_61 (v := 0) (by decide) ?_
          refine g_aload_n (j := 0) X dX0_climb_62 rfl rfl ?_
          obtain ⟨x41, ex41, h42⟩ := g_bd h40; clear h40
          refine g_fR (ci := 0) (k := 1) X rfl il0 (by decide) tw181 (by decide) (fun _ _ _ => rfl) ex41 dX0_climb_63 ?_
          clear ex41
          obtain ⟨a43, ea43, ka43, h44⟩ := g_dc h42; clear h42
          obtain ⟨S45, eS45, h46⟩ := g_bd h44; clear h44
          refine g_cV (n := 5) (As := [va_rf v2, .int v4, va_rf x39, .int 0, va_rf x41]) X (c_X4_node hl D eS45) tw286 tw287 tw288 tw47 tw289 (by decide +kernel) rfl rfl ⟨Nat.le_of_ble_eq_true rfl, Nat.le_of_ble_eq_true rfl⟩ (ci := 4) rfl (by decide) ea43 ka43 rfl rfl (Nat.le_of_ble_eq_true rfl) dX0_climb_66 ⟨(by decide), (by decide)⟩ ?_
          clear eS45 ea43 ka43
          refine g_aload_n (j := 0) X dX0_climb_69 rfl rfl ?_
          obtain ⟨x47, ex47, h48⟩ := g_bd h46; clear h46
          refine g_fR (ci := 0) (k := 0) X rfl il0 (by decide) tw180 (by decide) (fun _ _ _ => rfl) ex47 dX0_climb_70 ?_
          clear ex47
          refine g_aload_n (j := 2) X dX0_climb_73 rfl rfl ?_
          refine g_iload (j := 3) X dX0_climb_74 rfl ?_
          refine g_aload_n (j := 0) X dX0_climb_76 rfl rfl ?_
          obtain ⟨x49, ex49, h50⟩ := g_bd h48; clear h48
          refine g_fR (ci := 0) (k := 2) X rfl il0 (by decide) tw182 (by decide) (fun _ _ _ => rfl) ex49 dX0_climb_77 ?_
          clear ex49
          refine g_iconst X dX0_climb_80 (v := 0) (by decide) ?_
          refine g_aload_n (j := 0) X dX0_climb_81 rfl rfl ?_
          obtain ⟨x51, ex51, h52⟩ := g_bd h50; clear h50
          refine g_fR (ci := 0) (k := 2) X rfl il0 (by decide) tw182 (by decide) (fun _ _ _ => rfl) ex51 dX0_climb_82 ?_
          clear ex51
          obtain ⟨a53, ea53, ka53, h54⟩ := g_dc h52; clear h52
          obtain ⟨S55, eS55, h56⟩ := g_bd h54; clear h54
          refine g_cV (n := 5) (As := [va_rf v2, .int v4, va_rf x49, .int 0, va_rf x51]) X (c_X4_node hl D eS55) tw286 tw287 tw288 tw47 tw289 (by decide +kernel) rfl rfl ⟨Nat.le_of_ble_eq_true rfl, Nat.le_of_ble_eq_true rfl⟩ (ci := 4) rfl (by decide) ea53 ka53 rfl rfl (Nat.le_of_ble_eq_true rfl) dX0_climb_85 ⟨(by decide), (by decide)⟩ ?_
          clear eS55 ea53 ka53
          refine g_goto (tgt := 110) X dX0_climb_88 (by decide) ?_
          obtain ⟨x57, ex57, h58⟩ := g_let h56; clear h56
          refine g_iinc (j := 3) (v := x57) (lv' := [(4, .int x57), (0, va_rf (some a0)), (1, va_rf v1), (2, va_rf v2), (5, .int v5)]) X dX0_climb_110 rfl (by rw [ex57]; rfl) (by decide) rfl ?_
          clear ex57
          obtain ⟨x59, ex59, h60⟩ := g_let h58; clear h58
          refine g_iinc (j := 4) (v := x59) (lv' := [(5, .int x59), (4, .int x57), (0, va_rf (some a0)), (1, va_rf v1), (2, va_rf v2)]) X dX0_climb_113 rfl (by rw [ex59]; rfl) (by decide) rfl ?_
          clear ex59
          refine g_goto (tgt := 28) X dX0_climb_116 (by decide) ?_
          refine g_sub [2, 3, 4, 1, 0] rfl ?_
          exact ih S55 a0 v1 v2 x57 x59 h60
def f_X0_climb_B20 (S0 : gS) (a0 : Nat) (v1 : Option Nat) (v2 : Option Nat) (v4 : Int32) : Option gS :=
  (fgI S0 2 3 v1).bind fun x6 =>
  gLet (x6 - 1) fun x8 =>
  f_X0_climb_L28 gFuel S0 a0 v1 v2 v4 x8
set_option maxRecDepth 100000 in
set_option maxHeartbeats 4000000 in
theorem w_X0_climb_B20 {p : Program} {l : Launch} {e : Env} {s : State} {m : MethodId} {args : Array Value} {below : List Frame} {meth : Method} {c : Code} {D : gD} {S9 : gS}  (hl : l.stackTraces = false) (X : gX D p l s m args meth c cX0_climb 6 RX0) (hr : meth.sig.returnType = none) (S0 : gS) (a0 : Nat) (v1 : Option Nat) (v2 : Option Nat) (v4 : Int32) (h0 : f_X0_climb_B20 S0 a0 v1 v2 v4 = some S9) : gJ D p l e { frames := 3, cells := 0, slots := 0, locals := 86 } s m args below meth c (MQ below (gQ D none S9) args s (0) (0) (gF D)) 6 (0) (0) S0 20 [(0, va_rf (some a0)), (1, va_rf v1), (2, va_rf v2), (4, .int v4)] [] := by
  unfold f_X0_climb_B20 at h0
  refine g_aload_n (j := 1) X dX0_climb_20 rfl rfl ?_
  obtain ⟨x6, ex6, h7⟩ := g_bd h0; clear h0
  refine g_fI (ci := 2) (k := 3) X rfl il2 (by decide) tw156 (by decide) (fun _ _ _ => rfl) ex6 dX0_climb_21 ?_
  clear ex6
  refine g_iconst X dX0_climb_24 (v := 1) (by decide) ?_
  refine g_isub X dX0_climb_25 ?_
  obtain ⟨x8, ex8, h9⟩ := g_let h7; clear h7; rw [← ex8]; clear ex8
  refine g_istore (i := 5) (lv' := [(5, .int x8), (0, va_rf (some a0)), (1, va_rf v1), (2, va_rf v2), (4, .int v4)]) X dX0_climb_26 (by decide) rfl ?_
  refine g_sub [1, 2, 3, 4, 0] rfl ?_
  exact w_X0_climb_L28 hl X hr gFuel S0 a0 v1 v2 v4 x8 h9
def f_X0_climb (S0 : gS) (a0 : Nat) (v1 : Option Nat) (v2 : Option Nat) (v3 : Int32) : Option gS :=
  (fgI S0 2 6 v1).bind fun x1 =>
  if x1 = 0 then
    f_X0_climb_B20 S0 a0 v1 v2 v3
  else
    gDc S0 0 (some a0) fun a61 =>
    (f_X0_start S0 a61 v2 v3).bind fun S63 =>
    gLet (v3 + 32) fun x65 =>
    f_X0_climb_B20 S63 a0 v1 v2 x65
set_option maxRecDepth 100000 in
set_option maxHeartbeats 4000000 in
theorem c_X0_climb {l : Launch} (hl : l.stackTraces = false) (D : gD)  {S0 S9 : gS} {a0 : Nat} {v1 : Option Nat} {v2 : Option Nat} {v3 : Int32} (h0 : f_X0_climb S0 a0 v1 v2 v3 = some S9) : Met l yX0_climb (gws yX0_climb cX0_climb 6 none) { frames := 3, cells := 0, slots := 0, locals := 86 } (gPc D S0 [.ref a0, va_rf v1, va_rf v2, .int v3]) (gQ D none S9) (0) (0) (gF D) := by
  refine g_met (lv := [(0, va_rf (some a0)), (1, va_rf v1), (2, va_rf v2), (3, .int v3)]) hl (by decide) (by simp [lg_sl, g_rfc, g_ci, g_cj, g_cr]) (by simp [lv_args, g_rfc, g_ci, g_cj, g_cr]; try rfl) (fun p e s m args below meth c X hr hn => ?_)
  have X : gX D p l s m args meth c cX0_climb 6 RX0 := X
  unfold f_X0_climb at h0
  refine g_iload_n (j := 3) X dX0_climb_0 rfl rfl ?_
  refine g_istore (i := 4) (lv' := [(4, .int v3), (0, va_rf (some a0)), (1, va_rf v1), (2, va_rf v2), (3, .int v3)]) X dX0_climb_1 (by decide) rfl ?_
  refine g_aload_n (j := 2) X dX0_climb_3 rfl rfl ?_
  obtain ⟨x1, ex1, h2⟩ := g_bd h0; clear h0
  refine g_fI (ci := 2) (k := 6) X rfl il2 (by decide) tw163 (by decide) (fun _ _ _ => rfl) ex1 dX0_climb_4 ?_
  clear ex1
  refine g_if_eq (tgt := 20) X dX0_climb_7 (by decide) (fun c3 => ?_) (fun c3 => ?_)
  · have h4 := g_ip h2 c3; clear h2
    refine g_sub [1, 2, 3, 0] rfl ?_
    exact w_X0_climb_B20 hl X hr S0 a0 v1 v2 v3 h4
  · have h5 := g_in h2 c3; clear h2
    refine g_aload_n (j := 1) X dX0_climb_10 rfl rfl ?_
    refine g_aload_n (j := 3) X dX0_climb_11 rfl rfl ?_
    refine g_iload (j := 0) X dX0_climb_12 rfl ?_
    obtain ⟨a61, ea61, ka61, h62⟩ := g_dc h5; clear h5
    obtain ⟨S63, eS63, h64⟩ := g_bd h62; clear h62
    refine g_cV (n := 2) (As := [va_rf v2, .int v3]) X (c_X0_start hl D eS63) tw285 tw277 tw278 tw50 tw279 (by decide +kernel) rfl rfl ⟨Nat.le_of_ble_eq_true rfl, Nat.le_of_ble_eq_true rfl⟩ (ci := 0) rfl (by decide) ea61 ka61 rfl rfl (Nat.le_of_ble_eq_true rfl) dX0_climb_14 ⟨(by decide), (by decide)⟩ ?_
    clear eS63 ea61 ka61
    obtain ⟨x65, ex65, h66⟩ := g_let h64; clear h64
    refine g_iinc (j := 0) (v := x65) (lv' := [(4, .int x65), (0, va_rf (some a0)), (1, va_rf v1), (2, va_rf v2), (3, .int v3)]) X dX0_climb_17 rfl (by rw [ex65]; rfl) (by decide) rfl ?_
    clear ex65
    refine g_sub [1, 2, 3, 0] rfl ?_
    exact w_X0_climb_B20 hl X hr S63 a0 v1 v2 x65 h66
def f_X3_same_L25 : Nat → gS → Option Nat → Int32 → Option Nat → Int32 → Int32 → Int32 → Option (Int32 × gS)
  | 0, _, _, _, _, _, _, _ => none
  | k + 1, S0, v0, v1, v2, v3, v4, v5 =>
    if v4 ≤ v5 then
      some (1, S0)
    else
      (fI S0 9 v0 (v1 + v5)).bind fun x16 =>
      (fI S0 9 v2 (v3 + v5)).bind fun x18 =>
      if x16 = x18 then
        gLet (v5 + 1) fun x23 =>
        f_X3_same_L25 k S0 v0 v1 v2 v3 v4 x23
      else
        some (0, S0)
set_option maxRecDepth 100000 in
set_option maxHeartbeats 4000000 in
theorem w_X3_same_L25 {p : Program} {l : Launch} {e : Env} {s : State} {m : MethodId} {args : Array Value} {below : List Frame} {meth : Method} {c : Code} {D : gD} {S9 : gS} {res : Int32}  (hl : l.stackTraces = false) (X : gX D p l s m args meth c cX3_same 6 RX3) (hr : meth.sig.returnType = (some .boolean)) : ∀ (k : Nat) (S0 : gS) (v0 : Option Nat) (v1 : Int32) (v2 : Option Nat) (v3 : Int32) (v4 : Int32) (v5 : Int32), f_X3_same_L25 k S0 v0 v1 v2 v3 v4 v5 = some (res, S9) → gJ D p l e { frames := 1, cells := 0, slots := 0, locals := 22 } s m args below meth c (MQ below (gQ D (some (.int res)) S9) args s (0) (0) (gF D)) 6 (0) (0) S0 25 [(0, va_rf v0), (1, .int v1), (2, va_rf v2), (3, .int v3), (4, .int v4), (5, .int v5)] [] := by
  intro k
  induction k with
  | zero => intro S0 v0 v1 v2 v3 v4 v5 h0; cases h0
  | succ k ih =>
    intro S0 v0 v1 v2 v3 v4 v5 h0
    have h0 := h0
    unfold f_X3_same_L25 at h0
    refine g_iload (j := 5) X dX3_same_25 rfl ?_
    refine g_iload (j := 4) X dX3_same_27 rfl ?_
    refine g_icmp_ge (tgt := 55) X dX3_same_29 (by decide) (fun c13 => ?_) (fun c13 => ?_)
    · have h14 := g_ip h0 c13; clear h0
      refine g_iconst X dX3_same_55 (v := 1) (by decide) ?_
      obtain ⟨rfl, rfl⟩ := g_end h14
      exact g_zret X hr (Or.inr rfl) (by decide) (by decide) dX3_same_56
    · have h15 := g_in h0 c13; clear h0
      refine g_aload_n (j := 0) X dX3_same_32 rfl rfl ?_
      refine g_iload_n (j := 1) X dX3_same_33 rfl rfl ?_
      refine g_iload (j := 5) X dX3_same_34 rfl ?_
      refine g_iadd X dX3_same_36 ?_
      obtain ⟨x16, ex16, h17⟩ := g_bd h15; clear h15
      refine g_bald X ex16 dX3_same_37 ?_
      clear ex16
      refine g_aload_n (j := 2) X dX3_same_38 rfl rfl ?_
      refine g_iload_n (j := 3) X dX3_same_39 rfl rfl ?_
      refine g_iload (j := 5) X dX3_same_40 rfl ?_
      refine g_iadd X dX3_same_42 ?_
      obtain ⟨x18, ex18, h19⟩ := g_bd h17; clear h17
      refine g_bald X ex18 dX3_same_43 ?_
      clear ex18
      refine g_icmp_eq (tgt := 49) X dX3_same_44 (by decide) (fun c20 => ?_) (fun c20 => ?_)
      · have h21 := g_ip h19 c20; clear h19
        obtain ⟨x23, ex23, h24⟩ := g_let h21; clear h21
        refine g_iinc (j := 5) (v := x23) (lv' := [(5, .int x23), (0, va_rf v0), (1, .int v1), (2, va_rf v2), (3, .int v3), (4, .int v4)]) X dX3_same_49 rfl (by rw [ex23]; rfl) (by decide) rfl ?_
        clear ex23
        refine g_goto (tgt := 25) X dX3_same_52 (by decide) ?_
        refine g_sub [1, 2, 3, 4, 5, 0] rfl ?_
        exact ih S0 v0 v1 v2 v3 v4 x23 h24
      · have h22 := g_in h19 c20; clear h19
        refine g_iconst X dX3_same_47 (v := 0) (by decide) ?_
        obtain ⟨rfl, rfl⟩ := g_end h22
        exact g_zret X hr (Or.inl rfl) (by decide) (by decide) dX3_same_48
def f_X3_same (S0 : gS) (v0 : Option Nat) (v1 : Int32) (v2 : Option Nat) (v3 : Int32) (v4 : Int32) : Option (Int32 × gS) :=
  gBi (f_X3_holds S0 v0 v1 v4) fun x3 S1 =>
  if x3 = 0 then
    some (0, S1)
  else
    gBi (f_X3_holds S1 v2 v3 v4) fun x9 S7 =>
    if x9 = 0 then
      some (0, S7)
    else
      f_X3_same_L25 gFuel S7 v0 v1 v2 v3 v4 0
set_option maxRecDepth 100000 in
set_option maxHeartbeats 4000000 in
theorem c_X3_same {l : Launch} (hl : l.stackTraces = false) (D : gD)  {S0 S9 : gS} {v0 : Option Nat} {v1 : Int32} {v2 : Option Nat} {v3 : Int32} {v4 : Int32} {res : Int32} (h0 : f_X3_same S0 v0 v1 v2 v3 v4 = some (res, S9)) : Met l yX3_same (gws yX3_same cX3_same 6 (some .boolean)) { frames := 1, cells := 0, slots := 0, locals := 22 } (gPc D S0 [va_rf v0, .int v1, va_rf v2, .int v3, .int v4]) (gQ D (some (.int res)) S9) (0) (0) (gF D) := by
  refine g_met (lv := [(0, va_rf v0), (1, .int v1), (2, va_rf v2), (3, .int v3), (4, .int v4)]) hl (by decide) (by simp [lg_sl, g_rfc, g_ci, g_cj, g_cr]) (by simp [lv_args, g_rfc, g_ci, g_cj, g_cr]; try rfl) (fun p e s m args below meth c X hr hn => ?_)
  have X : gX D p l s m args meth c cX3_same 6 RX3 := X
  unfold f_X3_same at h0
  refine g_aload_n (j := 0) X dX3_same_0 rfl rfl ?_
  refine g_iload_n (j := 1) X dX3_same_1 rfl rfl ?_
  refine g_iload (j := 4) X dX3_same_2 rfl ?_
  obtain ⟨x3, S1, eS1, h2⟩ := g_bi h0; clear h0
  refine g_cS (n := 3) (As := [va_rf v0, .int v1, .int v4]) X (c_X3_holds hl D eS1) tw229 tw224 tw52 tw225 (by decide +kernel) rfl rfl ⟨Nat.le_of_ble_eq_true rfl, Nat.le_of_ble_eq_true rfl⟩ rfl rfl (Nat.le_of_ble_eq_true rfl) dX3_same_4 ⟨(by decide), (by decide)⟩ ?_
  clear eS1
  refine g_if_eq (tgt := 20) X dX3_same_7 (by decide) (fun c4 => ?_) (fun c4 => ?_)
  · have h5 := g_ip h2 c4; clear h2
    refine g_iconst X dX3_same_20 (v := 0) (by decide) ?_
    obtain ⟨rfl, rfl⟩ := g_end h5
    exact g_zret X hr (Or.inl rfl) (by decide) (by decide) dX3_same_21
  · have h6 := g_in h2 c4; clear h2
    refine g_aload_n (j := 2) X dX3_same_10 rfl rfl ?_
    refine g_iload_n (j := 3) X dX3_same_11 rfl rfl ?_
    refine g_iload (j := 4) X dX3_same_12 rfl ?_
    obtain ⟨x9, S7, eS7, h8⟩ := g_bi h6; clear h6
    refine g_cS (n := 3) (As := [va_rf v2, .int v3, .int v4]) X (c_X3_holds hl D eS7) tw229 tw224 tw52 tw225 (by decide +kernel) rfl rfl ⟨Nat.le_of_ble_eq_true rfl, Nat.le_of_ble_eq_true rfl⟩ rfl rfl (Nat.le_of_ble_eq_true rfl) dX3_same_14 ⟨(by decide), (by decide)⟩ ?_
    clear eS7
    refine g_if_ne (tgt := 22) X dX3_same_17 (by decide) (fun c10 => ?_) (fun c10 => ?_)
    · have h11 := g_in h8 c10; clear h8
      refine g_iconst X dX3_same_22 (v := 0) (by decide) ?_
      refine g_istore (i := 5) (lv' := [(5, .int 0), (0, va_rf v0), (1, .int v1), (2, va_rf v2), (3, .int v3), (4, .int v4)]) X dX3_same_23 (by decide) rfl ?_
      refine g_sub [1, 2, 3, 4, 5, 0] rfl ?_
      exact w_X3_same_L25 hl X hr gFuel S7 v0 v1 v2 v3 v4 0 h11
    · have h12 := g_ip h8 c10; clear h8
      refine g_iconst X dX3_same_20 (v := 0) (by decide) ?_
      obtain ⟨rfl, rfl⟩ := g_end h12
      exact g_zret X hr (Or.inl rfl) (by decide) (by decide) dX3_same_21
def f_X0_leftFrom (S0 : gS) (a0 : Nat) (v1 : Option Nat) (v2 : Int32) : Option (Int32 × gS) :=
  (fgR S0 0 1 (some a0)).bind fun x1 =>
  gBi (f_X3_same S0 x1 0 v1 v2 32) fun x5 S3 =>
  if x5 = 0 ∨ x5 = 1 then
    some (x5, S3)
  else none
set_option maxRecDepth 100000 in
set_option maxHeartbeats 4000000 in
theorem c_X0_leftFrom {l : Launch} (hl : l.stackTraces = false) (D : gD)  {S0 S9 : gS} {a0 : Nat} {v1 : Option Nat} {v2 : Int32} {res : Int32} (h0 : f_X0_leftFrom S0 a0 v1 v2 = some (res, S9)) : Met l yX0_leftFrom (gws yX0_leftFrom cX0_leftFrom 3 (some .boolean)) { frames := 2, cells := 0, slots := 0, locals := 47 } (gPc D S0 [.ref a0, va_rf v1, .int v2]) (gQ D (some (.int res)) S9) (0) (0) (gF D) := by
  refine g_met (lv := [(0, va_rf (some a0)), (1, va_rf v1), (2, .int v2)]) hl (by decide) (by simp [lg_sl, g_rfc, g_ci, g_cj, g_cr]) (by simp [lv_args, g_rfc, g_ci, g_cj, g_cr]; try rfl) (fun p e s m args below meth c X hr hn => ?_)
  have X : gX D p l s m args meth c cX0_leftFrom 3 RX0 := X
  unfold f_X0_leftFrom at h0
  refine g_aload_n (j := 0) X dX0_leftFrom_0 rfl rfl ?_
  obtain ⟨x1, ex1, h2⟩ := g_bd h0; clear h0
  refine g_fR (ci := 0) (k := 1) X rfl il0 (by decide) tw181 (by decide) (fun _ _ _ => rfl) ex1 dX0_leftFrom_1 ?_
  clear ex1
  refine g_iconst X dX0_leftFrom_4 (v := 0) (by decide) ?_
  refine g_aload_n (j := 1) X dX0_leftFrom_5 rfl rfl ?_
  refine g_iload_n (j := 2) X dX0_leftFrom_6 rfl rfl ?_
  refine g_bipush X dX0_leftFrom_7 (v := 32) (by decide) ?_
  obtain ⟨x5, S3, eS3, h4⟩ := g_bi h2; clear h2
  refine g_cS (n := 5) (As := [va_rf x1, .int 0, va_rf v1, .int v2, .int 32]) X (c_X3_same hl D eS3) tw320 tw321 tw52 tw322 (by decide +kernel) rfl rfl ⟨Nat.le_of_ble_eq_true rfl, Nat.le_of_ble_eq_true rfl⟩ rfl rfl (Nat.le_of_ble_eq_true rfl) dX0_leftFrom_9 ⟨(by decide), (by decide)⟩ ?_
  clear eS3
  obtain ⟨c6, h7⟩ := g_if h4; clear h4
  obtain ⟨rfl, rfl⟩ := g_end h7
  exact g_zret X hr c6 (by decide) (by decide) dX0_leftFrom_12
def f_X0_cameTo (S0 : gS) (a0 : Nat) (v1 : Option Nat) (v2 : Int32) : Option (Int32 × gS) :=
  (fgR S0 0 2 (some a0)).bind fun x1 =>
  gBi (f_X3_same S0 x1 0 v1 v2 32) fun x5 S3 =>
  if x5 = 0 ∨ x5 = 1 then
    some (x5, S3)
  else none
set_option maxRecDepth 100000 in
set_option maxHeartbeats 4000000 in
theorem c_X0_cameTo {l : Launch} (hl : l.stackTraces = false) (D : gD)  {S0 S9 : gS} {a0 : Nat} {v1 : Option Nat} {v2 : Int32} {res : Int32} (h0 : f_X0_cameTo S0 a0 v1 v2 = some (res, S9)) : Met l yX0_cameTo (gws yX0_cameTo cX0_cameTo 3 (some .boolean)) { frames := 2, cells := 0, slots := 0, locals := 47 } (gPc D S0 [.ref a0, va_rf v1, .int v2]) (gQ D (some (.int res)) S9) (0) (0) (gF D) := by
  refine g_met (lv := [(0, va_rf (some a0)), (1, va_rf v1), (2, .int v2)]) hl (by decide) (by simp [lg_sl, g_rfc, g_ci, g_cj, g_cr]) (by simp [lv_args, g_rfc, g_ci, g_cj, g_cr]; try rfl) (fun p e s m args below meth c X hr hn => ?_)
  have X : gX D p l s m args meth c cX0_cameTo 3 RX0 := X
  unfold f_X0_cameTo at h0
  refine g_aload_n (j := 0) X dX0_cameTo_0 rfl rfl ?_
  obtain ⟨x1, ex1, h2⟩ := g_bd h0; clear h0
  refine g_fR (ci := 0) (k := 2) X rfl il0 (by decide) tw182 (by decide) (fun _ _ _ => rfl) ex1 dX0_cameTo_1 ?_
  clear ex1
  refine g_iconst X dX0_cameTo_4 (v := 0) (by decide) ?_
  refine g_aload_n (j := 1) X dX0_cameTo_5 rfl rfl ?_
  refine g_iload_n (j := 2) X dX0_cameTo_6 rfl rfl ?_
  refine g_bipush X dX0_cameTo_7 (v := 32) (by decide) ?_
  obtain ⟨x5, S3, eS3, h4⟩ := g_bi h2; clear h2
  refine g_cS (n := 5) (As := [va_rf x1, .int 0, va_rf v1, .int v2, .int 32]) X (c_X3_same hl D eS3) tw320 tw321 tw52 tw322 (by decide +kernel) rfl rfl ⟨Nat.le_of_ble_eq_true rfl, Nat.le_of_ble_eq_true rfl⟩ rfl rfl (Nat.le_of_ble_eq_true rfl) dX0_cameTo_9 ⟨(by decide), (by decide)⟩ ?_
  clear eS3
  obtain ⟨c6, h7⟩ := g_if h4; clear h4
  obtain ⟨rfl, rfl⟩ := g_end h7
  exact g_zret X hr c6 (by decide) (by decide) dX0_cameTo_12
