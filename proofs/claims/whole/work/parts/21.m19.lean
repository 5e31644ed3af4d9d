def f_X8_goesOn_L86 : Nat → gS → Nat → Nat → Nat → Int32 → Int32 → Option (Int32 × gS)
  | 0, _, _, _, _, _, _ => none
  | k + 1, S0, cu, su, a0, v8, v9 =>
    gGd (cu ≤ 140 ∧ su ≤ 1120) <|
    if v9 < 0 then
      gDc S0 8 (some a0) fun a37 =>
      gBi (f_X8_isSame S0 a37 10 12) fun x41 S39 =>
      if x41 = 0 then
        some (0, S39)
      else
        gDc S39 8 (some a0) fun a45 =>
        gBi (f_X8_isSame S39 a45 11 13) fun x49 S47 =>
        if x49 = 0 then
          some (0, S47)
        else
          some (1, S47)
    else
      gDc S0 8 (some a0) fun a53 =>
      (f_X8_fromTape S0 a53 v8 14).bind fun S55 =>
      gLet (v8 + 32) fun x57 =>
      (fgR S55 8 22 (some a0)).bind fun x59 =>
      (fI S55 10 x59 v9).bind fun x61 =>
      if x61 = 0 then
        gDc S55 8 (some a0) fun a80 =>
        gGd (cu + 1 ≤ 140 ∧ su + 8 ≤ 1120) <|
        (f_X8_node S55 a80 13 14 13).bind fun S84 =>
        gLet (v9 + (-1)) fun x86 =>
        f_X8_goesOn_L86 k S84 (cu + 1) (su + 8) a0 x57 x86
      else
        gDc S55 8 (some a0) fun a66 =>
        gGd (cu + 1 ≤ 140 ∧ su + 8 ≤ 1120) <|
        (f_X8_node S55 a66 14 12 12).bind fun S70 =>
        gDc S70 8 (some a0) fun a72 =>
        gGd (cu + 1 + 1 ≤ 140 ∧ su + 8 + 8 ≤ 1120) <|
        (f_X8_node S70 a72 14 13 13).bind fun S76 =>
        gLet (v9 + (-1)) fun x78 =>
        f_X8_goesOn_L86 k S76 (cu + 1 + 1) (su + 8 + 8) a0 x57 x78
set_option maxRecDepth 100000 in
set_option maxHeartbeats 4000000 in
theorem w_X8_goesOn_L86 {p : Program} {l : Launch} {e : Env} {s : State} {m : MethodId} {args : Array Value} {below : List Frame} {meth : Method} {c : Code} {D : gD} {S9 : gS} {res : Int32}  (hl : l.stackTraces = false) (X : gX D p l s m args meth c cX8_goesOn 10 RX8) (hr : meth.sig.returnType = (some .boolean)) : ∀ (k : Nat) (S0 : gS) (cu su : Nat) (a0 : Nat) (v8 : Int32) (v9 : Int32), f_X8_goesOn_L86 k S0 cu su a0 v8 v9 = some (res, S9) → gJ D p l e { frames := 5, cells := 140, slots := 1120, locals := 115 } s m args below meth c (MQ below (gQ D (some (.int res)) S9) args s (140) (1120) (gF D)) 10 (cu) (su) S0 86 [(0, va_rf (some a0)), (8, .int v8), (9, .int v9)] [] := by
  intro k
  induction k with
  | zero => intro S0 cu su a0 v8 v9 h0; cases h0
  | succ k ih =>
    intro S0 cu su a0 v8 v9 h0
    have h0 := h0
    unfold f_X8_goesOn_L86 at h0
    obtain ⟨gu, hu⟩ := g_gd h0; clear h0
    refine g_iload (j := 2) X dX8_goesOn_86 rfl ?_
    refine g_if_lt (tgt := 151) X dX8_goesOn_88 (by decide) (fun c34 => ?_) (fun c34 => ?_)
    · have h35 := g_ip hu c34; clear hu
      refine g_aload_n (j := 0) X dX8_goesOn_151 rfl rfl ?_
      refine g_bipush X dX8_goesOn_152 (v := 10) (by decide) ?_
      refine g_bipush X dX8_goesOn_154 (v := 12) (by decide) ?_
      obtain ⟨a37, ea37, ka37, h38⟩ := g_dc h35; clear h35
      obtain ⟨x41, S39, eS39, h40⟩ := g_bi h38; clear h38
      refine g_cV (n := 2) (As := [.int 10, .int 12]) X (c_X8_isSame hl D eS39) tw882 tw883 tw30 tw51 tw884 (by decide +kernel) rfl rfl ⟨Nat.le_of_ble_eq_true rfl, Nat.le_of_ble_eq_true rfl⟩ (ci := 8) rfl (by decide) ea37 ka37 rfl rfl (Nat.le_of_ble_eq_true rfl) dX8_goesOn_156 ⟨gu.1, gu.2⟩ ?_
      clear eS39 ea37 ka37
      refine g_if_eq (tgt := 177) X dX8_goesOn_159 (by decide) (fun c42 => ?_) (fun c42 => ?_)
      · have h43 := g_ip h40 c42; clear h40
        refine g_iconst X dX8_goesOn_177 (v := 0) (by decide) ?_
        obtain ⟨rfl, rfl⟩ := g_end h43
        exact g_zret X hr (Or.inl rfl) gu.1 gu.2 dX8_goesOn_178
      · have h44 := g_in h40 c42; clear h40
        refine g_aload_n (j := 0) X dX8_goesOn_162 rfl rfl ?_
        refine g_bipush X dX8_goesOn_163 (v := 11) (by decide) ?_
        refine g_bipush X dX8_goesOn_165 (v := 13) (by decide) ?_
        obtain ⟨a45, ea45, ka45, h46⟩ := g_dc h44; clear h44
        obtain ⟨x49, S47, eS47, h48⟩ := g_bi h46; clear h46
        refine g_cV (n := 2) (As := [.int 11, .int 13]) X (c_X8_isSame hl D eS47) tw882 tw883 tw30 tw51 tw884 (by decide +kernel) rfl rfl ⟨Nat.le_of_ble_eq_true rfl, Nat.le_of_ble_eq_true rfl⟩ (ci := 8) rfl (by decide) ea45 ka45 rfl rfl (Nat.le_of_ble_eq_true rfl) dX8_goesOn_167 ⟨gu.1, gu.2⟩ ?_
        clear eS47 ea45 ka45
        refine g_if_eq (tgt := 177) X dX8_goesOn_170 (by decide) (fun c50 => ?_) (fun c50 => ?_)
        · have h51 := g_ip h48 c50; clear h48
          refine g_iconst X dX8_goesOn_177 (v := 0) (by decide) ?_
          obtain ⟨rfl, rfl⟩ := g_end h51
          exact g_zret X hr (Or.inl rfl) gu.1 gu.2 dX8_goesOn_178
        · have h52 := g_in h48 c50; clear h48
          refine g_iconst X dX8_goesOn_173 (v := 1) (by decide) ?_
          refine g_goto (tgt := 178) X dX8_goesOn_174 (by decide) ?_
          obtain ⟨rfl, rfl⟩ := g_end h52
          exact g_zret X hr (Or.inr rfl) gu.1 gu.2 dX8_goesOn_178
    · have h36 := g_in hu c34; clear hu
      refine g_aload_n (j := 0) X dX8_goesOn_91 rfl rfl ?_
      refine g_iload (j := 1) X dX8_goesOn_92 rfl ?_
      refine g_bipush X dX8_goesOn_94 (v := 14) (by decide) ?_
      obtain ⟨a53, ea53, ka53, h54⟩ := g_dc h36; clear h36
      obtain ⟨S55, eS55, h56⟩ := g_bd h54; clear h54
      refine g_cV (n := 2) (As := [.int v8, .int 14]) X (c_X8_fromTape hl D eS55) tw879 tw880 tw29 tw51 tw881 (by decide +kernel) rfl rfl ⟨Nat.le_of_ble_eq_true rfl, Nat.le_of_ble_eq_true rfl⟩ (ci := 8) rfl (by decide) ea53 ka53 rfl rfl (Nat.le_of_ble_eq_true rfl) dX8_goesOn_96 ⟨gu.1, gu.2⟩ ?_
      clear eS55 ea53 ka53
      obtain ⟨x57, ex57, h58⟩ := g_let h56; clear h56
      refine g_iinc (j := 1) (v := x57) (lv' := [(8, .int x57), (0, va_rf (some a0)), (9, .int v9)]) X dX8_goesOn_99 rfl (by rw [ex57]; rfl) (by decide) rfl ?_
      clear ex57
      refine g_aload_n (j := 1) X dX8_goesOn_102 rfl rfl ?_
      obtain ⟨x59, ex59, h60⟩ := g_bd h58; clear h58
      refine g_fR (ci := 8) (k := 22) X rfl il8 (by decide) tw725 (by decide) (fun _ _ _ => rfl) ex59 dX8_goesOn_103 ?_
      clear ex59
      refine g_iload (j := 2) X dX8_goesOn_106 rfl ?_
      obtain ⟨x61, ex61, h62⟩ := g_bd h60; clear h60
      refine g_iald X ex61 dX8_goesOn_108 ?_
      clear ex61
      refine g_if_ne (tgt := 125) X dX8_goesOn_109 (by decide) (fun c63 => ?_) (fun c63 => ?_)
      · have h64 := g_in h62 c63; clear h62
        refine g_aload_n (j := 1) X dX8_goesOn_125 rfl rfl ?_
        refine g_bipush X dX8_goesOn_126 (v := 14) (by decide) ?_
        refine g_bipush X dX8_goesOn_128 (v := 12) (by decide) ?_
        refine g_bipush X dX8_goesOn_130 (v := 12) (by decide) ?_
        obtain ⟨a66, ea66, ka66, h67⟩ := g_dc h64; clear h64
        obtain ⟨g68, h69⟩ := g_gd h67; clear h67
        obtain ⟨S70, eS70, h71⟩ := g_bd h69; clear h69
        refine g_cV (n := 3) (As := [.int 14, .int 12, .int 12]) X (c_X8_node hl D eS70) tw838 tw839 tw22 tw51 tw840 (by decide +kernel) rfl rfl ⟨Nat.le_of_ble_eq_true rfl, Nat.le_of_ble_eq_true rfl⟩ (ci := 8) rfl (by decide) ea66 ka66 rfl rfl (Nat.le_of_ble_eq_true rfl) dX8_goesOn_132 ⟨g68.1, g68.2⟩ ?_
        clear eS70 ea66 ka66
        refine g_aload_n (j := 1) X dX8_goesOn_135 rfl rfl ?_
        refine g_bipush X dX8_goesOn_136 (v := 14) (by decide) ?_
        refine g_bipush X dX8_goesOn_138 (v := 13) (by decide) ?_
        refine g_bipush X dX8_goesOn_140 (v := 13) (by decide) ?_
        obtain ⟨a72, ea72, ka72, h73⟩ := g_dc h71; clear h71
        obtain ⟨g74, h75⟩ := g_gd h73; clear h73
        obtain ⟨S76, eS76, h77⟩ := g_bd h75; clear h75
        refine g_cV (n := 3) (As := [.int 14, .int 13, .int 13]) X (c_X8_node hl D eS76) tw838 tw839 tw22 tw51 tw840 (by decide +kernel) rfl rfl ⟨Nat.le_of_ble_eq_true rfl, Nat.le_of_ble_eq_true rfl⟩ (ci := 8) rfl (by decide) ea72 ka72 rfl rfl (Nat.le_of_ble_eq_true rfl) dX8_goesOn_142 ⟨g74.1, g74.2⟩ ?_
        clear eS76 ea72 ka72
        obtain ⟨x78, ex78, h79⟩ := g_let h77; clear h77
        refine g_iinc (j := 2) (v := x78) (lv' := [(9, .int x78), (8, .int x57), (0, va_rf (some a0))]) X dX8_goesOn_145 rfl (by rw [ex78]; rfl) (by decide) rfl ?_
        clear ex78
        refine g_goto (tgt := 86) X dX8_goesOn_148 (by decide) ?_
        refine g_sub [2, 1, 0] rfl ?_
        exact ih S76 (cu + 1 + 1) (su + 8 + 8) a0 x57 x78 h79
      · have h65 := g_ip h62 c63; clear h62
        refine g_aload_n (j := 1) X dX8_goesOn_112 rfl rfl ?_
        refine g_bipush X dX8_goesOn_113 (v := 13) (by decide) ?_
        refine g_bipush X dX8_goesOn_115 (v := 14) (by decide) ?_
        refine g_bipush X dX8_goesOn_117 (v := 13) (by decide) ?_
        obtain ⟨a80, ea80, ka80, h81⟩ := g_dc h65; clear h65
        obtain ⟨g82, h83⟩ := g_gd h81; clear h81
        obtain ⟨S84, eS84, h85⟩ := g_bd h83; clear h83
        refine g_cV (n := 3) (As := [.int 13, .int 14, .int 13]) X (c_X8_node hl D eS84) tw838 tw839 tw22 tw51 tw840 (by decide +kernel) rfl rfl ⟨Nat.le_of_ble_eq_true rfl, Nat.le_of_ble_eq_true rfl⟩ (ci := 8) rfl (by decide) ea80 ka80 rfl rfl (Nat.le_of_ble_eq_true rfl) dX8_goesOn_119 ⟨g82.1, g82.2⟩ ?_
        clear eS84 ea80 ka80
        refine g_goto (tgt := 145) X dX8_goesOn_122 (by decide) ?_
        obtain ⟨x86, ex86, h87⟩ := g_let h85; clear h85
        refine g_iinc (j := 2) (v := x86) (lv' := [(9, .int x86), (8, .int x57), (0, va_rf (some a0))]) X dX8_goesOn_145 rfl (by rw [ex86]; rfl) (by decide) rfl ?_
        clear ex86
        refine g_goto (tgt := 86) X dX8_goesOn_148 (by decide) ?_
        refine g_sub [2, 1, 0] rfl ?_
        exact ih S84 (cu + 1) (su + 8) a0 x57 x86 h87
def f_X8_goesOn_B70 (S0 : gS) (cu su : Nat) (a0 : Nat) (v8 : Int32) : Option (Int32 × gS) :=
  gGd (cu ≤ 140 ∧ su ≤ 1120) <|
  gDc S0 8 (some a0) fun a26 =>
  (f_X8_copy S0 a26 12 13).bind fun S28 =>
  (fgI S28 8 23 (some a0)).bind fun x30 =>
  gLet (x30 - 1) fun x32 =>
  f_X8_goesOn_L86 gFuel S28 cu su a0 v8 x32
set_option maxRecDepth 100000 in
set_option maxHeartbeats 4000000 in
theorem w_X8_goesOn_B70 {p : Program} {l : Launch} {e : Env} {s : State} {m : MethodId} {args : Array Value} {below : List Frame} {meth : Method} {c : Code} {D : gD} {S9 : gS} {res : Int32}  (hl : l.stackTraces = false) (X : gX D p l s m args meth c cX8_goesOn 10 RX8) (hr : meth.sig.returnType = (some .boolean)) (S0 : gS) (cu su : Nat) (a0 : Nat) (v8 : Int32) (h0 : f_X8_goesOn_B70 S0 cu su a0 v8 = some (res, S9)) : gJ D p l e { frames := 5, cells := 140, slots := 1120, locals := 115 } s m args below meth c (MQ below (gQ D (some (.int res)) S9) args s (140) (1120) (gF D)) 10 (cu) (su) S0 70 [(0, va_rf (some a0)), (8, .int v8)] [] := by
  unfold f_X8_goesOn_B70 at h0
  obtain ⟨gu, hu⟩ := g_gd h0; clear h0
  refine g_aload_n (j := 0) X dX8_goesOn_70 rfl rfl ?_
  refine g_bipush X dX8_goesOn_71 (v := 12) (by decide) ?_
  refine g_bipush X dX8_goesOn_73 (v := 13) (by decide) ?_
  obtain ⟨a26, ea26, ka26, h27⟩ := g_dc hu; clear hu
  obtain ⟨S28, eS28, h29⟩ := g_bd h27; clear h27
  refine g_cV (n := 2) (As := [.int 12, .int 13]) X (c_X8_copy hl D eS28) tw844 tw845 tw24 tw51 tw846 (by decide +kernel) rfl rfl ⟨Nat.le_of_ble_eq_true rfl, Nat.le_of_ble_eq_true rfl⟩ (ci := 8) rfl (by decide) ea26 ka26 rfl rfl (Nat.le_of_ble_eq_true rfl) dX8_goesOn_75 ⟨gu.1, gu.2⟩ ?_
  clear eS28 ea26 ka26
  refine g_aload_n (j := 0) X dX8_goesOn_78 rfl rfl ?_
  obtain ⟨x30, ex30, h31⟩ := g_bd h29; clear h29
  refine g_fI (ci := 8) (k := 23) X rfl il8 (by decide) tw726 (by decide) (fun _ _ _ => rfl) ex30 dX8_goesOn_79 ?_
  clear ex30
  refine g_iconst X dX8_goesOn_82 (v := 1) (by decide) ?_
  refine g_isub X dX8_goesOn_83 ?_
  obtain ⟨x32, ex32, h33⟩ := g_let h31; clear h31; rw [← ex32]; clear ex32
  refine g_istore (i := 9) (lv' := [(9, .int x32), (0, va_rf (some a0)), (8, .int v8)]) X dX8_goesOn_84 (by decide) rfl ?_
  refine g_sub [1, 2, 0] rfl ?_
  exact w_X8_goesOn_L86 hl X hr gFuel S28 cu su a0 v8 x32 h33
def f_X8_goesOn_B22 (S0 : gS) (cu su : Nat) (a0 : Nat) (v5 : Int32) (v6 : Int32) (t0 : Int32) (t1 : Int32) : Option (Int32 × gS) :=
  gGd (cu ≤ 140 ∧ su ≤ 1120) <|
  gLet (t1 + t0) fun x12 =>
  if (v6 - v5) = (32 * x12) then
    gDc S0 8 (some a0) fun a17 =>
    (f_X8_copy S0 a17 10 12).bind fun S19 =>
    (fgI S19 8 24 (some a0)).bind fun x21 =>
    if x21 = 0 then
      gDc S19 8 (some a0) fun a88 =>
      (f_X8_fromTape S19 a88 v5 12).bind fun S90 =>
      gLet (v5 + 32) fun x92 =>
      f_X8_goesOn_B70 S90 cu su a0 x92
    else
      f_X8_goesOn_B70 S19 cu su a0 v5
  else
    some (0, S0)
set_option maxRecDepth 100000 in
set_option maxHeartbeats 4000000 in
theorem w_X8_goesOn_B22 {p : Program} {l : Launch} {e : Env} {s : State} {m : MethodId} {args : Array Value} {below : List Frame} {meth : Method} {c : Code} {D : gD} {S9 : gS} {res : Int32}  (hl : l.stackTraces = false) (X : gX D p l s m args meth c cX8_goesOn 10 RX8) (hr : meth.sig.returnType = (some .boolean)) (S0 : gS) (cu su : Nat) (a0 : Nat) (v5 : Int32) (v6 : Int32) (t0 : Int32) (t1 : Int32) (h0 : f_X8_goesOn_B22 S0 cu su a0 v5 v6 t0 t1 = some (res, S9)) : gJ D p l e { frames := 5, cells := 140, slots := 1120, locals := 115 } s m args below meth c (MQ below (gQ D (some (.int res)) S9) args s (140) (1120) (gF D)) 10 (cu) (su) S0 22 [(0, va_rf (some a0)), (5, .int v5), (6, .int v6)] [.int t0, .int t1] := by
  unfold f_X8_goesOn_B22 at h0
  obtain ⟨gu, hu⟩ := g_gd h0; clear h0
  refine g_iadd X dX8_goesOn_22 ?_
  obtain ⟨x12, ex12, h13⟩ := g_let hu; clear hu; rw [← ex12]; clear ex12
  refine g_istore (i := 7) (lv' := [(7, .int x12), (0, va_rf (some a0)), (5, .int v5), (6, .int v6)]) X dX8_goesOn_23 (by decide) rfl ?_
  refine g_iload (j := 3) X dX8_goesOn_25 rfl ?_
  refine g_iload (j := 2) X dX8_goesOn_27 rfl ?_
  refine g_isub X dX8_goesOn_29 ?_
  refine g_bipush X dX8_goesOn_30 (v := 32) (by decide) ?_
  refine g_iload (j := 0) X dX8_goesOn_32 rfl ?_
  refine g_imul X dX8_goesOn_34 ?_
  refine g_icmp_eq (tgt := 40) X dX8_goesOn_35 (by decide) (fun c14 => ?_) (fun c14 => ?_)
  · have h15 := g_ip h13 c14; clear h13
    refine g_iload (j := 2) X dX8_goesOn_40 rfl ?_
    refine g_istore (i := 8) (lv' := [(8, .int v5), (7, .int x12), (0, va_rf (some a0)), (5, .int v5), (6, .int v6)]) X dX8_goesOn_42 (by decide) rfl ?_
    refine g_aload_n (j := 2) X dX8_goesOn_44 rfl rfl ?_
    refine g_bipush X dX8_goesOn_45 (v := 10) (by decide) ?_
    refine g_bipush X dX8_goesOn_47 (v := 12) (by decide) ?_
    obtain ⟨a17, ea17, ka17, h18⟩ := g_dc h15; clear h15
    obtain ⟨S19, eS19, h20⟩ := g_bd h18; clear h18
    refine g_cV (n := 2) (As := [.int 10, .int 12]) X (c_X8_copy hl D eS19) tw844 tw845 tw24 tw51 tw846 (by decide +kernel) rfl rfl ⟨Nat.le_of_ble_eq_true rfl, Nat.le_of_ble_eq_true rfl⟩ (ci := 8) rfl (by decide) ea17 ka17 rfl rfl (Nat.le_of_ble_eq_true rfl) dX8_goesOn_49 ⟨gu.1, gu.2⟩ ?_
    clear eS19 ea17 ka17
    refine g_aload_n (j := 2) X dX8_goesOn_52 rfl rfl ?_
    obtain ⟨x21, ex21, h22⟩ := g_bd h20; clear h20
    refine g_fI (ci := 8) (k := 24) X rfl il8 (by decide) tw727 (by decide) (fun _ _ _ => rfl) ex21 dX8_goesOn_53 ?_
    clear ex21
    refine g_if_ne (tgt := 70) X dX8_goesOn_56 (by decide) (fun c23 => ?_) (fun c23 => ?_)
    · have h24 := g_in h22 c23; clear h22
      refine g_sub [2, 0] rfl ?_
      exact w_X8_goesOn_B70 hl X hr S19 cu su a0 v5 h24
    · have h25 := g_ip h22 c23; clear h22
      refine g_aload_n (j := 2) X dX8_goesOn_59 rfl rfl ?_
      refine g_iload (j := 0) X dX8_goesOn_60 rfl ?_
      refine g_bipush X dX8_goesOn_62 (v := 12) (by decide) ?_
      obtain ⟨a88, ea88, ka88, h89⟩ := g_dc h25; clear h25
      obtain ⟨S90, eS90, h91⟩ := g_bd h89; clear h89
      refine g_cV (n := 2) (As := [.int v5, .int 12]) X (c_X8_fromTape hl D eS90) tw879 tw880 tw29 tw51 tw881 (by decide +kernel) rfl rfl ⟨Nat.le_of_ble_eq_true rfl, Nat.le_of_ble_eq_true rfl⟩ (ci := 8) rfl (by decide) ea88 ka88 rfl rfl (Nat.le_of_ble_eq_true rfl) dX8_goesOn_64 ⟨gu.1, gu.2⟩ ?_
      clear eS90 ea88 ka88
      obtain ⟨x92, ex92, h93⟩ := g_let h91; clear h91
      refine g_iinc (j := 0) (v := x92) (lv' := [(8, .int x92), (7, .int x12), (0, va_rf (some a0)), (5, .int v5), (6, .int v6)]) X dX8_goesOn_67 rfl (by rw [ex92]; rfl) (by decide) rfl ?_
      clear ex92
      refine g_sub [2, 0] rfl ?_
      exact w_X8_goesOn_B70 hl X hr S90 cu su a0 x92 h93
  · have h16 := g_in h13 c14; clear h13
    refine g_iconst X dX8_goesOn_38 (v := 0) (by decide) ?_
    obtain ⟨rfl, rfl⟩ := g_end h16
    exact g_zret X hr (Or.inl rfl) gu.1 gu.2 dX8_goesOn_39
def f_X8_goesOn (S0 : gS) (a0 : Nat) (v1 : Int64) (v3 : Int64) (v5 : Int32) (v6 : Int32) : Option (Int32 × gS) :=
  gDc S0 8 (some a0) fun a1 =>
  (f_X8_stepsOf S0 a1 v1 v3).bind fun S3 =>
  (fgI S3 8 23 (some a0)).bind fun x5 =>
  (fgI S3 8 24 (some a0)).bind fun x7 =>
  if x7 = 0 then
    f_X8_goesOn_B22 S3 0 0 a0 v5 v6 1 x5
  else
    f_X8_goesOn_B22 S3 0 0 a0 v5 v6 0 x5
set_option maxRecDepth 100000 in
set_option maxHeartbeats 4000000 in
theorem c_X8_goesOn {l : Launch} (hl : l.stackTraces = false) (D : gD)  {S0 S9 : gS} {a0 : Nat} {v1 : Int64} {v3 : Int64} {v5 : Int32} {v6 : Int32} {res : Int32} (h0 : f_X8_goesOn S0 a0 v1 v3 v5 v6 = some (res, S9)) : Met l yX8_goesOn (gws yX8_goesOn cX8_goesOn 10 (some .boolean)) { frames := 5, cells := 140, slots := 1120, locals := 115 } (gPc D S0 [.ref a0, .long v1, .long v3, .int v5, .int v6]) (gQ D (some (.int res)) S9) (140) (1120) (gF D) := by
  refine g_met (lv := [(0, va_rf (some a0)), (1, .long v1), (3, .long v3), (5, .int v5), (6, .int v6)]) hl (by decide) (Nat.le_of_ble_eq_true rfl) rfl (fun p e s m args below meth c X hr hn => ?_)
  have X : gX D p l s m args meth c cX8_goesOn 10 RX8 := X
  unfold f_X8_goesOn at h0
  refine g_aload_n (j := 0) X dX8_goesOn_0 rfl rfl ?_
  refine g_lload_n (j := 1) X dX8_goesOn_1 rfl rfl ?_
  refine g_lload_n (j := 2) X dX8_goesOn_2 rfl rfl ?_
  obtain ⟨a1, ea1, ka1, h2⟩ := g_dc h0; clear h0
  obtain ⟨S3, eS3, h4⟩ := g_bd h2; clear h2
  refine g_cV (n := 2) (As := [.long v1, .long v3]) X (c_X8_stepsOf hl D eS3) tw914 tw915 tw33 tw51 tw916 (by decide +kernel) rfl rfl ⟨Nat.le_of_ble_eq_true rfl, Nat.le_of_ble_eq_true rfl⟩ (ci := 8) rfl (by decide) ea1 ka1 rfl rfl (Nat.le_of_ble_eq_true rfl) dX8_goesOn_3 ⟨(by decide), (by decide)⟩ ?_
  clear eS3 ea1 ka1
  refine g_aload_n (j := 0) X dX8_goesOn_6 rfl rfl ?_
  obtain ⟨x5, ex5, h6⟩ := g_bd h4; clear h4
  refine g_fI (ci := 8) (k := 23) X rfl il8 (by decide) tw726 (by decide) (fun _ _ _ => rfl) ex5 dX8_goesOn_7 ?_
  clear ex5
  refine g_aload_n (j := 0) X dX8_goesOn_10 rfl rfl ?_
  obtain ⟨x7, ex7, h8⟩ := g_bd h6; clear h6
  refine g_fI (ci := 8) (k := 24) X rfl il8 (by decide) tw727 (by decide) (fun _ _ _ => rfl) ex7 dX8_goesOn_11 ?_
  clear ex7
  refine g_if_eq (tgt := 21) X dX8_goesOn_14 (by decide) (fun c9 => ?_) (fun c9 => ?_)
  · have h10 := g_ip h8 c9; clear h8
    refine g_iconst X dX8_goesOn_21 (v := 1) (by decide) ?_
    refine g_sub [0, 3, 4] rfl ?_
    exact w_X8_goesOn_B22 hl X hr S3 0 0 a0 v5 v6 1 x5 h10
  · have h11 := g_in h8 c9; clear h8
    refine g_iconst X dX8_goesOn_17 (v := 0) (by decide) ?_
    refine g_goto (tgt := 22) X dX8_goesOn_18 (by decide) ?_
    refine g_sub [0, 3, 4] rfl ?_
    exact w_X8_goesOn_B22 hl X hr S3 0 0 a0 v5 v6 0 x5 h11
def f_X8_isOn (S0 : gS) (a0 : Nat) (v1 : Int64) (v3 : Int64) : Option (Int32 × gS) :=
  gDc S0 8 (some a0) fun a1 =>
  gBi (f_X8_use S0 a1) fun x5 S3 =>
  (fpI S3 8 0 (some a0) 0).bind fun S6 =>
  if (lg_cmp v1 0) ≤ 0 then
    some (0, S6)
  else
    if 0 < (lg_cmp v1 v3) then
      some (0, S6)
    else
      if 64 ≤ x5 then
        gDc S6 8 (some a0) fun a17 =>
        (f_X8_fromTape S6 a17 0 10).bind fun S19 =>
        gDc S19 8 (some a0) fun a21 =>
        (f_X8_fromTape S19 a21 32 11).bind fun S23 =>
        gDc S23 8 (some a0) fun a25 =>
        gBi (f_X8_goesOn S23 a25 v1 v3 64 x5) fun x29 S27 =>
        if x29 = 0 ∨ x29 = 1 then
          some (x29, S27)
        else none
      else
        some (0, S6)
set_option maxRecDepth 100000 in
set_option maxHeartbeats 4000000 in
theorem c_X8_isOn {l : Launch} (hl : l.stackTraces = false) (D : gD)  {S0 S9 : gS} {a0 : Nat} {v1 : Int64} {v3 : Int64} {res : Int32} (h0 : f_X8_isOn S0 a0 v1 v3 = some (res, S9)) : Met l yX8_isOn (gws yX8_isOn cX8_isOn 6 (some .boolean)) { frames := 6, cells := 140, slots := 1120, locals := 144 } (gPc D S0 [.ref a0, .long v1, .long v3]) (gQ D (some (.int res)) S9) (140) (1120) (gF D) := by
  refine g_met (lv := [(0, va_rf (some a0)), (1, .long v1), (3, .long v3)]) hl (by decide) (Nat.le_of_ble_eq_true rfl) rfl (fun p e s m args below meth c X hr hn => ?_)
  have X : gX D p l s m args meth c cX8_isOn 6 RX8 := X
  unfold f_X8_isOn at h0
  refine g_aload_n (j := 0) X dX8_isOn_0 rfl rfl ?_
  obtain ⟨a1, ea1, ka1, h2⟩ := g_dc h0; clear h0
  obtain ⟨x5, S3, eS3, h4⟩ := g_bi h2; clear h2
  refine g_cV (n := 0) (As := []) X (c_X8_use hl D eS3) tw784 tw785 tw15 tw51 tw786 (by decide +kernel) rfl rfl ⟨Nat.le_of_ble_eq_true rfl, Nat.le_of_ble_eq_true rfl⟩ (ci := 8) rfl (by decide) ea1 ka1 rfl rfl (Nat.le_of_ble_eq_true rfl) dX8_isOn_1 ⟨(by decide), (by decide)⟩ ?_
  clear eS3 ea1 ka1
  refine g_istore (i := 5) (lv' := [(5, .int x5), (0, va_rf (some a0)), (1, .long v1), (3, .long v3)]) X dX8_isOn_4 (by decide) rfl ?_
  refine g_aload_n (j := 1) X dX8_isOn_6 rfl rfl ?_
  refine g_iconst X dX8_isOn_7 (v := 0) (by decide) ?_
  obtain ⟨S6, eS6, h7⟩ := g_bd h4; clear h4
  refine g_pI (ci := 8) (k := 0) X rfl il8 tyX8 tyX8_ok nmX8 (by decide) tw703 rfl (by decide) (fun _ _ _ => rfl) rfl eS6 dX8_isOn_8 ?_
  clear eS6
  refine g_lload_n (j := 2) X dX8_isOn_11 rfl rfl ?_
  refine g_lconst X dX8_isOn_12 (v := 0) (by decide) ?_
  refine g_lcmp X dX8_isOn_13 ?_
  refine g_if_le (tgt := 30) X dX8_isOn_14 (by decide) (fun c8 => ?_) (fun c8 => ?_)
  · have h9 := g_ip h7 c8; clear h7
    refine g_iconst X dX8_isOn_30 (v := 0) (by decide) ?_
    obtain ⟨rfl, rfl⟩ := g_end h9
    exact g_zret X hr (Or.inl rfl) (by decide) (by decide) dX8_isOn_31
  · have h10 := g_in h7 c8; clear h7
    refine g_lload_n (j := 2) X dX8_isOn_17 rfl rfl ?_
    refine g_lload_n (j := 3) X dX8_isOn_18 rfl rfl ?_
    refine g_lcmp X dX8_isOn_19 ?_
    refine g_if_gt (tgt := 30) X dX8_isOn_20 (by decide) (fun c11 => ?_) (fun c11 => ?_)
    · have h12 := g_ip h10 c11; clear h10
      refine g_iconst X dX8_isOn_30 (v := 0) (by decide) ?_
      obtain ⟨rfl, rfl⟩ := g_end h12
      exact g_zret X hr (Or.inl rfl) (by decide) (by decide) dX8_isOn_31
    · have h13 := g_in h10 c11; clear h10
      refine g_iload (j := 0) X dX8_isOn_23 rfl ?_
      refine g_bipush X dX8_isOn_25 (v := 64) (by decide) ?_
      refine g_icmp_ge (tgt := 32) X dX8_isOn_27 (by decide) (fun c14 => ?_) (fun c14 => ?_)
      · have h15 := g_ip h13 c14; clear h13
        refine g_aload_n (j := 1) X dX8_isOn_32 rfl rfl ?_
        refine g_iconst X dX8_isOn_33 (v := 0) (by decide) ?_
        refine g_bipush X dX8_isOn_34 (v := 10) (by decide) ?_
        obtain ⟨a17, ea17, ka17, h18⟩ := g_dc h15; clear h15
        obtain ⟨S19, eS19, h20⟩ := g_bd h18; clear h18
        refine g_cV (n := 2) (As := [.int 0, .int 10]) X (c_X8_fromTape hl D eS19) tw879 tw880 tw29 tw51 tw881 (by decide +kernel) rfl rfl ⟨Nat.le_of_ble_eq_true rfl, Nat.le_of_ble_eq_true rfl⟩ (ci := 8) rfl (by decide) ea17 ka17 rfl rfl (Nat.le_of_ble_eq_true rfl) dX8_isOn_36 ⟨(by decide), (by decide)⟩ ?_
        clear eS19 ea17 ka17
        refine g_aload_n (j := 1) X dX8_isOn_39 rfl rfl ?_
        refine g_bipush X dX8_isOn_40 (v := 32) (by decide) ?_
        refine g_bipush X dX8_isOn_42 (v := 11) (by decide) ?_
        obtain ⟨a21, ea21, ka21, h22⟩ := g_dc h20; clear h20
        obtain ⟨S23, eS23, h24⟩ := g_bd h22; clear h22
        refine g_cV (n := 2) (As := [.int 32, .int 11]) X (c_X8_fromTape hl D eS23) tw879 tw880 tw29 tw51 tw881 (by decide +kernel) rfl rfl ⟨Nat.le_of_ble_eq_true rfl, Nat.le_of_ble_eq_true rfl⟩ (ci := 8) rfl (by decide) ea21 ka21 rfl rfl (Nat.le_of_ble_eq_true rfl) dX8_isOn_44 ⟨(by decide), (by decide)⟩ ?_
        clear eS23 ea21 ka21
        refine g_aload_n (j := 1) X dX8_isOn_47 rfl rfl ?_
        refine g_lload_n (j := 2) X dX8_isOn_48 rfl rfl ?_
        refine g_lload_n (j := 3) X dX8_isOn_49 rfl rfl ?_
        refine g_bipush X dX8_isOn_50 (v := 64) (by decide) ?_
        refine g_iload (j := 0) X dX8_isOn_52 rfl ?_
        obtain ⟨a25, ea25, ka25, h26⟩ := g_dc h24; clear h24
        obtain ⟨x29, S27, eS27, h28⟩ := g_bi h26; clear h26
        refine g_cV (n := 4) (As := [.long v1, .long v3, .int 64, .int x5]) X (c_X8_goesOn hl D eS27) tw928 tw929 tw35 tw51 tw930 (by decide +kernel) rfl rfl ⟨Nat.le_of_ble_eq_true rfl, Nat.le_of_ble_eq_true rfl⟩ (ci := 8) rfl (by decide) ea25 ka25 rfl rfl (Nat.le_of_ble_eq_true rfl) dX8_isOn_54 ⟨(by decide), (by decide)⟩ ?_
        clear eS27 ea25 ka25
        obtain ⟨c30, h31⟩ := g_if h28; clear h28
        obtain ⟨rfl, rfl⟩ := g_end h31
        exact g_zret X hr c30 (by decide) (by decide) dX8_isOn_57
      · have h16 := g_in h13 c14; clear h13
        refine g_iconst X dX8_isOn_30 (v := 0) (by decide) ?_
        obtain ⟨rfl, rfl⟩ := g_end h16
        exact g_zret X hr (Or.inl rfl) (by decide) (by decide) dX8_isOn_31
def f_X8_sealed (S0 : gS) (a0 : Nat) (v1 : Int32) : Option (Int32 × gS) :=
  gDc S0 8 (some a0) fun a1 =>
  (f_X8_fromTape S0 a1 16 0).bind fun S3 =>
  gDc S3 8 (some a0) fun a5 =>
  gBi (f_X8_tapeLong S3 a5 0) fun x9 S7 =>
  gDc S7 8 (some a0) fun a10 =>
  gBi (f_X8_tapeLong S7 a10 8) fun x14 S12 =>
  gDc S12 8 (some a0) fun a15 =>
  (f_X8_sealOf S12 a15 v1 x9 x14).bind fun S17 =>
  gDc S17 8 (some a0) fun a19 =>
  (f_X8_fromTape S17 a19 48 5).bind fun S21 =>
  gDc S21 8 (some a0) fun a23 =>
  gBi (f_X8_isSame S21 a23 1 5) fun x27 S25 =>
  if x27 = 0 ∨ x27 = 1 then
    some (x27, S25)
  else none
set_option maxRecDepth 100000 in
set_option maxHeartbeats 4000000 in
theorem c_X8_sealed {l : Launch} (hl : l.stackTraces = false) (D : gD)  {S0 S9 : gS} {a0 : Nat} {v1 : Int32} {res : Int32} (h0 : f_X8_sealed S0 a0 v1 = some (res, S9)) : Met l yX8_sealed (gws yX8_sealed cX8_sealed 2 (some .boolean)) { frames := 4, cells := 3, slots := 24, locals := 104 } (gPc D S0 [.ref a0, .int v1]) (gQ D (some (.int res)) S9) (3) (24) (gF D) := by
  refine g_met (lv := [(0, va_rf (some a0)), (1, .int v1)]) hl (by decide) (Nat.le_of_ble_eq_true rfl) rfl (fun p e s m args below meth c X hr hn => ?_)
  have X : gX D p l s m args meth c cX8_sealed 2 RX8 := X
  unfold f_X8_sealed at h0
  refine g_aload_n (j := 0) X dX8_sealed_0 rfl rfl ?_
  refine g_bipush X dX8_sealed_1 (v := 16) (by decide) ?_
  refine g_iconst X dX8_sealed_3 (v := 0) (by decide) ?_
  obtain ⟨a1, ea1, ka1, h2⟩ := g_dc h0; clear h0
  obtain ⟨S3, eS3, h4⟩ := g_bd h2; clear h2
  refine g_cV (n := 2) (As := [.int 16, .int 0]) X (c_X8_fromTape hl D eS3) tw879 tw880 tw29 tw51 tw881 (by decide +kernel) rfl rfl ⟨Nat.le_of_ble_eq_true rfl, Nat.le_of_ble_eq_true rfl⟩ (ci := 8) rfl (by decide) ea1 ka1 rfl rfl (Nat.le_of_ble_eq_true rfl) dX8_sealed_4 ⟨(by decide), (by decide)⟩ ?_
  clear eS3 ea1 ka1
  refine g_aload_n (j := 0) X dX8_sealed_7 rfl rfl ?_
  refine g_iload_n (j := 1) X dX8_sealed_8 rfl rfl ?_
  refine g_aload_n (j := 0) X dX8_sealed_9 rfl rfl ?_
  refine g_iconst X dX8_sealed_10 (v := 0) (by decide) ?_
  obtain ⟨a5, ea5, ka5, h6⟩ := g_dc h4; clear h4
  obtain ⟨x9, S7, eS7, h8⟩ := g_bi h6; clear h6
  refine g_cV (n := 1) (As := [.int 0]) X (c_X8_tapeLong hl D eS7) tw938 tw939 tw37 tw51 tw940 (by decide +kernel) rfl rfl ⟨Nat.le_of_ble_eq_true rfl, Nat.le_of_ble_eq_true rfl⟩ (ci := 8) rfl (by decide) ea5 ka5 rfl rfl (Nat.le_of_ble_eq_true rfl) dX8_sealed_11 ⟨(by decide), (by decide)⟩ ?_
  clear eS7 ea5 ka5
  refine g_aload_n (j := 0) X dX8_sealed_14 rfl rfl ?_
  refine g_bipush X dX8_sealed_15 (v := 8) (by decide) ?_
  obtain ⟨a10, ea10, ka10, h11⟩ := g_dc h8; clear h8
  obtain ⟨x14, S12, eS12, h13⟩ := g_bi h11; clear h11
  refine g_cV (n := 1) (As := [.int 8]) X (c_X8_tapeLong hl D eS12) tw938 tw939 tw37 tw51 tw940 (by decide +kernel) rfl rfl ⟨Nat.le_of_ble_eq_true rfl, Nat.le_of_ble_eq_true rfl⟩ (ci := 8) rfl (by decide) ea10 ka10 rfl rfl (Nat.le_of_ble_eq_true rfl) dX8_sealed_17 ⟨(by decide), (by decide)⟩ ?_
  clear eS12 ea10 ka10
  obtain ⟨a15, ea15, ka15, h16⟩ := g_dc h13; clear h13
  obtain ⟨S17, eS17, h18⟩ := g_bd h16; clear h16
  refine g_cV (n := 3) (As := [.int v1, .long x9, .long x14]) X (c_X8_sealOf hl D eS17) tw847 tw848 tw25 tw51 tw849 (by decide +kernel) rfl rfl ⟨Nat.le_of_ble_eq_true rfl, Nat.le_of_ble_eq_true rfl⟩ (ci := 8) rfl (by decide) ea15 ka15 rfl rfl (Nat.le_of_ble_eq_true rfl) dX8_sealed_20 ⟨(by decide), (by decide)⟩ ?_
  clear eS17 ea15 ka15
  refine g_aload_n (j := 0) X dX8_sealed_23 rfl rfl ?_
  refine g_bipush X dX8_sealed_24 (v := 48) (by decide) ?_
  refine g_iconst X dX8_sealed_26 (v := 5) (by decide) ?_
  obtain ⟨a19, ea19, ka19, h20⟩ := g_dc h18; clear h18
  obtain ⟨S21, eS21, h22⟩ := g_bd h20; clear h20
  refine g_cV (n := 2) (As := [.int 48, .int 5]) X (c_X8_fromTape hl D eS21) tw879 tw880 tw29 tw51 tw881 (by decide +kernel) rfl rfl ⟨Nat.le_of_ble_eq_true rfl, Nat.le_of_ble_eq_true rfl⟩ (ci := 8) rfl (by decide) ea19 ka19 rfl rfl (Nat.le_of_ble_eq_true rfl) dX8_sealed_27 ⟨(by decide), (by decide)⟩ ?_
  clear eS21 ea19 ka19
  refine g_aload_n (j := 0) X dX8_sealed_30 rfl rfl ?_
  refine g_iconst X dX8_sealed_31 (v := 1) (by decide) ?_
  refine g_iconst X dX8_sealed_32 (v := 5) (by decide) ?_
  obtain ⟨a23, ea23, ka23, h24⟩ := g_dc h22; clear h22
  obtain ⟨x27, S25, eS25, h26⟩ := g_bi h24; clear h24
  refine g_cV (n := 2) (As := [.int 1, .int 5]) X (c_X8_isSame hl D eS25) tw882 tw883 tw30 tw51 tw884 (by decide +kernel) rfl rfl ⟨Nat.le_of_ble_eq_true rfl, Nat.le_of_ble_eq_true rfl⟩ (ci := 8) rfl (by decide) ea23 ka23 rfl rfl (Nat.le_of_ble_eq_true rfl) dX8_sealed_33 ⟨(by decide), (by decide)⟩ ?_
  clear eS25 ea23 ka23
  obtain ⟨c28, h29⟩ := g_if h26; clear h26
  obtain ⟨rfl, rfl⟩ := g_end h29
  exact g_zret X hr c28 (by decide) (by decide) dX8_sealed_36
def f_X8_isSealed (S0 : gS) (a0 : Nat) (v1 : Int32) : Option (Int32 × gS) :=
  gDc S0 8 (some a0) fun a1 =>
  gBi (f_X8_use S0 a1) fun x5 S3 =>
  gBi (f_X8_isLog S3 v1) fun x8 S6 =>
  if x8 = 0 then
    (fpI S6 8 0 (some a0) 1).bind fun S45 =>
    (fgI S45 8 0 (some a0)).bind fun x47 =>
    if x47 = 0 then
      gDc S45 8 (some a0) fun a52 =>
      gBi (f_X8_sealed S45 a52 v1) fun x56 S54 =>
      if x56 = 0 then
        some (0, S54)
      else
        some (1, S54)
    else
      some (0, S45)
  else
    if x5 = 80 then
      (fpI S6 8 0 (some a0) 0).bind fun S15 =>
      (fgI S15 8 0 (some a0)).bind fun x17 =>
      if x17 = 0 then
        gDc S15 8 (some a0) fun a22 =>
        gBi (f_X8_sealed S15 a22 v1) fun x26 S24 =>
        if x26 = 0 then
          some (0, S24)
        else
          some (1, S24)
      else
        some (0, S15)
    else
      (fpI S6 8 0 (some a0) 2).bind fun S30 =>
      (fgI S30 8 0 (some a0)).bind fun x32 =>
      if x32 = 0 then
        gDc S30 8 (some a0) fun a37 =>
        gBi (f_X8_sealed S30 a37 v1) fun x41 S39 =>
        if x41 = 0 then
          some (0, S39)
        else
          some (1, S39)
      else
        some (0, S30)
set_option maxRecDepth 100000 in
set_option maxHeartbeats 4000000 in
theorem c_X8_isSealed {l : Launch} (hl : l.stackTraces = false) (D : gD)  {S0 S9 : gS} {a0 : Nat} {v1 : Int32} {res : Int32} (h0 : f_X8_isSealed S0 a0 v1 = some (res, S9)) : Met l yX8_isSealed (gws yX8_isSealed cX8_isSealed 3 (some .boolean)) { frames := 5, cells := 3, slots := 24, locals := 125 } (gPc D S0 [.ref a0, .int v1]) (gQ D (some (.int res)) S9) (3) (24) (gF D) := by
  refine g_met (lv := [(0, va_rf (some a0)), (1, .int v1)]) hl (by decide) (Nat.le_of_ble_eq_true rfl) rfl (fun p e s m args below meth c X hr hn => ?_)
  have X : gX D p l s m args meth c cX8_isSealed 3 RX8 := X
  unfold f_X8_isSealed at h0
  refine g_aload_n (j := 0) X dX8_isSealed_0 rfl rfl ?_
  obtain ⟨a1, ea1, ka1, h2⟩ := g_dc h0; clear h0
  obtain ⟨x5, S3, eS3, h4⟩ := g_bi h2; clear h2
  refine g_cV (n := 0) (As := []) X (c_X8_use hl D eS3) tw784 tw785 tw15 tw51 tw786 (by decide +kernel) rfl rfl ⟨Nat.le_of_ble_eq_true rfl, Nat.le_of_ble_eq_true rfl⟩ (ci := 8) rfl (by decide) ea1 ka1 rfl rfl (Nat.le_of_ble_eq_true rfl) dX8_isSealed_1 ⟨(by decide), (by decide)⟩ ?_
  clear eS3 ea1 ka1
  refine g_istore_n (i := 2) (lv' := [(2, .int x5), (0, va_rf (some a0)), (1, .int v1)]) X dX8_isSealed_4 rfl (by decide) rfl ?_
  refine g_aload_n (j := 1) X dX8_isSealed_5 rfl rfl ?_
  refine g_iload_n (j := 2) X dX8_isSealed_6 rfl rfl ?_
  obtain ⟨x8, S6, eS6, h7⟩ := g_bi h4; clear h4
  refine g_cS (n := 1) (As := [.int v1]) X (c_X8_isLog hl D eS6) tw787 tw788 tw51 tw789 (by decide +kernel) rfl rfl ⟨Nat.le_of_ble_eq_true rfl, Nat.le_of_ble_eq_true rfl⟩ rfl rfl (Nat.le_of_ble_eq_true rfl) dX8_isSealed_7 ⟨(by decide), (by decide)⟩ ?_
  clear eS6
  refine g_if_ne (tgt := 17) X dX8_isSealed_10 (by decide) (fun c9 => ?_) (fun c9 => ?_)
  · have h10 := g_in h7 c9; clear h7
    refine g_iload_n (j := 0) X dX8_isSealed_17 rfl rfl ?_
    refine g_bipush X dX8_isSealed_18 (v := 80) (by decide) ?_
    refine g_icmp_eq (tgt := 27) X dX8_isSealed_20 (by decide) (fun c12 => ?_) (fun c12 => ?_)
    · have h13 := g_ip h10 c12; clear h10
      refine g_iconst X dX8_isSealed_27 (v := 0) (by decide) ?_
      obtain ⟨S15, eS15, h16⟩ := g_bd h13; clear h13
      refine g_pI (ci := 8) (k := 0) X rfl il8 tyX8 tyX8_ok nmX8 (by decide) tw703 rfl (by decide) (fun _ _ _ => rfl) rfl eS15 dX8_isSealed_28 ?_
      clear eS15
      refine g_aload_n (j := 1) X dX8_isSealed_31 rfl rfl ?_
      obtain ⟨x17, ex17, h18⟩ := g_bd h16; clear h16
      refine g_fI (ci := 8) (k := 0) X rfl il8 (by decide) tw703 (by decide) (fun _ _ _ => rfl) ex17 dX8_isSealed_32 ?_
      clear ex17
      refine g_if_ne (tgt := 50) X dX8_isSealed_35 (by decide) (fun c19 => ?_) (fun c19 => ?_)
      · have h20 := g_in h18 c19; clear h18
        refine g_iconst X dX8_isSealed_50 (v := 0) (by decide) ?_
        obtain ⟨rfl, rfl⟩ := g_end h20
        exact g_zret X hr (Or.inl rfl) (by decide) (by decide) dX8_isSealed_51
      · have h21 := g_ip h18 c19; clear h18
        refine g_aload_n (j := 1) X dX8_isSealed_38 rfl rfl ?_
        refine g_iload_n (j := 2) X dX8_isSealed_39 rfl rfl ?_
        obtain ⟨a22, ea22, ka22, h23⟩ := g_dc h21; clear h21
        obtain ⟨x26, S24, eS24, h25⟩ := g_bi h23; clear h23
        refine g_cV (n := 1) (As := [.int v1]) X (c_X8_sealed hl D eS24) tw935 tw936 tw36 tw51 tw937 (by decide +kernel) rfl rfl ⟨Nat.le_of_ble_eq_true rfl, Nat.le_of_ble_eq_true rfl⟩ (ci := 8) rfl (by decide) ea22 ka22 rfl rfl (Nat.le_of_ble_eq_true rfl) dX8_isSealed_40 ⟨(by decide), (by decide)⟩ ?_
        clear eS24 ea22 ka22
        refine g_if_eq (tgt := 50) X dX8_isSealed_43 (by decide) (fun c27 => ?_) (fun c27 => ?_)
        · have h28 := g_ip h25 c27; clear h25
          refine g_iconst X dX8_isSealed_50 (v := 0) (by decide) ?_
          obtain ⟨rfl, rfl⟩ := g_end h28
          exact g_zret X hr (Or.inl rfl) (by decide) (by decide) dX8_isSealed_51
        · have h29 := g_in h25 c27; clear h25
          refine g_iconst X dX8_isSealed_46 (v := 1) (by decide) ?_
          refine g_goto (tgt := 51) X dX8_isSealed_47 (by decide) ?_
          obtain ⟨rfl, rfl⟩ := g_end h29
          exact g_zret X hr (Or.inr rfl) (by decide) (by decide) dX8_isSealed_51
    · have h14 := g_in h10 c12; clear h10
      refine g_iconst X dX8_isSealed_23 (v := 2) (by decide) ?_
      refine g_goto (tgt := 28) X dX8_isSealed_24 (by decide) ?_
      obtain ⟨S30, eS30, h31⟩ := g_bd h14; clear h14
      refine g_pI (ci := 8) (k := 0) X rfl il8 tyX8 tyX8_ok nmX8 (by decide) tw703 rfl (by decide) (fun _ _ _ => rfl) rfl eS30 dX8_isSealed_28 ?_
      clear eS30
      refine g_aload_n (j := 1) X dX8_isSealed_31 rfl rfl ?_
      obtain ⟨x32, ex32, h33⟩ := g_bd h31; clear h31
      refine g_fI (ci := 8) (k := 0) X rfl il8 (by decide) tw703 (by decide) (fun _ _ _ => rfl) ex32 dX8_isSealed_32 ?_
      clear ex32
      refine g_if_ne (tgt := 50) X dX8_isSealed_35 (by decide) (fun c34 => ?_) (fun c34 => ?_)
      · have h35 := g_in h33 c34; clear h33
        refine g_iconst X dX8_isSealed_50 (v := 0) (by decide) ?_
        obtain ⟨rfl, rfl⟩ := g_end h35
        exact g_zret X hr (Or.inl rfl) (by decide) (by decide) dX8_isSealed_51
      · have h36 := g_ip h33 c34; clear h33
        refine g_aload_n (j := 1) X dX8_isSealed_38 rfl rfl ?_
        refine g_iload_n (j := 2) X dX8_isSealed_39 rfl rfl ?_
        obtain ⟨a37, ea37, ka37, h38⟩ := g_dc h36; clear h36
        obtain ⟨x41, S39, eS39, h40⟩ := g_bi h38; clear h38
        refine g_cV (n := 1) (As := [.int v1]) X (c_X8_sealed hl D eS39) tw935 tw936 tw36 tw51 tw937 (by decide +kernel) rfl rfl ⟨Nat.le_of_ble_eq_true rfl, Nat.le_of_ble_eq_true rfl⟩ (ci := 8) rfl (by decide) ea37 ka37 rfl rfl (Nat.le_of_ble_eq_true rfl) dX8_isSealed_40 ⟨(by decide), (by decide)⟩ ?_
        clear eS39 ea37 ka37
        refine g_if_eq (tgt := 50) X dX8_isSealed_43 (by decide) (fun c42 => ?_) (fun c42 => ?_)
        · have h43 := g_ip h40 c42; clear h40
          refine g_iconst X dX8_isSealed_50 (v := 0) (by decide) ?_
          obtain ⟨rfl, rfl⟩ := g_end h43
          exact g_zret X hr (Or.inl rfl) (by decide) (by decide) dX8_isSealed_51
        · have h44 := g_in h40 c42; clear h40
          refine g_iconst X dX8_isSealed_46 (v := 1) (by decide) ?_
          refine g_goto (tgt := 51) X dX8_isSealed_47 (by decide) ?_
          obtain ⟨rfl, rfl⟩ := g_end h44
          exact g_zret X hr (Or.inr rfl) (by decide) (by decide) dX8_isSealed_51
  · have h11 := g_ip h7 c9; clear h7
    refine g_iconst X dX8_isSealed_13 (v := 1) (by decide) ?_
    refine g_goto (tgt := 28) X dX8_isSealed_14 (by decide) ?_
    obtain ⟨S45, eS45, h46⟩ := g_bd h11; clear h11
    refine g_pI (ci := 8) (k := 0) X rfl il8 tyX8 tyX8_ok nmX8 (by decide) tw703 rfl (by decide) (fun _ _ _ => rfl) rfl eS45 dX8_isSealed_28 ?_
    clear eS45
    refine g_aload_n (j := 1) X dX8_isSealed_31 rfl rfl ?_
    obtain ⟨x47, ex47, h48⟩ := g_bd h46; clear h46
    refine g_fI (ci := 8) (k := 0) X rfl il8 (by decide) tw703 (by decide) (fun _ _ _ => rfl) ex47 dX8_isSealed_32 ?_
    clear ex47
    refine g_if_ne (tgt := 50) X dX8_isSealed_35 (by decide) (fun c49 => ?_) (fun c49 => ?_)
    · have h50 := g_in h48 c49; clear h48
      refine g_iconst X dX8_isSealed_50 (v := 0) (by decide) ?_
      obtain ⟨rfl, rfl⟩ := g_end h50
      exact g_zret X hr (Or.inl rfl) (by decide) (by decide) dX8_isSealed_51
    · have h51 := g_ip h48 c49; clear h48
      refine g_aload_n (j := 1) X dX8_isSealed_38 rfl rfl ?_
      refine g_iload_n (j := 2) X dX8_isSealed_39 rfl rfl ?_
      obtain ⟨a52, ea52, ka52, h53⟩ := g_dc h51; clear h51
      obtain ⟨x56, S54, eS54, h55⟩ := g_bi h53; clear h53
      refine g_cV (n := 1) (As := [.int v1]) X (c_X8_sealed hl D eS54) tw935 tw936 tw36 tw51 tw937 (by decide +kernel) rfl rfl ⟨Nat.le_of_ble_eq_true rfl, Nat.le_of_ble_eq_true rfl⟩ (ci := 8) rfl (by decide) ea52 ka52 rfl rfl (Nat.le_of_ble_eq_true rfl) dX8_isSealed_40 ⟨(by decide), (by decide)⟩ ?_
      clear eS54 ea52 ka52
      refine g_if_eq (tgt := 50) X dX8_isSealed_43 (by decide) (fun c57 => ?_) (fun c57 => ?_)
      · have h58 := g_ip h55 c57; clear h55
        refine g_iconst X dX8_isSealed_50 (v := 0) (by decide) ?_
        obtain ⟨rfl, rfl⟩ := g_end h58
        exact g_zret X hr (Or.inl rfl) (by decide) (by decide) dX8_isSealed_51
      · have h59 := g_in h55 c57; clear h55
        refine g_iconst X dX8_isSealed_46 (v := 1) (by decide) ?_
        refine g_goto (tgt := 51) X dX8_isSealed_47 (by decide) ?_
        obtain ⟨rfl, rfl⟩ := g_end h59
        exact g_zret X hr (Or.inr rfl) (by decide) (by decide) dX8_isSealed_51
def f_X8_seal_L65 : Nat → gS → Nat → Int32 → Option (Int32 × gS)
  | 0, _, _, _ => none
  | k + 1, S0, a0, v3 =>
    if 48 ≤ v3 then
      (fpI S0 8 4 (some a0) 48).bind fun S43 =>
      gDc S43 8 (some a0) fun a45 =>
      (f_X8_outSlot S43 a45 1).bind fun S47 =>
      some (1, S47)
    else
      (fgR S0 8 3 (some a0)).bind fun x49 =>
      (fgR S0 8 1 (some a0)).bind fun x51 =>
      (fI S0 10 x51 v3).bind fun x53 =>
      (faI S0 x49 v3 x53).bind fun S55 =>
      gLet (v3 + 1) fun x57 =>
      f_X8_seal_L65 k S55 a0 x57
set_option maxRecDepth 100000 in
set_option maxHeartbeats 4000000 in
theorem w_X8_seal_L65 {p : Program} {l : Launch} {e : Env} {s : State} {m : MethodId} {args : Array Value} {below : List Frame} {meth : Method} {c : Code} {D : gD} {S9 : gS} {res : Int32}  (hl : l.stackTraces = false) (X : gX D p l s m args meth c cX8_seal 4 RX8) (hr : meth.sig.returnType = (some .boolean)) : ∀ (k : Nat) (S0 : gS) (a0 : Nat) (v3 : Int32), f_X8_seal_L65 k S0 a0 v3 = some (res, S9) → gJ D p l e { frames := 4, cells := 3, slots := 24, locals := 104 } s m args below meth c (MQ below (gQ D (some (.int res)) S9) args s (3) (24) (gF D)) 4 (3) (24) S0 65 [(0, va_rf (some a0)), (3, .int v3)] [] := by
  intro k
  induction k with
  | zero => intro S0 a0 v3 h0; cases h0
  | succ k ih =>
    intro S0 a0 v3 h0
    have h0 := h0
    unfold f_X8_seal_L65 at h0
    refine g_iload_n (j := 1) X dX8_seal_65 rfl rfl ?_
    refine g_bipush X dX8_seal_66 (v := 48) (by decide) ?_
    refine g_icmp_ge (tgt := 89) X dX8_seal_68 (by decide) (fun c40 => ?_) (fun c40 => ?_)
    · have h41 := g_ip h0 c40; clear h0
      refine g_aload_n (j := 0) X dX8_seal_89 rfl rfl ?_
      refine g_bipush X dX8_seal_90 (v := 48) (by decide) ?_
      obtain ⟨S43, eS43, h44⟩ := g_bd h41; clear h41
      refine g_pI (ci := 8) (k := 4) X rfl il8 tyX8 tyX8_ok nmX8 (by decide) tw707 rfl (by decide) (fun _ _ _ => rfl) rfl eS43 dX8_seal_92 ?_
      clear eS43
      refine g_aload_n (j := 0) X dX8_seal_95 rfl rfl ?_
      refine g_iconst X dX8_seal_96 (v := 1) (by decide) ?_
      obtain ⟨a45, ea45, ka45, h46⟩ := g_dc h44; clear h44
      obtain ⟨S47, eS47, h48⟩ := g_bd h46; clear h46
      refine g_cV (n := 1) (As := [.int 1]) X (c_X8_outSlot hl D eS47) tw872 tw873 tw28 tw51 tw874 (by decide +kernel) rfl rfl ⟨Nat.le_of_ble_eq_true rfl, Nat.le_of_ble_eq_true rfl⟩ (ci := 8) rfl (by decide) ea45 ka45 rfl rfl (Nat.le_of_ble_eq_true rfl) dX8_seal_97 ⟨(by decide), (by decide)⟩ ?_
      clear eS47 ea45 ka45
      refine g_iconst X dX8_seal_100 (v := 1) (by decide) ?_
      obtain ⟨rfl, rfl⟩ := g_end h48
      exact g_zret X hr (Or.inr rfl) (by decide) (by decide) dX8_seal_101
    · have h42 := g_in h0 c40; clear h0
      refine g_aload_n (j := 0) X dX8_seal_71 rfl rfl ?_
      obtain ⟨x49, ex49, h50⟩ := g_bd h42; clear h42
      refine g_fR (ci := 8) (k := 3) X rfl il8 (by decide) tw706 (by decide) (fun _ _ _ => rfl) ex49 dX8_seal_72 ?_
      clear ex49
      refine g_iload_n (j := 1) X dX8_seal_75 rfl rfl ?_
      refine g_aload_n (j := 0) X dX8_seal_76 rfl rfl ?_
      obtain ⟨x51, ex51, h52⟩ := g_bd h50; clear h50
      refine g_fR (ci := 8) (k := 1) X rfl il8 (by decide) tw704 (by decide) (fun _ _ _ => rfl) ex51 dX8_seal_77 ?_
      clear ex51
      refine g_iload_n (j := 1) X dX8_seal_80 rfl rfl ?_
      obtain ⟨x53, ex53, h54⟩ := g_bd h52; clear h52
      refine g_iald X ex53 dX8_seal_81 ?_
      clear ex53
      obtain ⟨S55, eS55, h56⟩ := g_bd h54; clear h54
      refine g_iast X eS55 dX8_seal_82 ?_
      clear eS55
      obtain ⟨x57, ex57, h58⟩ := g_let h56; clear h56
      refine g_iinc (j := 1) (v := x57) (lv' := [(3, .int x57), (0, va_rf (some a0))]) X dX8_seal_83 rfl (by rw [ex57]; rfl) (by decide) rfl ?_
      clear ex57
      refine g_goto (tgt := 65) X dX8_seal_86 (by decide) ?_
      refine g_sub [1, 0] rfl ?_
      exact ih S55 a0 x57 h58
def f_X8_seal_B28 (S0 : gS) (a0 : Nat) (v1 : Int32) (t0 : Int32) (t1 : Option Nat) : Option (Int32 × gS) :=
  (fpI S0 8 0 t1 t0).bind fun S15 =>
  (fgI S15 8 0 (some a0)).bind fun x17 =>
  if x17 ≤ 0 then
    gDc S15 8 (some a0) fun a22 =>
    (f_X8_fromTape S15 a22 16 0).bind fun S24 =>
    gDc S24 8 (some a0) fun a26 =>
    gBi (f_X8_tapeLong S24 a26 0) fun x30 S28 =>
    gDc S28 8 (some a0) fun a31 =>
    gBi (f_X8_tapeLong S28 a31 8) fun x35 S33 =>
    gDc S33 8 (some a0) fun a36 =>
    (f_X8_sealOf S33 a36 v1 x30 x35).bind fun S38 =>
    f_X8_seal_L65 gFuel S38 a0 0
  else
    some (0, S15)
set_option maxRecDepth 100000 in
set_option maxHeartbeats 4000000 in
theorem w_X8_seal_B28 {p : Program} {l : Launch} {e : Env} {s : State} {m : MethodId} {args : Array Value} {below : List Frame} {meth : Method} {c : Code} {D : gD} {S9 : gS} {res : Int32}  (hl : l.stackTraces = false) (X : gX D p l s m args meth c cX8_seal 4 RX8) (hr : meth.sig.returnType = (some .boolean)) (S0 : gS) (a0 : Nat) (v1 : Int32) (t0 : Int32) (t1 : Option Nat) (h0 : f_X8_seal_B28 S0 a0 v1 t0 t1 = some (res, S9)) : gJ D p l e { frames := 4, cells := 3, slots := 24, locals := 104 } s m args below meth c (MQ below (gQ D (some (.int res)) S9) args s (3) (24) (gF D)) 4 (0) (0) S0 28 [(0, va_rf (some a0)), (1, .int v1)] [.int t0, va_rf t1] := by
  unfold f_X8_seal_B28 at h0
  obtain ⟨S15, eS15, h16⟩ := g_bd h0; clear h0
  refine g_pI (ci := 8) (k := 0) X rfl il8 tyX8 tyX8_ok nmX8 (by decide) tw703 rfl (by decide) (fun _ _ _ => rfl) rfl eS15 dX8_seal_28 ?_
  clear eS15
  refine g_aload_n (j := 0) X dX8_seal_31 rfl rfl ?_
  obtain ⟨x17, ex17, h18⟩ := g_bd h16; clear h16
  refine g_fI (ci := 8) (k := 0) X rfl il8 (by decide) tw703 (by decide) (fun _ _ _ => rfl) ex17 dX8_seal_32 ?_
  clear ex17
  refine g_if_le (tgt := 40) X dX8_seal_35 (by decide) (fun c19 => ?_) (fun c19 => ?_)
  · have h20 := g_ip h18 c19; clear h18
    refine g_aload_n (j := 0) X dX8_seal_40 rfl rfl ?_
    refine g_bipush X dX8_seal_41 (v := 16) (by decide) ?_
    refine g_iconst X dX8_seal_43 (v := 0) (by decide) ?_
    obtain ⟨a22, ea22, ka22, h23⟩ := g_dc h20; clear h20
    obtain ⟨S24, eS24, h25⟩ := g_bd h23; clear h23
    refine g_cV (n := 2) (As := [.int 16, .int 0]) X (c_X8_fromTape hl D eS24) tw879 tw880 tw29 tw51 tw881 (by decide +kernel) rfl rfl ⟨Nat.le_of_ble_eq_true rfl, Nat.le_of_ble_eq_true rfl⟩ (ci := 8) rfl (by decide) ea22 ka22 rfl rfl (Nat.le_of_ble_eq_true rfl) dX8_seal_44 ⟨(by decide), (by decide)⟩ ?_
    clear eS24 ea22 ka22
    refine g_aload_n (j := 0) X dX8_seal_47 rfl rfl ?_
    refine g_iload_n (j := 1) X dX8_seal_48 rfl rfl ?_
    refine g_aload_n (j := 0) X dX8_seal_49 rfl rfl ?_
    refine g_iconst X dX8_seal_50 (v := 0) (by decide) ?_
    obtain ⟨a26, ea26, ka26, h27⟩ := g_dc h25; clear h25
    obtain ⟨x30, S28, eS28, h29⟩ := g_bi h27; clear h27
    refine g_cV (n := 1) (As := [.int 0]) X (c_X8_tapeLong hl D eS28) tw938 tw939 tw37 tw51 tw940 (by decide +kernel) rfl rfl ⟨Nat.le_of_ble_eq_true rfl, Nat.le_of_ble_eq_true rfl⟩ (ci := 8) rfl (by decide) ea26 ka26 rfl rfl (Nat.le_of_ble_eq_true rfl) dX8_seal_51 ⟨(by decide), (by decide)⟩ ?_
    clear eS28 ea26 ka26
    refine g_aload_n (j := 0) X dX8_seal_54 rfl rfl ?_
    refine g_bipush X dX8_seal_55 (v := 8) (by decide) ?_
    obtain ⟨a31, ea31, ka31, h32⟩ := g_dc h29; clear h29
    obtain ⟨x35, S33, eS33, h34⟩ := g_bi h32; clear h32
    refine g_cV (n := 1) (As := [.int 8]) X (c_X8_tapeLong hl D eS33) tw938 tw939 tw37 tw51 tw940 (by decide +kernel) rfl rfl ⟨Nat.le_of_ble_eq_true rfl, Nat.le_of_ble_eq_true rfl⟩ (ci := 8) rfl (by decide) ea31 ka31 rfl rfl (Nat.le_of_ble_eq_true rfl) dX8_seal_57 ⟨(by decide), (by decide)⟩ ?_
    clear eS33 ea31 ka31
    obtain ⟨a36, ea36, ka36, h37⟩ := g_dc h34; clear h34
    obtain ⟨S38, eS38, h39⟩ := g_bd h37; clear h37
    refine g_cV (n := 3) (As := [.int v1, .long x30, .long x35]) X (c_X8_sealOf hl D eS38) tw847 tw848 tw25 tw51 tw849 (by decide +kernel) rfl rfl ⟨Nat.le_of_ble_eq_true rfl, Nat.le_of_ble_eq_true rfl⟩ (ci := 8) rfl (by decide) ea36 ka36 rfl rfl (Nat.le_of_ble_eq_true rfl) dX8_seal_60 ⟨(by decide), (by decide)⟩ ?_
    clear eS38 ea36 ka36
    refine g_iconst X dX8_seal_63 (v := 0) (by decide) ?_
    refine g_istore_n (i := 3) (lv' := [(3, .int 0), (0, va_rf (some a0)), (1, .int v1)]) X dX8_seal_64 rfl (by decide) rfl ?_
    refine g_sub [1, 0] rfl ?_
    exact w_X8_seal_L65 hl X hr gFuel S38 a0 0 h39
  · have h21 := g_in h18 c19; clear h18
    refine g_iconst X dX8_seal_38 (v := 0) (by decide) ?_
    obtain ⟨rfl, rfl⟩ := g_end h21
    exact g_zret X hr (Or.inl rfl) (by decide) (by decide) dX8_seal_39
def f_X8_seal (S0 : gS) (a0 : Nat) (v1 : Int32) : Option (Int32 × gS) :=
  gDc S0 8 (some a0) fun a1 =>
  gBi (f_X8_use S0 a1) fun x5 S3 =>
  gBi (f_X8_isLog S3 v1) fun x8 S6 =>
  if x8 = 0 then
    f_X8_seal_B28 S6 a0 v1 1 (some a0)
  else
    if x5 = 48 then
      f_X8_seal_B28 S6 a0 v1 0 (some a0)
    else
      f_X8_seal_B28 S6 a0 v1 2 (some a0)
set_option maxRecDepth 100000 in
set_option maxHeartbeats 4000000 in
theorem c_X8_seal {l : Launch} (hl : l.stackTraces = false) (D : gD)  {S0 S9 : gS} {a0 : Nat} {v1 : Int32} {res : Int32} (h0 : f_X8_seal S0 a0 v1 = some (res, S9)) : Met l yX8_seal (gws yX8_seal cX8_seal 4 (some .boolean)) { frames := 4, cells := 3, slots := 24, locals := 104 } (gPc D S0 [.ref a0, .int v1]) (gQ D (some (.int res)) S9) (3) (24) (gF D) := by
  refine g_met (lv := [(0, va_rf (some a0)), (1, .int v1)]) hl (by decide) (Nat.le_of_ble_eq_true rfl) rfl (fun p e s m args below meth c X hr hn => ?_)
  have X : gX D p l s m args meth c cX8_seal 4 RX8 := X
  unfold f_X8_seal at h0
  refine g_aload_n (j := 0) X dX8_seal_0 rfl rfl ?_
  obtain ⟨a1, ea1, ka1, h2⟩ := g_dc h0; clear h0
  obtain ⟨x5, S3, eS3, h4⟩ := g_bi h2; clear h2
  refine g_cV (n := 0) (As := []) X (c_X8_use hl D eS3) tw784 tw785 tw15 tw51 tw786 (by decide +kernel) rfl rfl ⟨Nat.le_of_ble_eq_true rfl, Nat.le_of_ble_eq_true rfl⟩ (ci := 8) rfl (by decide) ea1 ka1 rfl rfl (Nat.le_of_ble_eq_true rfl) dX8_seal_1 ⟨(by decide), (by decide)⟩ ?_
  clear eS3 ea1 ka1
  refine g_istore_n (i := 2) (lv' := [(2, .int x5), (0, va_rf (some a0)), (1, .int v1)]) X dX8_seal_4 rfl (by decide) rfl ?_
  refine g_aload_n (j := 1) X dX8_seal_5 rfl rfl ?_
  refine g_iload_n (j := 2) X dX8_seal_6 rfl rfl ?_
  obtain ⟨x8, S6, eS6, h7⟩ := g_bi h4; clear h4
  refine g_cS (n := 1) (As := [.int v1]) X (c_X8_isLog hl D eS6) tw787 tw788 tw51 tw789 (by decide +kernel) rfl rfl ⟨Nat.le_of_ble_eq_true rfl, Nat.le_of_ble_eq_true rfl⟩ rfl rfl (Nat.le_of_ble_eq_true rfl) dX8_seal_7 ⟨(by decide), (by decide)⟩ ?_
  clear eS6
  refine g_if_ne (tgt := 17) X dX8_seal_10 (by decide) (fun c9 => ?_) (fun c9 => ?_)
  · have h10 := g_in h7 c9; clear h7
    refine g_iload_n (j := 0) X dX8_seal_17 rfl rfl ?_
    refine g_bipush X dX8_seal_18 (v := 48) (by decide) ?_
    refine g_icmp_eq (tgt := 27) X dX8_seal_20 (by decide) (fun c12 => ?_) (fun c12 => ?_)
    · have h13 := g_ip h10 c12; clear h10
      refine g_iconst X dX8_seal_27 (v := 0) (by decide) ?_
      refine g_sub [1, 2] rfl ?_
      exact w_X8_seal_B28 hl X hr S6 a0 v1 0 (some a0) h13
    · have h14 := g_in h10 c12; clear h10
      refine g_iconst X dX8_seal_23 (v := 2) (by decide) ?_
      refine g_goto (tgt := 28) X dX8_seal_24 (by decide) ?_
      refine g_sub [1, 2] rfl ?_
      exact w_X8_seal_B28 hl X hr S6 a0 v1 2 (some a0) h14
  · have h11 := g_ip h7 c9; clear h7
    refine g_iconst X dX8_seal_13 (v := 1) (by decide) ?_
    refine g_goto (tgt := 28) X dX8_seal_14 (by decide) ?_
    refine g_sub [1, 2] rfl ?_
    exact w_X8_seal_B28 hl X hr S6 a0 v1 1 (some a0) h11
def f_X8_isWitness (S0 : gS) (v0 : Int32) : Option (Int32 × gS) :=
  if v0 < 0 then
    some (0, S0)
  else
    if 3 < v0 then
      some (0, S0)
    else
      some (1, S0)
set_option maxRecDepth 100000 in
set_option maxHeartbeats 4000000 in
theorem c_X8_isWitness {l : Launch} (hl : l.stackTraces = false) (D : gD)  {S0 S9 : gS} {v0 : Int32} {res : Int32} (h0 : f_X8_isWitness S0 v0 = some (res, S9)) : Met l yX8_isWitness (gws yX8_isWitness cX8_isWitness 1 (some .boolean)) { frames := 0, cells := 0, slots := 0, locals := 0 } (gPc D S0 [.int v0]) (gQ D (some (.int res)) S9) (0) (0) (gF D) := by
  refine g_met (lv := [(0, .int v0)]) hl (by decide) (Nat.le_of_ble_eq_true rfl) rfl (fun p e s m args below meth c X hr hn => ?_)
  have X : gX D p l s m args meth c cX8_isWitness 1 RX8 := X
  unfold f_X8_isWitness at h0
  refine g_iload_n (j := 0) X dX8_isWitness_0 rfl rfl ?_
  refine g_if_lt (tgt := 13) X dX8_isWitness_1 (by decide) (fun c1 => ?_) (fun c1 => ?_)
  · have h2 := g_ip h0 c1; clear h0
    refine g_iconst X dX8_isWitness_13 (v := 0) (by decide) ?_
    obtain ⟨rfl, rfl⟩ := g_end h2
    exact g_zret X hr (Or.inl rfl) (by decide) (by decide) dX8_isWitness_14
  · have h3 := g_in h0 c1; clear h0
    refine g_iload_n (j := 0) X dX8_isWitness_4 rfl rfl ?_
    refine g_iconst X dX8_isWitness_5 (v := 3) (by decide) ?_
    refine g_icmp_gt (tgt := 13) X dX8_isWitness_6 (by decide) (fun c4 => ?_) (fun c4 => ?_)
    · have h5 := g_ip h3 c4; clear h3
      refine g_iconst X dX8_isWitness_13 (v := 0) (by decide) ?_
      obtain ⟨rfl, rfl⟩ := g_end h5
      exact g_zret X hr (Or.inl rfl) (by decide) (by decide) dX8_isWitness_14
    · have h6 := g_in h3 c4; clear h3
      refine g_iconst X dX8_isWitness_9 (v := 1) (by decide) ?_
      refine g_goto (tgt := 14) X dX8_isWitness_10 (by decide) ?_
      obtain ⟨rfl, rfl⟩ := g_end h6
      exact g_zret X hr (Or.inr rfl) (by decide) (by decide) dX8_isWitness_14
def f_X8_placeOf (S0 : gS) (v0 : Int32) (v1 : Int32) (v2 : Int32) : Option (Int32 × gS) :=
  some ((3 * ((2 * v0) + v1)) + v2, S0)
set_option maxRecDepth 100000 in
set_option maxHeartbeats 4000000 in
theorem c_X8_placeOf {l : Launch} (hl : l.stackTraces = false) (D : gD)  {S0 S9 : gS} {v0 : Int32} {v1 : Int32} {v2 : Int32} {res : Int32} (h0 : f_X8_placeOf S0 v0 v1 v2 = some (res, S9)) : Met l yX8_placeOf (gws yX8_placeOf cX8_placeOf 3 (some .int)) { frames := 0, cells := 0, slots := 0, locals := 0 } (gPc D S0 [.int v0, .int v1, .int v2]) (gQ D (some (.int res)) S9) (0) (0) (gF D) := by
  refine g_met (lv := [(0, .int v0), (1, .int v1), (2, .int v2)]) hl (by decide) (Nat.le_of_ble_eq_true rfl) rfl (fun p e s m args below meth c X hr hn => ?_)
  have X : gX D p l s m args meth c cX8_placeOf 3 RX8 := X
  unfold f_X8_placeOf at h0
  refine g_iconst X dX8_placeOf_0 (v := 3) (by decide) ?_
  refine g_iconst X dX8_placeOf_1 (v := 2) (by decide) ?_
  refine g_iload_n (j := 0) X dX8_placeOf_2 rfl rfl ?_
  refine g_imul X dX8_placeOf_3 ?_
  refine g_iload_n (j := 1) X dX8_placeOf_4 rfl rfl ?_
  refine g_iadd X dX8_placeOf_5 ?_
  refine g_imul X dX8_placeOf_6 ?_
  refine g_iload_n (j := 2) X dX8_placeOf_7 rfl rfl ?_
  refine g_iadd X dX8_placeOf_8 ?_
  obtain ⟨rfl, rfl⟩ := g_end h0
  exact g_iret X hr (by decide) (by decide) dX8_placeOf_9
def f_X8_seenLong_L5 : Nat → gS → Nat → Int32 → Int32 → Int64 → Int32 → Option (Int64 × gS)
  | 0, _, _, _, _, _, _ => none
  | k + 1, S0, a0, v1, v2, v3, v5 =>
    if 8 ≤ v5 then
      some (v3, S0)
    else
      (fgR S0 8 14 (some a0)).bind fun x4 =>
      (fI S0 10 x4 (((80 * v1) + v2) + v5)).bind fun x6 =>
      gLet ((v3 <<< ((8 : Int32).toInt64 &&& 63)) ||| x6.toInt64) fun x8 =>
      gLet (v5 + 1) fun x10 =>
      f_X8_seenLong_L5 k S0 a0 v1 v2 x8 x10
set_option maxRecDepth 100000 in
set_option maxHeartbeats 4000000 in
theorem w_X8_seenLong_L5 {p : Program} {l : Launch} {e : Env} {s : State} {m : MethodId} {args : Array Value} {below : List Frame} {meth : Method} {c : Code} {D : gD} {S9 : gS} {res : Int64}  (hl : l.stackTraces = false) (X : gX D p l s m args meth c cX8_seenLong 6 RX8) (hr : meth.sig.returnType = (some .long)) : ∀ (k : Nat) (S0 : gS) (a0 : Nat) (v1 : Int32) (v2 : Int32) (v3 : Int64) (v5 : Int32), f_X8_seenLong_L5 k S0 a0 v1 v2 v3 v5 = some (res, S9) → gJ D p l e { frames := 0, cells := 0, slots := 0, locals := 0 } s m args below meth c (MQ below (gQ D (some (.long res)) S9) args s (0) (0) (gF D)) 6 (0) (0) S0 5 [(0, va_rf (some a0)), (1, .int v1), (2, .int v2), (3, .long v3), (5, .int v5)] [] := by
  intro k
  induction k with
  | zero => intro S0 a0 v1 v2 v3 v5 h0; cases h0
  | succ k ih =>
    intro S0 a0 v1 v2 v3 v5 h0
    have h0 := h0
    unfold f_X8_seenLong_L5 at h0
    refine g_iload (j := 4) X dX8_seenLong_5 rfl ?_
    refine g_bipush X dX8_seenLong_7 (v := 8) (by decide) ?_
    refine g_icmp_ge (tgt := 39) X dX8_seenLong_9 (by decide) (fun c1 => ?_) (fun c1 => ?_)
    · have h2 := g_ip h0 c1; clear h0
      refine g_lload_n (j := 3) X dX8_seenLong_39 rfl rfl ?_
      obtain ⟨rfl, rfl⟩ := g_end h2
      exact g_lret X hr (by decide) (by decide) dX8_seenLong_40
    · have h3 := g_in h0 c1; clear h0
      refine g_lload_n (j := 3) X dX8_seenLong_12 rfl rfl ?_
      refine g_bipush X dX8_seenLong_13 (v := 8) (by decide) ?_
      refine g_lshl X dX8_seenLong_15 ?_
      refine g_aload_n (j := 0) X dX8_seenLong_16 rfl rfl ?_
      obtain ⟨x4, ex4, h5⟩ := g_bd h3; clear h3
      refine g_fR (ci := 8) (k := 14) X rfl il8 (by decide) tw717 (by decide) (fun _ _ _ => rfl) ex4 dX8_seenLong_17 ?_
      clear ex4
      refine g_bipush X dX8_seenLong_20 (v := 80) (by decide) ?_
      refine g_iload_n (j := 1) X dX8_seenLong_22 rfl rfl ?_
      refine g_imul X dX8_seenLong_23 ?_
      refine g_iload_n (j := 2) X dX8_seenLong_24 rfl rfl ?_
      refine g_iadd X dX8_seenLong_25 ?_
      refine g_iload (j := 4) X dX8_seenLong_26 rfl ?_
      refine g_iadd X dX8_seenLong_28 ?_
      obtain ⟨x6, ex6, h7⟩ := g_bd h5; clear h5
      refine g_iald X ex6 dX8_seenLong_29 ?_
      clear ex6
      refine g_i2l X dX8_seenLong_30 ?_
      refine g_lor X dX8_seenLong_31 ?_
      obtain ⟨x8, ex8, h9⟩ := g_let h7; clear h7; rw [← ex8]; clear ex8
      refine g_lstore_n (i := 3) (lv' := [(3, .long x8), (0, va_rf (some a0)), (1, .int v1), (2, .int v2), (5, .int v5)]) X dX8_seenLong_32 rfl (by decide) rfl ?_
      obtain ⟨x10, ex10, h11⟩ := g_let h9; clear h9
      refine g_iinc (j := 4) (v := x10) (lv' := [(5, .int x10), (3, .long x8), (0, va_rf (some a0)), (1, .int v1), (2, .int v2)]) X dX8_seenLong_33 rfl (by rw [ex10]; rfl) (by decide) rfl ?_
      clear ex10
      refine g_goto (tgt := 5) X dX8_seenLong_36 (by decide) ?_
      refine g_sub [2, 3, 4, 1, 0] rfl ?_
      exact ih S0 a0 v1 v2 x8 x10 h11
def f_X8_seenLong (S0 : gS) (a0 : Nat) (v1 : Int32) (v2 : Int32) : Option (Int64 × gS) :=
  f_X8_seenLong_L5 gFuel S0 a0 v1 v2 0 0
set_option maxRecDepth 100000 in
set_option maxHeartbeats 4000000 in
theorem c_X8_seenLong {l : Launch} (hl : l.stackTraces = false) (D : gD)  {S0 S9 : gS} {a0 : Nat} {v1 : Int32} {v2 : Int32} {res : Int64} (h0 : f_X8_seenLong S0 a0 v1 v2 = some (res, S9)) : Met l yX8_seenLong (gws yX8_seenLong cX8_seenLong 6 (some .long)) { frames := 0, cells := 0, slots := 0, locals := 0 } (gPc D S0 [.ref a0, .int v1, .int v2]) (gQ D (some (.long res)) S9) (0) (0) (gF D) := by
  refine g_met (lv := [(0, va_rf (some a0)), (1, .int v1), (2, .int v2)]) hl (by decide) (Nat.le_of_ble_eq_true rfl) rfl (fun p e s m args below meth c X hr hn => ?_)
  have X : gX D p l s m args meth c cX8_seenLong 6 RX8 := X
  unfold f_X8_seenLong at h0
  refine g_lconst X dX8_seenLong_0 (v := 0) (by decide) ?_
  refine g_lstore_n (i := 3) (lv' := [(3, .long 0), (0, va_rf (some a0)), (1, .int v1), (2, .int v2)]) X dX8_seenLong_1 rfl (by decide) rfl ?_
  refine g_iconst X dX8_seenLong_2 (v := 0) (by decide) ?_
  refine g_istore (i := 5) (lv' := [(5, .int 0), (3, .long 0), (0, va_rf (some a0)), (1, .int v1), (2, .int v2)]) X dX8_seenLong_3 (by decide) rfl ?_
  refine g_sub [2, 3, 4, 1, 0] rfl ?_
  exact w_X8_seenLong_L5 hl X hr gFuel S0 a0 v1 v2 0 0 h0
