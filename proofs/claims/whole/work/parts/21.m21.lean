def f_X8_gossip_B27 (S0 : gS) (a0 : Nat) (v1 : Int32) (v2 : Int32) (v3 : Int32) (t0 : Int32) (t1 : Option Nat) : Option (Int32 × gS) :=
  (fpI S0 8 0 t1 t0).bind fun S7 =>
  (fgI S7 8 0 (some a0)).bind fun x9 =>
  if x9 ≤ 0 then
    gBi (f_X8_placeOf S7 v1 v3 0) fun x16 S14 =>
    gBi (f_X8_placeOf S14 v2 v3 0) fun x19 S17 =>
    (fgR S17 8 15 (some a0)).bind fun x20 =>
    (fI S17 12 x20 x16).bind fun x22 =>
    if x22 = 0 then
      some (0, S17)
    else
      (fgR S17 8 15 (some a0)).bind fun x27 =>
      (fI S17 12 x27 x19).bind fun x29 =>
      if x29 = 0 then
        some (0, S17)
      else
        gDc S17 8 (some a0) fun a34 =>
        gBi (f_X8_seenLong S17 a34 x16 8) fun x38 S36 =>
        gDc S36 8 (some a0) fun a39 =>
        gBi (f_X8_seenLong S36 a39 x19 8) fun x43 S41 =>
        if (lg_cmp x38 x43) = 0 then
          gDc S41 8 (some a0) fun a47 =>
          (f_X8_seenSlot S41 a47 x16 10).bind fun S49 =>
          gDc S49 8 (some a0) fun a51 =>
          (f_X8_seenSlot S49 a51 x19 11).bind fun S53 =>
          gDc S53 8 (some a0) fun a55 =>
          gBi (f_X8_isSame S53 a55 10 11) fun x59 S57 =>
          if x59 = 0 then
            gDc S57 8 (some a0) fun a63 =>
            (f_X8_told S57 a63 x16 x16 x19).bind fun S65 =>
            gDc S65 8 (some a0) fun a67 =>
            (f_X8_told S65 a67 x19 x16 x19).bind fun S69 =>
            some (3, S69)
          else
            some (0, S57)
        else
          if (lg_cmp x38 x43) ≤ 0 then
            some (2, S41)
          else
            some (1, S41)
  else
    some (0, S7)
set_option maxRecDepth 100000 in
set_option maxHeartbeats 4000000 in
theorem w_X8_gossip_B27 {p : Program} {l : Launch} {e : Env} {s : State} {m : MethodId} {args : Array Value} {below : List Frame} {meth : Method} {c : Code} {D : gD} {S9 : gS} {res : Int32}  (hl : l.stackTraces = false) (X : gX D p l s m args meth c cX8_gossip 10 RX8) (hr : meth.sig.returnType = (some .int)) (S0 : gS) (a0 : Nat) (v1 : Int32) (v2 : Int32) (v3 : Int32) (t0 : Int32) (t1 : Option Nat) (h0 : f_X8_gossip_B27 S0 a0 v1 v2 v3 t0 t1 = some (res, S9)) : gJ D p l e { frames := 2, cells := 0, slots := 0, locals := 46 } s m args below meth c (MQ below (gQ D (some (.int res)) S9) args s (0) (0) (gF D)) 10 (0) (0) S0 27 [(0, va_rf (some a0)), (1, .int v1), (2, .int v2), (3, .int v3)] [.int t0, va_rf t1] := by
  unfold f_X8_gossip_B27 at h0
  obtain ⟨S7, eS7, h8⟩ := g_bd h0; clear h0
  refine g_pI (ci := 8) (k := 0) X rfl il8 tyX8 tyX8_ok nmX8 (by decide) tw703 rfl (by decide) (fun _ _ _ => rfl) rfl eS7 dX8_gossip_27 ?_
  clear eS7
  refine g_aload_n (j := 0) X dX8_gossip_30 rfl rfl ?_
  obtain ⟨x9, ex9, h10⟩ := g_bd h8; clear h8
  refine g_fI (ci := 8) (k := 0) X rfl il8 (by decide) tw703 (by decide) (fun _ _ _ => rfl) ex9 dX8_gossip_31 ?_
  clear ex9
  refine g_if_le (tgt := 39) X dX8_gossip_34 (by decide) (fun c11 => ?_) (fun c11 => ?_)
  · have h12 := g_ip h10 c11; clear h10
    refine g_iload_n (j := 1) X dX8_gossip_39 rfl rfl ?_
    refine g_iload_n (j := 3) X dX8_gossip_40 rfl rfl ?_
    refine g_iconst X dX8_gossip_41 (v := 0) (by decide) ?_
    obtain ⟨x16, S14, eS14, h15⟩ := g_bi h12; clear h12
    refine g_cS (n := 3) (As := [.int v1, .int v3, .int 0]) X (c_X8_placeOf hl D eS14) tw952 tw953 tw51 tw954 (by decide +kernel) rfl rfl ⟨Nat.le_of_ble_eq_true rfl, Nat.le_of_ble_eq_true rfl⟩ rfl rfl (Nat.le_of_ble_eq_true rfl) dX8_gossip_42 ⟨(by decide), (by decide)⟩ ?_
    clear eS14
    refine g_istore (i := 4) (lv' := [(4, .int x16), (0, va_rf (some a0)), (1, .int v1), (2, .int v2), (3, .int v3)]) X dX8_gossip_45 (by decide) rfl ?_
    refine g_iload_n (j := 3) X dX8_gossip_47 rfl rfl ?_
    refine g_iload_n (j := 4) X dX8_gossip_48 rfl rfl ?_
    refine g_iconst X dX8_gossip_49 (v := 0) (by decide) ?_
    obtain ⟨x19, S17, eS17, h18⟩ := g_bi h15; clear h15
    refine g_cS (n := 3) (As := [.int v2, .int v3, .int 0]) X (c_X8_placeOf hl D eS17) tw952 tw953 tw51 tw954 (by decide +kernel) rfl rfl ⟨Nat.le_of_ble_eq_true rfl, Nat.le_of_ble_eq_true rfl⟩ rfl rfl (Nat.le_of_ble_eq_true rfl) dX8_gossip_50 ⟨(by decide), (by decide)⟩ ?_
    clear eS17
    refine g_istore (i := 5) (lv' := [(5, .int x19), (4, .int x16), (0, va_rf (some a0)), (1, .int v1), (2, .int v2), (3, .int v3)]) X dX8_gossip_53 (by decide) rfl ?_
    refine g_aload_n (j := 2) X dX8_gossip_55 rfl rfl ?_
    obtain ⟨x20, ex20, h21⟩ := g_bd h18; clear h18
    refine g_fR (ci := 8) (k := 15) X rfl il8 (by decide) tw718 (by decide) (fun _ _ _ => rfl) ex20 dX8_gossip_56 ?_
    clear ex20
    refine g_iload (j := 1) X dX8_gossip_59 rfl ?_
    obtain ⟨x22, ex22, h23⟩ := g_bd h21; clear h21
    refine g_zald X ex22 dX8_gossip_61 ?_
    clear ex22
    refine g_if_eq (tgt := 75) X dX8_gossip_62 (by decide) (fun c24 => ?_) (fun c24 => ?_)
    · have h25 := g_ip h23 c24; clear h23
      refine g_iconst X dX8_gossip_75 (v := 0) (by decide) ?_
      obtain ⟨rfl, rfl⟩ := g_end h25
      exact g_iret X hr (by decide) (by decide) dX8_gossip_76
    · have h26 := g_in h23 c24; clear h23
      refine g_aload_n (j := 2) X dX8_gossip_65 rfl rfl ?_
      obtain ⟨x27, ex27, h28⟩ := g_bd h26; clear h26
      refine g_fR (ci := 8) (k := 15) X rfl il8 (by decide) tw718 (by decide) (fun _ _ _ => rfl) ex27 dX8_gossip_66 ?_
      clear ex27
      refine g_iload (j := 0) X dX8_gossip_69 rfl ?_
      obtain ⟨x29, ex29, h30⟩ := g_bd h28; clear h28
      refine g_zald X ex29 dX8_gossip_71 ?_
      clear ex29
      refine g_if_ne (tgt := 77) X dX8_gossip_72 (by decide) (fun c31 => ?_) (fun c31 => ?_)
      · have h32 := g_in h30 c31; clear h30
        refine g_aload_n (j := 2) X dX8_gossip_77 rfl rfl ?_
        refine g_iload (j := 1) X dX8_gossip_78 rfl ?_
        refine g_bipush X dX8_gossip_80 (v := 8) (by decide) ?_
        obtain ⟨a34, ea34, ka34, h35⟩ := g_dc h32; clear h32
        obtain ⟨x38, S36, eS36, h37⟩ := g_bi h35; clear h35
        refine g_cV (n := 2) (As := [.int x16, .int 8]) X (c_X8_seenLong hl D eS36) tw955 tw956 tw38 tw51 tw957 (by decide +kernel) rfl rfl ⟨Nat.le_of_ble_eq_true rfl, Nat.le_of_ble_eq_true rfl⟩ (ci := 8) rfl (by decide) ea34 ka34 rfl rfl (Nat.le_of_ble_eq_true rfl) dX8_gossip_82 ⟨(by decide), (by decide)⟩ ?_
        clear eS36 ea34 ka34
        refine g_lstore (i := 6) (lv' := [(6, .long x38), (5, .int x19), (4, .int x16), (0, va_rf (some a0)), (1, .int v1), (2, .int v2), (3, .int v3)]) X dX8_gossip_85 (by decide) rfl ?_
        refine g_aload_n (j := 3) X dX8_gossip_87 rfl rfl ?_
        refine g_iload (j := 1) X dX8_gossip_88 rfl ?_
        refine g_bipush X dX8_gossip_90 (v := 8) (by decide) ?_
        obtain ⟨a39, ea39, ka39, h40⟩ := g_dc h37; clear h37
        obtain ⟨x43, S41, eS41, h42⟩ := g_bi h40; clear h40
        refine g_cV (n := 2) (As := [.int x19, .int 8]) X (c_X8_seenLong hl D eS41) tw955 tw956 tw38 tw51 tw957 (by decide +kernel) rfl rfl ⟨Nat.le_of_ble_eq_true rfl, Nat.le_of_ble_eq_true rfl⟩ (ci := 8) rfl (by decide) ea39 ka39 rfl rfl (Nat.le_of_ble_eq_true rfl) dX8_gossip_92 ⟨(by decide), (by decide)⟩ ?_
        clear eS41 ea39 ka39
        refine g_lstore (i := 8) (lv' := [(8, .long x43), (6, .long x38), (5, .int x19), (4, .int x16), (0, va_rf (some a0)), (1, .int v1), (2, .int v2), (3, .int v3)]) X dX8_gossip_95 (by decide) rfl ?_
        refine g_lload (j := 1) X dX8_gossip_97 rfl ?_
        refine g_lload (j := 0) X dX8_gossip_99 rfl ?_
        refine g_lcmp X dX8_gossip_101 ?_
        refine g_if_eq (tgt := 119) X dX8_gossip_102 (by decide) (fun c44 => ?_) (fun c44 => ?_)
        · have h45 := g_ip h42 c44; clear h42
          refine g_aload_n (j := 4) X dX8_gossip_119 rfl rfl ?_
          refine g_iload (j := 3) X dX8_gossip_120 rfl ?_
          refine g_bipush X dX8_gossip_122 (v := 10) (by decide) ?_
          obtain ⟨a47, ea47, ka47, h48⟩ := g_dc h45; clear h45
          obtain ⟨S49, eS49, h50⟩ := g_bd h48; clear h48
          refine g_cV (n := 2) (As := [.int x16, .int 10]) X (c_X8_seenSlot hl D eS49) tw958 tw959 tw39 tw51 tw960 (by decide +kernel) rfl rfl ⟨Nat.le_of_ble_eq_true rfl, Nat.le_of_ble_eq_true rfl⟩ (ci := 8) rfl (by decide) ea47 ka47 rfl rfl (Nat.le_of_ble_eq_true rfl) dX8_gossip_124 ⟨(by decide), (by decide)⟩ ?_
          clear eS49 ea47 ka47
          refine g_aload_n (j := 4) X dX8_gossip_127 rfl rfl ?_
          refine g_iload (j := 2) X dX8_gossip_128 rfl ?_
          refine g_bipush X dX8_gossip_130 (v := 11) (by decide) ?_
          obtain ⟨a51, ea51, ka51, h52⟩ := g_dc h50; clear h50
          obtain ⟨S53, eS53, h54⟩ := g_bd h52; clear h52
          refine g_cV (n := 2) (As := [.int x19, .int 11]) X (c_X8_seenSlot hl D eS53) tw958 tw959 tw39 tw51 tw960 (by decide +kernel) rfl rfl ⟨Nat.le_of_ble_eq_true rfl, Nat.le_of_ble_eq_true rfl⟩ (ci := 8) rfl (by decide) ea51 ka51 rfl rfl (Nat.le_of_ble_eq_true rfl) dX8_gossip_132 ⟨(by decide), (by decide)⟩ ?_
          clear eS53 ea51 ka51
          refine g_aload_n (j := 4) X dX8_gossip_135 rfl rfl ?_
          refine g_bipush X dX8_gossip_136 (v := 10) (by decide) ?_
          refine g_bipush X dX8_gossip_138 (v := 11) (by decide) ?_
          obtain ⟨a55, ea55, ka55, h56⟩ := g_dc h54; clear h54
          obtain ⟨x59, S57, eS57, h58⟩ := g_bi h56; clear h56
          refine g_cV (n := 2) (As := [.int 10, .int 11]) X (c_X8_isSame hl D eS57) tw882 tw883 tw30 tw51 tw884 (by decide +kernel) rfl rfl ⟨Nat.le_of_ble_eq_true rfl, Nat.le_of_ble_eq_true rfl⟩ (ci := 8) rfl (by decide) ea55 ka55 rfl rfl (Nat.le_of_ble_eq_true rfl) dX8_gossip_140 ⟨(by decide), (by decide)⟩ ?_
          clear eS57 ea55 ka55
          refine g_if_eq (tgt := 148) X dX8_gossip_143 (by decide) (fun c60 => ?_) (fun c60 => ?_)
          · have h61 := g_ip h58 c60; clear h58
            refine g_aload_n (j := 4) X dX8_gossip_148 rfl rfl ?_
            refine g_iload (j := 3) X dX8_gossip_149 rfl ?_
            refine g_iload (j := 3) X dX8_gossip_151 rfl ?_
            refine g_iload (j := 2) X dX8_gossip_153 rfl ?_
            obtain ⟨a63, ea63, ka63, h64⟩ := g_dc h61; clear h61
            obtain ⟨S65, eS65, h66⟩ := g_bd h64; clear h64
            refine g_cV (n := 3) (As := [.int x16, .int x16, .int x19]) X (c_X8_told hl D eS65) tw971 tw972 tw42 tw51 tw973 (by decide +kernel) rfl rfl ⟨Nat.le_of_ble_eq_true rfl, Nat.le_of_ble_eq_true rfl⟩ (ci := 8) rfl (by decide) ea63 ka63 rfl rfl (Nat.le_of_ble_eq_true rfl) dX8_gossip_155 ⟨(by decide), (by decide)⟩ ?_
            clear eS65 ea63 ka63
            refine g_aload_n (j := 4) X dX8_gossip_158 rfl rfl ?_
            refine g_iload (j := 2) X dX8_gossip_159 rfl ?_
            refine g_iload (j := 3) X dX8_gossip_161 rfl ?_
            refine g_iload (j := 2) X dX8_gossip_163 rfl ?_
            obtain ⟨a67, ea67, ka67, h68⟩ := g_dc h66; clear h66
            obtain ⟨S69, eS69, h70⟩ := g_bd h68; clear h68
            refine g_cV (n := 3) (As := [.int x19, .int x16, .int x19]) X (c_X8_told hl D eS69) tw971 tw972 tw42 tw51 tw973 (by decide +kernel) rfl rfl ⟨Nat.le_of_ble_eq_true rfl, Nat.le_of_ble_eq_true rfl⟩ (ci := 8) rfl (by decide) ea67 ka67 rfl rfl (Nat.le_of_ble_eq_true rfl) dX8_gossip_165 ⟨(by decide), (by decide)⟩ ?_
            clear eS69 ea67 ka67
            refine g_iconst X dX8_gossip_168 (v := 3) (by decide) ?_
            obtain ⟨rfl, rfl⟩ := g_end h70
            exact g_iret X hr (by decide) (by decide) dX8_gossip_169
          · have h62 := g_in h58 c60; clear h58
            refine g_iconst X dX8_gossip_146 (v := 0) (by decide) ?_
            obtain ⟨rfl, rfl⟩ := g_end h62
            exact g_iret X hr (by decide) (by decide) dX8_gossip_147
        · have h46 := g_in h42 c44; clear h42
          refine g_lload (j := 1) X dX8_gossip_105 rfl ?_
          refine g_lload (j := 0) X dX8_gossip_107 rfl ?_
          refine g_lcmp X dX8_gossip_109 ?_
          refine g_if_le (tgt := 117) X dX8_gossip_110 (by decide) (fun c71 => ?_) (fun c71 => ?_)
          · have h72 := g_ip h46 c71; clear h46
            refine g_iconst X dX8_gossip_117 (v := 2) (by decide) ?_
            obtain ⟨rfl, rfl⟩ := g_end h72
            exact g_iret X hr (by decide) (by decide) dX8_gossip_118
          · have h73 := g_in h46 c71; clear h46
            refine g_iconst X dX8_gossip_113 (v := 1) (by decide) ?_
            refine g_goto (tgt := 118) X dX8_gossip_114 (by decide) ?_
            obtain ⟨rfl, rfl⟩ := g_end h73
            exact g_iret X hr (by decide) (by decide) dX8_gossip_118
      · have h33 := g_ip h30 c31; clear h30
        refine g_iconst X dX8_gossip_75 (v := 0) (by decide) ?_
        obtain ⟨rfl, rfl⟩ := g_end h33
        exact g_iret X hr (by decide) (by decide) dX8_gossip_76
  · have h13 := g_in h10 c11; clear h10
    refine g_iconst X dX8_gossip_37 (v := 0) (by decide) ?_
    obtain ⟨rfl, rfl⟩ := g_end h13
    exact g_iret X hr (by decide) (by decide) dX8_gossip_38
def f_X8_gossip_B22 (S0 : gS) (a0 : Nat) (v1 : Int32) (v2 : Int32) (v3 : Int32) (t0 : Option Nat) : Option (Int32 × gS) :=
  f_X8_gossip_B27 S0 a0 v1 v2 v3 1 t0
set_option maxRecDepth 100000 in
set_option maxHeartbeats 4000000 in
theorem w_X8_gossip_B22 {p : Program} {l : Launch} {e : Env} {s : State} {m : MethodId} {args : Array Value} {below : List Frame} {meth : Method} {c : Code} {D : gD} {S9 : gS} {res : Int32}  (hl : l.stackTraces = false) (X : gX D p l s m args meth c cX8_gossip 10 RX8) (hr : meth.sig.returnType = (some .int)) (S0 : gS) (a0 : Nat) (v1 : Int32) (v2 : Int32) (v3 : Int32) (t0 : Option Nat) (h0 : f_X8_gossip_B22 S0 a0 v1 v2 v3 t0 = some (res, S9)) : gJ D p l e { frames := 2, cells := 0, slots := 0, locals := 46 } s m args below meth c (MQ below (gQ D (some (.int res)) S9) args s (0) (0) (gF D)) 10 (0) (0) S0 22 [(0, va_rf (some a0)), (1, .int v1), (2, .int v2), (3, .int v3)] [va_rf t0] := by
  unfold f_X8_gossip_B22 at h0
  refine g_iconst X dX8_gossip_22 (v := 1) (by decide) ?_
  refine g_goto (tgt := 27) X dX8_gossip_23 (by decide) ?_
  refine g_sub [0, 1, 2, 3] rfl ?_
  exact w_X8_gossip_B27 hl X hr S0 a0 v1 v2 v3 1 t0 h0
def f_X8_gossip (S0 : gS) (a0 : Nat) (v1 : Int32) (v2 : Int32) (v3 : Int32) : Option (Int32 × gS) :=
  gBi (f_X8_isWitness S0 v1) fun x3 S1 =>
  if x3 = 0 then
    f_X8_gossip_B22 S1 a0 v1 v2 v3 (some a0)
  else
    gBi (f_X8_isWitness S1 v2) fun x76 S74 =>
    if x76 = 0 then
      f_X8_gossip_B22 S74 a0 v1 v2 v3 (some a0)
    else
      gBi (f_X8_isLog S74 v3) fun x82 S80 =>
      if x82 = 0 then
        f_X8_gossip_B22 S80 a0 v1 v2 v3 (some a0)
      else
        f_X8_gossip_B27 S80 a0 v1 v2 v3 0 (some a0)
set_option maxRecDepth 100000 in
set_option maxHeartbeats 4000000 in
theorem c_X8_gossip {l : Launch} (hl : l.stackTraces = false) (D : gD)  {S0 S9 : gS} {a0 : Nat} {v1 : Int32} {v2 : Int32} {v3 : Int32} {res : Int32} (h0 : f_X8_gossip S0 a0 v1 v2 v3 = some (res, S9)) : Met l yX8_gossip (gws yX8_gossip cX8_gossip 10 (some .int)) { frames := 2, cells := 0, slots := 0, locals := 46 } (gPc D S0 [.ref a0, .int v1, .int v2, .int v3]) (gQ D (some (.int res)) S9) (0) (0) (gF D) := by
  refine g_met (lv := [(0, va_rf (some a0)), (1, .int v1), (2, .int v2), (3, .int v3)]) hl (by decide) (Nat.le_of_ble_eq_true rfl) rfl (fun p e s m args below meth c X hr hn => ?_)
  have X : gX D p l s m args meth c cX8_gossip 10 RX8 := X
  unfold f_X8_gossip at h0
  refine g_aload_n (j := 0) X dX8_gossip_0 rfl rfl ?_
  refine g_iload_n (j := 1) X dX8_gossip_1 rfl rfl ?_
  obtain ⟨x3, S1, eS1, h2⟩ := g_bi h0; clear h0
  refine g_cS (n := 1) (As := [.int v1]) X (c_X8_isWitness hl D eS1) tw949 tw950 tw51 tw951 (by decide +kernel) rfl rfl ⟨Nat.le_of_ble_eq_true rfl, Nat.le_of_ble_eq_true rfl⟩ rfl rfl (Nat.le_of_ble_eq_true rfl) dX8_gossip_2 ⟨(by decide), (by decide)⟩ ?_
  clear eS1
  refine g_if_eq (tgt := 22) X dX8_gossip_5 (by decide) (fun c4 => ?_) (fun c4 => ?_)
  · have h5 := g_ip h2 c4; clear h2
    refine g_sub [0, 1, 2, 3] rfl ?_
    exact w_X8_gossip_B22 hl X hr S1 a0 v1 v2 v3 (some a0) h5
  · have h6 := g_in h2 c4; clear h2
    refine g_iload_n (j := 2) X dX8_gossip_8 rfl rfl ?_
    obtain ⟨x76, S74, eS74, h75⟩ := g_bi h6; clear h6
    refine g_cS (n := 1) (As := [.int v2]) X (c_X8_isWitness hl D eS74) tw949 tw950 tw51 tw951 (by decide +kernel) rfl rfl ⟨Nat.le_of_ble_eq_true rfl, Nat.le_of_ble_eq_true rfl⟩ rfl rfl (Nat.le_of_ble_eq_true rfl) dX8_gossip_9 ⟨(by decide), (by decide)⟩ ?_
    clear eS74
    refine g_if_eq (tgt := 22) X dX8_gossip_12 (by decide) (fun c77 => ?_) (fun c77 => ?_)
    · have h78 := g_ip h75 c77; clear h75
      refine g_sub [0, 1, 2, 3] rfl ?_
      exact w_X8_gossip_B22 hl X hr S74 a0 v1 v2 v3 (some a0) h78
    · have h79 := g_in h75 c77; clear h75
      refine g_iload_n (j := 3) X dX8_gossip_15 rfl rfl ?_
      obtain ⟨x82, S80, eS80, h81⟩ := g_bi h79; clear h79
      refine g_cS (n := 1) (As := [.int v3]) X (c_X8_isLog hl D eS80) tw787 tw788 tw51 tw789 (by decide +kernel) rfl rfl ⟨Nat.le_of_ble_eq_true rfl, Nat.le_of_ble_eq_true rfl⟩ rfl rfl (Nat.le_of_ble_eq_true rfl) dX8_gossip_16 ⟨(by decide), (by decide)⟩ ?_
      clear eS80
      refine g_if_ne (tgt := 26) X dX8_gossip_19 (by decide) (fun c83 => ?_) (fun c83 => ?_)
      · have h84 := g_in h81 c83; clear h81
        refine g_iconst X dX8_gossip_26 (v := 0) (by decide) ?_
        refine g_sub [0, 1, 2, 3] rfl ?_
        exact w_X8_gossip_B27 hl X hr S80 a0 v1 v2 v3 0 (some a0) h84
      · have h85 := g_ip h81 c83; clear h81
        refine g_sub [0, 1, 2, 3] rfl ?_
        exact w_X8_gossip_B22 hl X hr S80 a0 v1 v2 v3 (some a0) h85
def f_X8_has_L70 : Nat → gS → Nat → Int32 → Int32 → Option (Int32 × gS)
  | 0, _, _, _, _ => none
  | k + 1, S0, a0, v4, v5 =>
    if 80 ≤ v5 then
      (fpI S0 8 4 (some a0) 80).bind fun S20 =>
      some (1, S20)
    else
      (fgR S0 8 3 (some a0)).bind fun x22 =>
      (fgR S0 8 14 (some a0)).bind fun x24 =>
      (fI S0 10 x24 ((80 * v4) + v5)).bind fun x26 =>
      (faI S0 x22 v5 x26).bind fun S28 =>
      gLet (v5 + 1) fun x30 =>
      f_X8_has_L70 k S28 a0 v4 x30
set_option maxRecDepth 100000 in
set_option maxHeartbeats 4000000 in
theorem w_X8_has_L70 {p : Program} {l : Launch} {e : Env} {s : State} {m : MethodId} {args : Array Value} {below : List Frame} {meth : Method} {c : Code} {D : gD} {S9 : gS} {res : Int32}  (hl : l.stackTraces = false) (X : gX D p l s m args meth c cX8_has 6 RX8) (hr : meth.sig.returnType = (some .boolean)) : ∀ (k : Nat) (S0 : gS) (a0 : Nat) (v4 : Int32) (v5 : Int32), f_X8_has_L70 k S0 a0 v4 v5 = some (res, S9) → gJ D p l e { frames := 1, cells := 0, slots := 0, locals := 22 } s m args below meth c (MQ below (gQ D (some (.int res)) S9) args s (0) (0) (gF D)) 6 (0) (0) S0 70 [(0, va_rf (some a0)), (4, .int v4), (5, .int v5)] [] := by
  intro k
  induction k with
  | zero => intro S0 a0 v4 v5 h0; cases h0
  | succ k ih =>
    intro S0 a0 v4 v5 h0
    have h0 := h0
    unfold f_X8_has_L70 at h0
    refine g_iload (j := 2) X dX8_has_70 rfl ?_
    refine g_bipush X dX8_has_72 (v := 80) (by decide) ?_
    refine g_icmp_ge (tgt := 103) X dX8_has_74 (by decide) (fun c17 => ?_) (fun c17 => ?_)
    · have h18 := g_ip h0 c17; clear h0
      refine g_aload_n (j := 0) X dX8_has_103 rfl rfl ?_
      refine g_bipush X dX8_has_104 (v := 80) (by decide) ?_
      obtain ⟨S20, eS20, h21⟩ := g_bd h18; clear h18
      refine g_pI (ci := 8) (k := 4) X rfl il8 tyX8 tyX8_ok nmX8 (by decide) tw707 rfl (by decide) (fun _ _ _ => rfl) rfl eS20 dX8_has_106 ?_
      clear eS20
      refine g_iconst X dX8_has_109 (v := 1) (by decide) ?_
      obtain ⟨rfl, rfl⟩ := g_end h21
      exact g_zret X hr (Or.inr rfl) (by decide) (by decide) dX8_has_110
    · have h19 := g_in h0 c17; clear h0
      refine g_aload_n (j := 0) X dX8_has_77 rfl rfl ?_
      obtain ⟨x22, ex22, h23⟩ := g_bd h19; clear h19
      refine g_fR (ci := 8) (k := 3) X rfl il8 (by decide) tw706 (by decide) (fun _ _ _ => rfl) ex22 dX8_has_78 ?_
      clear ex22
      refine g_iload (j := 2) X dX8_has_81 rfl ?_
      refine g_aload_n (j := 0) X dX8_has_83 rfl rfl ?_
      obtain ⟨x24, ex24, h25⟩ := g_bd h23; clear h23
      refine g_fR (ci := 8) (k := 14) X rfl il8 (by decide) tw717 (by decide) (fun _ _ _ => rfl) ex24 dX8_has_84 ?_
      clear ex24
      refine g_bipush X dX8_has_87 (v := 80) (by decide) ?_
      refine g_iload (j := 1) X dX8_has_89 rfl ?_
      refine g_imul X dX8_has_91 ?_
      refine g_iload (j := 2) X dX8_has_92 rfl ?_
      refine g_iadd X dX8_has_94 ?_
      obtain ⟨x26, ex26, h27⟩ := g_bd h25; clear h25
      refine g_iald X ex26 dX8_has_95 ?_
      clear ex26
      obtain ⟨S28, eS28, h29⟩ := g_bd h27; clear h27
      refine g_iast X eS28 dX8_has_96 ?_
      clear eS28
      obtain ⟨x30, ex30, h31⟩ := g_let h29; clear h29
      refine g_iinc (j := 2) (v := x30) (lv' := [(5, .int x30), (0, va_rf (some a0)), (4, .int v4)]) X dX8_has_97 rfl (by rw [ex30]; rfl) (by decide) rfl ?_
      clear ex30
      refine g_goto (tgt := 70) X dX8_has_100 (by decide) ?_
      refine g_sub [1, 2, 0] rfl ?_
      exact ih S28 a0 v4 x30 h31
def f_X8_has_B47 (S0 : gS) (a0 : Nat) (v1 : Int32) (v2 : Int32) (v3 : Int32) (t0 : Int32) (t1 : Option Nat) : Option (Int32 × gS) :=
  (fpI S0 8 0 t1 t0).bind fun S7 =>
  (fgI S7 8 0 (some a0)).bind fun x9 =>
  if x9 ≤ 0 then
    gBi (f_X8_placeOf S7 v1 v2 v3) fun x16 S14 =>
    f_X8_has_L70 gFuel S14 a0 x16 0
  else
    some (0, S7)
set_option maxRecDepth 100000 in
set_option maxHeartbeats 4000000 in
theorem w_X8_has_B47 {p : Program} {l : Launch} {e : Env} {s : State} {m : MethodId} {args : Array Value} {below : List Frame} {meth : Method} {c : Code} {D : gD} {S9 : gS} {res : Int32}  (hl : l.stackTraces = false) (X : gX D p l s m args meth c cX8_has 6 RX8) (hr : meth.sig.returnType = (some .boolean)) (S0 : gS) (a0 : Nat) (v1 : Int32) (v2 : Int32) (v3 : Int32) (t0 : Int32) (t1 : Option Nat) (h0 : f_X8_has_B47 S0 a0 v1 v2 v3 t0 t1 = some (res, S9)) : gJ D p l e { frames := 1, cells := 0, slots := 0, locals := 22 } s m args below meth c (MQ below (gQ D (some (.int res)) S9) args s (0) (0) (gF D)) 6 (0) (0) S0 47 [(0, va_rf (some a0)), (1, .int v1), (2, .int v2), (3, .int v3)] [.int t0, va_rf t1] := by
  unfold f_X8_has_B47 at h0
  obtain ⟨S7, eS7, h8⟩ := g_bd h0; clear h0
  refine g_pI (ci := 8) (k := 0) X rfl il8 tyX8 tyX8_ok nmX8 (by decide) tw703 rfl (by decide) (fun _ _ _ => rfl) rfl eS7 dX8_has_47 ?_
  clear eS7
  refine g_aload_n (j := 0) X dX8_has_50 rfl rfl ?_
  obtain ⟨x9, ex9, h10⟩ := g_bd h8; clear h8
  refine g_fI (ci := 8) (k := 0) X rfl il8 (by decide) tw703 (by decide) (fun _ _ _ => rfl) ex9 dX8_has_51 ?_
  clear ex9
  refine g_if_le (tgt := 59) X dX8_has_54 (by decide) (fun c11 => ?_) (fun c11 => ?_)
  · have h12 := g_ip h10 c11; clear h10
    refine g_iload_n (j := 1) X dX8_has_59 rfl rfl ?_
    refine g_iload_n (j := 2) X dX8_has_60 rfl rfl ?_
    refine g_iload_n (j := 3) X dX8_has_61 rfl rfl ?_
    obtain ⟨x16, S14, eS14, h15⟩ := g_bi h12; clear h12
    refine g_cS (n := 3) (As := [.int v1, .int v2, .int v3]) X (c_X8_placeOf hl D eS14) tw952 tw953 tw51 tw954 (by decide +kernel) rfl rfl ⟨Nat.le_of_ble_eq_true rfl, Nat.le_of_ble_eq_true rfl⟩ rfl rfl (Nat.le_of_ble_eq_true rfl) dX8_has_62 ⟨(by decide), (by decide)⟩ ?_
    clear eS14
    refine g_istore (i := 4) (lv' := [(4, .int x16), (0, va_rf (some a0)), (1, .int v1), (2, .int v2), (3, .int v3)]) X dX8_has_65 (by decide) rfl ?_
    refine g_iconst X dX8_has_67 (v := 0) (by decide) ?_
    refine g_istore (i := 5) (lv' := [(5, .int 0), (4, .int x16), (0, va_rf (some a0)), (1, .int v1), (2, .int v2), (3, .int v3)]) X dX8_has_68 (by decide) rfl ?_
    refine g_sub [2, 1, 0] rfl ?_
    exact w_X8_has_L70 hl X hr gFuel S14 a0 x16 0 h15
  · have h13 := g_in h10 c11; clear h10
    refine g_iconst X dX8_has_57 (v := 0) (by decide) ?_
    obtain ⟨rfl, rfl⟩ := g_end h13
    exact g_zret X hr (Or.inl rfl) (by decide) (by decide) dX8_has_58
def f_X8_has_B15 (S0 : gS) (a0 : Nat) (v1 : Int32) (v2 : Int32) (v3 : Int32) (t0 : Option Nat) : Option (Int32 × gS) :=
  f_X8_has_B47 S0 a0 v1 v2 v3 1 t0
set_option maxRecDepth 100000 in
set_option maxHeartbeats 4000000 in
theorem w_X8_has_B15 {p : Program} {l : Launch} {e : Env} {s : State} {m : MethodId} {args : Array Value} {below : List Frame} {meth : Method} {c : Code} {D : gD} {S9 : gS} {res : Int32}  (hl : l.stackTraces = false) (X : gX D p l s m args meth c cX8_has 6 RX8) (hr : meth.sig.returnType = (some .boolean)) (S0 : gS) (a0 : Nat) (v1 : Int32) (v2 : Int32) (v3 : Int32) (t0 : Option Nat) (h0 : f_X8_has_B15 S0 a0 v1 v2 v3 t0 = some (res, S9)) : gJ D p l e { frames := 1, cells := 0, slots := 0, locals := 22 } s m args below meth c (MQ below (gQ D (some (.int res)) S9) args s (0) (0) (gF D)) 6 (0) (0) S0 15 [(0, va_rf (some a0)), (1, .int v1), (2, .int v2), (3, .int v3)] [va_rf t0] := by
  unfold f_X8_has_B15 at h0
  refine g_iconst X dX8_has_15 (v := 1) (by decide) ?_
  refine g_goto (tgt := 47) X dX8_has_16 (by decide) ?_
  refine g_sub [0, 1, 2, 3] rfl ?_
  exact w_X8_has_B47 hl X hr S0 a0 v1 v2 v3 1 t0 h0
def f_X8_has_B42 (S0 : gS) (a0 : Nat) (v1 : Int32) (v2 : Int32) (v3 : Int32) (t0 : Option Nat) : Option (Int32 × gS) :=
  f_X8_has_B47 S0 a0 v1 v2 v3 2 t0
set_option maxRecDepth 100000 in
set_option maxHeartbeats 4000000 in
theorem w_X8_has_B42 {p : Program} {l : Launch} {e : Env} {s : State} {m : MethodId} {args : Array Value} {below : List Frame} {meth : Method} {c : Code} {D : gD} {S9 : gS} {res : Int32}  (hl : l.stackTraces = false) (X : gX D p l s m args meth c cX8_has 6 RX8) (hr : meth.sig.returnType = (some .boolean)) (S0 : gS) (a0 : Nat) (v1 : Int32) (v2 : Int32) (v3 : Int32) (t0 : Option Nat) (h0 : f_X8_has_B42 S0 a0 v1 v2 v3 t0 = some (res, S9)) : gJ D p l e { frames := 1, cells := 0, slots := 0, locals := 22 } s m args below meth c (MQ below (gQ D (some (.int res)) S9) args s (0) (0) (gF D)) 6 (0) (0) S0 42 [(0, va_rf (some a0)), (1, .int v1), (2, .int v2), (3, .int v3)] [va_rf t0] := by
  unfold f_X8_has_B42 at h0
  refine g_iconst X dX8_has_42 (v := 2) (by decide) ?_
  refine g_goto (tgt := 47) X dX8_has_43 (by decide) ?_
  refine g_sub [0, 1, 2, 3] rfl ?_
  exact w_X8_has_B47 hl X hr S0 a0 v1 v2 v3 2 t0 h0
def f_X8_has (S0 : gS) (a0 : Nat) (v1 : Int32) (v2 : Int32) (v3 : Int32) : Option (Int32 × gS) :=
  gBi (f_X8_isWitness S0 v1) fun x3 S1 =>
  if x3 = 0 then
    f_X8_has_B15 S1 a0 v1 v2 v3 (some a0)
  else
    gBi (f_X8_isLog S1 v2) fun x34 S32 =>
    if x34 = 0 then
      f_X8_has_B15 S32 a0 v1 v2 v3 (some a0)
    else
      if v3 < 0 then
        f_X8_has_B42 S32 a0 v1 v2 v3 (some a0)
      else
        if 2 < v3 then
          f_X8_has_B42 S32 a0 v1 v2 v3 (some a0)
        else
          (fgR S32 8 15 (some a0)).bind fun x44 =>
          gBi (f_X8_placeOf S32 v1 v2 v3) fun x48 S46 =>
          (fI S46 12 x44 x48).bind fun x49 =>
          if x49 = 0 then
            f_X8_has_B42 S46 a0 v1 v2 v3 (some a0)
          else
            f_X8_has_B47 S46 a0 v1 v2 v3 0 (some a0)
set_option maxRecDepth 100000 in
set_option maxHeartbeats 4000000 in
theorem c_X8_has {l : Launch} (hl : l.stackTraces = false) (D : gD)  {S0 S9 : gS} {a0 : Nat} {v1 : Int32} {v2 : Int32} {v3 : Int32} {res : Int32} (h0 : f_X8_has S0 a0 v1 v2 v3 = some (res, S9)) : Met l yX8_has (gws yX8_has cX8_has 6 (some .boolean)) { frames := 1, cells := 0, slots := 0, locals := 22 } (gPc D S0 [.ref a0, .int v1, .int v2, .int v3]) (gQ D (some (.int res)) S9) (0) (0) (gF D) := by
  refine g_met (lv := [(0, va_rf (some a0)), (1, .int v1), (2, .int v2), (3, .int v3)]) hl (by decide) (Nat.le_of_ble_eq_true rfl) rfl (fun p e s m args below meth c X hr hn => ?_)
  have X : gX D p l s m args meth c cX8_has 6 RX8 := X
  unfold f_X8_has at h0
  refine g_aload_n (j := 0) X dX8_has_0 rfl rfl ?_
  refine g_iload_n (j := 1) X dX8_has_1 rfl rfl ?_
  obtain ⟨x3, S1, eS1, h2⟩ := g_bi h0; clear h0
  refine g_cS (n := 1) (As := [.int v1]) X (c_X8_isWitness hl D eS1) tw949 tw950 tw51 tw951 (by decide +kernel) rfl rfl ⟨Nat.le_of_ble_eq_true rfl, Nat.le_of_ble_eq_true rfl⟩ rfl rfl (Nat.le_of_ble_eq_true rfl) dX8_has_2 ⟨(by decide), (by decide)⟩ ?_
  clear eS1
  refine g_if_eq (tgt := 15) X dX8_has_5 (by decide) (fun c4 => ?_) (fun c4 => ?_)
  · have h5 := g_ip h2 c4; clear h2
    refine g_sub [0, 1, 2, 3] rfl ?_
    exact w_X8_has_B15 hl X hr S1 a0 v1 v2 v3 (some a0) h5
  · have h6 := g_in h2 c4; clear h2
    refine g_iload_n (j := 2) X dX8_has_8 rfl rfl ?_
    obtain ⟨x34, S32, eS32, h33⟩ := g_bi h6; clear h6
    refine g_cS (n := 1) (As := [.int v2]) X (c_X8_isLog hl D eS32) tw787 tw788 tw51 tw789 (by decide +kernel) rfl rfl ⟨Nat.le_of_ble_eq_true rfl, Nat.le_of_ble_eq_true rfl⟩ rfl rfl (Nat.le_of_ble_eq_true rfl) dX8_has_9 ⟨(by decide), (by decide)⟩ ?_
    clear eS32
    refine g_if_ne (tgt := 19) X dX8_has_12 (by decide) (fun c35 => ?_) (fun c35 => ?_)
    · have h36 := g_in h33 c35; clear h33
      refine g_iload_n (j := 3) X dX8_has_19 rfl rfl ?_
      refine g_if_lt (tgt := 42) X dX8_has_20 (by decide) (fun c38 => ?_) (fun c38 => ?_)
      · have h39 := g_ip h36 c38; clear h36
        refine g_sub [0, 1, 2, 3] rfl ?_
        exact w_X8_has_B42 hl X hr S32 a0 v1 v2 v3 (some a0) h39
      · have h40 := g_in h36 c38; clear h36
        refine g_iload_n (j := 3) X dX8_has_23 rfl rfl ?_
        refine g_iconst X dX8_has_24 (v := 2) (by decide) ?_
        refine g_icmp_gt (tgt := 42) X dX8_has_25 (by decide) (fun c41 => ?_) (fun c41 => ?_)
        · have h42 := g_ip h40 c41; clear h40
          refine g_sub [0, 1, 2, 3] rfl ?_
          exact w_X8_has_B42 hl X hr S32 a0 v1 v2 v3 (some a0) h42
        · have h43 := g_in h40 c41; clear h40
          refine g_aload_n (j := 0) X dX8_has_28 rfl rfl ?_
          obtain ⟨x44, ex44, h45⟩ := g_bd h43; clear h43
          refine g_fR (ci := 8) (k := 15) X rfl il8 (by decide) tw718 (by decide) (fun _ _ _ => rfl) ex44 dX8_has_29 ?_
          clear ex44
          refine g_iload_n (j := 1) X dX8_has_32 rfl rfl ?_
          refine g_iload_n (j := 2) X dX8_has_33 rfl rfl ?_
          refine g_iload_n (j := 3) X dX8_has_34 rfl rfl ?_
          obtain ⟨x48, S46, eS46, h47⟩ := g_bi h45; clear h45
          refine g_cS (n := 3) (As := [.int v1, .int v2, .int v3]) X (c_X8_placeOf hl D eS46) tw952 tw953 tw51 tw954 (by decide +kernel) rfl rfl ⟨Nat.le_of_ble_eq_true rfl, Nat.le_of_ble_eq_true rfl⟩ rfl rfl (by simp [g_rfc, g_ci, g_cj, g_cr]) dX8_has_35 ⟨(by decide), (by decide)⟩ ?_
          clear eS46
          obtain ⟨x49, ex49, h50⟩ := g_bd h47; clear h47
          refine g_zald X ex49 dX8_has_38 ?_
          clear ex49
          refine g_if_ne (tgt := 46) X dX8_has_39 (by decide) (fun c51 => ?_) (fun c51 => ?_)
          · have h52 := g_in h50 c51; clear h50
            refine g_iconst X dX8_has_46 (v := 0) (by decide) ?_
            refine g_sub [0, 1, 2, 3] rfl ?_
            exact w_X8_has_B47 hl X hr S46 a0 v1 v2 v3 0 (some a0) h52
          · have h53 := g_ip h50 c51; clear h50
            refine g_sub [0, 1, 2, 3] rfl ?_
            exact w_X8_has_B42 hl X hr S46 a0 v1 v2 v3 (some a0) h53
    · have h37 := g_ip h33 c35; clear h33
      refine g_sub [0, 1, 2, 3] rfl ?_
      exact w_X8_has_B15 hl X hr S32 a0 v1 v2 v3 (some a0) h37
def f_L_key (S0 : gS) (v0 : Option Nat) (v1 : Int32) (v2 : Option Nat) : Option (Int32 × gS) :=
  gDc S0 7 v0 fun a1 =>
  gBx (f_X7_key S0 a1 v1) (fun E6 S7 =>
    if E6 = "java/lang/IndexOutOfBoundsException" then
      some (1, S7)
    else
    if E6 = "java/lang/IllegalArgumentException" then
      some (2, S7)
    else
    if E6 = "java/lang/IllegalStateException" then
      some (3, S7)
    else
      none) fun x5 S3 =>
  (faL S3 v2 0 x5.toInt64).bind fun S9 =>
  some (0, S9)
set_option maxRecDepth 100000 in
set_option maxHeartbeats 4000000 in
theorem c_L_key {l : Launch} (hl : l.stackTraces = false) (D : gD)  {S0 S9 : gS} {v0 : Option Nat} {v1 : Int32} {v2 : Option Nat} {res : Int32} (h0 : f_L_key S0 v0 v1 v2 = some (res, S9)) : Met l yL_key (gwW yL_key cL_key 4 (some .int) [(0, 9, 12, 13), (0, 9, 15, 15), (0, 9, 18, 17)]) { frames := 8, cells := 2, slots := 12, locals := 128 } (gPc D S0 [va_rf v0, .int v1, va_rf v2]) (gQ D (some (.int res)) S9) (2) (12) (gF D) := by
  refine g_metW (hh := [(0, 9, 12, 13), (0, 9, 15, 15), (0, 9, 18, 17)]) (lv := [(0, va_rf v0), (1, .int v1), (2, va_rf v2)]) hl (by decide) (by simp [lg_sl, g_rfc, g_ci, g_cj, g_cr]) (by simp [lv_args, g_rfc, g_ci, g_cj, g_cr]; try rfl) (fun p e s m args below meth c X hr ht => ?_)
  have X : gX D p l s m args meth c cL_key 4 RL := X
  unfold f_L_key at h0
  refine g_aload_n (j := 2) X dL_key_0 rfl rfl ?_
  refine g_iconst X dL_key_1 (v := 0) (by decide) ?_
  refine g_aload_n (j := 0) X dL_key_2 rfl rfl ?_
  refine g_iload_n (j := 1) X dL_key_3 rfl rfl ?_
  obtain ⟨a1, ea1, ka1, h2⟩ := g_dc h0; clear h0
  rcases g_bx h2 with ⟨x5, S3, eS3, h4⟩ | ⟨E6, S7, eS3, h8⟩
  · refine g_xV (n := 1) (As := [.int v1]) X (c_X7_key hl D eS3) tw344 tw345 tw346 tw44 tw347 (by decide +kernel) rfl rfl ⟨Nat.le_of_ble_eq_true rfl, Nat.le_of_ble_eq_true rfl⟩ (ci := 7) rfl (by decide) ea1 ka1 rfl rfl (by simp [g_rfc, g_ci, g_cj, g_cr]) dL_key_4 ⟨(by decide), (by decide)⟩ (fun x' hx' => ?_) (fun _ hx' => by cases hx')
    cases hx'; clear h2 eS3 ea1 ka1
    refine g_i2l X dL_key_7 ?_
    obtain ⟨S9, eS9, h10⟩ := g_bd h4; clear h4
    refine g_last X eS9 dL_key_8 ?_
    clear eS9
    refine g_goto (tgt := 21) X dL_key_9 (by decide) ?_
    refine g_iconst X dL_key_21 (v := 0) (by decide) ?_
    obtain ⟨rfl, rfl⟩ := g_end h10
    exact g_iret X hr (by decide) (by decide) dL_key_22
  · clear h2
    by_cases c13 : E6 = "java/lang/IndexOutOfBoundsException"
    · have h11 := g_ip h8 c13; clear h8; subst c13
      refine g_xV (n := 1) (As := [.int v1]) X (c_X7_key hl D eS3) tw344 tw345 tw346 tw44 tw347 (by decide +kernel) rfl rfl ⟨Nat.le_of_ble_eq_true rfl, Nat.le_of_ble_eq_true rfl⟩ (ci := 7) rfl (by decide) ea1 ka1 rfl rfl (by simp [g_rfc, g_ci, g_cj, g_cr]) dL_key_4 ⟨(by decide), (by decide)⟩ (fun _ hx' => by cases hx') (fun E' hx' => ?_)
      cases hx'
      refine g_catch X [] ⟨0, 9, 12, 13⟩ [⟨0, 9, 15, 15⟩, ⟨0, 9, 18, 17⟩] ht (fun z hz => by cases hz) (by decide) (by decide) tw341 (by decide +kernel) (fun q9 => ?_)
      refine g_astore_n (i := 3) (lv' := [(3, va_rf (some q9)), (0, va_rf v0), (1, .int v1), (2, va_rf v2)]) X dL_key_12 rfl (by decide) (by simp [g_rfc, g_ci, g_cj, g_cr]) ?_
      refine g_iconst X dL_key_13 (v := 1) (by decide) ?_
      obtain ⟨rfl, rfl⟩ := g_end h11
      exact g_iret X hr (by decide) (by decide) dL_key_14
    have h12 := g_in h8 c13; clear h8
    by_cases c16 : E6 = "java/lang/IllegalArgumentException"
    · have h14 := g_ip h12 c16; clear h12; subst c16
      refine g_xV (n := 1) (As := [.int v1]) X (c_X7_key hl D eS3) tw344 tw345 tw346 tw44 tw347 (by decide +kernel) rfl rfl ⟨Nat.le_of_ble_eq_true rfl, Nat.le_of_ble_eq_true rfl⟩ (ci := 7) rfl (by decide) ea1 ka1 rfl rfl (by simp [g_rfc, g_ci, g_cj, g_cr]) dL_key_4 ⟨(by decide), (by decide)⟩ (fun _ hx' => by cases hx') (fun E' hx' => ?_)
      cases hx'
      refine g_catch X [⟨0, 9, 12, 13⟩] ⟨0, 9, 15, 15⟩ [⟨0, 9, 18, 17⟩] ht (by intro z hz; simp only [List.mem_cons, List.not_mem_nil, or_false] at hz; rcases hz with rfl; exact ⟨by decide, _, tw341, by decide +kernel⟩) (by decide) (by decide) tw342 (by decide +kernel) (fun q9 => ?_)
      refine g_astore_n (i := 3) (lv' := [(3, va_rf (some q9)), (0, va_rf v0), (1, .int v1), (2, va_rf v2)]) X dL_key_15 rfl (by decide) (by simp [g_rfc, g_ci, g_cj, g_cr]) ?_
      refine g_iconst X dL_key_16 (v := 2) (by decide) ?_
      obtain ⟨rfl, rfl⟩ := g_end h14
      exact g_iret X hr (by decide) (by decide) dL_key_17
    have h15 := g_in h12 c16; clear h12
    by_cases c19 : E6 = "java/lang/IllegalStateException"
    · have h17 := g_ip h15 c19; clear h15; subst c19
      refine g_xV (n := 1) (As := [.int v1]) X (c_X7_key hl D eS3) tw344 tw345 tw346 tw44 tw347 (by decide +kernel) rfl rfl ⟨Nat.le_of_ble_eq_true rfl, Nat.le_of_ble_eq_true rfl⟩ (ci := 7) rfl (by decide) ea1 ka1 rfl rfl (by simp [g_rfc, g_ci, g_cj, g_cr]) dL_key_4 ⟨(by decide), (by decide)⟩ (fun _ hx' => by cases hx') (fun E' hx' => ?_)
      cases hx'
      refine g_catch X [⟨0, 9, 12, 13⟩, ⟨0, 9, 15, 15⟩] ⟨0, 9, 18, 17⟩ [] ht (by intro z hz; simp only [List.mem_cons, List.not_mem_nil, or_false] at hz; rcases hz with rfl | rfl; (exact ⟨by decide, _, tw341, by decide +kernel⟩); (exact ⟨by decide, _, tw342, by decide +kernel⟩)) (by decide) (by decide) tw343 (by decide +kernel) (fun q9 => ?_)
      refine g_astore_n (i := 3) (lv' := [(3, va_rf (some q9)), (0, va_rf v0), (1, .int v1), (2, va_rf v2)]) X dL_key_18 rfl (by decide) (by simp [g_rfc, g_ci, g_cj, g_cr]) ?_
      refine g_iconst X dL_key_19 (v := 3) (by decide) ?_
      obtain ⟨rfl, rfl⟩ := g_end h17
      exact g_iret X hr (by decide) (by decide) dL_key_20
    have h18 := g_in h15 c19; clear h15
    cases h18
def f_L_submit (S0 : gS) (v0 : Option Nat) (v1 : Int32) (v2 : Option Nat) : Option (Int32 × gS) :=
  gDc S0 7 v0 fun a1 =>
  gBx (f_X7_submit S0 a1 v1) (fun E6 S7 =>
    if E6 = "java/lang/IndexOutOfBoundsException" then
      some (1, S7)
    else
    if E6 = "java/lang/IllegalArgumentException" then
      some (2, S7)
    else
    if E6 = "java/lang/IllegalStateException" then
      some (3, S7)
    else
      none) fun x5 S3 =>
  (faL S3 v2 0 x5.toInt64).bind fun S9 =>
  some (0, S9)
set_option maxRecDepth 100000 in
set_option maxHeartbeats 4000000 in
theorem c_L_submit {l : Launch} (hl : l.stackTraces = false) (D : gD)  {S0 S9 : gS} {v0 : Option Nat} {v1 : Int32} {v2 : Option Nat} {res : Int32} (h0 : f_L_submit S0 v0 v1 v2 = some (res, S9)) : Met l yL_submit (gwW yL_submit cL_submit 4 (some .int) [(0, 9, 12, 13), (0, 9, 15, 15), (0, 9, 18, 17)]) { frames := 8, cells := 21, slots := 1216, locals := 181 } (gPc D S0 [va_rf v0, .int v1, va_rf v2]) (gQ D (some (.int res)) S9) (21) (1216) (gF D) := by
  refine g_metW (hh := [(0, 9, 12, 13), (0, 9, 15, 15), (0, 9, 18, 17)]) (lv := [(0, va_rf v0), (1, .int v1), (2, va_rf v2)]) hl (by decide) (by simp [lg_sl, g_rfc, g_ci, g_cj, g_cr]) (by simp [lv_args, g_rfc, g_ci, g_cj, g_cr]; try rfl) (fun p e s m args below meth c X hr ht => ?_)
  have X : gX D p l s m args meth c cL_submit 4 RL := X
  unfold f_L_submit at h0
  refine g_aload_n (j := 2) X dL_submit_0 rfl rfl ?_
  refine g_iconst X dL_submit_1 (v := 0) (by decide) ?_
  refine g_aload_n (j := 0) X dL_submit_2 rfl rfl ?_
  refine g_iload_n (j := 1) X dL_submit_3 rfl rfl ?_
  obtain ⟨a1, ea1, ka1, h2⟩ := g_dc h0; clear h0
  rcases g_bx h2 with ⟨x5, S3, eS3, h4⟩ | ⟨E6, S7, eS3, h8⟩
  · refine g_xV (n := 1) (As := [.int v1]) X (c_X7_submit hl D eS3) tw403 tw404 tw405 tw44 tw406 (by decide +kernel) rfl rfl ⟨Nat.le_of_ble_eq_true rfl, Nat.le_of_ble_eq_true rfl⟩ (ci := 7) rfl (by decide) ea1 ka1 rfl rfl (by simp [g_rfc, g_ci, g_cj, g_cr]) dL_submit_4 ⟨(by decide), (by decide)⟩ (fun x' hx' => ?_) (fun _ hx' => by cases hx')
    cases hx'; clear h2 eS3 ea1 ka1
    refine g_i2l X dL_submit_7 ?_
    obtain ⟨S9, eS9, h10⟩ := g_bd h4; clear h4
    refine g_last X eS9 dL_submit_8 ?_
    clear eS9
    refine g_goto (tgt := 21) X dL_submit_9 (by decide) ?_
    refine g_iconst X dL_submit_21 (v := 0) (by decide) ?_
    obtain ⟨rfl, rfl⟩ := g_end h10
    exact g_iret X hr (by decide) (by decide) dL_submit_22
  · clear h2
    by_cases c13 : E6 = "java/lang/IndexOutOfBoundsException"
    · have h11 := g_ip h8 c13; clear h8; subst c13
      refine g_xV (n := 1) (As := [.int v1]) X (c_X7_submit hl D eS3) tw403 tw404 tw405 tw44 tw406 (by decide +kernel) rfl rfl ⟨Nat.le_of_ble_eq_true rfl, Nat.le_of_ble_eq_true rfl⟩ (ci := 7) rfl (by decide) ea1 ka1 rfl rfl (by simp [g_rfc, g_ci, g_cj, g_cr]) dL_submit_4 ⟨(by decide), (by decide)⟩ (fun _ hx' => by cases hx') (fun E' hx' => ?_)
      cases hx'
      refine g_catch X [] ⟨0, 9, 12, 13⟩ [⟨0, 9, 15, 15⟩, ⟨0, 9, 18, 17⟩] ht (fun z hz => by cases hz) (by decide) (by decide) tw341 (by decide +kernel) (fun q9 => ?_)
      refine g_astore_n (i := 3) (lv' := [(3, va_rf (some q9)), (0, va_rf v0), (1, .int v1), (2, va_rf v2)]) X dL_submit_12 rfl (by decide) (by simp [g_rfc, g_ci, g_cj, g_cr]) ?_
      refine g_iconst X dL_submit_13 (v := 1) (by decide) ?_
      obtain ⟨rfl, rfl⟩ := g_end h11
      exact g_iret X hr (by decide) (by decide) dL_submit_14
    have h12 := g_in h8 c13; clear h8
    by_cases c16 : E6 = "java/lang/IllegalArgumentException"
    · have h14 := g_ip h12 c16; clear h12; subst c16
      refine g_xV (n := 1) (As := [.int v1]) X (c_X7_submit hl D eS3) tw403 tw404 tw405 tw44 tw406 (by decide +kernel) rfl rfl ⟨Nat.le_of_ble_eq_true rfl, Nat.le_of_ble_eq_true rfl⟩ (ci := 7) rfl (by decide) ea1 ka1 rfl rfl (by simp [g_rfc, g_ci, g_cj, g_cr]) dL_submit_4 ⟨(by decide), (by decide)⟩ (fun _ hx' => by cases hx') (fun E' hx' => ?_)
      cases hx'
      refine g_catch X [⟨0, 9, 12, 13⟩] ⟨0, 9, 15, 15⟩ [⟨0, 9, 18, 17⟩] ht (by intro z hz; simp only [List.mem_cons, List.not_mem_nil, or_false] at hz; rcases hz with rfl; exact ⟨by decide, _, tw341, by decide +kernel⟩) (by decide) (by decide) tw342 (by decide +kernel) (fun q9 => ?_)
      refine g_astore_n (i := 3) (lv' := [(3, va_rf (some q9)), (0, va_rf v0), (1, .int v1), (2, va_rf v2)]) X dL_submit_15 rfl (by decide) (by simp [g_rfc, g_ci, g_cj, g_cr]) ?_
      refine g_iconst X dL_submit_16 (v := 2) (by decide) ?_
      obtain ⟨rfl, rfl⟩ := g_end h14
      exact g_iret X hr (by decide) (by decide) dL_submit_17
    have h15 := g_in h12 c16; clear h12
    by_cases c19 : E6 = "java/lang/IllegalStateException"
    · have h17 := g_ip h15 c19; clear h15; subst c19
      refine g_xV (n := 1) (As := [.int v1]) X (c_X7_submit hl D eS3) tw403 tw404 tw405 tw44 tw406 (by decide +kernel) rfl rfl ⟨Nat.le_of_ble_eq_true rfl, Nat.le_of_ble_eq_true rfl⟩ (ci := 7) rfl (by decide) ea1 ka1 rfl rfl (by simp [g_rfc, g_ci, g_cj, g_cr]) dL_submit_4 ⟨(by decide), (by decide)⟩ (fun _ hx' => by cases hx') (fun E' hx' => ?_)
      cases hx'
      refine g_catch X [⟨0, 9, 12, 13⟩, ⟨0, 9, 15, 15⟩] ⟨0, 9, 18, 17⟩ [] ht (by intro z hz; simp only [List.mem_cons, List.not_mem_nil, or_false] at hz; rcases hz with rfl | rfl; (exact ⟨by decide, _, tw341, by decide +kernel⟩); (exact ⟨by decide, _, tw342, by decide +kernel⟩)) (by decide) (by decide) tw343 (by decide +kernel) (fun q9 => ?_)
      refine g_astore_n (i := 3) (lv' := [(3, va_rf (some q9)), (0, va_rf v0), (1, .int v1), (2, va_rf v2)]) X dL_submit_18 rfl (by decide) (by simp [g_rfc, g_ci, g_cj, g_cr]) ?_
      refine g_iconst X dL_submit_19 (v := 3) (by decide) ?_
      obtain ⟨rfl, rfl⟩ := g_end h17
      exact g_iret X hr (by decide) (by decide) dL_submit_20
    have h18 := g_in h15 c19; clear h15
    cases h18
def f_L_cut (S0 : gS) (v0 : Option Nat) (v1 : Int32) (v2 : Int64) (v4 : Option Nat) : Option (Int32 × gS) :=
  gDc S0 7 v0 fun a1 =>
  gBx (f_X7_cut S0 a1 v1 v2) (fun E6 S7 =>
    if E6 = "java/lang/IndexOutOfBoundsException" then
      some (1, S7)
    else
    if E6 = "java/lang/IllegalArgumentException" then
      some (2, S7)
    else
    if E6 = "java/lang/IllegalStateException" then
      some (3, S7)
    else
      none) fun x5 S3 =>
  (faL S3 v4 0 x5.toInt64).bind fun S9 =>
  some (0, S9)
set_option maxRecDepth 100000 in
set_option maxHeartbeats 4000000 in
theorem c_L_cut {l : Launch} (hl : l.stackTraces = false) (D : gD)  {S0 S9 : gS} {v0 : Option Nat} {v1 : Int32} {v2 : Int64} {v4 : Option Nat} {res : Int32} (h0 : f_L_cut S0 v0 v1 v2 v4 = some (res, S9)) : Met l yL_cut (gwW yL_cut cL_cut 6 (some .int) [(0, 11, 14, 13), (0, 11, 18, 15), (0, 11, 22, 17)]) { frames := 8, cells := 3, slots := 127, locals := 156 } (gPc D S0 [va_rf v0, .int v1, .long v2, va_rf v4]) (gQ D (some (.int res)) S9) (3) (127) (gF D) := by
  refine g_metW (hh := [(0, 11, 14, 13), (0, 11, 18, 15), (0, 11, 22, 17)]) (lv := [(0, va_rf v0), (1, .int v1), (2, .long v2), (4, va_rf v4)]) hl (by decide) (by simp [lg_sl, g_rfc, g_ci, g_cj, g_cr]) (by simp [lv_args, g_rfc, g_ci, g_cj, g_cr]; try rfl) (fun p e s m args below meth c X hr ht => ?_)
  have X : gX D p l s m args meth c cL_cut 6 RL := X
  unfold f_L_cut at h0
  refine g_aload (j := 3) X dL_cut_0 rfl ?_
  refine g_iconst X dL_cut_2 (v := 0) (by decide) ?_
  refine g_aload_n (j := 0) X dL_cut_3 rfl rfl ?_
  refine g_iload_n (j := 1) X dL_cut_4 rfl rfl ?_
  refine g_lload_n (j := 2) X dL_cut_5 rfl rfl ?_
  obtain ⟨a1, ea1, ka1, h2⟩ := g_dc h0; clear h0
  rcases g_bx h2 with ⟨x5, S3, eS3, h4⟩ | ⟨E6, S7, eS3, h8⟩
  · refine g_xV (n := 2) (As := [.int v1, .long v2]) X (c_X7_cut hl D eS3) tw440 tw441 tw442 tw44 tw443 (by decide +kernel) rfl rfl ⟨Nat.le_of_ble_eq_true rfl, Nat.le_of_ble_eq_true rfl⟩ (ci := 7) rfl (by decide) ea1 ka1 rfl rfl (by simp [g_rfc, g_ci, g_cj, g_cr]) dL_cut_6 ⟨(by decide), (by decide)⟩ (fun x' hx' => ?_) (fun _ hx' => by cases hx')
    cases hx'; clear h2 eS3 ea1 ka1
    refine g_i2l X dL_cut_9 ?_
    obtain ⟨S9, eS9, h10⟩ := g_bd h4; clear h4
    refine g_last X eS9 dL_cut_10 ?_
    clear eS9
    refine g_goto (tgt := 26) X dL_cut_11 (by decide) ?_
    refine g_iconst X dL_cut_26 (v := 0) (by decide) ?_
    obtain ⟨rfl, rfl⟩ := g_end h10
    exact g_iret X hr (by decide) (by decide) dL_cut_27
  · clear h2
    by_cases c13 : E6 = "java/lang/IndexOutOfBoundsException"
    · have h11 := g_ip h8 c13; clear h8; subst c13
      refine g_xV (n := 2) (As := [.int v1, .long v2]) X (c_X7_cut hl D eS3) tw440 tw441 tw442 tw44 tw443 (by decide +kernel) rfl rfl ⟨Nat.le_of_ble_eq_true rfl, Nat.le_of_ble_eq_true rfl⟩ (ci := 7) rfl (by decide) ea1 ka1 rfl rfl (by simp [g_rfc, g_ci, g_cj, g_cr]) dL_cut_6 ⟨(by decide), (by decide)⟩ (fun _ hx' => by cases hx') (fun E' hx' => ?_)
      cases hx'
      refine g_catch X [] ⟨0, 11, 14, 13⟩ [⟨0, 11, 18, 15⟩, ⟨0, 11, 22, 17⟩] ht (fun z hz => by cases hz) (by decide) (by decide) tw341 (by decide +kernel) (fun q9 => ?_)
      refine g_astore (i := 5) (lv' := [(5, va_rf (some q9)), (0, va_rf v0), (1, .int v1), (2, .long v2), (4, va_rf v4)]) X dL_cut_14 (by decide) (by simp [g_rfc, g_ci, g_cj, g_cr]) ?_
      refine g_iconst X dL_cut_16 (v := 1) (by decide) ?_
      obtain ⟨rfl, rfl⟩ := g_end h11
      exact g_iret X hr (by decide) (by decide) dL_cut_17
    have h12 := g_in h8 c13; clear h8
    by_cases c16 : E6 = "java/lang/IllegalArgumentException"
    · have h14 := g_ip h12 c16; clear h12; subst c16
      refine g_xV (n := 2) (As := [.int v1, .long v2]) X (c_X7_cut hl D eS3) tw440 tw441 tw442 tw44 tw443 (by decide +kernel) rfl rfl ⟨Nat.le_of_ble_eq_true rfl, Nat.le_of_ble_eq_true rfl⟩ (ci := 7) rfl (by decide) ea1 ka1 rfl rfl (by simp [g_rfc, g_ci, g_cj, g_cr]) dL_cut_6 ⟨(by decide), (by decide)⟩ (fun _ hx' => by cases hx') (fun E' hx' => ?_)
      cases hx'
      refine g_catch X [⟨0, 11, 14, 13⟩] ⟨0, 11, 18, 15⟩ [⟨0, 11, 22, 17⟩] ht (by intro z hz; simp only [List.mem_cons, List.not_mem_nil, or_false] at hz; rcases hz with rfl; exact ⟨by decide, _, tw341, by decide +kernel⟩) (by decide) (by decide) tw342 (by decide +kernel) (fun q9 => ?_)
      refine g_astore (i := 5) (lv' := [(5, va_rf (some q9)), (0, va_rf v0), (1, .int v1), (2, .long v2), (4, va_rf v4)]) X dL_cut_18 (by decide) (by simp [g_rfc, g_ci, g_cj, g_cr]) ?_
      refine g_iconst X dL_cut_20 (v := 2) (by decide) ?_
      obtain ⟨rfl, rfl⟩ := g_end h14
      exact g_iret X hr (by decide) (by decide) dL_cut_21
    have h15 := g_in h12 c16; clear h12
    by_cases c19 : E6 = "java/lang/IllegalStateException"
    · have h17 := g_ip h15 c19; clear h15; subst c19
      refine g_xV (n := 2) (As := [.int v1, .long v2]) X (c_X7_cut hl D eS3) tw440 tw441 tw442 tw44 tw443 (by decide +kernel) rfl rfl ⟨Nat.le_of_ble_eq_true rfl, Nat.le_of_ble_eq_true rfl⟩ (ci := 7) rfl (by decide) ea1 ka1 rfl rfl (by simp [g_rfc, g_ci, g_cj, g_cr]) dL_cut_6 ⟨(by decide), (by decide)⟩ (fun _ hx' => by cases hx') (fun E' hx' => ?_)
      cases hx'
      refine g_catch X [⟨0, 11, 14, 13⟩, ⟨0, 11, 18, 15⟩] ⟨0, 11, 22, 17⟩ [] ht (by intro z hz; simp only [List.mem_cons, List.not_mem_nil, or_false] at hz; rcases hz with rfl | rfl; (exact ⟨by decide, _, tw341, by decide +kernel⟩); (exact ⟨by decide, _, tw342, by decide +kernel⟩)) (by decide) (by decide) tw343 (by decide +kernel) (fun q9 => ?_)
      refine g_astore (i := 5) (lv' := [(5, va_rf (some q9)), (0, va_rf v0), (1, .int v1), (2, .long v2), (4, va_rf v4)]) X dL_cut_22 (by decide) (by simp [g_rfc, g_ci, g_cj, g_cr]) ?_
      refine g_iconst X dL_cut_24 (v := 3) (by decide) ?_
      obtain ⟨rfl, rfl⟩ := g_end h17
      exact g_iret X hr (by decide) (by decide) dL_cut_25
    have h18 := g_in h15 c19; clear h15
    cases h18
def f_L_size (S0 : gS) (v0 : Option Nat) (v1 : Int32) (v2 : Int32) (v3 : Option Nat) : Option (Int32 × gS) :=
  gDc S0 7 v0 fun a1 =>
  gBx (f_X7_size S0 a1 v1 v2) (fun E6 S7 =>
    if E6 = "java/lang/IndexOutOfBoundsException" then
      some (1, S7)
    else
    if E6 = "java/util/NoSuchElementException" then
      some (2, S7)
    else
      none) fun x5 S3 =>
  (faL S3 v3 0 x5.toInt64).bind fun S9 =>
  some (0, S9)
set_option maxRecDepth 100000 in
set_option maxHeartbeats 4000000 in
theorem c_L_size {l : Launch} (hl : l.stackTraces = false) (D : gD)  {S0 S9 : gS} {v0 : Option Nat} {v1 : Int32} {v2 : Int32} {v3 : Option Nat} {res : Int32} (h0 : f_L_size S0 v0 v1 v2 v3 = some (res, S9)) : Met l yL_size (gwW yL_size cL_size 5 (some .int) [(0, 10, 13, 13), (0, 10, 17, 30)]) { frames := 8, cells := 2, slots := 12, locals := 128 } (gPc D S0 [va_rf v0, .int v1, .int v2, va_rf v3]) (gQ D (some (.int res)) S9) (2) (12) (gF D) := by
  refine g_metW (hh := [(0, 10, 13, 13), (0, 10, 17, 30)]) (lv := [(0, va_rf v0), (1, .int v1), (2, .int v2), (3, va_rf v3)]) hl (by decide) (by simp [lg_sl, g_rfc, g_ci, g_cj, g_cr]) (by simp [lv_args, g_rfc, g_ci, g_cj, g_cr]; try rfl) (fun p e s m args below meth c X hr ht => ?_)
  have X : gX D p l s m args meth c cL_size 5 RL := X
  unfold f_L_size at h0
  refine g_aload_n (j := 3) X dL_size_0 rfl rfl ?_
  refine g_iconst X dL_size_1 (v := 0) (by decide) ?_
  refine g_aload_n (j := 0) X dL_size_2 rfl rfl ?_
  refine g_iload_n (j := 1) X dL_size_3 rfl rfl ?_
  refine g_iload_n (j := 2) X dL_size_4 rfl rfl ?_
  obtain ⟨a1, ea1, ka1, h2⟩ := g_dc h0; clear h0
  rcases g_bx h2 with ⟨x5, S3, eS3, h4⟩ | ⟨E6, S7, eS3, h8⟩
  · refine g_xV (n := 2) (As := [.int v1, .int v2]) X (c_X7_size hl D eS3) tw481 tw482 tw483 tw44 tw484 (by decide +kernel) rfl rfl ⟨Nat.le_of_ble_eq_true rfl, Nat.le_of_ble_eq_true rfl⟩ (ci := 7) rfl (by decide) ea1 ka1 rfl rfl (by simp [g_rfc, g_ci, g_cj, g_cr]) dL_size_5 ⟨(by decide), (by decide)⟩ (fun x' hx' => ?_) (fun _ hx' => by cases hx')
    cases hx'; clear h2 eS3 ea1 ka1
    refine g_i2l X dL_size_8 ?_
    obtain ⟨S9, eS9, h10⟩ := g_bd h4; clear h4
    refine g_last X eS9 dL_size_9 ?_
    clear eS9
    refine g_goto (tgt := 21) X dL_size_10 (by decide) ?_
    refine g_iconst X dL_size_21 (v := 0) (by decide) ?_
    obtain ⟨rfl, rfl⟩ := g_end h10
    exact g_iret X hr (by decide) (by decide) dL_size_22
  · clear h2
    by_cases c13 : E6 = "java/lang/IndexOutOfBoundsException"
    · have h11 := g_ip h8 c13; clear h8; subst c13
      refine g_xV (n := 2) (As := [.int v1, .int v2]) X (c_X7_size hl D eS3) tw481 tw482 tw483 tw44 tw484 (by decide +kernel) rfl rfl ⟨Nat.le_of_ble_eq_true rfl, Nat.le_of_ble_eq_true rfl⟩ (ci := 7) rfl (by decide) ea1 ka1 rfl rfl (by simp [g_rfc, g_ci, g_cj, g_cr]) dL_size_5 ⟨(by decide), (by decide)⟩ (fun _ hx' => by cases hx') (fun E' hx' => ?_)
      cases hx'
      refine g_catch X [] ⟨0, 10, 13, 13⟩ [⟨0, 10, 17, 30⟩] ht (fun z hz => by cases hz) (by decide) (by decide) tw341 (by decide +kernel) (fun q9 => ?_)
      refine g_astore (i := 4) (lv' := [(4, va_rf (some q9)), (0, va_rf v0), (1, .int v1), (2, .int v2), (3, va_rf v3)]) X dL_size_13 (by decide) (by simp [g_rfc, g_ci, g_cj, g_cr]) ?_
      refine g_iconst X dL_size_15 (v := 1) (by decide) ?_
      obtain ⟨rfl, rfl⟩ := g_end h11
      exact g_iret X hr (by decide) (by decide) dL_size_16
    have h12 := g_in h8 c13; clear h8
    by_cases c16 : E6 = "java/util/NoSuchElementException"
    · have h14 := g_ip h12 c16; clear h12; subst c16
      refine g_xV (n := 2) (As := [.int v1, .int v2]) X (c_X7_size hl D eS3) tw481 tw482 tw483 tw44 tw484 (by decide +kernel) rfl rfl ⟨Nat.le_of_ble_eq_true rfl, Nat.le_of_ble_eq_true rfl⟩ (ci := 7) rfl (by decide) ea1 ka1 rfl rfl (by simp [g_rfc, g_ci, g_cj, g_cr]) dL_size_5 ⟨(by decide), (by decide)⟩ (fun _ hx' => by cases hx') (fun E' hx' => ?_)
      cases hx'
      refine g_catch X [⟨0, 10, 13, 13⟩] ⟨0, 10, 17, 30⟩ [] ht (by intro z hz; simp only [List.mem_cons, List.not_mem_nil, or_false] at hz; rcases hz with rfl; exact ⟨by decide, _, tw341, by decide +kernel⟩) (by decide) (by decide) tw480 (by decide +kernel) (fun q9 => ?_)
      refine g_astore (i := 4) (lv' := [(4, va_rf (some q9)), (0, va_rf v0), (1, .int v1), (2, .int v2), (3, va_rf v3)]) X dL_size_17 (by decide) (by simp [g_rfc, g_ci, g_cj, g_cr]) ?_
      refine g_iconst X dL_size_19 (v := 2) (by decide) ?_
      obtain ⟨rfl, rfl⟩ := g_end h14
      exact g_iret X hr (by decide) (by decide) dL_size_20
    have h15 := g_in h12 c16; clear h12
    cases h15
def f_L_head (S0 : gS) (v0 : Option Nat) (v1 : Int32) (v2 : Int32) (v3 : Option Nat) : Option (Int32 × gS) :=
  gDc S0 7 v0 fun a1 =>
  gBx (f_X7_head S0 a1 v1 v2) (fun E6 S7 =>
    if E6 = "java/lang/IndexOutOfBoundsException" then
      some (1, S7)
    else
    if E6 = "java/util/NoSuchElementException" then
      some (2, S7)
    else
      none) fun x5 S3 =>
  (faL S3 v3 0 x5.toInt64).bind fun S9 =>
  some (0, S9)
set_option maxRecDepth 100000 in
set_option maxHeartbeats 4000000 in
theorem c_L_head {l : Launch} (hl : l.stackTraces = false) (D : gD)  {S0 S9 : gS} {v0 : Option Nat} {v1 : Int32} {v2 : Int32} {v3 : Option Nat} {res : Int32} (h0 : f_L_head S0 v0 v1 v2 v3 = some (res, S9)) : Met l yL_head (gwW yL_head cL_head 5 (some .int) [(0, 10, 13, 13), (0, 10, 17, 30)]) { frames := 8, cells := 2, slots := 12, locals := 132 } (gPc D S0 [va_rf v0, .int v1, .int v2, va_rf v3]) (gQ D (some (.int res)) S9) (2) (12) (gF D) := by
  refine g_metW (hh := [(0, 10, 13, 13), (0, 10, 17, 30)]) (lv := [(0, va_rf v0), (1, .int v1), (2, .int v2), (3, va_rf v3)]) hl (by decide) (by simp [lg_sl, g_rfc, g_ci, g_cj, g_cr]) (by simp [lv_args, g_rfc, g_ci, g_cj, g_cr]; try rfl) (fun p e s m args below meth c X hr ht => ?_)
  have X : gX D p l s m args meth c cL_head 5 RL := X
  unfold f_L_head at h0
  refine g_aload_n (j := 3) X dL_head_0 rfl rfl ?_
  refine g_iconst X dL_head_1 (v := 0) (by decide) ?_
  refine g_aload_n (j := 0) X dL_head_2 rfl rfl ?_
  refine g_iload_n (j := 1) X dL_head_3 rfl rfl ?_
  refine g_iload_n (j := 2) X dL_head_4 rfl rfl ?_
  obtain ⟨a1, ea1, ka1, h2⟩ := g_dc h0; clear h0
  rcases g_bx h2 with ⟨x5, S3, eS3, h4⟩ | ⟨E6, S7, eS3, h8⟩
  · refine g_xV (n := 2) (As := [.int v1, .int v2]) X (c_X7_head hl D eS3) tw496 tw497 tw498 tw44 tw499 (by decide +kernel) rfl rfl ⟨Nat.le_of_ble_eq_true rfl, Nat.le_of_ble_eq_true rfl⟩ (ci := 7) rfl (by decide) ea1 ka1 rfl rfl (by simp [g_rfc, g_ci, g_cj, g_cr]) dL_head_5 ⟨(by decide), (by decide)⟩ (fun x' hx' => ?_) (fun _ hx' => by cases hx')
    cases hx'; clear h2 eS3 ea1 ka1
    refine g_i2l X dL_head_8 ?_
    obtain ⟨S9, eS9, h10⟩ := g_bd h4; clear h4
    refine g_last X eS9 dL_head_9 ?_
    clear eS9
    refine g_goto (tgt := 21) X dL_head_10 (by decide) ?_
    refine g_iconst X dL_head_21 (v := 0) (by decide) ?_
    obtain ⟨rfl, rfl⟩ := g_end h10
    exact g_iret X hr (by decide) (by decide) dL_head_22
  · clear h2
    by_cases c13 : E6 = "java/lang/IndexOutOfBoundsException"
    · have h11 := g_ip h8 c13; clear h8; subst c13
      refine g_xV (n := 2) (As := [.int v1, .int v2]) X (c_X7_head hl D eS3) tw496 tw497 tw498 tw44 tw499 (by decide +kernel) rfl rfl ⟨Nat.le_of_ble_eq_true rfl, Nat.le_of_ble_eq_true rfl⟩ (ci := 7) rfl (by decide) ea1 ka1 rfl rfl (by simp [g_rfc, g_ci, g_cj, g_cr]) dL_head_5 ⟨(by decide), (by decide)⟩ (fun _ hx' => by cases hx') (fun E' hx' => ?_)
      cases hx'
      refine g_catch X [] ⟨0, 10, 13, 13⟩ [⟨0, 10, 17, 30⟩] ht (fun z hz => by cases hz) (by decide) (by decide) tw341 (by decide +kernel) (fun q9 => ?_)
      refine g_astore (i := 4) (lv' := [(4, va_rf (some q9)), (0, va_rf v0), (1, .int v1), (2, .int v2), (3, va_rf v3)]) X dL_head_13 (by decide) (by simp [g_rfc, g_ci, g_cj, g_cr]) ?_
      refine g_iconst X dL_head_15 (v := 1) (by decide) ?_
      obtain ⟨rfl, rfl⟩ := g_end h11
      exact g_iret X hr (by decide) (by decide) dL_head_16
    have h12 := g_in h8 c13; clear h8
    by_cases c16 : E6 = "java/util/NoSuchElementException"
    · have h14 := g_ip h12 c16; clear h12; subst c16
      refine g_xV (n := 2) (As := [.int v1, .int v2]) X (c_X7_head hl D eS3) tw496 tw497 tw498 tw44 tw499 (by decide +kernel) rfl rfl ⟨Nat.le_of_ble_eq_true rfl, Nat.le_of_ble_eq_true rfl⟩ (ci := 7) rfl (by decide) ea1 ka1 rfl rfl (by simp [g_rfc, g_ci, g_cj, g_cr]) dL_head_5 ⟨(by decide), (by decide)⟩ (fun _ hx' => by cases hx') (fun E' hx' => ?_)
      cases hx'
      refine g_catch X [⟨0, 10, 13, 13⟩] ⟨0, 10, 17, 30⟩ [] ht (by intro z hz; simp only [List.mem_cons, List.not_mem_nil, or_false] at hz; rcases hz with rfl; exact ⟨by decide, _, tw341, by decide +kernel⟩) (by decide) (by decide) tw480 (by decide +kernel) (fun q9 => ?_)
      refine g_astore (i := 4) (lv' := [(4, va_rf (some q9)), (0, va_rf v0), (1, .int v1), (2, .int v2), (3, va_rf v3)]) X dL_head_17 (by decide) (by simp [g_rfc, g_ci, g_cj, g_cr]) ?_
      refine g_iconst X dL_head_19 (v := 2) (by decide) ?_
      obtain ⟨rfl, rfl⟩ := g_end h14
      exact g_iret X hr (by decide) (by decide) dL_head_20
    have h15 := g_in h12 c16; clear h12
    cases h15
