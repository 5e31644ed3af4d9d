def f_X8_pad_L10 : Nat → gS → Nat → Int32 → Int32 → Int32 → Int32 → Option gS
  | 0, _, _, _, _, _, _ => none
  | k + 1, S0, a0, v1, v2, v3, v4 =>
    if 64 ≤ v4 then
      some S0
    else
      if v3 ≤ 64 then
        if v3 ≤ v4 then
          gDc S0 8 (some a0) fun a14 =>
          (f_X8_say S0 a14 (0 ^^^ v2)).bind fun S16 =>
          gLet (v4 + 1) fun x18 =>
          f_X8_pad_L10 k S16 a0 v1 v2 v3 x18
        else
          (fgR S0 8 5 (some a0)).bind fun x20 =>
          (fI S0 10 x20 ((100 * v1) + v4)).bind fun x22 =>
          gDc S0 8 (some a0) fun a24 =>
          (f_X8_say S0 a24 (x22 ^^^ v2)).bind fun S26 =>
          gLet (v4 + 1) fun x28 =>
          f_X8_pad_L10 k S26 a0 v1 v2 v3 x28
      else
        if 32 ≤ v4 then
          gDc S0 8 (some a0) fun a33 =>
          (f_X8_say S0 a33 (0 ^^^ v2)).bind fun S35 =>
          gLet (v4 + 1) fun x37 =>
          f_X8_pad_L10 k S35 a0 v1 v2 v3 x37
        else
          (fgR S0 8 21 (some a0)).bind fun x39 =>
          (fI S0 10 x39 (16 + (v4 / 4))).bind fun x41 =>
          gLet ((x41 >>> ((24 - (8 * (v4 - v4 / 4 * 4))) &&& 31)) &&& 255) fun x43 =>
          gDc S0 8 (some a0) fun a45 =>
          (f_X8_say S0 a45 (x43 ^^^ v2)).bind fun S47 =>
          gLet (v4 + 1) fun x49 =>
          f_X8_pad_L10 k S47 a0 v1 v2 v3 x49
set_option maxRecDepth 100000 in
set_option maxHeartbeats 4000000 in
theorem w_X8_pad_L10 {p : Program} {l : Launch} {e : Env} {s : State} {m : MethodId} {args : Array Value} {below : List Frame} {meth : Method} {c : Code} {D : gD} {S9 : gS}  (hl : l.stackTraces = false) (X : gX D p l s m args meth c cX8_pad 6 RX8) (hr : meth.sig.returnType = none) : ∀ (k : Nat) (S0 : gS) (a0 : Nat) (v1 : Int32) (v2 : Int32) (v3 : Int32) (v4 : Int32), f_X8_pad_L10 k S0 a0 v1 v2 v3 v4 = some S9 → gJ D p l e { frames := 1, cells := 0, slots := 0, locals := 21 } s m args below meth c (MQ below (gQ D none S9) args s (0) (0) (gF D)) 6 (0) (0) S0 10 [(0, va_rf (some a0)), (1, .int v1), (2, .int v2), (3, .int v3), (4, .int v4)] [] := by
  intro k
  induction k with
  | zero => intro S0 a0 v1 v2 v3 v4 h0; cases h0
  | succ k ih =>
    intro S0 a0 v1 v2 v3 v4 h0
    have h0 := h0
    unfold f_X8_pad_L10 at h0
    refine g_iload (j := 4) X dX8_pad_10 rfl ?_
    refine g_bipush X dX8_pad_12 (v := 64) (by decide) ?_
    refine g_icmp_ge (tgt := 102) X dX8_pad_14 (by decide) (fun c5 => ?_) (fun c5 => ?_)
    · have h6 := g_ip h0 c5; clear h0
      cases h6
      exact g_vret X hr (by decide) (by decide) dX8_pad_102
    · have h7 := g_in h0 c5; clear h0
      refine g_iload_n (j := 3) X dX8_pad_17 rfl rfl ?_
      refine g_bipush X dX8_pad_18 (v := 64) (by decide) ?_
      refine g_icmp_le (tgt := 64) X dX8_pad_20 (by decide) (fun c8 => ?_) (fun c8 => ?_)
      · have h9 := g_ip h7 c8; clear h7
        refine g_iload (j := 4) X dX8_pad_64 rfl ?_
        refine g_iload_n (j := 3) X dX8_pad_66 rfl rfl ?_
        refine g_icmp_ge (tgt := 85) X dX8_pad_67 (by decide) (fun c11 => ?_) (fun c11 => ?_)
        · have h12 := g_ip h9 c11; clear h9
          refine g_iconst X dX8_pad_85 (v := 0) (by decide) ?_
          refine g_istore (i := 5) (lv' := [(5, .int 0), (0, va_rf (some a0)), (1, .int v1), (2, .int v2), (3, .int v3), (4, .int v4)]) X dX8_pad_86 (by decide) rfl ?_
          refine g_aload_n (j := 1) X dX8_pad_88 rfl rfl ?_
          refine g_iload (j := 0) X dX8_pad_89 rfl ?_
          refine g_iload_n (j := 3) X dX8_pad_91 rfl rfl ?_
          refine g_ixor X dX8_pad_92 ?_
          obtain ⟨a14, ea14, ka14, h15⟩ := g_dc h12; clear h12
          obtain ⟨S16, eS16, h17⟩ := g_bd h15; clear h15
          refine g_cV (n := 1) (As := [.int (0 ^^^ v2)]) X (c_X8_say hl D eS16) tw807 tw808 tw18 tw51 tw809 (by decide +kernel) rfl rfl ⟨Nat.le_of_ble_eq_true rfl, Nat.le_of_ble_eq_true rfl⟩ (ci := 8) rfl (by decide) ea14 ka14 rfl rfl (Nat.le_of_ble_eq_true rfl) dX8_pad_93 ⟨(by decide), (by decide)⟩ ?_
          clear eS16 ea14 ka14
          obtain ⟨x18, ex18, h19⟩ := g_let h17; clear h17
          refine g_iinc (j := 5) (v := x18) (lv' := [(4, .int x18), (5, .int 0), (0, va_rf (some a0)), (1, .int v1), (2, .int v2), (3, .int v3)]) X dX8_pad_96 rfl (by rw [ex18]; rfl) (by decide) rfl ?_
          clear ex18
          refine g_goto (tgt := 10) X dX8_pad_99 (by decide) ?_
          refine g_sub [2, 3, 4, 5, 0] rfl ?_
          exact ih S16 a0 v1 v2 v3 x18 h19
        · have h13 := g_in h9 c11; clear h9
          refine g_aload_n (j := 0) X dX8_pad_70 rfl rfl ?_
          obtain ⟨x20, ex20, h21⟩ := g_bd h13; clear h13
          refine g_fR (ci := 8) (k := 5) X rfl il8 (by decide) tw708 (by decide) (fun _ _ _ => rfl) ex20 dX8_pad_71 ?_
          clear ex20
          refine g_bipush X dX8_pad_74 (v := 100) (by decide) ?_
          refine g_iload_n (j := 1) X dX8_pad_76 rfl rfl ?_
          refine g_imul X dX8_pad_77 ?_
          refine g_iload (j := 4) X dX8_pad_78 rfl ?_
          refine g_iadd X dX8_pad_80 ?_
          obtain ⟨x22, ex22, h23⟩ := g_bd h21; clear h21
          refine g_iald X ex22 dX8_pad_81 ?_
          clear ex22
          refine g_goto (tgt := 86) X dX8_pad_82 (by decide) ?_
          refine g_istore (i := 5) (lv' := [(5, .int x22), (0, va_rf (some a0)), (1, .int v1), (2, .int v2), (3, .int v3), (4, .int v4)]) X dX8_pad_86 (by decide) rfl ?_
          refine g_aload_n (j := 1) X dX8_pad_88 rfl rfl ?_
          refine g_iload (j := 0) X dX8_pad_89 rfl ?_
          refine g_iload_n (j := 3) X dX8_pad_91 rfl rfl ?_
          refine g_ixor X dX8_pad_92 ?_
          obtain ⟨a24, ea24, ka24, h25⟩ := g_dc h23; clear h23
          obtain ⟨S26, eS26, h27⟩ := g_bd h25; clear h25
          refine g_cV (n := 1) (As := [.int (x22 ^^^ v2)]) X (c_X8_say hl D eS26) tw807 tw808 tw18 tw51 tw809 (by decide +kernel) rfl rfl ⟨Nat.le_of_ble_eq_true rfl, Nat.le_of_ble_eq_true rfl⟩ (ci := 8) rfl (by decide) ea24 ka24 rfl rfl (Nat.le_of_ble_eq_true rfl) dX8_pad_93 ⟨(by decide), (by decide)⟩ ?_
          clear eS26 ea24 ka24
          obtain ⟨x28, ex28, h29⟩ := g_let h27; clear h27
          refine g_iinc (j := 5) (v := x28) (lv' := [(4, .int x28), (5, .int x22), (0, va_rf (some a0)), (1, .int v1), (2, .int v2), (3, .int v3)]) X dX8_pad_96 rfl (by rw [ex28]; rfl) (by decide) rfl ?_
          clear ex28
          refine g_goto (tgt := 10) X dX8_pad_99 (by decide) ?_
          refine g_sub [2, 3, 4, 5, 0] rfl ?_
          exact ih S26 a0 v1 v2 v3 x28 h29
      · have h10 := g_in h7 c8; clear h7
        refine g_iload (j := 4) X dX8_pad_23 rfl ?_
        refine g_bipush X dX8_pad_25 (v := 32) (by decide) ?_
        refine g_icmp_ge (tgt := 60) X dX8_pad_27 (by decide) (fun c30 => ?_) (fun c30 => ?_)
        · have h31 := g_ip h10 c30; clear h10
          refine g_iconst X dX8_pad_60 (v := 0) (by decide) ?_
          refine g_goto (tgt := 86) X dX8_pad_61 (by decide) ?_
          refine g_istore (i := 5) (lv' := [(5, .int 0), (0, va_rf (some a0)), (1, .int v1), (2, .int v2), (3, .int v3), (4, .int v4)]) X dX8_pad_86 (by decide) rfl ?_
          refine g_aload_n (j := 1) X dX8_pad_88 rfl rfl ?_
          refine g_iload (j := 0) X dX8_pad_89 rfl ?_
          refine g_iload_n (j := 3) X dX8_pad_91 rfl rfl ?_
          refine g_ixor X dX8_pad_92 ?_
          obtain ⟨a33, ea33, ka33, h34⟩ := g_dc h31; clear h31
          obtain ⟨S35, eS35, h36⟩ := g_bd h34; clear h34
          refine g_cV (n := 1) (As := [.int (0 ^^^ v2)]) X (c_X8_say hl D eS35) tw807 tw808 tw18 tw51 tw809 (by decide +kernel) rfl rfl ⟨Nat.le_of_ble_eq_true rfl, Nat.le_of_ble_eq_true rfl⟩ (ci := 8) rfl (by decide) ea33 ka33 rfl rfl (Nat.le_of_ble_eq_true rfl) dX8_pad_93 ⟨(by decide), (by decide)⟩ ?_
          clear eS35 ea33 ka33
          obtain ⟨x37, ex37, h38⟩ := g_let h36; clear h36
          refine g_iinc (j := 5) (v := x37) (lv' := [(4, .int x37), (5, .int 0), (0, va_rf (some a0)), (1, .int v1), (2, .int v2), (3, .int v3)]) X dX8_pad_96 rfl (by rw [ex37]; rfl) (by decide) rfl ?_
          clear ex37
          refine g_goto (tgt := 10) X dX8_pad_99 (by decide) ?_
          refine g_sub [2, 3, 4, 5, 0] rfl ?_
          exact ih S35 a0 v1 v2 v3 x37 h38
        · have h32 := g_in h10 c30; clear h10
          refine g_aload_n (j := 0) X dX8_pad_30 rfl rfl ?_
          obtain ⟨x39, ex39, h40⟩ := g_bd h32; clear h32
          refine g_fR (ci := 8) (k := 21) X rfl il8 (by decide) tw724 (by decide) (fun _ _ _ => rfl) ex39 dX8_pad_31 ?_
          clear ex39
          refine g_bipush X dX8_pad_34 (v := 16) (by decide) ?_
          refine g_iload (j := 4) X dX8_pad_36 rfl ?_
          refine g_iconst X dX8_pad_38 (v := 4) (by decide) ?_
          refine g_idiv X dX8_pad_39 (by decide) ?_
          refine g_iadd X dX8_pad_40 ?_
          obtain ⟨x41, ex41, h42⟩ := g_bd h40; clear h40
          refine g_iald X ex41 dX8_pad_41 ?_
          clear ex41
          refine g_bipush X dX8_pad_42 (v := 24) (by decide) ?_
          refine g_bipush X dX8_pad_44 (v := 8) (by decide) ?_
          refine g_iload (j := 4) X dX8_pad_46 rfl ?_
          refine g_iconst X dX8_pad_48 (v := 4) (by decide) ?_
          refine g_irem X dX8_pad_49 (by decide) ?_
          refine g_imul X dX8_pad_50 ?_
          refine g_isub X dX8_pad_51 ?_
          refine g_ishr X dX8_pad_52 ?_
          refine g_sipush X dX8_pad_53 (v := 255) (by decide) ?_
          refine g_iand X dX8_pad_56 ?_
          refine g_goto (tgt := 86) X dX8_pad_57 (by decide) ?_
          obtain ⟨x43, ex43, h44⟩ := g_let h42; clear h42; rw [← ex43]; clear ex43
          refine g_istore (i := 5) (lv' := [(5, .int x43), (0, va_rf (some a0)), (1, .int v1), (2, .int v2), (3, .int v3), (4, .int v4)]) X dX8_pad_86 (by decide) rfl ?_
          refine g_aload_n (j := 1) X dX8_pad_88 rfl rfl ?_
          refine g_iload (j := 0) X dX8_pad_89 rfl ?_
          refine g_iload_n (j := 3) X dX8_pad_91 rfl rfl ?_
          refine g_ixor X dX8_pad_92 ?_
          obtain ⟨a45, ea45, ka45, h46⟩ := g_dc h44; clear h44
          obtain ⟨S47, eS47, h48⟩ := g_bd h46; clear h46
          refine g_cV (n := 1) (As := [.int (x43 ^^^ v2)]) X (c_X8_say hl D eS47) tw807 tw808 tw18 tw51 tw809 (by decide +kernel) rfl rfl ⟨Nat.le_of_ble_eq_true rfl, Nat.le_of_ble_eq_true rfl⟩ (ci := 8) rfl (by decide) ea45 ka45 rfl rfl (Nat.le_of_ble_eq_true rfl) dX8_pad_93 ⟨(by decide), (by decide)⟩ ?_
          clear eS47 ea45 ka45
          obtain ⟨x49, ex49, h50⟩ := g_let h48; clear h48
          refine g_iinc (j := 5) (v := x49) (lv' := [(4, .int x49), (5, .int x43), (0, va_rf (some a0)), (1, .int v1), (2, .int v2), (3, .int v3)]) X dX8_pad_96 rfl (by rw [ex49]; rfl) (by decide) rfl ?_
          clear ex49
          refine g_goto (tgt := 10) X dX8_pad_99 (by decide) ?_
          refine g_sub [2, 3, 4, 5, 0] rfl ?_
          exact ih S47 a0 v1 v2 v3 x49 h50
def f_X8_pad (S0 : gS) (a0 : Nat) (v1 : Int32) (v2 : Int32) : Option gS :=
  (fgR S0 8 6 (some a0)).bind fun x1 =>
  (fI S0 10 x1 v1).bind fun x3 =>
  f_X8_pad_L10 gFuel S0 a0 v1 v2 x3 0
set_option maxRecDepth 100000 in
set_option maxHeartbeats 4000000 in
theorem c_X8_pad {l : Launch} (hl : l.stackTraces = false) (D : gD)  {S0 S9 : gS} {a0 : Nat} {v1 : Int32} {v2 : Int32} (h0 : f_X8_pad S0 a0 v1 v2 = some S9) : Met l yX8_pad (gws yX8_pad cX8_pad 6 none) { frames := 1, cells := 0, slots := 0, locals := 21 } (gPc D S0 [.ref a0, .int v1, .int v2]) (gQ D none S9) (0) (0) (gF D) := by
  refine g_met (lv := [(0, va_rf (some a0)), (1, .int v1), (2, .int v2)]) hl (by decide) (Nat.le_of_ble_eq_true rfl) rfl (fun p e s m args below meth c X hr hn => ?_)
  have X : gX D p l s m args meth c cX8_pad 6 RX8 := X
  unfold f_X8_pad at h0
  refine g_aload_n (j := 0) X dX8_pad_0 rfl rfl ?_
  obtain ⟨x1, ex1, h2⟩ := g_bd h0; clear h0
  refine g_fR (ci := 8) (k := 6) X rfl il8 (by decide) tw709 (by decide) (fun _ _ _ => rfl) ex1 dX8_pad_1 ?_
  clear ex1
  refine g_iload_n (j := 1) X dX8_pad_4 rfl rfl ?_
  obtain ⟨x3, ex3, h4⟩ := g_bd h2; clear h2
  refine g_iald X ex3 dX8_pad_5 ?_
  clear ex3
  refine g_istore_n (i := 3) (lv' := [(3, .int x3), (0, va_rf (some a0)), (1, .int v1), (2, .int v2)]) X dX8_pad_6 rfl (by decide) rfl ?_
  refine g_iconst X dX8_pad_7 (v := 0) (by decide) ?_
  refine g_istore (i := 4) (lv' := [(4, .int 0), (3, .int x3), (0, va_rf (some a0)), (1, .int v1), (2, .int v2)]) X dX8_pad_8 (by decide) rfl ?_
  refine g_sub [2, 3, 4, 1, 0] rfl ?_
  exact w_X8_pad_L10 hl X hr gFuel S0 a0 v1 v2 x3 0 h4
def f_X8_sealOf_B52 (S0 : gS) (a0 : Nat) (v1 : Int32) (v2 : Int64) (v4 : Int64) : Option gS :=
  gDc S0 8 (some a0) fun a8 =>
  (f_X8_pad S0 a8 v1 54).bind fun S10 =>
  gDc S10 8 (some a0) fun a12 =>
  (f_X8_say S10 a12 0).bind fun S14 =>
  gDc S14 8 (some a0) fun a16 =>
  (f_X8_say S14 a16 1).bind fun S18 =>
  gDc S18 8 (some a0) fun a20 =>
  (f_X8_sayLong S18 a20 v2).bind fun S22 =>
  gDc S22 8 (some a0) fun a24 =>
  (f_X8_sayLong S22 a24 v4).bind fun S26 =>
  gDc S26 8 (some a0) fun a28 =>
  (f_X8_saySlot S26 a28 0).bind fun S30 =>
  gDc S30 8 (some a0) fun a32 =>
  (f_X8_digest S30 a32 3).bind fun S34 =>
  gDc S34 8 (some a0) fun a36 =>
  (f_X8_pad S34 a36 v1 92).bind fun S38 =>
  gDc S38 8 (some a0) fun a40 =>
  (f_X8_saySlot S38 a40 3).bind fun S42 =>
  gDc S42 8 (some a0) fun a44 =>
  (f_X8_digest S42 a44 1).bind fun S46 =>
  some S46
set_option maxRecDepth 100000 in
set_option maxHeartbeats 4000000 in
theorem w_X8_sealOf_B52 {p : Program} {l : Launch} {e : Env} {s : State} {m : MethodId} {args : Array Value} {below : List Frame} {meth : Method} {c : Code} {D : gD} {S9 : gS}  (hl : l.stackTraces = false) (X : gX D p l s m args meth c cX8_sealOf 8 RX8) (hr : meth.sig.returnType = none) (S0 : gS) (a0 : Nat) (v1 : Int32) (v2 : Int64) (v4 : Int64) (h0 : f_X8_sealOf_B52 S0 a0 v1 v2 v4 = some S9) : gJ D p l e { frames := 3, cells := 3, slots := 24, locals := 77 } s m args below meth c (MQ below (gQ D none S9) args s (3) (24) (gF D)) 8 (1) (8) S0 52 [(0, va_rf (some a0)), (1, .int v1), (2, .long v2), (4, .long v4)] [] := by
  unfold f_X8_sealOf_B52 at h0
  refine g_aload_n (j := 0) X dX8_sealOf_52 rfl rfl ?_
  refine g_iload_n (j := 1) X dX8_sealOf_53 rfl rfl ?_
  refine g_bipush X dX8_sealOf_54 (v := 54) (by decide) ?_
  obtain ⟨a8, ea8, ka8, h9⟩ := g_dc h0; clear h0
  obtain ⟨S10, eS10, h11⟩ := g_bd h9; clear h9
  refine g_cV (n := 2) (As := [.int v1, .int 54]) X (c_X8_pad hl D eS10) tw850 tw851 tw26 tw51 tw852 (by decide +kernel) rfl rfl ⟨Nat.le_of_ble_eq_true rfl, Nat.le_of_ble_eq_true rfl⟩ (ci := 8) rfl (by decide) ea8 ka8 rfl rfl (Nat.le_of_ble_eq_true rfl) dX8_sealOf_56 ⟨(by decide), (by decide)⟩ ?_
  clear eS10 ea8 ka8
  refine g_aload_n (j := 0) X dX8_sealOf_59 rfl rfl ?_
  refine g_iconst X dX8_sealOf_60 (v := 0) (by decide) ?_
  obtain ⟨a12, ea12, ka12, h13⟩ := g_dc h11; clear h11
  obtain ⟨S14, eS14, h15⟩ := g_bd h13; clear h13
  refine g_cV (n := 1) (As := [.int 0]) X (c_X8_say hl D eS14) tw807 tw808 tw18 tw51 tw809 (by decide +kernel) rfl rfl ⟨Nat.le_of_ble_eq_true rfl, Nat.le_of_ble_eq_true rfl⟩ (ci := 8) rfl (by decide) ea12 ka12 rfl rfl (Nat.le_of_ble_eq_true rfl) dX8_sealOf_61 ⟨(by decide), (by decide)⟩ ?_
  clear eS14 ea12 ka12
  refine g_aload_n (j := 0) X dX8_sealOf_64 rfl rfl ?_
  refine g_iconst X dX8_sealOf_65 (v := 1) (by decide) ?_
  obtain ⟨a16, ea16, ka16, h17⟩ := g_dc h15; clear h15
  obtain ⟨S18, eS18, h19⟩ := g_bd h17; clear h17
  refine g_cV (n := 1) (As := [.int 1]) X (c_X8_say hl D eS18) tw807 tw808 tw18 tw51 tw809 (by decide +kernel) rfl rfl ⟨Nat.le_of_ble_eq_true rfl, Nat.le_of_ble_eq_true rfl⟩ (ci := 8) rfl (by decide) ea16 ka16 rfl rfl (Nat.le_of_ble_eq_true rfl) dX8_sealOf_66 ⟨(by decide), (by decide)⟩ ?_
  clear eS18 ea16 ka16
  refine g_aload_n (j := 0) X dX8_sealOf_69 rfl rfl ?_
  refine g_lload_n (j := 2) X dX8_sealOf_70 rfl rfl ?_
  obtain ⟨a20, ea20, ka20, h21⟩ := g_dc h19; clear h19
  obtain ⟨S22, eS22, h23⟩ := g_bd h21; clear h21
  refine g_cV (n := 1) (As := [.long v2]) X (c_X8_sayLong hl D eS22) tw810 tw811 tw19 tw51 tw812 (by decide +kernel) rfl rfl ⟨Nat.le_of_ble_eq_true rfl, Nat.le_of_ble_eq_true rfl⟩ (ci := 8) rfl (by decide) ea20 ka20 rfl rfl (Nat.le_of_ble_eq_true rfl) dX8_sealOf_71 ⟨(by decide), (by decide)⟩ ?_
  clear eS22 ea20 ka20
  refine g_aload_n (j := 0) X dX8_sealOf_74 rfl rfl ?_
  refine g_lload (j := 3) X dX8_sealOf_75 rfl ?_
  obtain ⟨a24, ea24, ka24, h25⟩ := g_dc h23; clear h23
  obtain ⟨S26, eS26, h27⟩ := g_bd h25; clear h25
  refine g_cV (n := 1) (As := [.long v4]) X (c_X8_sayLong hl D eS26) tw810 tw811 tw19 tw51 tw812 (by decide +kernel) rfl rfl ⟨Nat.le_of_ble_eq_true rfl, Nat.le_of_ble_eq_true rfl⟩ (ci := 8) rfl (by decide) ea24 ka24 rfl rfl (Nat.le_of_ble_eq_true rfl) dX8_sealOf_77 ⟨(by decide), (by decide)⟩ ?_
  clear eS26 ea24 ka24
  refine g_aload_n (j := 0) X dX8_sealOf_80 rfl rfl ?_
  refine g_iconst X dX8_sealOf_81 (v := 0) (by decide) ?_
  obtain ⟨a28, ea28, ka28, h29⟩ := g_dc h27; clear h27
  obtain ⟨S30, eS30, h31⟩ := g_bd h29; clear h29
  refine g_cV (n := 1) (As := [.int 0]) X (c_X8_saySlot hl D eS30) tw841 tw842 tw23 tw51 tw843 (by decide +kernel) rfl rfl ⟨Nat.le_of_ble_eq_true rfl, Nat.le_of_ble_eq_true rfl⟩ (ci := 8) rfl (by decide) ea28 ka28 rfl rfl (Nat.le_of_ble_eq_true rfl) dX8_sealOf_82 ⟨(by decide), (by decide)⟩ ?_
  clear eS30 ea28 ka28
  refine g_aload_n (j := 0) X dX8_sealOf_85 rfl rfl ?_
  refine g_iconst X dX8_sealOf_86 (v := 3) (by decide) ?_
  obtain ⟨a32, ea32, ka32, h33⟩ := g_dc h31; clear h31
  obtain ⟨S34, eS34, h35⟩ := g_bd h33; clear h33
  refine g_cV (n := 1) (As := [.int 3]) X (c_X8_digest hl D eS34) tw804 tw805 tw17 tw51 tw806 (by decide +kernel) rfl rfl ⟨Nat.le_of_ble_eq_true rfl, Nat.le_of_ble_eq_true rfl⟩ (ci := 8) rfl (by decide) ea32 ka32 rfl rfl (Nat.le_of_ble_eq_true rfl) dX8_sealOf_87 ⟨(by decide), (by decide)⟩ ?_
  clear eS34 ea32 ka32
  refine g_aload_n (j := 0) X dX8_sealOf_90 rfl rfl ?_
  refine g_iload_n (j := 1) X dX8_sealOf_91 rfl rfl ?_
  refine g_bipush X dX8_sealOf_92 (v := 92) (by decide) ?_
  obtain ⟨a36, ea36, ka36, h37⟩ := g_dc h35; clear h35
  obtain ⟨S38, eS38, h39⟩ := g_bd h37; clear h37
  refine g_cV (n := 2) (As := [.int v1, .int 92]) X (c_X8_pad hl D eS38) tw850 tw851 tw26 tw51 tw852 (by decide +kernel) rfl rfl ⟨Nat.le_of_ble_eq_true rfl, Nat.le_of_ble_eq_true rfl⟩ (ci := 8) rfl (by decide) ea36 ka36 rfl rfl (Nat.le_of_ble_eq_true rfl) dX8_sealOf_94 ⟨(by decide), (by decide)⟩ ?_
  clear eS38 ea36 ka36
  refine g_aload_n (j := 0) X dX8_sealOf_97 rfl rfl ?_
  refine g_iconst X dX8_sealOf_98 (v := 3) (by decide) ?_
  obtain ⟨a40, ea40, ka40, h41⟩ := g_dc h39; clear h39
  obtain ⟨S42, eS42, h43⟩ := g_bd h41; clear h41
  refine g_cV (n := 1) (As := [.int 3]) X (c_X8_saySlot hl D eS42) tw841 tw842 tw23 tw51 tw843 (by decide +kernel) rfl rfl ⟨Nat.le_of_ble_eq_true rfl, Nat.le_of_ble_eq_true rfl⟩ (ci := 8) rfl (by decide) ea40 ka40 rfl rfl (Nat.le_of_ble_eq_true rfl) dX8_sealOf_99 ⟨(by decide), (by decide)⟩ ?_
  clear eS42 ea40 ka40
  refine g_aload_n (j := 0) X dX8_sealOf_102 rfl rfl ?_
  refine g_iconst X dX8_sealOf_103 (v := 1) (by decide) ?_
  obtain ⟨a44, ea44, ka44, h45⟩ := g_dc h43; clear h43
  obtain ⟨S46, eS46, h47⟩ := g_bd h45; clear h45
  refine g_cV (n := 1) (As := [.int 1]) X (c_X8_digest hl D eS46) tw804 tw805 tw17 tw51 tw806 (by decide +kernel) rfl rfl ⟨Nat.le_of_ble_eq_true rfl, Nat.le_of_ble_eq_true rfl⟩ (ci := 8) rfl (by decide) ea44 ka44 rfl rfl (Nat.le_of_ble_eq_true rfl) dX8_sealOf_104 ⟨(by decide), (by decide)⟩ ?_
  clear eS46 ea44 ka44
  cases h47
  exact g_vret X hr (by decide) (by decide) dX8_sealOf_107
def f_X8_sealOf_L18 : Nat → gS → Nat → Int32 → Int64 → Int64 → Int32 → Int32 → Option gS
  | 0, _, _, _, _, _, _, _ => none
  | k + 1, S0, a0, v1, v2, v4, v6, v7 =>
    if v6 ≤ v7 then
      gDc S0 8 (some a0) fun a51 =>
      (f_X8_digest S0 a51 2).bind fun S53 =>
      f_X8_sealOf_B52 S53 a0 v1 v2 v4
    else
      (fgR S0 8 5 (some a0)).bind fun x55 =>
      (fI S0 10 x55 ((100 * v1) + v7)).bind fun x57 =>
      gDc S0 8 (some a0) fun a59 =>
      (f_X8_say S0 a59 x57).bind fun S61 =>
      gLet (v7 + 1) fun x63 =>
      f_X8_sealOf_L18 k S61 a0 v1 v2 v4 v6 x63
set_option maxRecDepth 100000 in
set_option maxHeartbeats 4000000 in
theorem w_X8_sealOf_L18 {p : Program} {l : Launch} {e : Env} {s : State} {m : MethodId} {args : Array Value} {below : List Frame} {meth : Method} {c : Code} {D : gD} {S9 : gS}  (hl : l.stackTraces = false) (X : gX D p l s m args meth c cX8_sealOf 8 RX8) (hr : meth.sig.returnType = none) : ∀ (k : Nat) (S0 : gS) (a0 : Nat) (v1 : Int32) (v2 : Int64) (v4 : Int64) (v6 : Int32) (v7 : Int32), f_X8_sealOf_L18 k S0 a0 v1 v2 v4 v6 v7 = some S9 → gJ D p l e { frames := 3, cells := 3, slots := 24, locals := 77 } s m args below meth c (MQ below (gQ D none S9) args s (3) (24) (gF D)) 8 (0) (0) S0 18 [(0, va_rf (some a0)), (1, .int v1), (2, .long v2), (4, .long v4), (6, .int v6), (7, .int v7)] [] := by
  intro k
  induction k with
  | zero => intro S0 a0 v1 v2 v4 v6 v7 h0; cases h0
  | succ k ih =>
    intro S0 a0 v1 v2 v4 v6 v7 h0
    have h0 := h0
    unfold f_X8_sealOf_L18 at h0
    refine g_iload (j := 5) X dX8_sealOf_18 rfl ?_
    refine g_iload (j := 4) X dX8_sealOf_20 rfl ?_
    refine g_icmp_ge (tgt := 47) X dX8_sealOf_22 (by decide) (fun c48 => ?_) (fun c48 => ?_)
    · have h49 := g_ip h0 c48; clear h0
      refine g_aload_n (j := 0) X dX8_sealOf_47 rfl rfl ?_
      refine g_iconst X dX8_sealOf_48 (v := 2) (by decide) ?_
      obtain ⟨a51, ea51, ka51, h52⟩ := g_dc h49; clear h49
      obtain ⟨S53, eS53, h54⟩ := g_bd h52; clear h52
      refine g_cV (n := 1) (As := [.int 2]) X (c_X8_digest hl D eS53) tw804 tw805 tw17 tw51 tw806 (by decide +kernel) rfl rfl ⟨Nat.le_of_ble_eq_true rfl, Nat.le_of_ble_eq_true rfl⟩ (ci := 8) rfl (by decide) ea51 ka51 rfl rfl (Nat.le_of_ble_eq_true rfl) dX8_sealOf_49 ⟨(by decide), (by decide)⟩ ?_
      clear eS53 ea51 ka51
      refine g_sub [0, 1, 2, 3] rfl ?_
      exact w_X8_sealOf_B52 hl X hr S53 a0 v1 v2 v4 h54
    · have h50 := g_in h0 c48; clear h0
      refine g_aload_n (j := 0) X dX8_sealOf_25 rfl rfl ?_
      refine g_aload_n (j := 0) X dX8_sealOf_26 rfl rfl ?_
      obtain ⟨x55, ex55, h56⟩ := g_bd h50; clear h50
      refine g_fR (ci := 8) (k := 5) X rfl il8 (by decide) tw708 (by decide) (fun _ _ _ => rfl) ex55 dX8_sealOf_27 ?_
      clear ex55
      refine g_bipush X dX8_sealOf_30 (v := 100) (by decide) ?_
      refine g_iload_n (j := 1) X dX8_sealOf_32 rfl rfl ?_
      refine g_imul X dX8_sealOf_33 ?_
      refine g_iload (j := 5) X dX8_sealOf_34 rfl ?_
      refine g_iadd X dX8_sealOf_36 ?_
      obtain ⟨x57, ex57, h58⟩ := g_bd h56; clear h56
      refine g_iald X ex57 dX8_sealOf_37 ?_
      clear ex57
      obtain ⟨a59, ea59, ka59, h60⟩ := g_dc h58; clear h58
      obtain ⟨S61, eS61, h62⟩ := g_bd h60; clear h60
      refine g_cV (n := 1) (As := [.int x57]) X (c_X8_say hl D eS61) tw807 tw808 tw18 tw51 tw809 (by decide +kernel) rfl rfl ⟨Nat.le_of_ble_eq_true rfl, Nat.le_of_ble_eq_true rfl⟩ (ci := 8) rfl (by decide) ea59 ka59 rfl rfl (Nat.le_of_ble_eq_true rfl) dX8_sealOf_38 ⟨(by decide), (by decide)⟩ ?_
      clear eS61 ea59 ka59
      obtain ⟨x63, ex63, h64⟩ := g_let h62; clear h62
      refine g_iinc (j := 5) (v := x63) (lv' := [(7, .int x63), (0, va_rf (some a0)), (1, .int v1), (2, .long v2), (4, .long v4), (6, .int v6)]) X dX8_sealOf_41 rfl (by rw [ex63]; rfl) (by decide) rfl ?_
      clear ex63
      refine g_goto (tgt := 18) X dX8_sealOf_44 (by decide) ?_
      refine g_sub [1, 2, 3, 4, 5, 0] rfl ?_
      exact ih S61 a0 v1 v2 v4 v6 x63 h64
def f_X8_sealOf (S0 : gS) (a0 : Nat) (v1 : Int32) (v2 : Int64) (v4 : Int64) : Option gS :=
  (fgR S0 8 6 (some a0)).bind fun x1 =>
  (fI S0 10 x1 v1).bind fun x3 =>
  if x3 ≤ 64 then
    f_X8_sealOf_B52 S0 a0 v1 v2 v4
  else
    f_X8_sealOf_L18 gFuel S0 a0 v1 v2 v4 x3 0
set_option maxRecDepth 100000 in
set_option maxHeartbeats 4000000 in
theorem c_X8_sealOf {l : Launch} (hl : l.stackTraces = false) (D : gD)  {S0 S9 : gS} {a0 : Nat} {v1 : Int32} {v2 : Int64} {v4 : Int64} (h0 : f_X8_sealOf S0 a0 v1 v2 v4 = some S9) : Met l yX8_sealOf (gws yX8_sealOf cX8_sealOf 8 none) { frames := 3, cells := 3, slots := 24, locals := 77 } (gPc D S0 [.ref a0, .int v1, .long v2, .long v4]) (gQ D none S9) (3) (24) (gF D) := by
  refine g_met (lv := [(0, va_rf (some a0)), (1, .int v1), (2, .long v2), (4, .long v4)]) hl (by decide) (Nat.le_of_ble_eq_true rfl) rfl (fun p e s m args below meth c X hr hn => ?_)
  have X : gX D p l s m args meth c cX8_sealOf 8 RX8 := X
  unfold f_X8_sealOf at h0
  refine g_aload_n (j := 0) X dX8_sealOf_0 rfl rfl ?_
  obtain ⟨x1, ex1, h2⟩ := g_bd h0; clear h0
  refine g_fR (ci := 8) (k := 6) X rfl il8 (by decide) tw709 (by decide) (fun _ _ _ => rfl) ex1 dX8_sealOf_1 ?_
  clear ex1
  refine g_iload_n (j := 1) X dX8_sealOf_4 rfl rfl ?_
  obtain ⟨x3, ex3, h4⟩ := g_bd h2; clear h2
  refine g_iald X ex3 dX8_sealOf_5 ?_
  clear ex3
  refine g_istore (i := 6) (lv' := [(6, .int x3), (0, va_rf (some a0)), (1, .int v1), (2, .long v2), (4, .long v4)]) X dX8_sealOf_6 (by decide) rfl ?_
  refine g_iload (j := 0) X dX8_sealOf_8 rfl ?_
  refine g_bipush X dX8_sealOf_10 (v := 64) (by decide) ?_
  refine g_icmp_le (tgt := 52) X dX8_sealOf_12 (by decide) (fun c5 => ?_) (fun c5 => ?_)
  · have h6 := g_ip h4 c5; clear h4
    refine g_sub [1, 2, 3, 4] rfl ?_
    refine g_wid (k := 1) (n := 8) (by decide) (by decide) ?_
    exact w_X8_sealOf_B52 hl X hr S0 a0 v1 v2 v4 h6
  · have h7 := g_in h4 c5; clear h4
    refine g_iconst X dX8_sealOf_15 (v := 0) (by decide) ?_
    refine g_istore (i := 7) (lv' := [(7, .int 0), (6, .int x3), (0, va_rf (some a0)), (1, .int v1), (2, .long v2), (4, .long v4)]) X dX8_sealOf_16 (by decide) rfl ?_
    refine g_sub [2, 3, 4, 5, 1, 0] rfl ?_
    exact w_X8_sealOf_L18 hl X hr gFuel S0 a0 v1 v2 v4 x3 0 h7
def f_X8_key_L55 : Nat → gS → Nat → Int32 → Int32 → Int32 → Option (Int32 × gS)
  | 0, _, _, _, _, _ => none
  | k + 1, S0, a0, v1, v2, v3 =>
    if v2 ≤ v3 then
      (fgR S0 8 6 (some a0)).bind fun x32 =>
      (faI S0 x32 v1 v2).bind fun S34 =>
      some (v2, S34)
    else
      (fgR S0 8 5 (some a0)).bind fun x36 =>
      (fgR S0 8 1 (some a0)).bind fun x38 =>
      (fI S0 10 x38 v3).bind fun x40 =>
      (faI S0 x36 ((100 * v1) + v3) x40).bind fun S42 =>
      gLet (v3 + 1) fun x44 =>
      f_X8_key_L55 k S42 a0 v1 v2 x44
set_option maxRecDepth 100000 in
set_option maxHeartbeats 4000000 in
theorem w_X8_key_L55 {p : Program} {l : Launch} {e : Env} {s : State} {m : MethodId} {args : Array Value} {below : List Frame} {meth : Method} {c : Code} {D : gD} {S9 : gS} {res : Int32}  (hl : l.stackTraces = false) (X : gX D p l s m args meth c cX8_key 4 RX8) (hr : meth.sig.returnType = (some .int)) : ∀ (k : Nat) (S0 : gS) (a0 : Nat) (v1 : Int32) (v2 : Int32) (v3 : Int32), f_X8_key_L55 k S0 a0 v1 v2 v3 = some (res, S9) → gJ D p l e { frames := 1, cells := 0, slots := 0, locals := 21 } s m args below meth c (MQ below (gQ D (some (.int res)) S9) args s (0) (0) (gF D)) 4 (0) (0) S0 55 [(0, va_rf (some a0)), (1, .int v1), (2, .int v2), (3, .int v3)] [] := by
  intro k
  induction k with
  | zero => intro S0 a0 v1 v2 v3 h0; cases h0
  | succ k ih =>
    intro S0 a0 v1 v2 v3 h0
    have h0 := h0
    unfold f_X8_key_L55 at h0
    refine g_iload_n (j := 3) X dX8_key_55 rfl rfl ?_
    refine g_iload_n (j := 2) X dX8_key_56 rfl rfl ?_
    refine g_icmp_ge (tgt := 83) X dX8_key_57 (by decide) (fun c29 => ?_) (fun c29 => ?_)
    · have h30 := g_ip h0 c29; clear h0
      refine g_aload_n (j := 0) X dX8_key_83 rfl rfl ?_
      obtain ⟨x32, ex32, h33⟩ := g_bd h30; clear h30
      refine g_fR (ci := 8) (k := 6) X rfl il8 (by decide) tw709 (by decide) (fun _ _ _ => rfl) ex32 dX8_key_84 ?_
      clear ex32
      refine g_iload_n (j := 1) X dX8_key_87 rfl rfl ?_
      refine g_iload_n (j := 2) X dX8_key_88 rfl rfl ?_
      obtain ⟨S34, eS34, h35⟩ := g_bd h33; clear h33
      refine g_iast X eS34 dX8_key_89 ?_
      clear eS34
      refine g_iload_n (j := 2) X dX8_key_90 rfl rfl ?_
      obtain ⟨rfl, rfl⟩ := g_end h35
      exact g_iret X hr (by decide) (by decide) dX8_key_91
    · have h31 := g_in h0 c29; clear h0
      refine g_aload_n (j := 0) X dX8_key_60 rfl rfl ?_
      obtain ⟨x36, ex36, h37⟩ := g_bd h31; clear h31
      refine g_fR (ci := 8) (k := 5) X rfl il8 (by decide) tw708 (by decide) (fun _ _ _ => rfl) ex36 dX8_key_61 ?_
      clear ex36
      refine g_bipush X dX8_key_64 (v := 100) (by decide) ?_
      refine g_iload_n (j := 1) X dX8_key_66 rfl rfl ?_
      refine g_imul X dX8_key_67 ?_
      refine g_iload_n (j := 3) X dX8_key_68 rfl rfl ?_
      refine g_iadd X dX8_key_69 ?_
      refine g_aload_n (j := 0) X dX8_key_70 rfl rfl ?_
      obtain ⟨x38, ex38, h39⟩ := g_bd h37; clear h37
      refine g_fR (ci := 8) (k := 1) X rfl il8 (by decide) tw704 (by decide) (fun _ _ _ => rfl) ex38 dX8_key_71 ?_
      clear ex38
      refine g_iload_n (j := 3) X dX8_key_74 rfl rfl ?_
      obtain ⟨x40, ex40, h41⟩ := g_bd h39; clear h39
      refine g_iald X ex40 dX8_key_75 ?_
      clear ex40
      obtain ⟨S42, eS42, h43⟩ := g_bd h41; clear h41
      refine g_iast X eS42 dX8_key_76 ?_
      clear eS42
      obtain ⟨x44, ex44, h45⟩ := g_let h43; clear h43
      refine g_iinc (j := 3) (v := x44) (lv' := [(3, .int x44), (0, va_rf (some a0)), (1, .int v1), (2, .int v2)]) X dX8_key_77 rfl (by rw [ex44]; rfl) (by decide) rfl ?_
      clear ex44
      refine g_goto (tgt := 55) X dX8_key_80 (by decide) ?_
      refine g_sub [1, 2, 3, 0] rfl ?_
      exact ih S42 a0 v1 v2 x44 h45
def f_X8_key_B41 (S0 : gS) (a0 : Nat) (v1 : Int32) (v2 : Int32) (t0 : Int32) (t1 : Option Nat) : Option (Int32 × gS) :=
  (fpI S0 8 0 t1 t0).bind fun S22 =>
  (fgI S22 8 0 (some a0)).bind fun x24 =>
  if x24 ≤ 0 then
    f_X8_key_L55 gFuel S22 a0 v1 v2 0
  else
    some (0, S22)
set_option maxRecDepth 100000 in
set_option maxHeartbeats 4000000 in
theorem w_X8_key_B41 {p : Program} {l : Launch} {e : Env} {s : State} {m : MethodId} {args : Array Value} {below : List Frame} {meth : Method} {c : Code} {D : gD} {S9 : gS} {res : Int32}  (hl : l.stackTraces = false) (X : gX D p l s m args meth c cX8_key 4 RX8) (hr : meth.sig.returnType = (some .int)) (S0 : gS) (a0 : Nat) (v1 : Int32) (v2 : Int32) (t0 : Int32) (t1 : Option Nat) (h0 : f_X8_key_B41 S0 a0 v1 v2 t0 t1 = some (res, S9)) : gJ D p l e { frames := 1, cells := 0, slots := 0, locals := 21 } s m args below meth c (MQ below (gQ D (some (.int res)) S9) args s (0) (0) (gF D)) 4 (0) (0) S0 41 [(0, va_rf (some a0)), (1, .int v1), (2, .int v2)] [.int t0, va_rf t1] := by
  unfold f_X8_key_B41 at h0
  obtain ⟨S22, eS22, h23⟩ := g_bd h0; clear h0
  refine g_pI (ci := 8) (k := 0) X rfl il8 tyX8 tyX8_ok nmX8 (by decide) tw703 rfl (by decide) (fun _ _ _ => rfl) rfl eS22 dX8_key_41 ?_
  clear eS22
  refine g_aload_n (j := 0) X dX8_key_44 rfl rfl ?_
  obtain ⟨x24, ex24, h25⟩ := g_bd h23; clear h23
  refine g_fI (ci := 8) (k := 0) X rfl il8 (by decide) tw703 (by decide) (fun _ _ _ => rfl) ex24 dX8_key_45 ?_
  clear ex24
  refine g_if_le (tgt := 53) X dX8_key_48 (by decide) (fun c26 => ?_) (fun c26 => ?_)
  · have h27 := g_ip h25 c26; clear h25
    refine g_iconst X dX8_key_53 (v := 0) (by decide) ?_
    refine g_istore_n (i := 3) (lv' := [(3, .int 0), (0, va_rf (some a0)), (1, .int v1), (2, .int v2)]) X dX8_key_54 rfl (by decide) rfl ?_
    refine g_sub [1, 2, 3, 0] rfl ?_
    exact w_X8_key_L55 hl X hr gFuel S22 a0 v1 v2 0 h27
  · have h28 := g_in h25 c26; clear h25
    refine g_iconst X dX8_key_51 (v := 0) (by decide) ?_
    obtain ⟨rfl, rfl⟩ := g_end h28
    exact g_iret X hr (by decide) (by decide) dX8_key_52
def f_X8_key (S0 : gS) (a0 : Nat) (v1 : Int32) : Option (Int32 × gS) :=
  gDc S0 8 (some a0) fun a1 =>
  gBi (f_X8_use S0 a1) fun x5 S3 =>
  gBi (f_X8_isLog S3 v1) fun x8 S6 =>
  if x8 = 0 then
    f_X8_key_B41 S6 a0 v1 x5 1 (some a0)
  else
    if x5 ≤ 100 then
      (fgR S6 8 13 (some a0)).bind fun x15 =>
      (fI S6 10 x15 v1).bind fun x17 =>
      if x17 ≤ 0 then
        f_X8_key_B41 S6 a0 v1 x5 0 (some a0)
      else
        f_X8_key_B41 S6 a0 v1 x5 3 (some a0)
    else
      f_X8_key_B41 S6 a0 v1 x5 2 (some a0)
set_option maxRecDepth 100000 in
set_option maxHeartbeats 4000000 in
theorem c_X8_key {l : Launch} (hl : l.stackTraces = false) (D : gD)  {S0 S9 : gS} {a0 : Nat} {v1 : Int32} {res : Int32} (h0 : f_X8_key S0 a0 v1 = some (res, S9)) : Met l yX8_key (gws yX8_key cX8_key 4 (some .int)) { frames := 1, cells := 0, slots := 0, locals := 21 } (gPc D S0 [.ref a0, .int v1]) (gQ D (some (.int res)) S9) (0) (0) (gF D) := by
  refine g_met (lv := [(0, va_rf (some a0)), (1, .int v1)]) hl (by decide) (Nat.le_of_ble_eq_true rfl) rfl (fun p e s m args below meth c X hr hn => ?_)
  have X : gX D p l s m args meth c cX8_key 4 RX8 := X
  unfold f_X8_key at h0
  refine g_aload_n (j := 0) X dX8_key_0 rfl rfl ?_
  obtain ⟨a1, ea1, ka1, h2⟩ := g_dc h0; clear h0
  obtain ⟨x5, S3, eS3, h4⟩ := g_bi h2; clear h2
  refine g_cV (n := 0) (As := []) X (c_X8_use hl D eS3) tw784 tw785 tw15 tw51 tw786 (by decide +kernel) rfl rfl ⟨Nat.le_of_ble_eq_true rfl, Nat.le_of_ble_eq_true rfl⟩ (ci := 8) rfl (by decide) ea1 ka1 rfl rfl (Nat.le_of_ble_eq_true rfl) dX8_key_1 ⟨(by decide), (by decide)⟩ ?_
  clear eS3 ea1 ka1
  refine g_istore_n (i := 2) (lv' := [(2, .int x5), (0, va_rf (some a0)), (1, .int v1)]) X dX8_key_4 rfl (by decide) rfl ?_
  refine g_aload_n (j := 1) X dX8_key_5 rfl rfl ?_
  refine g_iload_n (j := 2) X dX8_key_6 rfl rfl ?_
  obtain ⟨x8, S6, eS6, h7⟩ := g_bi h4; clear h4
  refine g_cS (n := 1) (As := [.int v1]) X (c_X8_isLog hl D eS6) tw787 tw788 tw51 tw789 (by decide +kernel) rfl rfl ⟨Nat.le_of_ble_eq_true rfl, Nat.le_of_ble_eq_true rfl⟩ rfl rfl (Nat.le_of_ble_eq_true rfl) dX8_key_7 ⟨(by decide), (by decide)⟩ ?_
  clear eS6
  refine g_if_ne (tgt := 17) X dX8_key_10 (by decide) (fun c9 => ?_) (fun c9 => ?_)
  · have h10 := g_in h7 c9; clear h7
    refine g_iload_n (j := 0) X dX8_key_17 rfl rfl ?_
    refine g_bipush X dX8_key_18 (v := 100) (by decide) ?_
    refine g_icmp_le (tgt := 27) X dX8_key_20 (by decide) (fun c12 => ?_) (fun c12 => ?_)
    · have h13 := g_ip h10 c12; clear h10
      refine g_aload_n (j := 1) X dX8_key_27 rfl rfl ?_
      obtain ⟨x15, ex15, h16⟩ := g_bd h13; clear h13
      refine g_fR (ci := 8) (k := 13) X rfl il8 (by decide) tw716 (by decide) (fun _ _ _ => rfl) ex15 dX8_key_28 ?_
      clear ex15
      refine g_iload_n (j := 2) X dX8_key_31 rfl rfl ?_
      obtain ⟨x17, ex17, h18⟩ := g_bd h16; clear h16
      refine g_iald X ex17 dX8_key_32 ?_
      clear ex17
      refine g_if_le (tgt := 40) X dX8_key_33 (by decide) (fun c19 => ?_) (fun c19 => ?_)
      · have h20 := g_ip h18 c19; clear h18
        refine g_iconst X dX8_key_40 (v := 0) (by decide) ?_
        refine g_sub [1, 2, 0] rfl ?_
        exact w_X8_key_B41 hl X hr S6 a0 v1 x5 0 (some a0) h20
      · have h21 := g_in h18 c19; clear h18
        refine g_iconst X dX8_key_36 (v := 3) (by decide) ?_
        refine g_goto (tgt := 41) X dX8_key_37 (by decide) ?_
        refine g_sub [1, 2, 0] rfl ?_
        exact w_X8_key_B41 hl X hr S6 a0 v1 x5 3 (some a0) h21
    · have h14 := g_in h10 c12; clear h10
      refine g_iconst X dX8_key_23 (v := 2) (by decide) ?_
      refine g_goto (tgt := 41) X dX8_key_24 (by decide) ?_
      refine g_sub [1, 2, 0] rfl ?_
      exact w_X8_key_B41 hl X hr S6 a0 v1 x5 2 (some a0) h14
  · have h11 := g_ip h7 c9; clear h7
    refine g_iconst X dX8_key_13 (v := 1) (by decide) ?_
    refine g_goto (tgt := 41) X dX8_key_14 (by decide) ?_
    refine g_sub [1, 2, 0] rfl ?_
    exact w_X8_key_B41 hl X hr S6 a0 v1 x5 1 (some a0) h11
def f_X8_isEntry_L19 : Nat → gS → Nat → Int32 → Int32 → Int32 → Int32 → Option (Int32 × gS)
  | 0, _, _, _, _, _, _ => none
  | k + 1, S0, a0, v1, v2, v3, v4 =>
    if v2 ≤ v4 then
      if v3 = 0 ∨ v3 = 1 then
        some (v3, S0)
      else none
    else
      if v3 = 0 then
        if v3 = 0 ∨ v3 = 1 then
          some (v3, S0)
        else none
      else
        (fgR S0 8 7 (some a0)).bind fun x18 =>
        (fI S0 10 x18 ((120 * v1) + v4)).bind fun x20 =>
        (fgR S0 8 1 (some a0)).bind fun x22 =>
        (fI S0 10 x22 v4).bind fun x24 =>
        if x20 = x24 then
          gLet (v4 + 1) fun x31 =>
          f_X8_isEntry_L19 k S0 a0 v1 v2 1 x31
        else
          gLet (v4 + 1) fun x29 =>
          f_X8_isEntry_L19 k S0 a0 v1 v2 0 x29
set_option maxRecDepth 100000 in
set_option maxHeartbeats 4000000 in
theorem w_X8_isEntry_L19 {p : Program} {l : Launch} {e : Env} {s : State} {m : MethodId} {args : Array Value} {below : List Frame} {meth : Method} {c : Code} {D : gD} {S9 : gS} {res : Int32}  (hl : l.stackTraces = false) (X : gX D p l s m args meth c cX8_isEntry 5 RX8) (hr : meth.sig.returnType = (some .boolean)) : ∀ (k : Nat) (S0 : gS) (a0 : Nat) (v1 : Int32) (v2 : Int32) (v3 : Int32) (v4 : Int32), f_X8_isEntry_L19 k S0 a0 v1 v2 v3 v4 = some (res, S9) → gJ D p l e { frames := 0, cells := 0, slots := 0, locals := 0 } s m args below meth c (MQ below (gQ D (some (.int res)) S9) args s (0) (0) (gF D)) 5 (0) (0) S0 19 [(0, va_rf (some a0)), (1, .int v1), (2, .int v2), (3, .int v3), (4, .int v4)] [] := by
  intro k
  induction k with
  | zero => intro S0 a0 v1 v2 v3 v4 h0; cases h0
  | succ k ih =>
    intro S0 a0 v1 v2 v3 v4 h0
    have h0 := h0
    unfold f_X8_isEntry_L19 at h0
    refine g_iload (j := 4) X dX8_isEntry_19 rfl ?_
    refine g_iload_n (j := 2) X dX8_isEntry_21 rfl rfl ?_
    refine g_icmp_ge (tgt := 63) X dX8_isEntry_22 (by decide) (fun c8 => ?_) (fun c8 => ?_)
    · have h9 := g_ip h0 c8; clear h0
      refine g_iload_n (j := 3) X dX8_isEntry_63 rfl rfl ?_
      obtain ⟨c11, h12⟩ := g_if h9; clear h9
      obtain ⟨rfl, rfl⟩ := g_end h12
      exact g_zret X hr c11 (by decide) (by decide) dX8_isEntry_64
    · have h10 := g_in h0 c8; clear h0
      refine g_iload_n (j := 3) X dX8_isEntry_25 rfl rfl ?_
      refine g_if_eq (tgt := 63) X dX8_isEntry_26 (by decide) (fun c13 => ?_) (fun c13 => ?_)
      · have h14 := g_ip h10 c13; clear h10
        refine g_iload_n (j := 3) X dX8_isEntry_63 rfl rfl ?_
        obtain ⟨c16, h17⟩ := g_if h14; clear h14
        obtain ⟨rfl, rfl⟩ := g_end h17
        exact g_zret X hr c16 (by decide) (by decide) dX8_isEntry_64
      · have h15 := g_in h10 c13; clear h10
        refine g_aload_n (j := 0) X dX8_isEntry_29 rfl rfl ?_
        obtain ⟨x18, ex18, h19⟩ := g_bd h15; clear h15
        refine g_fR (ci := 8) (k := 7) X rfl il8 (by decide) tw710 (by decide) (fun _ _ _ => rfl) ex18 dX8_isEntry_30 ?_
        clear ex18
        refine g_bipush X dX8_isEntry_33 (v := 120) (by decide) ?_
        refine g_iload_n (j := 1) X dX8_isEntry_35 rfl rfl ?_
        refine g_imul X dX8_isEntry_36 ?_
        refine g_iload (j := 4) X dX8_isEntry_37 rfl ?_
        refine g_iadd X dX8_isEntry_39 ?_
        obtain ⟨x20, ex20, h21⟩ := g_bd h19; clear h19
        refine g_iald X ex20 dX8_isEntry_40 ?_
        clear ex20
        refine g_aload_n (j := 0) X dX8_isEntry_41 rfl rfl ?_
        obtain ⟨x22, ex22, h23⟩ := g_bd h21; clear h21
        refine g_fR (ci := 8) (k := 1) X rfl il8 (by decide) tw704 (by decide) (fun _ _ _ => rfl) ex22 dX8_isEntry_42 ?_
        clear ex22
        refine g_iload (j := 4) X dX8_isEntry_45 rfl ?_
        obtain ⟨x24, ex24, h25⟩ := g_bd h23; clear h23
        refine g_iald X ex24 dX8_isEntry_47 ?_
        clear ex24
        refine g_icmp_ne (tgt := 55) X dX8_isEntry_48 (by decide) (fun c26 => ?_) (fun c26 => ?_)
        · have h27 := g_in h25 c26; clear h25
          refine g_iconst X dX8_isEntry_55 (v := 0) (by decide) ?_
          refine g_istore_n (i := 3) (lv' := [(3, .int 0), (0, va_rf (some a0)), (1, .int v1), (2, .int v2), (4, .int v4)]) X dX8_isEntry_56 rfl (by decide) rfl ?_
          obtain ⟨x29, ex29, h30⟩ := g_let h27; clear h27
          refine g_iinc (j := 4) (v := x29) (lv' := [(4, .int x29), (3, .int 0), (0, va_rf (some a0)), (1, .int v1), (2, .int v2)]) X dX8_isEntry_57 rfl (by rw [ex29]; rfl) (by decide) rfl ?_
          clear ex29
          refine g_goto (tgt := 19) X dX8_isEntry_60 (by decide) ?_
          refine g_sub [2, 3, 4, 1, 0] rfl ?_
          exact ih S0 a0 v1 v2 0 x29 h30
        · have h28 := g_ip h25 c26; clear h25
          refine g_iconst X dX8_isEntry_51 (v := 1) (by decide) ?_
          refine g_goto (tgt := 56) X dX8_isEntry_52 (by decide) ?_
          refine g_istore_n (i := 3) (lv' := [(3, .int 1), (0, va_rf (some a0)), (1, .int v1), (2, .int v2), (4, .int v4)]) X dX8_isEntry_56 rfl (by decide) rfl ?_
          obtain ⟨x31, ex31, h32⟩ := g_let h28; clear h28
          refine g_iinc (j := 4) (v := x31) (lv' := [(4, .int x31), (3, .int 1), (0, va_rf (some a0)), (1, .int v1), (2, .int v2)]) X dX8_isEntry_57 rfl (by rw [ex31]; rfl) (by decide) rfl ?_
          clear ex31
          refine g_goto (tgt := 19) X dX8_isEntry_60 (by decide) ?_
          refine g_sub [2, 3, 4, 1, 0] rfl ?_
          exact ih S0 a0 v1 v2 1 x31 h32
def f_X8_isEntry_B15 (S0 : gS) (a0 : Nat) (v1 : Int32) (v2 : Int32) (t0 : Int32) : Option (Int32 × gS) :=
  f_X8_isEntry_L19 gFuel S0 a0 v1 v2 t0 0
set_option maxRecDepth 100000 in
set_option maxHeartbeats 4000000 in
theorem w_X8_isEntry_B15 {p : Program} {l : Launch} {e : Env} {s : State} {m : MethodId} {args : Array Value} {below : List Frame} {meth : Method} {c : Code} {D : gD} {S9 : gS} {res : Int32}  (hl : l.stackTraces = false) (X : gX D p l s m args meth c cX8_isEntry 5 RX8) (hr : meth.sig.returnType = (some .boolean)) (S0 : gS) (a0 : Nat) (v1 : Int32) (v2 : Int32) (t0 : Int32) (h0 : f_X8_isEntry_B15 S0 a0 v1 v2 t0 = some (res, S9)) : gJ D p l e { frames := 0, cells := 0, slots := 0, locals := 0 } s m args below meth c (MQ below (gQ D (some (.int res)) S9) args s (0) (0) (gF D)) 5 (0) (0) S0 15 [(0, va_rf (some a0)), (1, .int v1), (2, .int v2)] [.int t0] := by
  unfold f_X8_isEntry_B15 at h0
  refine g_istore_n (i := 3) (lv' := [(3, .int t0), (0, va_rf (some a0)), (1, .int v1), (2, .int v2)]) X dX8_isEntry_15 rfl (by decide) rfl ?_
  refine g_iconst X dX8_isEntry_16 (v := 0) (by decide) ?_
  refine g_istore (i := 4) (lv' := [(4, .int 0), (3, .int t0), (0, va_rf (some a0)), (1, .int v1), (2, .int v2)]) X dX8_isEntry_17 (by decide) rfl ?_
  refine g_sub [2, 3, 4, 1, 0] rfl ?_
  exact w_X8_isEntry_L19 hl X hr gFuel S0 a0 v1 v2 t0 0 h0
def f_X8_isEntry (S0 : gS) (a0 : Nat) (v1 : Int32) (v2 : Int32) : Option (Int32 × gS) :=
  (fgR S0 8 8 (some a0)).bind fun x1 =>
  (fI S0 10 x1 v1).bind fun x3 =>
  if x3 = v2 then
    f_X8_isEntry_B15 S0 a0 v1 v2 1
  else
    f_X8_isEntry_B15 S0 a0 v1 v2 0
set_option maxRecDepth 100000 in
set_option maxHeartbeats 4000000 in
theorem c_X8_isEntry {l : Launch} (hl : l.stackTraces = false) (D : gD)  {S0 S9 : gS} {a0 : Nat} {v1 : Int32} {v2 : Int32} {res : Int32} (h0 : f_X8_isEntry S0 a0 v1 v2 = some (res, S9)) : Met l yX8_isEntry (gws yX8_isEntry cX8_isEntry 5 (some .boolean)) { frames := 0, cells := 0, slots := 0, locals := 0 } (gPc D S0 [.ref a0, .int v1, .int v2]) (gQ D (some (.int res)) S9) (0) (0) (gF D) := by
  refine g_met (lv := [(0, va_rf (some a0)), (1, .int v1), (2, .int v2)]) hl (by decide) (Nat.le_of_ble_eq_true rfl) rfl (fun p e s m args below meth c X hr hn => ?_)
  have X : gX D p l s m args meth c cX8_isEntry 5 RX8 := X
  unfold f_X8_isEntry at h0
  refine g_aload_n (j := 0) X dX8_isEntry_0 rfl rfl ?_
  obtain ⟨x1, ex1, h2⟩ := g_bd h0; clear h0
  refine g_fR (ci := 8) (k := 8) X rfl il8 (by decide) tw711 (by decide) (fun _ _ _ => rfl) ex1 dX8_isEntry_1 ?_
  clear ex1
  refine g_iload_n (j := 1) X dX8_isEntry_4 rfl rfl ?_
  obtain ⟨x3, ex3, h4⟩ := g_bd h2; clear h2
  refine g_iald X ex3 dX8_isEntry_5 ?_
  clear ex3
  refine g_iload_n (j := 2) X dX8_isEntry_6 rfl rfl ?_
  refine g_icmp_ne (tgt := 14) X dX8_isEntry_7 (by decide) (fun c5 => ?_) (fun c5 => ?_)
  · have h6 := g_in h4 c5; clear h4
    refine g_iconst X dX8_isEntry_14 (v := 0) (by decide) ?_
    refine g_sub [0, 1, 2] rfl ?_
    exact w_X8_isEntry_B15 hl X hr S0 a0 v1 v2 0 h6
  · have h7 := g_ip h4 c5; clear h4
    refine g_iconst X dX8_isEntry_10 (v := 1) (by decide) ?_
    refine g_goto (tgt := 15) X dX8_isEntry_11 (by decide) ?_
    refine g_sub [0, 1, 2] rfl ?_
    exact w_X8_isEntry_B15 hl X hr S0 a0 v1 v2 1 h7
