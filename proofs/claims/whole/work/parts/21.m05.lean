def f_X2_goToLeaf_L8 : Nat → gS → Nat → Int64 → Int32 → Option gS
  | 0, _, _, _, _ => none
  | k + 1, S0, a0, v1, v5 =>
    if 64 ≤ v5 then
      some S0
    else
      (fgL S0 2 5 (some a0)).bind fun x8 =>
      (fgL S0 2 4 (some a0)).bind fun x10 =>
      if (lg_cmp (x8 - x10) 1) ≤ 0 then
        some S0
      else
        (fgL S0 2 4 (some a0)).bind fun x15 =>
        (fgL S0 2 5 (some a0)).bind fun x17 =>
        (fgL S0 2 4 (some a0)).bind fun x19 =>
        gBi (f_X2_frontOf S0 (x17 - x19)) fun x23 S21 =>
        gLet (x15 + x23) fun x24 =>
        if 0 ≤ (lg_cmp v1 x24) then
          gDc S21 2 (some a0) fun a29 =>
          (f_X2_passFront S21 a29 x24).bind fun S31 =>
          gLet (v5 + 1) fun x33 =>
          f_X2_goToLeaf_L8 k S31 a0 v1 x33
        else
          gDc S21 2 (some a0) fun a35 =>
          (f_X2_passBack S21 a35 x24).bind fun S37 =>
          gLet (v5 + 1) fun x39 =>
          f_X2_goToLeaf_L8 k S37 a0 v1 x39
set_option maxRecDepth 100000 in
set_option maxHeartbeats 4000000 in
theorem w_X2_goToLeaf_L8 {p : Program} {l : Launch} {e : Env} {s : State} {m : MethodId} {args : Array Value} {below : List Frame} {meth : Method} {c : Code} {D : gD} {S9 : gS}  (hl : l.stackTraces = false) (X : gX D p l s m args meth c cX2_goToLeaf 8 RX2) (hr : meth.sig.returnType = none) : ∀ (k : Nat) (S0 : gS) (a0 : Nat) (v1 : Int64) (v5 : Int32), f_X2_goToLeaf_L8 k S0 a0 v1 v5 = some S9 → gJ D p l e { frames := 2, cells := 0, slots := 0, locals := 47 } s m args below meth c (MQ below (gQ D none S9) args s (0) (0) (gF D)) 8 (0) (0) S0 8 [(0, va_rf (some a0)), (1, .long v1), (5, .int v5)] [] := by
  intro k
  induction k with
  | zero => intro S0 a0 v1 v5 h0; cases h0
  | succ k ih =>
    intro S0 a0 v1 v5 h0
    have h0 := h0
    unfold f_X2_goToLeaf_L8 at h0
    refine g_iload (j := 2) X dX2_goToLeaf_8 rfl ?_
    refine g_bipush X dX2_goToLeaf_10 (v := 64) (by decide) ?_
    refine g_icmp_ge (tgt := 76) X dX2_goToLeaf_12 (by decide) (fun c5 => ?_) (fun c5 => ?_)
    · have h6 := g_ip h0 c5; clear h0
      cases h6
      exact g_vret X hr (by decide) (by decide) dX2_goToLeaf_76
    · have h7 := g_in h0 c5; clear h0
      refine g_aload_n (j := 0) X dX2_goToLeaf_15 rfl rfl ?_
      obtain ⟨x8, ex8, h9⟩ := g_bd h7; clear h7
      refine g_fL (ci := 2) (k := 5) X rfl il2 (by decide) tw160 (by decide) (fun _ _ _ => rfl) ex8 dX2_goToLeaf_16 ?_
      clear ex8
      refine g_aload_n (j := 0) X dX2_goToLeaf_19 rfl rfl ?_
      obtain ⟨x10, ex10, h11⟩ := g_bd h9; clear h9
      refine g_fL (ci := 2) (k := 4) X rfl il2 (by decide) tw158 (by decide) (fun _ _ _ => rfl) ex10 dX2_goToLeaf_20 ?_
      clear ex10
      refine g_lsub X dX2_goToLeaf_23 ?_
      refine g_lconst X dX2_goToLeaf_24 (v := 1) (by decide) ?_
      refine g_lcmp X dX2_goToLeaf_25 ?_
      refine g_if_le (tgt := 76) X dX2_goToLeaf_26 (by decide) (fun c12 => ?_) (fun c12 => ?_)
      · have h13 := g_ip h11 c12; clear h11
        cases h13
        exact g_vret X hr (by decide) (by decide) dX2_goToLeaf_76
      · have h14 := g_in h11 c12; clear h11
        refine g_aload_n (j := 0) X dX2_goToLeaf_29 rfl rfl ?_
        obtain ⟨x15, ex15, h16⟩ := g_bd h14; clear h14
        refine g_fL (ci := 2) (k := 4) X rfl il2 (by decide) tw158 (by decide) (fun _ _ _ => rfl) ex15 dX2_goToLeaf_30 ?_
        clear ex15
        refine g_aload_n (j := 0) X dX2_goToLeaf_33 rfl rfl ?_
        obtain ⟨x17, ex17, h18⟩ := g_bd h16; clear h16
        refine g_fL (ci := 2) (k := 5) X rfl il2 (by decide) tw160 (by decide) (fun _ _ _ => rfl) ex17 dX2_goToLeaf_34 ?_
        clear ex17
        refine g_aload_n (j := 0) X dX2_goToLeaf_37 rfl rfl ?_
        obtain ⟨x19, ex19, h20⟩ := g_bd h18; clear h18
        refine g_fL (ci := 2) (k := 4) X rfl il2 (by decide) tw158 (by decide) (fun _ _ _ => rfl) ex19 dX2_goToLeaf_38 ?_
        clear ex19
        refine g_lsub X dX2_goToLeaf_41 ?_
        obtain ⟨x23, S21, eS21, h22⟩ := g_bi h20; clear h20
        refine g_cS (n := 1) (As := [.long (x17 - x19)]) X (c_X2_frontOf hl D eS21) tw260 tw261 tw49 tw262 (by decide +kernel) rfl rfl ⟨Nat.le_of_ble_eq_true rfl, Nat.le_of_ble_eq_true rfl⟩ rfl rfl (Nat.le_of_ble_eq_true rfl) dX2_goToLeaf_42 ⟨(by decide), (by decide)⟩ ?_
        clear eS21
        refine g_ladd X dX2_goToLeaf_45 ?_
        obtain ⟨x24, ex24, h25⟩ := g_let h22; clear h22; rw [← ex24]; clear ex24
        refine g_lstore (i := 6) (lv' := [(6, .long x24), (0, va_rf (some a0)), (1, .long v1), (5, .int v5)]) X dX2_goToLeaf_46 (by decide) rfl ?_
        refine g_lload_n (j := 2) X dX2_goToLeaf_48 rfl rfl ?_
        refine g_lload (j := 0) X dX2_goToLeaf_49 rfl ?_
        refine g_lcmp X dX2_goToLeaf_51 ?_
        refine g_if_ge (tgt := 64) X dX2_goToLeaf_52 (by decide) (fun c26 => ?_) (fun c26 => ?_)
        · have h27 := g_ip h25 c26; clear h25
          refine g_aload_n (j := 1) X dX2_goToLeaf_64 rfl rfl ?_
          refine g_lload (j := 0) X dX2_goToLeaf_65 rfl ?_
          obtain ⟨a29, ea29, ka29, h30⟩ := g_dc h27; clear h27
          obtain ⟨S31, eS31, h32⟩ := g_bd h30; clear h30
          refine g_cV (n := 1) (As := [.long x24]) X (c_X2_passFront hl D eS31) tw269 tw270 tw3 tw49 tw271 (by decide +kernel) rfl rfl ⟨Nat.le_of_ble_eq_true rfl, Nat.le_of_ble_eq_true rfl⟩ (ci := 2) rfl (by decide) ea29 ka29 rfl rfl (Nat.le_of_ble_eq_true rfl) dX2_goToLeaf_67 ⟨(by decide), (by decide)⟩ ?_
          clear eS31 ea29 ka29
          obtain ⟨x33, ex33, h34⟩ := g_let h32; clear h32
          refine g_iinc (j := 3) (v := x33) (lv' := [(5, .int x33), (6, .long x24), (0, va_rf (some a0)), (1, .long v1)]) X dX2_goToLeaf_70 rfl (by rw [ex33]; rfl) (by decide) rfl ?_
          clear ex33
          refine g_goto (tgt := 8) X dX2_goToLeaf_73 (by decide) ?_
          refine g_sub [2, 3, 0] rfl ?_
          exact ih S31 a0 v1 x33 h34
        · have h28 := g_in h25 c26; clear h25
          refine g_aload_n (j := 1) X dX2_goToLeaf_55 rfl rfl ?_
          refine g_lload (j := 0) X dX2_goToLeaf_56 rfl ?_
          obtain ⟨a35, ea35, ka35, h36⟩ := g_dc h28; clear h28
          obtain ⟨S37, eS37, h38⟩ := g_bd h36; clear h36
          refine g_cV (n := 1) (As := [.long x24]) X (c_X2_passBack hl D eS37) tw263 tw264 tw1 tw49 tw265 (by decide +kernel) rfl rfl ⟨Nat.le_of_ble_eq_true rfl, Nat.le_of_ble_eq_true rfl⟩ (ci := 2) rfl (by decide) ea35 ka35 rfl rfl (Nat.le_of_ble_eq_true rfl) dX2_goToLeaf_58 ⟨(by decide), (by decide)⟩ ?_
          clear eS37 ea35 ka35
          refine g_goto (tgt := 70) X dX2_goToLeaf_61 (by decide) ?_
          obtain ⟨x39, ex39, h40⟩ := g_let h38; clear h38
          refine g_iinc (j := 3) (v := x39) (lv' := [(5, .int x39), (6, .long x24), (0, va_rf (some a0)), (1, .long v1)]) X dX2_goToLeaf_70 rfl (by rw [ex39]; rfl) (by decide) rfl ?_
          clear ex39
          refine g_goto (tgt := 8) X dX2_goToLeaf_73 (by decide) ?_
          refine g_sub [2, 3, 0] rfl ?_
          exact ih S37 a0 v1 x39 h40
def f_X2_goToLeaf (S0 : gS) (a0 : Nat) (v1 : Int64) (v3 : Int64) : Option gS :=
  gDc S0 2 (some a0) fun a1 =>
  (f_X2_begin S0 a1 v3).bind fun S3 =>
  f_X2_goToLeaf_L8 gFuel S3 a0 v1 0
set_option maxRecDepth 100000 in
set_option maxHeartbeats 4000000 in
theorem c_X2_goToLeaf {l : Launch} (hl : l.stackTraces = false) (D : gD)  {S0 S9 : gS} {a0 : Nat} {v1 : Int64} {v3 : Int64} (h0 : f_X2_goToLeaf S0 a0 v1 v3 = some S9) : Met l yX2_goToLeaf (gws yX2_goToLeaf cX2_goToLeaf 8 none) { frames := 2, cells := 0, slots := 0, locals := 47 } (gPc D S0 [.ref a0, .long v1, .long v3]) (gQ D none S9) (0) (0) (gF D) := by
  refine g_met (lv := [(0, va_rf (some a0)), (1, .long v1), (3, .long v3)]) hl (by decide) (Nat.le_of_ble_eq_true rfl) rfl (fun p e s m args below meth c X hr hn => ?_)
  have X : gX D p l s m args meth c cX2_goToLeaf 8 RX2 := X
  unfold f_X2_goToLeaf at h0
  refine g_aload_n (j := 0) X dX2_goToLeaf_0 rfl rfl ?_
  refine g_lload_n (j := 2) X dX2_goToLeaf_1 rfl rfl ?_
  obtain ⟨a1, ea1, ka1, h2⟩ := g_dc h0; clear h0
  obtain ⟨S3, eS3, h4⟩ := g_bd h2; clear h2
  refine g_cV (n := 1) (As := [.long v3]) X (c_X2_begin hl D eS3) tw257 tw258 tw0 tw49 tw259 (by decide +kernel) rfl rfl ⟨Nat.le_of_ble_eq_true rfl, Nat.le_of_ble_eq_true rfl⟩ (ci := 2) rfl (by decide) ea1 ka1 rfl rfl (Nat.le_of_ble_eq_true rfl) dX2_goToLeaf_2 ⟨(by decide), (by decide)⟩ ?_
  clear eS3 ea1 ka1
  refine g_iconst X dX2_goToLeaf_5 (v := 0) (by decide) ?_
  refine g_istore (i := 5) (lv' := [(5, .int 0), (0, va_rf (some a0)), (1, .long v1), (3, .long v3)]) X dX2_goToLeaf_6 (by decide) rfl ?_
  refine g_sub [1, 2, 0] rfl ?_
  exact w_X2_goToLeaf_L8 hl X hr gFuel S3 a0 v1 0 h4
def f_X2_goToSize_L8 : Nat → gS → Nat → Int64 → Int32 → Option gS
  | 0, _, _, _, _ => none
  | k + 1, S0, a0, v1, v5 =>
    if 64 ≤ v5 then
      some S0
    else
      (fgL S0 2 5 (some a0)).bind fun x8 =>
      if (lg_cmp x8 v1) ≤ 0 then
        some S0
      else
        (fgL S0 2 4 (some a0)).bind fun x13 =>
        (fgL S0 2 5 (some a0)).bind fun x15 =>
        (fgL S0 2 4 (some a0)).bind fun x17 =>
        gBi (f_X2_frontOf S0 (x15 - x17)) fun x21 S19 =>
        gLet (x13 + x21) fun x22 =>
        if 0 < (lg_cmp v1 x22) then
          gDc S19 2 (some a0) fun a27 =>
          (f_X2_passFront S19 a27 x22).bind fun S29 =>
          (fpZ S29 2 6 (some a0) 1).bind fun S31 =>
          gLet (v5 + 1) fun x33 =>
          f_X2_goToSize_L8 k S31 a0 v1 x33
        else
          gDc S19 2 (some a0) fun a35 =>
          (f_X2_passBack S19 a35 x22).bind fun S37 =>
          gLet (v5 + 1) fun x39 =>
          f_X2_goToSize_L8 k S37 a0 v1 x39
set_option maxRecDepth 100000 in
set_option maxHeartbeats 4000000 in
theorem w_X2_goToSize_L8 {p : Program} {l : Launch} {e : Env} {s : State} {m : MethodId} {args : Array Value} {below : List Frame} {meth : Method} {c : Code} {D : gD} {S9 : gS}  (hl : l.stackTraces = false) (X : gX D p l s m args meth c cX2_goToSize 8 RX2) (hr : meth.sig.returnType = none) : ∀ (k : Nat) (S0 : gS) (a0 : Nat) (v1 : Int64) (v5 : Int32), f_X2_goToSize_L8 k S0 a0 v1 v5 = some S9 → gJ D p l e { frames := 2, cells := 0, slots := 0, locals := 47 } s m args below meth c (MQ below (gQ D none S9) args s (0) (0) (gF D)) 8 (0) (0) S0 8 [(0, va_rf (some a0)), (1, .long v1), (5, .int v5)] [] := by
  intro k
  induction k with
  | zero => intro S0 a0 v1 v5 h0; cases h0
  | succ k ih =>
    intro S0 a0 v1 v5 h0
    have h0 := h0
    unfold f_X2_goToSize_L8 at h0
    refine g_iload (j := 2) X dX2_goToSize_8 rfl ?_
    refine g_bipush X dX2_goToSize_10 (v := 64) (by decide) ?_
    refine g_icmp_ge (tgt := 76) X dX2_goToSize_12 (by decide) (fun c5 => ?_) (fun c5 => ?_)
    · have h6 := g_ip h0 c5; clear h0
      cases h6
      exact g_vret X hr (by decide) (by decide) dX2_goToSize_76
    · have h7 := g_in h0 c5; clear h0
      refine g_aload_n (j := 0) X dX2_goToSize_15 rfl rfl ?_
      obtain ⟨x8, ex8, h9⟩ := g_bd h7; clear h7
      refine g_fL (ci := 2) (k := 5) X rfl il2 (by decide) tw160 (by decide) (fun _ _ _ => rfl) ex8 dX2_goToSize_16 ?_
      clear ex8
      refine g_lload_n (j := 1) X dX2_goToSize_19 rfl rfl ?_
      refine g_lcmp X dX2_goToSize_20 ?_
      refine g_if_le (tgt := 76) X dX2_goToSize_21 (by decide) (fun c10 => ?_) (fun c10 => ?_)
      · have h11 := g_ip h9 c10; clear h9
        cases h11
        exact g_vret X hr (by decide) (by decide) dX2_goToSize_76
      · have h12 := g_in h9 c10; clear h9
        refine g_aload_n (j := 0) X dX2_goToSize_24 rfl rfl ?_
        obtain ⟨x13, ex13, h14⟩ := g_bd h12; clear h12
        refine g_fL (ci := 2) (k := 4) X rfl il2 (by decide) tw158 (by decide) (fun _ _ _ => rfl) ex13 dX2_goToSize_25 ?_
        clear ex13
        refine g_aload_n (j := 0) X dX2_goToSize_28 rfl rfl ?_
        obtain ⟨x15, ex15, h16⟩ := g_bd h14; clear h14
        refine g_fL (ci := 2) (k := 5) X rfl il2 (by decide) tw160 (by decide) (fun _ _ _ => rfl) ex15 dX2_goToSize_29 ?_
        clear ex15
        refine g_aload_n (j := 0) X dX2_goToSize_32 rfl rfl ?_
        obtain ⟨x17, ex17, h18⟩ := g_bd h16; clear h16
        refine g_fL (ci := 2) (k := 4) X rfl il2 (by decide) tw158 (by decide) (fun _ _ _ => rfl) ex17 dX2_goToSize_33 ?_
        clear ex17
        refine g_lsub X dX2_goToSize_36 ?_
        obtain ⟨x21, S19, eS19, h20⟩ := g_bi h18; clear h18
        refine g_cS (n := 1) (As := [.long (x15 - x17)]) X (c_X2_frontOf hl D eS19) tw260 tw261 tw49 tw262 (by decide +kernel) rfl rfl ⟨Nat.le_of_ble_eq_true rfl, Nat.le_of_ble_eq_true rfl⟩ rfl rfl (Nat.le_of_ble_eq_true rfl) dX2_goToSize_37 ⟨(by decide), (by decide)⟩ ?_
        clear eS19
        refine g_ladd X dX2_goToSize_40 ?_
        obtain ⟨x22, ex22, h23⟩ := g_let h20; clear h20; rw [← ex22]; clear ex22
        refine g_lstore (i := 6) (lv' := [(6, .long x22), (0, va_rf (some a0)), (1, .long v1), (5, .int v5)]) X dX2_goToSize_41 (by decide) rfl ?_
        refine g_lload_n (j := 2) X dX2_goToSize_43 rfl rfl ?_
        refine g_lload (j := 0) X dX2_goToSize_44 rfl ?_
        refine g_lcmp X dX2_goToSize_46 ?_
        refine g_if_gt (tgt := 59) X dX2_goToSize_47 (by decide) (fun c24 => ?_) (fun c24 => ?_)
        · have h25 := g_ip h23 c24; clear h23
          refine g_aload_n (j := 1) X dX2_goToSize_59 rfl rfl ?_
          refine g_lload (j := 0) X dX2_goToSize_60 rfl ?_
          obtain ⟨a27, ea27, ka27, h28⟩ := g_dc h25; clear h25
          obtain ⟨S29, eS29, h30⟩ := g_bd h28; clear h28
          refine g_cV (n := 1) (As := [.long x22]) X (c_X2_passFront hl D eS29) tw269 tw270 tw3 tw49 tw271 (by decide +kernel) rfl rfl ⟨Nat.le_of_ble_eq_true rfl, Nat.le_of_ble_eq_true rfl⟩ (ci := 2) rfl (by decide) ea27 ka27 rfl rfl (Nat.le_of_ble_eq_true rfl) dX2_goToSize_62 ⟨(by decide), (by decide)⟩ ?_
          clear eS29 ea27 ka27
          refine g_aload_n (j := 1) X dX2_goToSize_65 rfl rfl ?_
          refine g_iconst X dX2_goToSize_66 (v := 1) (by decide) ?_
          obtain ⟨S31, eS31, h32⟩ := g_bd h30; clear h30
          refine g_pZ (ci := 2) (k := 6) X rfl il2 tyX2 tyX2_ok nmX2 (by decide) tw162 rfl (by decide) (fun _ _ _ => rfl) rfl eS31 dX2_goToSize_67 ?_
          clear eS31
          obtain ⟨x33, ex33, h34⟩ := g_let h32; clear h32
          refine g_iinc (j := 3) (v := x33) (lv' := [(5, .int x33), (6, .long x22), (0, va_rf (some a0)), (1, .long v1)]) X dX2_goToSize_70 rfl (by rw [ex33]; rfl) (by decide) rfl ?_
          clear ex33
          refine g_goto (tgt := 8) X dX2_goToSize_73 (by decide) ?_
          refine g_sub [2, 3, 0] rfl ?_
          exact ih S31 a0 v1 x33 h34
        · have h26 := g_in h23 c24; clear h23
          refine g_aload_n (j := 1) X dX2_goToSize_50 rfl rfl ?_
          refine g_lload (j := 0) X dX2_goToSize_51 rfl ?_
          obtain ⟨a35, ea35, ka35, h36⟩ := g_dc h26; clear h26
          obtain ⟨S37, eS37, h38⟩ := g_bd h36; clear h36
          refine g_cV (n := 1) (As := [.long x22]) X (c_X2_passBack hl D eS37) tw263 tw264 tw1 tw49 tw265 (by decide +kernel) rfl rfl ⟨Nat.le_of_ble_eq_true rfl, Nat.le_of_ble_eq_true rfl⟩ (ci := 2) rfl (by decide) ea35 ka35 rfl rfl (Nat.le_of_ble_eq_true rfl) dX2_goToSize_53 ⟨(by decide), (by decide)⟩ ?_
          clear eS37 ea35 ka35
          refine g_goto (tgt := 70) X dX2_goToSize_56 (by decide) ?_
          obtain ⟨x39, ex39, h40⟩ := g_let h38; clear h38
          refine g_iinc (j := 3) (v := x39) (lv' := [(5, .int x39), (6, .long x22), (0, va_rf (some a0)), (1, .long v1)]) X dX2_goToSize_70 rfl (by rw [ex39]; rfl) (by decide) rfl ?_
          clear ex39
          refine g_goto (tgt := 8) X dX2_goToSize_73 (by decide) ?_
          refine g_sub [2, 3, 0] rfl ?_
          exact ih S37 a0 v1 x39 h40
def f_X2_goToSize (S0 : gS) (a0 : Nat) (v1 : Int64) (v3 : Int64) : Option gS :=
  gDc S0 2 (some a0) fun a1 =>
  (f_X2_begin S0 a1 v3).bind fun S3 =>
  f_X2_goToSize_L8 gFuel S3 a0 v1 0
set_option maxRecDepth 100000 in
set_option maxHeartbeats 4000000 in
theorem c_X2_goToSize {l : Launch} (hl : l.stackTraces = false) (D : gD)  {S0 S9 : gS} {a0 : Nat} {v1 : Int64} {v3 : Int64} (h0 : f_X2_goToSize S0 a0 v1 v3 = some S9) : Met l yX2_goToSize (gws yX2_goToSize cX2_goToSize 8 none) { frames := 2, cells := 0, slots := 0, locals := 47 } (gPc D S0 [.ref a0, .long v1, .long v3]) (gQ D none S9) (0) (0) (gF D) := by
  refine g_met (lv := [(0, va_rf (some a0)), (1, .long v1), (3, .long v3)]) hl (by decide) (Nat.le_of_ble_eq_true rfl) rfl (fun p e s m args below meth c X hr hn => ?_)
  have X : gX D p l s m args meth c cX2_goToSize 8 RX2 := X
  unfold f_X2_goToSize at h0
  refine g_aload_n (j := 0) X dX2_goToSize_0 rfl rfl ?_
  refine g_lload_n (j := 2) X dX2_goToSize_1 rfl rfl ?_
  obtain ⟨a1, ea1, ka1, h2⟩ := g_dc h0; clear h0
  obtain ⟨S3, eS3, h4⟩ := g_bd h2; clear h2
  refine g_cV (n := 1) (As := [.long v3]) X (c_X2_begin hl D eS3) tw257 tw258 tw0 tw49 tw259 (by decide +kernel) rfl rfl ⟨Nat.le_of_ble_eq_true rfl, Nat.le_of_ble_eq_true rfl⟩ (ci := 2) rfl (by decide) ea1 ka1 rfl rfl (Nat.le_of_ble_eq_true rfl) dX2_goToSize_2 ⟨(by decide), (by decide)⟩ ?_
  clear eS3 ea1 ka1
  refine g_iconst X dX2_goToSize_5 (v := 0) (by decide) ?_
  refine g_istore (i := 5) (lv' := [(5, .int 0), (0, va_rf (some a0)), (1, .long v1), (3, .long v3)]) X dX2_goToSize_6 (by decide) rfl ?_
  refine g_sub [1, 2, 0] rfl ?_
  exact w_X2_goToSize_L8 hl X hr gFuel S3 a0 v1 0 h4
def f_X5_init (S0 : gS) (a0 : Nat) (v1 : Option Nat) : Option gS :=
  (fpR S0 5 0 (some a0) v1).bind fun S1 =>
  some S1
set_option maxRecDepth 100000 in
set_option maxHeartbeats 4000000 in
theorem c_X5_init {l : Launch} (hl : l.stackTraces = false) (D : gD)  {S0 S9 : gS} {a0 : Nat} {v1 : Option Nat} (h0 : f_X5_init S0 a0 v1 = some S9) : Met l yX5_init (gws yX5_init cX5_init 2 none) { frames := 1, cells := 0, slots := 0, locals := 12 } (gPc D S0 [.ref a0, va_rf v1]) (gQ D none S9) (0) (0) (gF D) := by
  refine g_met (lv := [(0, va_rf (some a0)), (1, va_rf v1)]) hl (by decide) (by simp [lg_sl, g_rfc, g_ci, g_cj, g_cr]) (by simp [lv_args, g_rfc, g_ci, g_cj, g_cr]; try rfl) (fun p e s m args below meth c X hr hn => ?_)
  have X : gX D p l s m args meth c cX5_init 2 RX5 := X
  have hin : meth.name = "<init>" := hn
  unfold f_X5_init at h0
  refine g_aload_n (j := 0) X dX5_init_0 rfl rfl ?_
  refine g_obji X rfl tw77 tw70 tw71 dX5_init_1 (by decide) (Nat.le_of_ble_eq_true rfl) ?_
  refine g_aload_n (j := 0) X dX5_init_4 rfl rfl ?_
  refine g_aload_n (j := 1) X dX5_init_5 rfl rfl ?_
  obtain ⟨S1, eS1, h2⟩ := g_bd h0; clear h0
  refine g_pFa (ci := 5) (k := 0) X hin rfl il5 tyX5 tyX5_ok nmX5 (by decide) tw78 rfl rfl (by decide) (fun _ _ _ => rfl) rfl eS1 dX5_init_6 ?_
  clear eS1
  cases h2
  exact g_vret X hr (by decide) (by decide) dX5_init_9
def f_X5_useUp (S0 : gS) (a0 : Nat) : Option (Int32 × gS) :=
  (fgI S0 5 1 (some a0)).bind fun x1 =>
  (fpI S0 5 1 (some a0) 0).bind fun S3 =>
  some (x1, S3)
set_option maxRecDepth 100000 in
set_option maxHeartbeats 4000000 in
theorem c_X5_useUp {l : Launch} (hl : l.stackTraces = false) (D : gD)  {S0 S9 : gS} {a0 : Nat} {res : Int32} (h0 : f_X5_useUp S0 a0 = some (res, S9)) : Met l yX5_useUp (gws yX5_useUp cX5_useUp 2 (some .int)) { frames := 0, cells := 0, slots := 0, locals := 0 } (gPc D S0 [.ref a0]) (gQ D (some (.int res)) S9) (0) (0) (gF D) := by
  refine g_met (lv := [(0, va_rf (some a0))]) hl (by decide) (Nat.le_of_ble_eq_true rfl) rfl (fun p e s m args below meth c X hr hn => ?_)
  have X : gX D p l s m args meth c cX5_useUp 2 RX5 := X
  unfold f_X5_useUp at h0
  refine g_aload_n (j := 0) X dX5_useUp_0 rfl rfl ?_
  obtain ⟨x1, ex1, h2⟩ := g_bd h0; clear h0
  refine g_fI (ci := 5) (k := 1) X rfl il5 (by decide) tw80 (by decide) (fun _ _ _ => rfl) ex1 dX5_useUp_1 ?_
  clear ex1
  refine g_istore_n (i := 1) (lv' := [(1, .int x1), (0, va_rf (some a0))]) X dX5_useUp_4 rfl (by decide) rfl ?_
  refine g_aload_n (j := 1) X dX5_useUp_5 rfl rfl ?_
  refine g_iconst X dX5_useUp_6 (v := 0) (by decide) ?_
  obtain ⟨S3, eS3, h4⟩ := g_bd h2; clear h2
  refine g_pI (ci := 5) (k := 1) X rfl il5 tyX5 tyX5_ok nmX5 (by decide) tw80 rfl (by decide) (fun _ _ _ => rfl) rfl eS3 dX5_useUp_7 ?_
  clear eS3
  refine g_iload_n (j := 0) X dX5_useUp_10 rfl rfl ?_
  obtain ⟨rfl, rfl⟩ := g_end h4
  exact g_iret X hr (by decide) (by decide) dX5_useUp_11
def f_X5_become (S0 : gS) (a0 : Nat) (v1 : Option Nat) (v2 : Int32) : Option gS :=
  (fpI S0 5 1 (some a0) 0).bind fun S1 =>
  gDc S1 5 (some a0) fun a3 =>
  (f_X5_addRow S1 a3 v1 0 v2).bind fun S5 =>
  some S5
set_option maxRecDepth 100000 in
set_option maxHeartbeats 4000000 in
theorem c_X5_become {l : Launch} (hl : l.stackTraces = false) (D : gD)  {S0 S9 : gS} {a0 : Nat} {v1 : Option Nat} {v2 : Int32} (h0 : f_X5_become S0 a0 v1 v2 = some S9) : Met l yX5_become (gws yX5_become cX5_become 3 none) { frames := 3, cells := 0, slots := 0, locals := 87 } (gPc D S0 [.ref a0, va_rf v1, .int v2]) (gQ D none S9) (0) (0) (gF D) := by
  refine g_met (lv := [(0, va_rf (some a0)), (1, va_rf v1), (2, .int v2)]) hl (by decide) (by simp [lg_sl, g_rfc, g_ci, g_cj, g_cr]) (by simp [lv_args, g_rfc, g_ci, g_cj, g_cr]; try rfl) (fun p e s m args below meth c X hr hn => ?_)
  have X : gX D p l s m args meth c cX5_become 3 RX5 := X
  unfold f_X5_become at h0
  refine g_aload_n (j := 0) X dX5_become_0 rfl rfl ?_
  refine g_iconst X dX5_become_1 (v := 0) (by decide) ?_
  obtain ⟨S1, eS1, h2⟩ := g_bd h0; clear h0
  refine g_pI (ci := 5) (k := 1) X rfl il5 tyX5 tyX5_ok nmX5 (by decide) tw80 rfl (by decide) (fun _ _ _ => rfl) rfl eS1 dX5_become_2 ?_
  clear eS1
  refine g_aload_n (j := 0) X dX5_become_5 rfl rfl ?_
  refine g_aload_n (j := 1) X dX5_become_6 rfl rfl ?_
  refine g_iconst X dX5_become_7 (v := 0) (by decide) ?_
  refine g_iload_n (j := 2) X dX5_become_8 rfl rfl ?_
  obtain ⟨a3, ea3, ka3, h4⟩ := g_dc h2; clear h2
  obtain ⟨S5, eS5, h6⟩ := g_bd h4; clear h4
  refine g_cV (n := 3) (As := [va_rf v1, .int 0, .int v2]) X (c_X5_addRow hl D eS5) tw505 tw220 tw221 tw45 tw222 (by decide +kernel) rfl rfl ⟨Nat.le_of_ble_eq_true rfl, Nat.le_of_ble_eq_true rfl⟩ (ci := 5) rfl (by decide) ea3 ka3 rfl rfl (Nat.le_of_ble_eq_true rfl) dX5_become_9 ⟨(by decide), (by decide)⟩ ?_
  clear eS5 ea3 ka3
  cases h6
  exact g_vret X hr (by decide) (by decide) dX5_become_12
def f_X5_addInt_L12 : Nat → gS → Nat → Int32 → Int32 → Option gS
  | 0, _, _, _, _ => none
  | k + 1, S0, a0, v1, v2 =>
    if v2 < 0 then
      some S0
    else
      (fgR S0 5 0 (some a0)).bind fun x12 =>
      (fgI S0 5 1 (some a0)).bind fun x14 =>
      (faB S0 x12 x14 ((g_ushr v1 v2).toInt8.toInt32)).bind fun S16 =>
      (fgI S16 5 1 (some a0)).bind fun x18 =>
      (fpI S16 5 1 (some a0) (x18 + 1)).bind fun S20 =>
      gLet (v2 + (-8)) fun x22 =>
      f_X5_addInt_L12 k S20 a0 v1 x22
set_option maxRecDepth 100000 in
set_option maxHeartbeats 4000000 in
theorem w_X5_addInt_L12 {p : Program} {l : Launch} {e : Env} {s : State} {m : MethodId} {args : Array Value} {below : List Frame} {meth : Method} {c : Code} {D : gD} {S9 : gS}  (hl : l.stackTraces = false) (X : gX D p l s m args meth c cX5_addInt 3 RX5) (hr : meth.sig.returnType = none) : ∀ (k : Nat) (S0 : gS) (a0 : Nat) (v1 : Int32) (v2 : Int32), f_X5_addInt_L12 k S0 a0 v1 v2 = some S9 → gJ D p l e { frames := 1, cells := 0, slots := 0, locals := 20 } s m args below meth c (MQ below (gQ D none S9) args s (0) (0) (gF D)) 3 (0) (0) S0 12 [(0, va_rf (some a0)), (1, .int v1), (2, .int v2)] [] := by
  intro k
  induction k with
  | zero => intro S0 a0 v1 v2 h0; cases h0
  | succ k ih =>
    intro S0 a0 v1 v2 h0
    have h0 := h0
    unfold f_X5_addInt_L12 at h0
    refine g_iload_n (j := 2) X dX5_addInt_12 rfl rfl ?_
    refine g_if_lt (tgt := 45) X dX5_addInt_13 (by decide) (fun c9 => ?_) (fun c9 => ?_)
    · have h10 := g_ip h0 c9; clear h0
      cases h10
      exact g_vret X hr (by decide) (by decide) dX5_addInt_45
    · have h11 := g_in h0 c9; clear h0
      refine g_aload_n (j := 0) X dX5_addInt_16 rfl rfl ?_
      obtain ⟨x12, ex12, h13⟩ := g_bd h11; clear h11
      refine g_fR (ci := 5) (k := 0) X rfl il5 (by decide) tw78 (by decide) (fun _ _ _ => rfl) ex12 dX5_addInt_17 ?_
      clear ex12
      refine g_aload_n (j := 0) X dX5_addInt_20 rfl rfl ?_
      obtain ⟨x14, ex14, h15⟩ := g_bd h13; clear h13
      refine g_fI (ci := 5) (k := 1) X rfl il5 (by decide) tw80 (by decide) (fun _ _ _ => rfl) ex14 dX5_addInt_21 ?_
      clear ex14
      refine g_iload_n (j := 1) X dX5_addInt_24 rfl rfl ?_
      refine g_iload_n (j := 2) X dX5_addInt_25 rfl rfl ?_
      refine g_iushr X dX5_addInt_26 ?_
      refine g_i2b X dX5_addInt_27 ?_
      obtain ⟨S16, eS16, h17⟩ := g_bd h15; clear h15
      refine g_bast X eS16 dX5_addInt_28 ?_
      clear eS16
      refine g_aload_n (j := 0) X dX5_addInt_29 rfl rfl ?_
      refine g_dup X dX5_addInt_30 (g_rfc _) ?_
      obtain ⟨x18, ex18, h19⟩ := g_bd h17; clear h17
      refine g_fI (ci := 5) (k := 1) X rfl il5 (by decide) tw80 (by decide) (fun _ _ _ => rfl) ex18 dX5_addInt_31 ?_
      clear ex18
      refine g_iconst X dX5_addInt_34 (v := 1) (by decide) ?_
      refine g_iadd X dX5_addInt_35 ?_
      obtain ⟨S20, eS20, h21⟩ := g_bd h19; clear h19
      refine g_pI (ci := 5) (k := 1) X rfl il5 tyX5 tyX5_ok nmX5 (by decide) tw80 rfl (by decide) (fun _ _ _ => rfl) rfl eS20 dX5_addInt_36 ?_
      clear eS20
      obtain ⟨x22, ex22, h23⟩ := g_let h21; clear h21
      refine g_iinc (j := 2) (v := x22) (lv' := [(2, .int x22), (0, va_rf (some a0)), (1, .int v1)]) X dX5_addInt_39 rfl (by rw [ex22]; rfl) (by decide) rfl ?_
      clear ex22
      refine g_goto (tgt := 12) X dX5_addInt_42 (by decide) ?_
      refine g_sub [1, 2, 0] rfl ?_
      exact ih S20 a0 v1 x22 h23
def f_X5_addInt (S0 : gS) (a0 : Nat) (v1 : Int32) : Option gS :=
  gDc S0 5 (some a0) fun a1 =>
  gBi (f_X5_free S0 a1) fun x5 S3 =>
  if 4 ≤ x5 then
    f_X5_addInt_L12 gFuel S3 a0 v1 24
  else
    some S3
set_option maxRecDepth 100000 in
set_option maxHeartbeats 4000000 in
theorem c_X5_addInt {l : Launch} (hl : l.stackTraces = false) (D : gD)  {S0 S9 : gS} {a0 : Nat} {v1 : Int32} (h0 : f_X5_addInt S0 a0 v1 = some S9) : Met l yX5_addInt (gws yX5_addInt cX5_addInt 3 none) { frames := 1, cells := 0, slots := 0, locals := 20 } (gPc D S0 [.ref a0, .int v1]) (gQ D none S9) (0) (0) (gF D) := by
  refine g_met (lv := [(0, va_rf (some a0)), (1, .int v1)]) hl (by decide) (Nat.le_of_ble_eq_true rfl) rfl (fun p e s m args below meth c X hr hn => ?_)
  have X : gX D p l s m args meth c cX5_addInt 3 RX5 := X
  unfold f_X5_addInt at h0
  refine g_aload_n (j := 0) X dX5_addInt_0 rfl rfl ?_
  obtain ⟨a1, ea1, ka1, h2⟩ := g_dc h0; clear h0
  obtain ⟨x5, S3, eS3, h4⟩ := g_bi h2; clear h2
  refine g_cV (n := 0) (As := []) X (c_X5_free hl D eS3) tw210 tw203 tw204 tw45 tw205 (by decide +kernel) rfl rfl ⟨Nat.le_of_ble_eq_true rfl, Nat.le_of_ble_eq_true rfl⟩ (ci := 5) rfl (by decide) ea1 ka1 rfl rfl (Nat.le_of_ble_eq_true rfl) dX5_addInt_1 ⟨(by decide), (by decide)⟩ ?_
  clear eS3 ea1 ka1
  refine g_iconst X dX5_addInt_4 (v := 4) (by decide) ?_
  refine g_icmp_ge (tgt := 9) X dX5_addInt_5 (by decide) (fun c6 => ?_) (fun c6 => ?_)
  · have h7 := g_ip h4 c6; clear h4
    refine g_bipush X dX5_addInt_9 (v := 24) (by decide) ?_
    refine g_istore_n (i := 2) (lv' := [(2, .int 24), (0, va_rf (some a0)), (1, .int v1)]) X dX5_addInt_11 rfl (by decide) rfl ?_
    refine g_sub [1, 2, 0] rfl ?_
    exact w_X5_addInt_L12 hl X hr gFuel S3 a0 v1 24 h7
  · have h8 := g_in h4 c6; clear h4
    cases h8
    exact g_vret X hr (by decide) (by decide) dX5_addInt_8
def f_X5_byteAt (S0 : gS) (a0 : Nat) (v1 : Int32) : Option (Int32 × gS) :=
  if v1 < 0 then
    some ((-1), S0)
  else
    (fgI S0 5 1 (some a0)).bind fun x4 =>
    if v1 < x4 then
      (fgR S0 5 0 (some a0)).bind fun x9 =>
      (fI S0 9 x9 v1).bind fun x11 =>
      some (x11 &&& 255, S0)
    else
      some ((-1), S0)
set_option maxRecDepth 100000 in
set_option maxHeartbeats 4000000 in
theorem c_X5_byteAt {l : Launch} (hl : l.stackTraces = false) (D : gD)  {S0 S9 : gS} {a0 : Nat} {v1 : Int32} {res : Int32} (h0 : f_X5_byteAt S0 a0 v1 = some (res, S9)) : Met l yX5_byteAt (gws yX5_byteAt cX5_byteAt 2 (some .int)) { frames := 0, cells := 0, slots := 0, locals := 0 } (gPc D S0 [.ref a0, .int v1]) (gQ D (some (.int res)) S9) (0) (0) (gF D) := by
  refine g_met (lv := [(0, va_rf (some a0)), (1, .int v1)]) hl (by decide) (Nat.le_of_ble_eq_true rfl) rfl (fun p e s m args below meth c X hr hn => ?_)
  have X : gX D p l s m args meth c cX5_byteAt 2 RX5 := X
  unfold f_X5_byteAt at h0
  refine g_iload_n (j := 1) X dX5_byteAt_0 rfl rfl ?_
  refine g_if_lt (tgt := 12) X dX5_byteAt_1 (by decide) (fun c1 => ?_) (fun c1 => ?_)
  · have h2 := g_ip h0 c1; clear h0
    refine g_iconst X dX5_byteAt_12 (v := (-1)) (by decide) ?_
    refine g_goto (tgt := 26) X dX5_byteAt_13 (by decide) ?_
    obtain ⟨rfl, rfl⟩ := g_end h2
    exact g_iret X hr (by decide) (by decide) dX5_byteAt_26
  · have h3 := g_in h0 c1; clear h0
    refine g_iload_n (j := 1) X dX5_byteAt_4 rfl rfl ?_
    refine g_aload_n (j := 0) X dX5_byteAt_5 rfl rfl ?_
    obtain ⟨x4, ex4, h5⟩ := g_bd h3; clear h3
    refine g_fI (ci := 5) (k := 1) X rfl il5 (by decide) tw80 (by decide) (fun _ _ _ => rfl) ex4 dX5_byteAt_6 ?_
    clear ex4
    refine g_icmp_lt (tgt := 16) X dX5_byteAt_9 (by decide) (fun c6 => ?_) (fun c6 => ?_)
    · have h7 := g_ip h5 c6; clear h5
      refine g_aload_n (j := 0) X dX5_byteAt_16 rfl rfl ?_
      obtain ⟨x9, ex9, h10⟩ := g_bd h7; clear h7
      refine g_fR (ci := 5) (k := 0) X rfl il5 (by decide) tw78 (by decide) (fun _ _ _ => rfl) ex9 dX5_byteAt_17 ?_
      clear ex9
      refine g_iload_n (j := 1) X dX5_byteAt_20 rfl rfl ?_
      obtain ⟨x11, ex11, h12⟩ := g_bd h10; clear h10
      refine g_bald X ex11 dX5_byteAt_21 ?_
      clear ex11
      refine g_sipush X dX5_byteAt_22 (v := 255) (by decide) ?_
      refine g_iand X dX5_byteAt_25 ?_
      obtain ⟨rfl, rfl⟩ := g_end h12
      exact g_iret X hr (by decide) (by decide) dX5_byteAt_26
    · have h8 := g_in h5 c6; clear h5
      refine g_iconst X dX5_byteAt_12 (v := (-1)) (by decide) ?_
      refine g_goto (tgt := 26) X dX5_byteAt_13 (by decide) ?_
      obtain ⟨rfl, rfl⟩ := g_end h8
      exact g_iret X hr (by decide) (by decide) dX5_byteAt_26
def f_X6_init (S0 : gS) (a0 : Nat) : Option gS :=
  some S0
set_option maxRecDepth 100000 in
set_option maxHeartbeats 4000000 in
theorem c_X6_init {l : Launch} (hl : l.stackTraces = false) (D : gD)  {S0 S9 : gS} {a0 : Nat} (h0 : f_X6_init S0 a0 = some S9) : Met l yX6_init (gws yX6_init cX6_init 1 none) { frames := 1, cells := 0, slots := 0, locals := 12 } (gPc D S0 [.ref a0]) (gQ D none S9) (0) (0) (gF D) := by
  refine g_met (lv := [(0, va_rf (some a0))]) hl (by decide) (Nat.le_of_ble_eq_true rfl) rfl (fun p e s m args below meth c X hr hn => ?_)
  have X : gX D p l s m args meth c cX6_init 1 RX6 := X
  have hin : meth.name = "<init>" := hn
  unfold f_X6_init at h0
  refine g_aload_n (j := 0) X dX6_init_0 rfl rfl ?_
  refine g_obji X rfl tw136 tw70 tw71 dX6_init_1 (by decide) (Nat.le_of_ble_eq_true rfl) ?_
  cases h0
  exact g_vret X hr (by decide) (by decide) dX6_init_4
def f_X6_lacksEvidence (S0 : gS) (a0 : Nat) : Option (Int32 × gS) :=
  (fgR S0 6 1 (some a0)).bind fun x1 =>
  gnl x1 (
    some (1, S0)
  ) (
    some (0, S0)
  )
set_option maxRecDepth 100000 in
set_option maxHeartbeats 4000000 in
theorem c_X6_lacksEvidence {l : Launch} (hl : l.stackTraces = false) (D : gD)  {S0 S9 : gS} {a0 : Nat} {res : Int32} (h0 : f_X6_lacksEvidence S0 a0 = some (res, S9)) : Met l yX6_lacksEvidence (gws yX6_lacksEvidence cX6_lacksEvidence 1 (some .boolean)) { frames := 0, cells := 0, slots := 0, locals := 0 } (gPc D S0 [.ref a0]) (gQ D (some (.int res)) S9) (0) (0) (gF D) := by
  refine g_met (lv := [(0, va_rf (some a0))]) hl (by decide) (Nat.le_of_ble_eq_true rfl) rfl (fun p e s m args below meth c X hr hn => ?_)
  have X : gX D p l s m args meth c cX6_lacksEvidence 1 RX6 := X
  unfold f_X6_lacksEvidence at h0
  refine g_aload_n (j := 0) X dX6_lacksEvidence_0 rfl rfl ?_
  obtain ⟨x1, ex1, h2⟩ := g_bd h0; clear h0
  refine g_fR (ci := 6) (k := 1) X rfl il6 (by decide) tw139 (by decide) (fun _ _ _ => rfl) ex1 dX6_lacksEvidence_1 ?_
  clear ex1
  refine g_ifnonnull (tgt := 11) X dX6_lacksEvidence_4 (by decide) (fun c5 => ?_) (fun q6 c5 => ?_)
  · have h3 := g_nln h2 c5; clear h2
    refine g_iconst X dX6_lacksEvidence_7 (v := 1) (by decide) ?_
    refine g_goto (tgt := 12) X dX6_lacksEvidence_8 (by decide) ?_
    obtain ⟨rfl, rfl⟩ := g_end h3
    exact g_zret X hr (Or.inr rfl) (by decide) (by decide) dX6_lacksEvidence_12
  · have h4 := g_nls h2 c5; clear h2
    refine g_iconst X dX6_lacksEvidence_11 (v := 0) (by decide) ?_
    obtain ⟨rfl, rfl⟩ := g_end h4
    exact g_zret X hr (Or.inl rfl) (by decide) (by decide) dX6_lacksEvidence_12
def f_X6_keepEvidence (S0 : gS) (a0 : Nat) (v1 : Option Nat) (v2 : Option Nat) : Option gS :=
  gDc S0 6 (some a0) fun a1 =>
  gBi (f_X6_lacksEvidence S0 a1) fun x5 S3 =>
  if x5 = 0 then
    some S3
  else
    (fpR S3 6 1 (some a0) v1).bind fun S9 =>
    (fpR S9 6 2 (some a0) v2).bind fun S11 =>
    some S11
set_option maxRecDepth 100000 in
set_option maxHeartbeats 4000000 in
theorem c_X6_keepEvidence {l : Launch} (hl : l.stackTraces = false) (D : gD)  {S0 S9 : gS} {a0 : Nat} {v1 : Option Nat} {v2 : Option Nat} (h0 : f_X6_keepEvidence S0 a0 v1 v2 = some S9) : Met l yX6_keepEvidence (gws yX6_keepEvidence cX6_keepEvidence 3 none) { frames := 1, cells := 0, slots := 0, locals := 20 } (gPc D S0 [.ref a0, va_rf v1, va_rf v2]) (gQ D none S9) (0) (0) (gF D) := by
  refine g_met (lv := [(0, va_rf (some a0)), (1, va_rf v1), (2, va_rf v2)]) hl (by decide) (by simp [lg_sl, g_rfc, g_ci, g_cj, g_cr]) (by simp [lv_args, g_rfc, g_ci, g_cj, g_cr]; try rfl) (fun p e s m args below meth c X hr hn => ?_)
  have X : gX D p l s m args meth c cX6_keepEvidence 3 RX6 := X
  unfold f_X6_keepEvidence at h0
  refine g_aload_n (j := 0) X dX6_keepEvidence_0 rfl rfl ?_
  obtain ⟨a1, ea1, ka1, h2⟩ := g_dc h0; clear h0
  obtain ⟨x5, S3, eS3, h4⟩ := g_bi h2; clear h2
  refine g_cV (n := 0) (As := []) X (c_X6_lacksEvidence hl D eS3) tw613 tw606 tw607 tw48 tw608 (by decide +kernel) rfl rfl ⟨Nat.le_of_ble_eq_true rfl, Nat.le_of_ble_eq_true rfl⟩ (ci := 6) rfl (by decide) ea1 ka1 rfl rfl (Nat.le_of_ble_eq_true rfl) dX6_keepEvidence_1 ⟨(by decide), (by decide)⟩ ?_
  clear eS3 ea1 ka1
  refine g_if_eq (tgt := 17) X dX6_keepEvidence_4 (by decide) (fun c6 => ?_) (fun c6 => ?_)
  · have h7 := g_ip h4 c6; clear h4
    cases h7
    exact g_vret X hr (by decide) (by decide) dX6_keepEvidence_17
  · have h8 := g_in h4 c6; clear h4
    refine g_aload_n (j := 0) X dX6_keepEvidence_7 rfl rfl ?_
    refine g_aload_n (j := 1) X dX6_keepEvidence_8 rfl rfl ?_
    obtain ⟨S9, eS9, h10⟩ := g_bd h8; clear h8
    refine g_pR (ci := 6) (k := 1) X rfl il6 tyX6 tyX6_ok nmX6 (by decide) tw139 rfl (by decide) (fun _ _ _ => rfl) rfl eS9 dX6_keepEvidence_9 ?_
    clear eS9
    refine g_aload_n (j := 0) X dX6_keepEvidence_12 rfl rfl ?_
    refine g_aload_n (j := 2) X dX6_keepEvidence_13 rfl rfl ?_
    obtain ⟨S11, eS11, h12⟩ := g_bd h10; clear h10
    refine g_pR (ci := 6) (k := 2) X rfl il6 tyX6 tyX6_ok nmX6 (by decide) tw140 rfl (by decide) (fun _ _ _ => rfl) rfl eS11 dX6_keepEvidence_14 ?_
    clear eS11
    cases h12
    exact g_vret X hr (by decide) (by decide) dX6_keepEvidence_17
def f_X6_rowAt (S0 : gS) (a0 : Nat) (v1 : Int32) : Option (Option Nat × gS) :=
  gLet v1 fun x1 =>
  if x1 = 0 then
    (fgR S0 6 0 (some a0)).bind fun x6 =>
    some (x6, S0)
  else
  if x1 = 1 then
    (fgR S0 6 1 (some a0)).bind fun x11 =>
    some (x11, S0)
  else
  if x1 = 2 then
    (fgR S0 6 2 (some a0)).bind fun x16 =>
    some (x16, S0)
  else
  if x1.toInt < 0 ∨ 2 < x1.toInt then
    some (none, S0)
  else none
set_option maxRecDepth 100000 in
set_option maxHeartbeats 4000000 in
theorem c_X6_rowAt {l : Launch} (hl : l.stackTraces = false) (D : gD)  {S0 S9 : gS} {a0 : Nat} {v1 : Int32} {res : Option Nat} (h0 : f_X6_rowAt S0 a0 v1 = some (res, S9)) : Met l yX6_rowAt (gws yX6_rowAt cX6_rowAt 2 (some (.object "LeafWitness$Row"))) { frames := 0, cells := 0, slots := 0, locals := 0 } (gPc D S0 [.ref a0, .int v1]) (gQ D (some (va_rf res)) S9) (0) (0) (gF D) := by
  refine g_met (lv := [(0, va_rf (some a0)), (1, .int v1)]) hl (by decide) (Nat.le_of_ble_eq_true rfl) rfl (fun p e s m args below meth c X hr hn => ?_)
  have X : gX D p l s m args meth c cX6_rowAt 2 RX6 := X
  unfold f_X6_rowAt at h0
  refine g_iload_n (j := 1) X dX6_rowAt_0 rfl rfl ?_
  obtain ⟨x1, ex1, h2⟩ := g_let h0; clear h0; rw [← ex1]; clear ex1
  by_cases c3 : x1 = 0
  · have h4 := g_ip h2 c3; clear h2; subst c3
    refine g_tableIn (tgt := 28) X dX6_rowAt_1 (by decide) (by decide) rfl (by decide) ?_
    refine g_aload_n (j := 0) X dX6_rowAt_28 rfl rfl ?_
    obtain ⟨x6, ex6, h7⟩ := g_bd h4; clear h4
    refine g_fR (ci := 6) (k := 0) X rfl il6 (by decide) tw137 (by decide) (fun _ _ _ => rfl) ex6 dX6_rowAt_29 ?_
    clear ex6
    obtain ⟨rfl, rfl⟩ := g_end h7
    exact g_aret X hr (Or.inl ⟨_, rfl⟩) (by decide) (by decide) dX6_rowAt_32
  have h5 := g_in h2 c3; clear h2
  by_cases c8 : x1 = 1
  · have h9 := g_ip h5 c8; clear h5; subst c8
    refine g_tableIn (tgt := 33) X dX6_rowAt_1 (by decide) (by decide) rfl (by decide) ?_
    refine g_aload_n (j := 0) X dX6_rowAt_33 rfl rfl ?_
    obtain ⟨x11, ex11, h12⟩ := g_bd h9; clear h9
    refine g_fR (ci := 6) (k := 1) X rfl il6 (by decide) tw139 (by decide) (fun _ _ _ => rfl) ex11 dX6_rowAt_34 ?_
    clear ex11
    obtain ⟨rfl, rfl⟩ := g_end h12
    exact g_aret X hr (Or.inl ⟨_, rfl⟩) (by decide) (by decide) dX6_rowAt_37
  have h10 := g_in h5 c8; clear h5
  by_cases c13 : x1 = 2
  · have h14 := g_ip h10 c13; clear h10; subst c13
    refine g_tableIn (tgt := 38) X dX6_rowAt_1 (by decide) (by decide) rfl (by decide) ?_
    refine g_aload_n (j := 0) X dX6_rowAt_38 rfl rfl ?_
    obtain ⟨x16, ex16, h17⟩ := g_bd h14; clear h14
    refine g_fR (ci := 6) (k := 2) X rfl il6 (by decide) tw140 (by decide) (fun _ _ _ => rfl) ex16 dX6_rowAt_39 ?_
    clear ex16
    obtain ⟨rfl, rfl⟩ := g_end h17
    exact g_aret X hr (Or.inl ⟨_, rfl⟩) (by decide) (by decide) dX6_rowAt_42
  have h15 := g_in h10 c13; clear h10
  obtain ⟨c19, h18⟩ := g_if h15; clear h15
  refine g_tableOut (tgt := 43) X dX6_rowAt_1 c19 (by decide) ?_
  refine g_null X dX6_rowAt_43 ?_
  obtain ⟨rfl, rfl⟩ := g_end h18
  exact g_aret X hr (Or.inl ⟨_, rfl⟩) (by decide) (by decide) dX6_rowAt_44
def f_X7_init_L81 : Nat → gS → Nat → Nat → Nat → Int32 → Option gS
  | 0, _, _, _, _, _ => none
  | k + 1, S0, cu, su, a0, v1 =>
    gGd (cu ≤ 60 ∧ su ≤ 12000) <|
    if 8 ≤ v1 then
      gGd (cu + 1 ≤ 60 ∧ su + 7 ≤ 12000) <|
      gLet (gZ S0) fun z55 =>
      gLet (gnw S0 2 7) fun S56 =>
      gGd (cu + 1 + 3 ≤ 60 ∧ su + 7 + 192 ≤ 12000) <|
      (f_X2_init S56 z55).bind fun S61 =>
      (fpR S61 7 4 (some a0) (some z55)).bind fun S63 =>
      gGd (cu + 1 + 3 + 1 ≤ 60 ∧ su + 7 + 192 + 3 ≤ 12000) <|
      gLet (gZ S63) fun z67 =>
      gLet (gnw S63 0 3) fun S68 =>
      gGd (cu + 1 + 3 + 1 + 5 ≤ 60 ∧ su + 7 + 192 + 3 + 140 ≤ 12000) <|
      (f_X0_init S68 z67).bind fun S73 =>
      (fpR S73 7 5 (some a0) (some z67)).bind fun S75 =>
      some S75
    else
      (fgR S0 7 3 (some a0)).bind fun x77 =>
      gGd (cu + 1 ≤ 60 ∧ su + 3 ≤ 12000) <|
      gLet (gZ S0) fun z81 =>
      gLet (gnw S0 6 3) fun S82 =>
      (f_X6_init S82 z81).bind fun S85 =>
      (faR S85 15 6 x77 v1 (some z81)).bind fun S87 =>
      gLet (v1 + 1) fun x89 =>
      f_X7_init_L81 k S87 (cu + 1) (su + 3) a0 x89
set_option maxRecDepth 100000 in
set_option maxHeartbeats 4000000 in
theorem w_X7_init_L81 {p : Program} {l : Launch} {e : Env} {s : State} {m : MethodId} {args : Array Value} {below : List Frame} {meth : Method} {c : Code} {D : gD} {S9 : gS}  (hl : l.stackTraces = false) (X : gX D p l s m args meth c cX7_init 2 RX7) (hr : meth.sig.returnType = none) (hin : meth.name = "<init>") : ∀ (k : Nat) (S0 : gS) (cu su : Nat) (a0 : Nat) (v1 : Int32), f_X7_init_L81 k S0 cu su a0 v1 = some S9 → gJ D p l e { frames := 3, cells := 60, slots := 12000, locals := 52 } s m args below meth c (MQ below (gQ D none S9) args s (60) (12000) (gF D)) 2 (cu) (su) S0 81 [(0, va_rf (some a0)), (1, .int v1)] [] := by
  intro k
  induction k with
  | zero => intro S0 cu su a0 v1 h0; cases h0
  | succ k ih =>
    intro S0 cu su a0 v1 h0
    have h0 := h0
    unfold f_X7_init_L81 at h0
    obtain ⟨gu, hu⟩ := g_gd h0; clear h0
    refine g_iload_n (j := 1) X dX7_init_81 rfl rfl ?_
    refine g_bipush X dX7_init_82 (v := 8) (by decide) ?_
    refine g_icmp_ge (tgt := 106) X dX7_init_84 (by decide) (fun c50 => ?_) (fun c50 => ?_)
    · have h51 := g_ip hu c50; clear hu
      refine g_aload_n (j := 0) X dX7_init_106 rfl rfl ?_
      obtain ⟨g53, h54⟩ := g_gd h51; clear h51
      refine g_new (ci := 2) X rfl (by decide) il2 tyX2 tyX2_ok (by decide) tw144 tw145 tw49 g53.1 g53.2 dX7_init_107 ?_
      obtain ⟨z55, ez55, h58⟩ := g_let h54; clear h54; rw [← ez55]; clear ez55
      obtain ⟨S56, eS56, h57⟩ := g_let h58; clear h58; rw [← eS56]; clear eS56
      refine g_dup X dX7_init_110 (g_rfc _) ?_
      obtain ⟨g59, h60⟩ := g_gd h57; clear h57
      obtain ⟨S61, eS61, h62⟩ := g_bd h60; clear h60
      refine g_cN (n := 0) (As := []) X (c_X2_init hl D eS61) X.K.2.2.2.2.2.2.2.2.2.1 tw146 tw49 tw147 rfl (by decide +kernel) rfl rfl ⟨Nat.le_of_ble_eq_true rfl, Nat.le_of_ble_eq_true rfl⟩ rfl rfl rfl (Nat.le_of_ble_eq_true rfl) dX7_init_111 ⟨g59.1, g59.2⟩ ?_
      clear eS61
      obtain ⟨S63, eS63, h64⟩ := g_bd h62; clear h62
      refine g_pFo (ci := 7) (k := 4) X hin rfl il7 tyX7 tyX7_ok nmX7 (by decide) tw190 rfl rfl (by decide) (fun _ _ _ => rfl) rfl eS63 dX7_init_114 ?_
      clear eS63
      refine g_aload_n (j := 0) X dX7_init_117 rfl rfl ?_
      obtain ⟨g65, h66⟩ := g_gd h64; clear h64
      refine g_new (ci := 0) X rfl (by decide) il0 tyX0 tyX0_ok (by decide) tw174 tw175 tw50 g65.1 g65.2 dX7_init_118 ?_
      obtain ⟨z67, ez67, h70⟩ := g_let h66; clear h66; rw [← ez67]; clear ez67
      obtain ⟨S68, eS68, h69⟩ := g_let h70; clear h70; rw [← eS68]; clear eS68
      refine g_dup X dX7_init_121 (g_rfc _) ?_
      obtain ⟨g71, h72⟩ := g_gd h69; clear h69
      obtain ⟨S73, eS73, h74⟩ := g_bd h72; clear h72
      refine g_cN (n := 0) (As := []) X (c_X0_init hl D eS73) X.K.2.2.2.2.2.2.2.2.2.2.1 tw176 tw50 tw177 rfl (by decide +kernel) rfl rfl ⟨Nat.le_of_ble_eq_true rfl, Nat.le_of_ble_eq_true rfl⟩ rfl rfl rfl (Nat.le_of_ble_eq_true rfl) dX7_init_122 ⟨g71.1, g71.2⟩ ?_
      clear eS73
      obtain ⟨S75, eS75, h76⟩ := g_bd h74; clear h74
      refine g_pFo (ci := 7) (k := 5) X hin rfl il7 tyX7 tyX7_ok nmX7 (by decide) tw191 rfl rfl (by decide) (fun _ _ _ => rfl) rfl eS75 dX7_init_125 ?_
      clear eS75
      cases h76
      exact g_vret X hr g71.1 g71.2 dX7_init_128
    · have h52 := g_in hu c50; clear hu
      refine g_aload_n (j := 0) X dX7_init_87 rfl rfl ?_
      obtain ⟨x77, ex77, h78⟩ := g_bd h52; clear h52
      refine g_fR (ci := 7) (k := 3) X rfl il7 (by decide) tw189 (by decide) (fun _ _ _ => rfl) ex77 dX7_init_88 ?_
      clear ex77
      refine g_iload_n (j := 1) X dX7_init_91 rfl rfl ?_
      obtain ⟨g79, h80⟩ := g_gd h78; clear h78
      refine g_new (ci := 6) X rfl (by decide) il6 tyX6 tyX6_ok (by decide) tw132 tw133 tw48 g79.1 g79.2 dX7_init_92 ?_
      obtain ⟨z81, ez81, h84⟩ := g_let h80; clear h80; rw [← ez81]; clear ez81
      obtain ⟨S82, eS82, h83⟩ := g_let h84; clear h84; rw [← eS82]; clear eS82
      refine g_dup X dX7_init_95 (g_rfc _) ?_
      obtain ⟨S85, eS85, h86⟩ := g_bd h83; clear h83
      refine g_cN (n := 0) (As := []) X (c_X6_init hl D eS85) X.K.2.2.2.2.2.2.2.2.1 tw134 tw48 tw135 rfl (by decide +kernel) rfl rfl ⟨Nat.le_of_ble_eq_true rfl, Nat.le_of_ble_eq_true rfl⟩ rfl rfl rfl (by simp [g_rfc, g_ci, g_cj, g_cr]) dX7_init_96 ⟨g79.1, g79.2⟩ ?_
      clear eS85
      obtain ⟨S87, eS87, h88⟩ := g_bd h86; clear h86
      refine g_aast15 X eS87 dX7_init_99 ?_
      clear eS87
      obtain ⟨x89, ex89, h90⟩ := g_let h88; clear h88
      refine g_iinc (j := 1) (v := x89) (lv' := [(1, .int x89), (0, va_rf (some a0))]) X dX7_init_100 rfl (by rw [ex89]; rfl) (by decide) rfl ?_
      clear ex89
      refine g_goto (tgt := 81) X dX7_init_103 (by decide) ?_
      refine g_sub [1, 0] rfl ?_
      exact ih S87 (cu + 1) (su + 3) a0 x89 h90
def f_X7_init_L46 : Nat → gS → Nat → Nat → Nat → Int32 → Option gS
  | 0, _, _, _, _, _ => none
  | k + 1, S0, cu, su, a0, v1 =>
    gGd (cu ≤ 60 ∧ su ≤ 12000) <|
    if 2 ≤ v1 then
      (fnA 8 8).bind fun k40 =>
      gGd (cu + 1 ≤ 60 ∧ su + 8 ≤ 12000) <|
      gLet (gZ S0) fun z46 =>
      gLet (gnw S0 15 k40) fun S44 =>
      (fpR S44 7 3 (some a0) (some z46)).bind fun S48 =>
      f_X7_init_L81 gFuel S48 (cu + 1) (su + 8) a0 0
    else
      (fgR S0 7 2 (some a0)).bind fun x91 =>
      gGd (cu + 1 ≤ 60 ∧ su + 11 ≤ 12000) <|
      gLet (gZ S0) fun z95 =>
      gLet (gnw S0 1 11) fun S96 =>
      gGd (cu + 1 + 9 ≤ 60 ∧ su + 11 + 892 ≤ 12000) <|
      (f_X1_init S96 z95).bind fun S101 =>
      (faR S101 13 1 x91 v1 (some z95)).bind fun S103 =>
      gLet (v1 + 1) fun x105 =>
      f_X7_init_L46 k S103 (cu + 1 + 9) (su + 11 + 892) a0 x105
set_option maxRecDepth 100000 in
set_option maxHeartbeats 4000000 in
theorem w_X7_init_L46 {p : Program} {l : Launch} {e : Env} {s : State} {m : MethodId} {args : Array Value} {below : List Frame} {meth : Method} {c : Code} {D : gD} {S9 : gS}  (hl : l.stackTraces = false) (X : gX D p l s m args meth c cX7_init 2 RX7) (hr : meth.sig.returnType = none) (hin : meth.name = "<init>") : ∀ (k : Nat) (S0 : gS) (cu su : Nat) (a0 : Nat) (v1 : Int32), f_X7_init_L46 k S0 cu su a0 v1 = some S9 → gJ D p l e { frames := 3, cells := 60, slots := 12000, locals := 52 } s m args below meth c (MQ below (gQ D none S9) args s (60) (12000) (gF D)) 2 (cu) (su) S0 46 [(0, va_rf (some a0)), (1, .int v1)] [] := by
  intro k
  induction k with
  | zero => intro S0 cu su a0 v1 h0; cases h0
  | succ k ih =>
    intro S0 cu su a0 v1 h0
    have h0 := h0
    unfold f_X7_init_L46 at h0
    obtain ⟨gu, hu⟩ := g_gd h0; clear h0
    refine g_iload_n (j := 1) X dX7_init_46 rfl rfl ?_
    refine g_iconst X dX7_init_47 (v := 2) (by decide) ?_
    refine g_icmp_ge (tgt := 70) X dX7_init_48 (by decide) (fun c37 => ?_) (fun c37 => ?_)
    · have h38 := g_ip hu c37; clear hu
      refine g_aload_n (j := 0) X dX7_init_70 rfl rfl ?_
      refine g_bipush X dX7_init_71 (v := 8) (by decide) ?_
      obtain ⟨k40, ek40, h41⟩ := g_bd h38; clear h38
      obtain ⟨g42, h43⟩ := g_gd h41; clear h41
      refine g_anew15 (cap := 8) X tw132 ek40 (by decide) g42.1 g42.2 dX7_init_73 ?_
      refine g_wid (k := cu + 1) (n := su + 8) (Nat.le_refl _) (Nat.add_le_add_left (fnA_s ek40).2.2 _) ?_
      clear ek40
      obtain ⟨z46, ez46, h47⟩ := g_let h43; clear h43; rw [← ez46]; clear ez46
      obtain ⟨S44, eS44, h45⟩ := g_let h47; clear h47; rw [← eS44]; clear eS44
      obtain ⟨S48, eS48, h49⟩ := g_bd h45; clear h45
      refine g_pFa (ci := 7) (k := 3) X hin rfl il7 tyX7 tyX7_ok nmX7 (by decide) tw189 rfl rfl (by decide) (fun _ _ _ => rfl) rfl eS48 dX7_init_76 ?_
      clear eS48
      refine g_iconst X dX7_init_79 (v := 0) (by decide) ?_
      refine g_istore_n (i := 1) (lv' := [(1, .int 0), (0, va_rf (some a0))]) X dX7_init_80 rfl (by decide) rfl ?_
      refine g_sub [1, 0] rfl ?_
      exact w_X7_init_L81 hl X hr hin gFuel S48 (cu + 1) (su + 8) a0 0 h49
    · have h39 := g_in hu c37; clear hu
      refine g_aload_n (j := 0) X dX7_init_51 rfl rfl ?_
      obtain ⟨x91, ex91, h92⟩ := g_bd h39; clear h39
      refine g_fR (ci := 7) (k := 2) X rfl il7 (by decide) tw188 (by decide) (fun _ _ _ => rfl) ex91 dX7_init_52 ?_
      clear ex91
      refine g_iload_n (j := 1) X dX7_init_55 rfl rfl ?_
      obtain ⟨g93, h94⟩ := g_gd h92; clear h92
      refine g_new (ci := 1) X rfl (by decide) il1 tyX1 tyX1_ok (by decide) tw86 tw87 tw46 g93.1 g93.2 dX7_init_56 ?_
      obtain ⟨z95, ez95, h98⟩ := g_let h94; clear h94; rw [← ez95]; clear ez95
      obtain ⟨S96, eS96, h97⟩ := g_let h98; clear h98; rw [← eS96]; clear eS96
      refine g_dup X dX7_init_59 (g_rfc _) ?_
      obtain ⟨g99, h100⟩ := g_gd h97; clear h97
      obtain ⟨S101, eS101, h102⟩ := g_bd h100; clear h100
      refine g_cN (n := 0) (As := []) X (c_X1_init hl D eS101) X.K.2.2.2.2.2.2.2.1 tw88 tw46 tw89 rfl (by decide +kernel) rfl rfl ⟨Nat.le_of_ble_eq_true rfl, Nat.le_of_ble_eq_true rfl⟩ rfl rfl rfl (by simp [g_rfc, g_ci, g_cj, g_cr]) dX7_init_60 ⟨g99.1, g99.2⟩ ?_
      clear eS101
      obtain ⟨S103, eS103, h104⟩ := g_bd h102; clear h102
      refine g_aast13 X eS103 dX7_init_63 ?_
      clear eS103
      obtain ⟨x105, ex105, h106⟩ := g_let h104; clear h104
      refine g_iinc (j := 1) (v := x105) (lv' := [(1, .int x105), (0, va_rf (some a0))]) X dX7_init_64 rfl (by rw [ex105]; rfl) (by decide) rfl ?_
      clear ex105
      refine g_goto (tgt := 46) X dX7_init_67 (by decide) ?_
      refine g_sub [1, 0] rfl ?_
      exact ih S103 (cu + 1 + 9) (su + 11 + 892) a0 x105 h106
def f_X7_init (S0 : gS) (a0 : Nat) : Option gS :=
  gLet (gZ S0) fun z1 =>
  gLet (gnw S0 5 2) fun S2 =>
  (fnA 2200 2200).bind fun k5 =>
  gLet (gZ S2) fun z9 =>
  gLet (gnw S2 9 k5) fun S7 =>
  (f_X5_init S7 z1 (some z9)).bind fun S11 =>
  (fpR S11 7 0 (some a0) (some z1)).bind fun S13 =>
  gLet (gZ S13) fun z15 =>
  gLet (gnw S13 5 2) fun S16 =>
  (fnA 288 288).bind fun k19 =>
  gLet (gZ S16) fun z23 =>
  gLet (gnw S16 9 k19) fun S21 =>
  (f_X5_init S21 z15 (some z23)).bind fun S25 =>
  (fpR S25 7 1 (some a0) (some z15)).bind fun S27 =>
  (fnA 2 2).bind fun k29 =>
  gLet (gZ S27) fun z33 =>
  gLet (gnw S27 13 k29) fun S31 =>
  (fpR S31 7 2 (some a0) (some z33)).bind fun S35 =>
  f_X7_init_L46 gFuel S35 5 2494 a0 0
set_option maxRecDepth 100000 in
set_option maxHeartbeats 4000000 in
theorem c_X7_init {l : Launch} (hl : l.stackTraces = false) (D : gD)  {S0 S9 : gS} {a0 : Nat} (h0 : f_X7_init S0 a0 = some S9) : Met l yX7_init (gws yX7_init cX7_init 2 none) { frames := 3, cells := 60, slots := 12000, locals := 52 } (gPc D S0 [.ref a0]) (gQ D none S9) (60) (12000) (gF D) := by
  refine g_met (lv := [(0, va_rf (some a0))]) hl (by decide) (Nat.le_of_ble_eq_true rfl) rfl (fun p e s m args below meth c X hr hn => ?_)
  have X : gX D p l s m args meth c cX7_init 2 RX7 := X
  have hin : meth.name = "<init>" := hn
  unfold f_X7_init at h0
  refine g_aload_n (j := 0) X dX7_init_0 rfl rfl ?_
  refine g_obji X rfl tw69 tw70 tw71 dX7_init_1 (by decide) (Nat.le_of_ble_eq_true rfl) ?_
  refine g_aload_n (j := 0) X dX7_init_4 rfl rfl ?_
  refine g_new (ci := 5) X rfl (by decide) il5 tyX5 tyX5_ok (by decide) tw72 tw73 tw45 (by decide) (by decide) dX7_init_5 ?_
  obtain ⟨z1, ez1, h4⟩ := g_let h0; clear h0; rw [← ez1]; clear ez1
  obtain ⟨S2, eS2, h3⟩ := g_let h4; clear h4; rw [← eS2]; clear eS2
  refine g_dup X dX7_init_8 (g_rfc _) ?_
  refine g_sipush X dX7_init_9 (v := 2200) (by decide) ?_
  obtain ⟨k5, ek5, h6⟩ := g_bd h3; clear h3
  refine g_newa9 (cap := 2200) X tw85 ek5 (by decide) (by decide) (by decide) dX7_init_12 ?_
  refine g_wid (k := 2) (n := 2202) (Nat.le_refl _) (Nat.add_le_add_left (fnA_s ek5).2.2 _) ?_
  clear ek5
  obtain ⟨z9, ez9, h10⟩ := g_let h6; clear h6; rw [← ez9]; clear ez9
  obtain ⟨S7, eS7, h8⟩ := g_let h10; clear h10; rw [← eS7]; clear eS7
  obtain ⟨S11, eS11, h12⟩ := g_bd h8; clear h8
  refine g_cI (n := 1) (As := [va_rf (some z9)]) X (c_X5_init hl D eS11) tw74 tw75 tw45 tw76 rfl (by decide +kernel) rfl rfl ⟨Nat.le_of_ble_eq_true rfl, Nat.le_of_ble_eq_true rfl⟩ rfl rfl rfl (Nat.le_of_ble_eq_true rfl) dX7_init_14 ⟨(by decide), (by decide)⟩ ?_
  clear eS11
  obtain ⟨S13, eS13, h14⟩ := g_bd h12; clear h12
  refine g_pFo (ci := 7) (k := 0) X hin rfl il7 tyX7 tyX7_ok nmX7 (by decide) tw186 rfl rfl (by decide) (fun _ _ _ => rfl) rfl eS13 dX7_init_17 ?_
  clear eS13
  refine g_aload_n (j := 0) X dX7_init_20 rfl rfl ?_
  refine g_new (ci := 5) X rfl (by decide) il5 tyX5 tyX5_ok (by decide) tw72 tw73 tw45 (by decide) (by decide) dX7_init_21 ?_
  obtain ⟨z15, ez15, h18⟩ := g_let h14; clear h14; rw [← ez15]; clear ez15
  obtain ⟨S16, eS16, h17⟩ := g_let h18; clear h18; rw [← eS16]; clear eS16
  refine g_dup X dX7_init_24 (g_rfc _) ?_
  refine g_sipush X dX7_init_25 (v := 288) (by decide) ?_
  obtain ⟨k19, ek19, h20⟩ := g_bd h17; clear h17
  refine g_newa9 (cap := 288) X tw85 ek19 (by decide) (by decide) (by decide) dX7_init_28 ?_
  refine g_wid (k := 4) (n := 2492) (Nat.le_refl _) (Nat.add_le_add_left (fnA_s ek19).2.2 _) ?_
  clear ek19
  obtain ⟨z23, ez23, h24⟩ := g_let h20; clear h20; rw [← ez23]; clear ez23
  obtain ⟨S21, eS21, h22⟩ := g_let h24; clear h24; rw [← eS21]; clear eS21
  obtain ⟨S25, eS25, h26⟩ := g_bd h22; clear h22
  refine g_cI (n := 1) (As := [va_rf (some z23)]) X (c_X5_init hl D eS25) tw74 tw75 tw45 tw76 rfl (by decide +kernel) rfl rfl ⟨Nat.le_of_ble_eq_true rfl, Nat.le_of_ble_eq_true rfl⟩ rfl rfl rfl (Nat.le_of_ble_eq_true rfl) dX7_init_30 ⟨(by decide), (by decide)⟩ ?_
  clear eS25
  obtain ⟨S27, eS27, h28⟩ := g_bd h26; clear h26
  refine g_pFo (ci := 7) (k := 1) X hin rfl il7 tyX7 tyX7_ok nmX7 (by decide) tw187 rfl rfl (by decide) (fun _ _ _ => rfl) rfl eS27 dX7_init_33 ?_
  clear eS27
  refine g_aload_n (j := 0) X dX7_init_36 rfl rfl ?_
  refine g_iconst X dX7_init_37 (v := 2) (by decide) ?_
  obtain ⟨k29, ek29, h30⟩ := g_bd h28; clear h28
  refine g_anew13 (cap := 2) X tw86 ek29 (by decide) (by decide) (by decide) dX7_init_38 ?_
  refine g_wid (k := 5) (n := 2494) (Nat.le_refl _) (Nat.add_le_add_left (fnA_s ek29).2.2 _) ?_
  clear ek29
  obtain ⟨z33, ez33, h34⟩ := g_let h30; clear h30; rw [← ez33]; clear ez33
  obtain ⟨S31, eS31, h32⟩ := g_let h34; clear h34; rw [← eS31]; clear eS31
  obtain ⟨S35, eS35, h36⟩ := g_bd h32; clear h32
  refine g_pFa (ci := 7) (k := 2) X hin rfl il7 tyX7 tyX7_ok nmX7 (by decide) tw188 rfl rfl (by decide) (fun _ _ _ => rfl) rfl eS35 dX7_init_41 ?_
  clear eS35
  refine g_iconst X dX7_init_44 (v := 0) (by decide) ?_
  refine g_istore_n (i := 1) (lv' := [(1, .int 0), (0, va_rf (some a0))]) X dX7_init_45 rfl (by decide) rfl ?_
  refine g_sub [1, 0] rfl ?_
  exact w_X7_init_L46 hl X hr hin gFuel S35 5 2494 a0 0 h36
