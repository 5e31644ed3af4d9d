def f_X8_inner_L8 (bo : Nat) : Nat → gS → Nat → Nat → Nat → Int32 → Int32 → Int32 → Int32 → Option gS
  | 0, _, _, _, _, _, _, _, _ => none
  | k + 1, S0, cu, su, a0, v1, v3, v4, v5 =>
    gGd (cu ≤ bo ∧ su ≤ 8 * bo) <|
    (fgI S0 8 23 (some a0)).bind fun x1 =>
    if x1 ≤ v5 then
      gGd (cu + (gRb v4) ≤ bo ∧ su + (8 * gRb v4) ≤ 8 * bo) <|
      (f_X8_root 10 S0 (some a0) v1 v3 v4 0).bind fun S8 =>
      some S8
    else
      gBi (f_X8_front S0 v4.toInt64) fun x12 S10 =>
      gLet x12.toInt32 fun x13 =>
      (fgR S10 8 22 (some a0)).bind fun x15 =>
      (fI S10 10 x15 v5).bind fun x17 =>
      if x17 = 0 then
        gLet (v3 + 0) fun x37 =>
        (fgR S10 8 22 (some a0)).bind fun x39 =>
        (fI S10 10 x39 v5).bind fun x41 =>
        if x41 = 0 then
          gLet (v5 + 1) fun x50 =>
          f_X8_inner_L8 bo k S10 cu su a0 v1 x37 x13 x50
        else
          gLet (v4 - x13) fun x46 =>
          gLet (v5 + 1) fun x48 =>
          f_X8_inner_L8 bo k S10 cu su a0 v1 x37 x46 x48
      else
        gLet (v3 + x13) fun x22 =>
        (fgR S10 8 22 (some a0)).bind fun x24 =>
        (fI S10 10 x24 v5).bind fun x26 =>
        if x26 = 0 then
          gLet (v5 + 1) fun x35 =>
          f_X8_inner_L8 bo k S10 cu su a0 v1 x22 x13 x35
        else
          gLet (v4 - x13) fun x31 =>
          gLet (v5 + 1) fun x33 =>
          f_X8_inner_L8 bo k S10 cu su a0 v1 x22 x31 x33
set_option maxRecDepth 100000 in
set_option maxHeartbeats 4000000 in
theorem w_X8_inner_L8 {p : Program} {l : Launch} {e : Env} {s : State} {m : MethodId} {args : Array Value} {below : List Frame} {meth : Method} {c : Code} {D : gD} {S9 : gS} {bo : Nat} (hl : l.stackTraces = false) (X : gX D p l s m args meth c cX8_inner 7 RX8) (hr : meth.sig.returnType = none) : ∀ (k : Nat) (S0 : gS) (cu su : Nat) (a0 : Nat) (v1 : Int32) (v3 : Int32) (v4 : Int32) (v5 : Int32), f_X8_inner_L8 bo k S0 cu su a0 v1 v3 v4 v5 = some S9 → gJ D p l e { frames := 19, cells := bo, slots := 8 * bo, locals := 475 } s m args below meth c (MQ below (gQ D none S9) args s (bo) (8 * bo) (gF D)) 7 (cu) (su) S0 8 [(0, va_rf (some a0)), (1, .int v1), (3, .int v3), (4, .int v4), (5, .int v5)] [] := by
  intro k
  induction k with
  | zero => intro S0 cu su a0 v1 v3 v4 v5 h0; cases h0
  | succ k ih =>
    intro S0 cu su a0 v1 v3 v4 v5 h0
    have h0 := h0
    unfold f_X8_inner_L8 at h0
    obtain ⟨gu, hu⟩ := g_gd h0; clear h0
    refine g_iload (j := 4) X dX8_inner_8 rfl ?_
    refine g_aload_n (j := 0) X dX8_inner_10 rfl rfl ?_
    obtain ⟨x1, ex1, h2⟩ := g_bd hu; clear hu
    refine g_fI (ci := 8) (k := 23) X rfl il8 (by decide) tw726 (by decide) (fun _ _ _ => rfl) ex1 dX8_inner_11 ?_
    clear ex1
    refine g_icmp_ge (tgt := 73) X dX8_inner_14 (by decide) (fun c3 => ?_) (fun c3 => ?_)
    · have h4 := g_ip h2 c3; clear h2
      refine g_aload_n (j := 0) X dX8_inner_73 rfl rfl ?_
      refine g_iload_n (j := 1) X dX8_inner_74 rfl rfl ?_
      refine g_iload_n (j := 2) X dX8_inner_75 rfl rfl ?_
      refine g_iload (j := 3) X dX8_inner_76 rfl ?_
      refine g_iconst X dX8_inner_78 (v := 0) (by decide) ?_
      obtain ⟨g6, h7⟩ := g_gd h4; clear h4
      obtain ⟨S8, eS8, h9⟩ := g_bd h7; clear h7
      refine g_cS (n := 5) (As := [va_rf (some a0), .int v1, .int v3, .int v4, .int 0]) X (c_X8_root hl D 10 eS8) tw801 tw802 tw51 tw803 (by decide +kernel) rfl rfl ⟨Nat.le_of_ble_eq_true rfl, Nat.le_of_ble_eq_true rfl⟩ rfl rfl (Nat.le_of_ble_eq_true rfl) dX8_inner_79 ⟨g6.1, g6.2⟩ ?_
      clear eS8
      cases h9
      exact g_vret X hr g6.1 g6.2 dX8_inner_82
    · have h5 := g_in h2 c3; clear h2
      refine g_iload (j := 3) X dX8_inner_17 rfl ?_
      refine g_i2l X dX8_inner_19 ?_
      obtain ⟨x12, S10, eS10, h11⟩ := g_bi h5; clear h5
      refine g_cS (n := 1) (As := [.long v4.toInt64]) X (c_X8_front hl D eS10) tw896 tw897 tw51 tw898 (by decide +kernel) rfl rfl ⟨Nat.le_of_ble_eq_true rfl, Nat.le_of_ble_eq_true rfl⟩ rfl rfl (Nat.le_of_ble_eq_true rfl) dX8_inner_20 ⟨gu.1, gu.2⟩ ?_
      clear eS10
      refine g_l2i X dX8_inner_23 ?_
      obtain ⟨x13, ex13, h14⟩ := g_let h11; clear h11; rw [← ex13]; clear ex13
      refine g_istore (i := 6) (lv' := [(6, .int x13), (0, va_rf (some a0)), (1, .int v1), (3, .int v3), (4, .int v4), (5, .int v5)]) X dX8_inner_24 (by decide) rfl ?_
      refine g_iload_n (j := 3) X dX8_inner_26 rfl rfl ?_
      refine g_aload_n (j := 1) X dX8_inner_27 rfl rfl ?_
      obtain ⟨x15, ex15, h16⟩ := g_bd h14; clear h14
      refine g_fR (ci := 8) (k := 22) X rfl il8 (by decide) tw725 (by decide) (fun _ _ _ => rfl) ex15 dX8_inner_28 ?_
      clear ex15
      refine g_iload (j := 5) X dX8_inner_31 rfl ?_
      obtain ⟨x17, ex17, h18⟩ := g_bd h16; clear h16
      refine g_iald X ex17 dX8_inner_33 ?_
      clear ex17
      refine g_if_ne (tgt := 41) X dX8_inner_34 (by decide) (fun c19 => ?_) (fun c19 => ?_)
      · have h20 := g_in h18 c19; clear h18
        refine g_iload (j := 0) X dX8_inner_41 rfl ?_
        refine g_iadd X dX8_inner_43 ?_
        obtain ⟨x22, ex22, h23⟩ := g_let h20; clear h20; rw [← ex22]; clear ex22
        refine g_istore_n (i := 3) (lv' := [(3, .int x22), (6, .int x13), (0, va_rf (some a0)), (1, .int v1), (4, .int v4), (5, .int v5)]) X dX8_inner_44 rfl (by decide) rfl ?_
        refine g_aload_n (j := 2) X dX8_inner_45 rfl rfl ?_
        obtain ⟨x24, ex24, h25⟩ := g_bd h23; clear h23
        refine g_fR (ci := 8) (k := 22) X rfl il8 (by decide) tw725 (by decide) (fun _ _ _ => rfl) ex24 dX8_inner_46 ?_
        clear ex24
        refine g_iload (j := 5) X dX8_inner_49 rfl ?_
        obtain ⟨x26, ex26, h27⟩ := g_bd h25; clear h25
        refine g_iald X ex26 dX8_inner_51 ?_
        clear ex26
        refine g_if_ne (tgt := 60) X dX8_inner_52 (by decide) (fun c28 => ?_) (fun c28 => ?_)
        · have h29 := g_in h27 c28; clear h27
          refine g_iload (j := 4) X dX8_inner_60 rfl ?_
          refine g_iload (j := 1) X dX8_inner_62 rfl ?_
          refine g_isub X dX8_inner_64 ?_
          obtain ⟨x31, ex31, h32⟩ := g_let h29; clear h29; rw [← ex31]; clear ex31
          refine g_istore (i := 4) (lv' := [(4, .int x31), (3, .int x22), (6, .int x13), (0, va_rf (some a0)), (1, .int v1), (5, .int v5)]) X dX8_inner_65 (by decide) rfl ?_
          obtain ⟨x33, ex33, h34⟩ := g_let h32; clear h32
          refine g_iinc (j := 5) (v := x33) (lv' := [(5, .int x33), (4, .int x31), (3, .int x22), (6, .int x13), (0, va_rf (some a0)), (1, .int v1)]) X dX8_inner_67 rfl (by rw [ex33]; rfl) (by decide) rfl ?_
          clear ex33
          refine g_goto (tgt := 8) X dX8_inner_70 (by decide) ?_
          refine g_sub [4, 5, 2, 1, 0] rfl ?_
          exact ih S10 cu su a0 v1 x22 x31 x33 h34
        · have h30 := g_ip h27 c28; clear h27
          refine g_iload (j := 1) X dX8_inner_55 rfl ?_
          refine g_goto (tgt := 65) X dX8_inner_57 (by decide) ?_
          refine g_istore (i := 4) (lv' := [(4, .int x13), (3, .int x22), (6, .int x13), (0, va_rf (some a0)), (1, .int v1), (5, .int v5)]) X dX8_inner_65 (by decide) rfl ?_
          obtain ⟨x35, ex35, h36⟩ := g_let h30; clear h30
          refine g_iinc (j := 5) (v := x35) (lv' := [(5, .int x35), (4, .int x13), (3, .int x22), (6, .int x13), (0, va_rf (some a0)), (1, .int v1)]) X dX8_inner_67 rfl (by rw [ex35]; rfl) (by decide) rfl ?_
          clear ex35
          refine g_goto (tgt := 8) X dX8_inner_70 (by decide) ?_
          refine g_sub [4, 5, 2, 1, 0] rfl ?_
          exact ih S10 cu su a0 v1 x22 x13 x35 h36
      · have h21 := g_ip h18 c19; clear h18
        refine g_iconst X dX8_inner_37 (v := 0) (by decide) ?_
        refine g_goto (tgt := 43) X dX8_inner_38 (by decide) ?_
        refine g_iadd X dX8_inner_43 ?_
        obtain ⟨x37, ex37, h38⟩ := g_let h21; clear h21; rw [← ex37]; clear ex37
        refine g_istore_n (i := 3) (lv' := [(3, .int x37), (6, .int x13), (0, va_rf (some a0)), (1, .int v1), (4, .int v4), (5, .int v5)]) X dX8_inner_44 rfl (by decide) rfl ?_
        refine g_aload_n (j := 2) X dX8_inner_45 rfl rfl ?_
        obtain ⟨x39, ex39, h40⟩ := g_bd h38; clear h38
        refine g_fR (ci := 8) (k := 22) X rfl il8 (by decide) tw725 (by decide) (fun _ _ _ => rfl) ex39 dX8_inner_46 ?_
        clear ex39
        refine g_iload (j := 5) X dX8_inner_49 rfl ?_
        obtain ⟨x41, ex41, h42⟩ := g_bd h40; clear h40
        refine g_iald X ex41 dX8_inner_51 ?_
        clear ex41
        refine g_if_ne (tgt := 60) X dX8_inner_52 (by decide) (fun c43 => ?_) (fun c43 => ?_)
        · have h44 := g_in h42 c43; clear h42
          refine g_iload (j := 4) X dX8_inner_60 rfl ?_
          refine g_iload (j := 1) X dX8_inner_62 rfl ?_
          refine g_isub X dX8_inner_64 ?_
          obtain ⟨x46, ex46, h47⟩ := g_let h44; clear h44; rw [← ex46]; clear ex46
          refine g_istore (i := 4) (lv' := [(4, .int x46), (3, .int x37), (6, .int x13), (0, va_rf (some a0)), (1, .int v1), (5, .int v5)]) X dX8_inner_65 (by decide) rfl ?_
          obtain ⟨x48, ex48, h49⟩ := g_let h47; clear h47
          refine g_iinc (j := 5) (v := x48) (lv' := [(5, .int x48), (4, .int x46), (3, .int x37), (6, .int x13), (0, va_rf (some a0)), (1, .int v1)]) X dX8_inner_67 rfl (by rw [ex48]; rfl) (by decide) rfl ?_
          clear ex48
          refine g_goto (tgt := 8) X dX8_inner_70 (by decide) ?_
          refine g_sub [4, 5, 2, 1, 0] rfl ?_
          exact ih S10 cu su a0 v1 x37 x46 x48 h49
        · have h45 := g_ip h42 c43; clear h42
          refine g_iload (j := 1) X dX8_inner_55 rfl ?_
          refine g_goto (tgt := 65) X dX8_inner_57 (by decide) ?_
          refine g_istore (i := 4) (lv' := [(4, .int x13), (3, .int x37), (6, .int x13), (0, va_rf (some a0)), (1, .int v1), (5, .int v5)]) X dX8_inner_65 (by decide) rfl ?_
          obtain ⟨x50, ex50, h51⟩ := g_let h45; clear h45
          refine g_iinc (j := 5) (v := x50) (lv' := [(5, .int x50), (4, .int x13), (3, .int x37), (6, .int x13), (0, va_rf (some a0)), (1, .int v1)]) X dX8_inner_67 rfl (by rw [ex50]; rfl) (by decide) rfl ?_
          clear ex50
          refine g_goto (tgt := 8) X dX8_inner_70 (by decide) ?_
          refine g_sub [4, 5, 2, 1, 0] rfl ?_
          exact ih S10 cu su a0 v1 x37 x13 x50 h51
def f_X8_inner (bo : Nat) (S0 : gS) (a0 : Nat) (v1 : Int32) (v2 : Int32) : Option gS :=
  f_X8_inner_L8 bo gFuel S0 0 0 a0 v1 0 v2 0
set_option maxRecDepth 100000 in
set_option maxHeartbeats 4000000 in
theorem c_X8_inner {l : Launch} (hl : l.stackTraces = false) (D : gD) {bo : Nat} {S0 S9 : gS} {a0 : Nat} {v1 : Int32} {v2 : Int32} (h0 : f_X8_inner bo S0 a0 v1 v2 = some S9) : Met l yX8_inner (gws yX8_inner cX8_inner 7 none) { frames := 19, cells := bo, slots := 8 * bo, locals := 475 } (gPc D S0 [.ref a0, .int v1, .int v2]) (gQ D none S9) (bo) (8 * bo) (gF D) := by
  refine g_met (lv := [(0, va_rf (some a0)), (1, .int v1), (2, .int v2)]) hl (by decide) (Nat.le_of_ble_eq_true rfl) rfl (fun p e s m args below meth c X hr hn => ?_)
  have X : gX D p l s m args meth c cX8_inner 7 RX8 := X
  unfold f_X8_inner at h0
  refine g_iconst X dX8_inner_0 (v := 0) (by decide) ?_
  refine g_istore_n (i := 3) (lv' := [(3, .int 0), (0, va_rf (some a0)), (1, .int v1), (2, .int v2)]) X dX8_inner_1 rfl (by decide) rfl ?_
  refine g_iload_n (j := 3) X dX8_inner_2 rfl rfl ?_
  refine g_istore (i := 4) (lv' := [(4, .int v2), (3, .int 0), (0, va_rf (some a0)), (1, .int v1), (2, .int v2)]) X dX8_inner_3 (by decide) rfl ?_
  refine g_iconst X dX8_inner_5 (v := 0) (by decide) ?_
  refine g_istore (i := 5) (lv' := [(5, .int 0), (4, .int v2), (3, .int 0), (0, va_rf (some a0)), (1, .int v1), (2, .int v2)]) X dX8_inner_6 (by decide) rfl ?_
  refine g_sub [3, 4, 2, 1, 0] rfl ?_
  exact w_X8_inner_L8 hl X hr gFuel S0 0 0 a0 v1 0 v2 0 h0
def f_X8_proof_L87 (gi : Nat) (gh : Nat → Nat) : Nat → gS → Nat → Nat → Nat → Int32 → Int32 → Int32 → Option (Int32 × gS)
  | 0, _, _, _, _, _, _, _ => none
  | k + 1, S0, cu, su, a0, v1, v3, v4 =>
    gGd (cu ≤ 1000 ∧ su ≤ 8000) <|
    if v4 < 0 then
      (fgI S0 8 4 (some a0)).bind fun x35 =>
      some (x35 / 32, S0)
    else
      gDc S0 8 (some a0) fun a37 =>
      gGd (cu + ((gh (v4).toNatClampNeg)) ≤ 1000 ∧ su + (8 * (gh (v4).toNatClampNeg)) ≤ 8000) <|
      (f_X8_other (gh (v4).toNatClampNeg) S0 a37 v1 v3 v4).bind fun S41 =>
      gDc S41 8 (some a0) fun a43 =>
      (f_X8_outSlot S41 a43 0).bind fun S45 =>
      gLet (v4 + (-1)) fun x47 =>
      f_X8_proof_L87 gi gh k S45 (cu + ((gh (v4).toNatClampNeg))) (su + (8 * (gh (v4).toNatClampNeg))) a0 v1 v3 x47
set_option maxRecDepth 100000 in
set_option maxHeartbeats 4000000 in
theorem w_X8_proof_L87 {p : Program} {l : Launch} {e : Env} {s : State} {m : MethodId} {args : Array Value} {below : List Frame} {meth : Method} {c : Code} {D : gD} {S9 : gS} {res : Int32} {gi : Nat} {gh : Nat → Nat} (hl : l.stackTraces = false) (X : gX D p l s m args meth c cX8_proof 5 RX8) (hr : meth.sig.returnType = (some .int)) : ∀ (k : Nat) (S0 : gS) (cu su : Nat) (a0 : Nat) (v1 : Int32) (v3 : Int32) (v4 : Int32), f_X8_proof_L87 gi gh k S0 cu su a0 v1 v3 v4 = some (res, S9) → gJ D p l e { frames := 20, cells := 1000, slots := 8000, locals := 502 } s m args below meth c (MQ below (gQ D (some (.int res)) S9) args s (1000) (8000) (gF D)) 5 (cu) (su) S0 87 [(0, va_rf (some a0)), (1, .int v1), (3, .int v3), (4, .int v4)] [] := by
  intro k
  induction k with
  | zero => intro S0 cu su a0 v1 v3 v4 h0; cases h0
  | succ k ih =>
    intro S0 cu su a0 v1 v3 v4 h0
    have h0 := h0
    unfold f_X8_proof_L87 at h0
    obtain ⟨gu, hu⟩ := g_gd h0; clear h0
    refine g_iload (j := 3) X dX8_proof_87 rfl ?_
    refine g_if_lt (tgt := 111) X dX8_proof_89 (by decide) (fun c32 => ?_) (fun c32 => ?_)
    · have h33 := g_ip hu c32; clear hu
      refine g_aload_n (j := 0) X dX8_proof_111 rfl rfl ?_
      obtain ⟨x35, ex35, h36⟩ := g_bd h33; clear h33
      refine g_fI (ci := 8) (k := 4) X rfl il8 (by decide) tw707 (by decide) (fun _ _ _ => rfl) ex35 dX8_proof_112 ?_
      clear ex35
      refine g_bipush X dX8_proof_115 (v := 32) (by decide) ?_
      refine g_idiv X dX8_proof_117 (by decide) ?_
      obtain ⟨rfl, rfl⟩ := g_end h36
      exact g_iret X hr gu.1 gu.2 dX8_proof_118
    · have h34 := g_in hu c32; clear hu
      refine g_aload_n (j := 0) X dX8_proof_92 rfl rfl ?_
      refine g_iload_n (j := 1) X dX8_proof_93 rfl rfl ?_
      refine g_iload_n (j := 2) X dX8_proof_94 rfl rfl ?_
      refine g_iload (j := 3) X dX8_proof_95 rfl ?_
      obtain ⟨a37, ea37, ka37, h38⟩ := g_dc h34; clear h34
      obtain ⟨g39, h40⟩ := g_gd h38; clear h38
      obtain ⟨S41, eS41, h42⟩ := g_bd h40; clear h40
      refine g_cV (n := 3) (As := [.int v1, .int v3, .int v4]) X (c_X8_other hl D eS41) tw907 tw908 tw32 tw51 tw909 (by decide +kernel) rfl rfl ⟨Nat.le_of_ble_eq_true rfl, Nat.le_of_ble_eq_true rfl⟩ (ci := 8) rfl (by decide) ea37 ka37 rfl rfl (Nat.le_of_ble_eq_true rfl) dX8_proof_97 ⟨g39.1, g39.2⟩ ?_
      clear eS41 ea37 ka37
      refine g_aload_n (j := 0) X dX8_proof_100 rfl rfl ?_
      refine g_iconst X dX8_proof_101 (v := 0) (by decide) ?_
      obtain ⟨a43, ea43, ka43, h44⟩ := g_dc h42; clear h42
      obtain ⟨S45, eS45, h46⟩ := g_bd h44; clear h44
      refine g_cV (n := 1) (As := [.int 0]) X (c_X8_outSlot hl D eS45) tw872 tw873 tw28 tw51 tw874 (by decide +kernel) rfl rfl ⟨Nat.le_of_ble_eq_true rfl, Nat.le_of_ble_eq_true rfl⟩ (ci := 8) rfl (by decide) ea43 ka43 rfl rfl (Nat.le_of_ble_eq_true rfl) dX8_proof_102 ⟨g39.1, g39.2⟩ ?_
      clear eS45 ea43 ka43
      obtain ⟨x47, ex47, h48⟩ := g_let h46; clear h46
      refine g_iinc (j := 3) (v := x47) (lv' := [(4, .int x47), (0, va_rf (some a0)), (1, .int v1), (3, .int v3)]) X dX8_proof_105 rfl (by rw [ex47]; rfl) (by decide) rfl ?_
      clear ex47
      refine g_goto (tgt := 87) X dX8_proof_108 (by decide) ?_
      refine g_sub [1, 2, 3, 0] rfl ?_
      exact ih S45 (cu + ((gh (v4).toNatClampNeg))) (su + (8 * (gh (v4).toNatClampNeg))) a0 v1 v3 x47 h48
def f_X8_proof_B79 (gi : Nat) (gh : Nat → Nat) (S0 : gS) (cu su : Nat) (a0 : Nat) (v1 : Int32) (v3 : Int32) : Option (Int32 × gS) :=
  gGd (cu ≤ 1000 ∧ su ≤ 8000) <|
  (fgI S0 8 23 (some a0)).bind fun x28 =>
  gLet (x28 - 1) fun x30 =>
  f_X8_proof_L87 gi gh gFuel S0 cu su a0 v1 v3 x30
set_option maxRecDepth 100000 in
set_option maxHeartbeats 4000000 in
theorem w_X8_proof_B79 {p : Program} {l : Launch} {e : Env} {s : State} {m : MethodId} {args : Array Value} {below : List Frame} {meth : Method} {c : Code} {D : gD} {S9 : gS} {res : Int32} {gi : Nat} {gh : Nat → Nat} (hl : l.stackTraces = false) (X : gX D p l s m args meth c cX8_proof 5 RX8) (hr : meth.sig.returnType = (some .int)) (S0 : gS) (cu su : Nat) (a0 : Nat) (v1 : Int32) (v3 : Int32) (h0 : f_X8_proof_B79 gi gh S0 cu su a0 v1 v3 = some (res, S9)) : gJ D p l e { frames := 20, cells := 1000, slots := 8000, locals := 502 } s m args below meth c (MQ below (gQ D (some (.int res)) S9) args s (1000) (8000) (gF D)) 5 (cu) (su) S0 79 [(0, va_rf (some a0)), (1, .int v1), (3, .int v3)] [] := by
  unfold f_X8_proof_B79 at h0
  obtain ⟨gu, hu⟩ := g_gd h0; clear h0
  refine g_aload_n (j := 0) X dX8_proof_79 rfl rfl ?_
  obtain ⟨x28, ex28, h29⟩ := g_bd hu; clear hu
  refine g_fI (ci := 8) (k := 23) X rfl il8 (by decide) tw726 (by decide) (fun _ _ _ => rfl) ex28 dX8_proof_80 ?_
  clear ex28
  refine g_iconst X dX8_proof_83 (v := 1) (by decide) ?_
  refine g_isub X dX8_proof_84 ?_
  obtain ⟨x30, ex30, h31⟩ := g_let h29; clear h29; rw [← ex30]; clear ex30
  refine g_istore (i := 4) (lv' := [(4, .int x30), (0, va_rf (some a0)), (1, .int v1), (3, .int v3)]) X dX8_proof_85 (by decide) rfl ?_
  refine g_sub [1, 2, 3, 0] rfl ?_
  exact w_X8_proof_L87 hl X hr gFuel S0 cu su a0 v1 v3 x30 h31
def f_X8_proof_B36 (gi : Nat) (gh : Nat → Nat) (S0 : gS) (cu su : Nat) (a0 : Nat) (v1 : Int32) (v2 : Int32) (v3 : Int32) (t0 : Int32) (t1 : Option Nat) : Option (Int32 × gS) :=
  gGd (cu ≤ 1000 ∧ su ≤ 8000) <|
  (fpI S0 8 0 t1 t0).bind fun S10 =>
  (fgI S10 8 0 (some a0)).bind fun x12 =>
  if x12 ≤ 0 then
    gDc S10 8 (some a0) fun a17 =>
    (f_X8_stepsOf S10 a17 v2.toInt64 v3.toInt64).bind fun S19 =>
    (fpI S19 8 4 (some a0) 0).bind fun S21 =>
    (fgI S21 8 24 (some a0)).bind fun x23 =>
    if x23 = 0 then
      gDc S21 8 (some a0) fun a49 =>
      gGd (cu + (gi) ≤ 1000 ∧ su + (8 * gi) ≤ 8000) <|
      (f_X8_inner gi S21 a49 v1 v3).bind fun S53 =>
      gDc S53 8 (some a0) fun a55 =>
      (f_X8_outSlot S53 a55 0).bind fun S57 =>
      f_X8_proof_B79 gi gh S57 (cu + (gi)) (su + (8 * gi)) a0 v1 v3
    else
      f_X8_proof_B79 gi gh S21 cu su a0 v1 v3
  else
    some (0, S10)
set_option maxRecDepth 100000 in
set_option maxHeartbeats 4000000 in
theorem w_X8_proof_B36 {p : Program} {l : Launch} {e : Env} {s : State} {m : MethodId} {args : Array Value} {below : List Frame} {meth : Method} {c : Code} {D : gD} {S9 : gS} {res : Int32} {gi : Nat} {gh : Nat → Nat} (hl : l.stackTraces = false) (X : gX D p l s m args meth c cX8_proof 5 RX8) (hr : meth.sig.returnType = (some .int)) (S0 : gS) (cu su : Nat) (a0 : Nat) (v1 : Int32) (v2 : Int32) (v3 : Int32) (t0 : Int32) (t1 : Option Nat) (h0 : f_X8_proof_B36 gi gh S0 cu su a0 v1 v2 v3 t0 t1 = some (res, S9)) : gJ D p l e { frames := 20, cells := 1000, slots := 8000, locals := 502 } s m args below meth c (MQ below (gQ D (some (.int res)) S9) args s (1000) (8000) (gF D)) 5 (cu) (su) S0 36 [(0, va_rf (some a0)), (1, .int v1), (2, .int v2), (3, .int v3)] [.int t0, va_rf t1] := by
  unfold f_X8_proof_B36 at h0
  obtain ⟨gu, hu⟩ := g_gd h0; clear h0
  obtain ⟨S10, eS10, h11⟩ := g_bd hu; clear hu
  refine g_pI (ci := 8) (k := 0) X rfl il8 tyX8 tyX8_ok nmX8 (by decide) tw703 rfl (by decide) (fun _ _ _ => rfl) rfl eS10 dX8_proof_36 ?_
  clear eS10
  refine g_aload_n (j := 0) X dX8_proof_39 rfl rfl ?_
  obtain ⟨x12, ex12, h13⟩ := g_bd h11; clear h11
  refine g_fI (ci := 8) (k := 0) X rfl il8 (by decide) tw703 (by decide) (fun _ _ _ => rfl) ex12 dX8_proof_40 ?_
  clear ex12
  refine g_if_le (tgt := 48) X dX8_proof_43 (by decide) (fun c14 => ?_) (fun c14 => ?_)
  · have h15 := g_ip h13 c14; clear h13
    refine g_aload_n (j := 0) X dX8_proof_48 rfl rfl ?_
    refine g_iload_n (j := 2) X dX8_proof_49 rfl rfl ?_
    refine g_i2l X dX8_proof_50 ?_
    refine g_iload_n (j := 3) X dX8_proof_51 rfl rfl ?_
    refine g_i2l X dX8_proof_52 ?_
    obtain ⟨a17, ea17, ka17, h18⟩ := g_dc h15; clear h15
    obtain ⟨S19, eS19, h20⟩ := g_bd h18; clear h18
    refine g_cV (n := 2) (As := [.long v2.toInt64, .long v3.toInt64]) X (c_X8_stepsOf hl D eS19) tw914 tw915 tw33 tw51 tw916 (by decide +kernel) rfl rfl ⟨Nat.le_of_ble_eq_true rfl, Nat.le_of_ble_eq_true rfl⟩ (ci := 8) rfl (by decide) ea17 ka17 rfl rfl (Nat.le_of_ble_eq_true rfl) dX8_proof_53 ⟨gu.1, gu.2⟩ ?_
    clear eS19 ea17 ka17
    refine g_aload_n (j := 0) X dX8_proof_56 rfl rfl ?_
    refine g_iconst X dX8_proof_57 (v := 0) (by decide) ?_
    obtain ⟨S21, eS21, h22⟩ := g_bd h20; clear h20
    refine g_pI (ci := 8) (k := 4) X rfl il8 tyX8 tyX8_ok nmX8 (by decide) tw707 rfl (by decide) (fun _ _ _ => rfl) rfl eS21 dX8_proof_58 ?_
    clear eS21
    refine g_aload_n (j := 0) X dX8_proof_61 rfl rfl ?_
    obtain ⟨x23, ex23, h24⟩ := g_bd h22; clear h22
    refine g_fI (ci := 8) (k := 24) X rfl il8 (by decide) tw727 (by decide) (fun _ _ _ => rfl) ex23 dX8_proof_62 ?_
    clear ex23
    refine g_if_ne (tgt := 79) X dX8_proof_65 (by decide) (fun c25 => ?_) (fun c25 => ?_)
    · have h26 := g_in h24 c25; clear h24
      refine g_sub [0, 1, 3] rfl ?_
      exact w_X8_proof_B79 hl X hr S21 cu su a0 v1 v3 h26
    · have h27 := g_ip h24 c25; clear h24
      refine g_aload_n (j := 0) X dX8_proof_68 rfl rfl ?_
      refine g_iload_n (j := 1) X dX8_proof_69 rfl rfl ?_
      refine g_iload_n (j := 3) X dX8_proof_70 rfl rfl ?_
      obtain ⟨a49, ea49, ka49, h50⟩ := g_dc h27; clear h27
      obtain ⟨g51, h52⟩ := g_gd h50; clear h50
      obtain ⟨S53, eS53, h54⟩ := g_bd h52; clear h52
      refine g_cV (n := 2) (As := [.int v1, .int v3]) X (c_X8_inner hl D eS53) tw917 tw918 tw34 tw51 tw919 (by decide +kernel) rfl rfl ⟨Nat.le_of_ble_eq_true rfl, Nat.le_of_ble_eq_true rfl⟩ (ci := 8) rfl (by decide) ea49 ka49 rfl rfl (Nat.le_of_ble_eq_true rfl) dX8_proof_71 ⟨g51.1, g51.2⟩ ?_
      clear eS53 ea49 ka49
      refine g_aload_n (j := 0) X dX8_proof_74 rfl rfl ?_
      refine g_iconst X dX8_proof_75 (v := 0) (by decide) ?_
      obtain ⟨a55, ea55, ka55, h56⟩ := g_dc h54; clear h54
      obtain ⟨S57, eS57, h58⟩ := g_bd h56; clear h56
      refine g_cV (n := 1) (As := [.int 0]) X (c_X8_outSlot hl D eS57) tw872 tw873 tw28 tw51 tw874 (by decide +kernel) rfl rfl ⟨Nat.le_of_ble_eq_true rfl, Nat.le_of_ble_eq_true rfl⟩ (ci := 8) rfl (by decide) ea55 ka55 rfl rfl (Nat.le_of_ble_eq_true rfl) dX8_proof_76 ⟨g51.1, g51.2⟩ ?_
      clear eS57 ea55 ka55
      refine g_sub [0, 1, 3] rfl ?_
      exact w_X8_proof_B79 hl X hr S57 (cu + (gi)) (su + (8 * gi)) a0 v1 v3 h58
  · have h16 := g_in h13 c14; clear h13
    refine g_iconst X dX8_proof_46 (v := 0) (by decide) ?_
    obtain ⟨rfl, rfl⟩ := g_end h16
    exact g_iret X hr gu.1 gu.2 dX8_proof_47
def f_X8_proof_B31 (gi : Nat) (gh : Nat → Nat) (S0 : gS) (cu su : Nat) (a0 : Nat) (v1 : Int32) (v2 : Int32) (v3 : Int32) (t0 : Option Nat) : Option (Int32 × gS) :=
  gGd (cu ≤ 1000 ∧ su ≤ 8000) <|
  f_X8_proof_B36 gi gh S0 cu su a0 v1 v2 v3 2 t0
set_option maxRecDepth 100000 in
set_option maxHeartbeats 4000000 in
theorem w_X8_proof_B31 {p : Program} {l : Launch} {e : Env} {s : State} {m : MethodId} {args : Array Value} {below : List Frame} {meth : Method} {c : Code} {D : gD} {S9 : gS} {res : Int32} {gi : Nat} {gh : Nat → Nat} (hl : l.stackTraces = false) (X : gX D p l s m args meth c cX8_proof 5 RX8) (hr : meth.sig.returnType = (some .int)) (S0 : gS) (cu su : Nat) (a0 : Nat) (v1 : Int32) (v2 : Int32) (v3 : Int32) (t0 : Option Nat) (h0 : f_X8_proof_B31 gi gh S0 cu su a0 v1 v2 v3 t0 = some (res, S9)) : gJ D p l e { frames := 20, cells := 1000, slots := 8000, locals := 502 } s m args below meth c (MQ below (gQ D (some (.int res)) S9) args s (1000) (8000) (gF D)) 5 (cu) (su) S0 31 [(0, va_rf (some a0)), (1, .int v1), (2, .int v2), (3, .int v3)] [va_rf t0] := by
  unfold f_X8_proof_B31 at h0
  obtain ⟨gu, hu⟩ := g_gd h0; clear h0
  refine g_iconst X dX8_proof_31 (v := 2) (by decide) ?_
  refine g_goto (tgt := 36) X dX8_proof_32 (by decide) ?_
  refine g_sub [0, 1, 2, 3] rfl ?_
  exact w_X8_proof_B36 hl X hr S0 cu su a0 v1 v2 v3 2 t0 hu
def f_X8_proof (gi : Nat) (gh : Nat → Nat) (S0 : gS) (a0 : Nat) (v1 : Int32) (v2 : Int32) (v3 : Int32) : Option (Int32 × gS) :=
  gBi (f_X8_isLog S0 v1) fun x3 S1 =>
  if x3 = 0 then
    f_X8_proof_B36 gi gh S1 0 0 a0 v1 v2 v3 1 (some a0)
  else
    if v2 ≤ 0 then
      f_X8_proof_B31 gi gh S1 0 0 a0 v1 v2 v3 (some a0)
    else
      if v3 < v2 then
        f_X8_proof_B31 gi gh S1 0 0 a0 v1 v2 v3 (some a0)
      else
        (fgR S1 8 10 (some a0)).bind fun x62 =>
        (fI S1 10 x62 v1).bind fun x64 =>
        if v3 ≤ x64 then
          f_X8_proof_B36 gi gh S1 0 0 a0 v1 v2 v3 0 (some a0)
        else
          f_X8_proof_B31 gi gh S1 0 0 a0 v1 v2 v3 (some a0)
set_option maxRecDepth 100000 in
set_option maxHeartbeats 4000000 in
theorem c_X8_proof {l : Launch} (hl : l.stackTraces = false) (D : gD) {gi : Nat} {gh : Nat → Nat} {S0 S9 : gS} {a0 : Nat} {v1 : Int32} {v2 : Int32} {v3 : Int32} {res : Int32} (h0 : f_X8_proof gi gh S0 a0 v1 v2 v3 = some (res, S9)) : Met l yX8_proof (gws yX8_proof cX8_proof 5 (some .int)) { frames := 20, cells := 1000, slots := 8000, locals := 502 } (gPc D S0 [.ref a0, .int v1, .int v2, .int v3]) (gQ D (some (.int res)) S9) (1000) (8000) (gF D) := by
  refine g_met (lv := [(0, va_rf (some a0)), (1, .int v1), (2, .int v2), (3, .int v3)]) hl (by decide) (Nat.le_of_ble_eq_true rfl) rfl (fun p e s m args below meth c X hr hn => ?_)
  have X : gX D p l s m args meth c cX8_proof 5 RX8 := X
  unfold f_X8_proof at h0
  refine g_aload_n (j := 0) X dX8_proof_0 rfl rfl ?_
  refine g_iload_n (j := 1) X dX8_proof_1 rfl rfl ?_
  obtain ⟨x3, S1, eS1, h2⟩ := g_bi h0; clear h0
  refine g_cS (n := 1) (As := [.int v1]) X (c_X8_isLog hl D eS1) tw787 tw788 tw51 tw789 (by decide +kernel) rfl rfl ⟨Nat.le_of_ble_eq_true rfl, Nat.le_of_ble_eq_true rfl⟩ rfl rfl (Nat.le_of_ble_eq_true rfl) dX8_proof_2 ⟨(by decide), (by decide)⟩ ?_
  clear eS1
  refine g_if_ne (tgt := 12) X dX8_proof_5 (by decide) (fun c4 => ?_) (fun c4 => ?_)
  · have h5 := g_in h2 c4; clear h2
    refine g_iload_n (j := 2) X dX8_proof_12 rfl rfl ?_
    refine g_if_le (tgt := 31) X dX8_proof_13 (by decide) (fun c7 => ?_) (fun c7 => ?_)
    · have h8 := g_ip h5 c7; clear h5
      refine g_sub [0, 1, 2, 3] rfl ?_
      exact w_X8_proof_B31 hl X hr S1 0 0 a0 v1 v2 v3 (some a0) h8
    · have h9 := g_in h5 c7; clear h5
      refine g_iload_n (j := 2) X dX8_proof_16 rfl rfl ?_
      refine g_iload_n (j := 3) X dX8_proof_17 rfl rfl ?_
      refine g_icmp_gt (tgt := 31) X dX8_proof_18 (by decide) (fun c59 => ?_) (fun c59 => ?_)
      · have h60 := g_ip h9 c59; clear h9
        refine g_sub [0, 1, 2, 3] rfl ?_
        exact w_X8_proof_B31 hl X hr S1 0 0 a0 v1 v2 v3 (some a0) h60
      · have h61 := g_in h9 c59; clear h9
        refine g_iload_n (j := 3) X dX8_proof_21 rfl rfl ?_
        refine g_aload_n (j := 0) X dX8_proof_22 rfl rfl ?_
        obtain ⟨x62, ex62, h63⟩ := g_bd h61; clear h61
        refine g_fR (ci := 8) (k := 10) X rfl il8 (by decide) tw713 (by decide) (fun _ _ _ => rfl) ex62 dX8_proof_23 ?_
        clear ex62
        refine g_iload_n (j := 1) X dX8_proof_26 rfl rfl ?_
        obtain ⟨x64, ex64, h65⟩ := g_bd h63; clear h63
        refine g_iald X ex64 dX8_proof_27 ?_
        clear ex64
        refine g_icmp_le (tgt := 35) X dX8_proof_28 (by decide) (fun c66 => ?_) (fun c66 => ?_)
        · have h67 := g_ip h65 c66; clear h65
          refine g_iconst X dX8_proof_35 (v := 0) (by decide) ?_
          refine g_sub [0, 1, 2, 3] rfl ?_
          exact w_X8_proof_B36 hl X hr S1 0 0 a0 v1 v2 v3 0 (some a0) h67
        · have h68 := g_in h65 c66; clear h65
          refine g_sub [0, 1, 2, 3] rfl ?_
          exact w_X8_proof_B31 hl X hr S1 0 0 a0 v1 v2 v3 (some a0) h68
  · have h6 := g_ip h2 c4; clear h2
    refine g_iconst X dX8_proof_8 (v := 1) (by decide) ?_
    refine g_goto (tgt := 36) X dX8_proof_9 (by decide) ?_
    refine g_sub [0, 1, 2, 3] rfl ?_
    exact w_X8_proof_B36 hl X hr S1 0 0 a0 v1 v2 v3 1 (some a0) h6
def f_X8_isIn_L76 : Nat → gS → Nat → Nat → Nat → Int32 → Option (Int32 × gS)
  | 0, _, _, _, _, _ => none
  | k + 1, S0, cu, su, a0, v6 =>
    gGd (cu ≤ 70 ∧ su ≤ 560) <|
    if v6 < 0 then
      gDc S0 8 (some a0) fun a41 =>
      gBi (f_X8_isSame S0 a41 0 1) fun x45 S43 =>
      if x45 = 0 ∨ x45 = 1 then
        some (x45, S43)
      else none
    else
      (fgI S0 8 23 (some a0)).bind fun x48 =>
      gDc S0 8 (some a0) fun a50 =>
      (f_X8_fromTape S0 a50 (64 + (32 * ((x48 - 1) - v6))) 2).bind fun S52 =>
      (fgR S52 8 22 (some a0)).bind fun x54 =>
      (fI S52 10 x54 v6).bind fun x56 =>
      if x56 = 0 then
        gDc S52 8 (some a0) fun a69 =>
        gGd (cu + 1 ≤ 70 ∧ su + 8 ≤ 560) <|
        (f_X8_node S52 a69 1 2 1).bind fun S73 =>
        gLet (v6 + (-1)) fun x75 =>
        f_X8_isIn_L76 k S73 (cu + 1) (su + 8) a0 x75
      else
        gDc S52 8 (some a0) fun a61 =>
        gGd (cu + 1 ≤ 70 ∧ su + 8 ≤ 560) <|
        (f_X8_node S52 a61 2 1 1).bind fun S65 =>
        gLet (v6 + (-1)) fun x67 =>
        f_X8_isIn_L76 k S65 (cu + 1) (su + 8) a0 x67
set_option maxRecDepth 100000 in
set_option maxHeartbeats 4000000 in
theorem w_X8_isIn_L76 {p : Program} {l : Launch} {e : Env} {s : State} {m : MethodId} {args : Array Value} {below : List Frame} {meth : Method} {c : Code} {D : gD} {S9 : gS} {res : Int32}  (hl : l.stackTraces = false) (X : gX D p l s m args meth c cX8_isIn 7 RX8) (hr : meth.sig.returnType = (some .boolean)) : ∀ (k : Nat) (S0 : gS) (cu su : Nat) (a0 : Nat) (v6 : Int32), f_X8_isIn_L76 k S0 cu su a0 v6 = some (res, S9) → gJ D p l e { frames := 5, cells := 70, slots := 560, locals := 115 } s m args below meth c (MQ below (gQ D (some (.int res)) S9) args s (70) (560) (gF D)) 7 (cu) (su) S0 76 [(0, va_rf (some a0)), (6, .int v6)] [] := by
  intro k
  induction k with
  | zero => intro S0 cu su a0 v6 h0; cases h0
  | succ k ih =>
    intro S0 cu su a0 v6 h0
    have h0 := h0
    unfold f_X8_isIn_L76 at h0
    obtain ⟨gu, hu⟩ := g_gd h0; clear h0
    refine g_iload (j := 1) X dX8_isIn_76 rfl ?_
    refine g_if_lt (tgt := 134) X dX8_isIn_78 (by decide) (fun c38 => ?_) (fun c38 => ?_)
    · have h39 := g_ip hu c38; clear hu
      refine g_aload_n (j := 0) X dX8_isIn_134 rfl rfl ?_
      refine g_iconst X dX8_isIn_135 (v := 0) (by decide) ?_
      refine g_iconst X dX8_isIn_136 (v := 1) (by decide) ?_
      obtain ⟨a41, ea41, ka41, h42⟩ := g_dc h39; clear h39
      obtain ⟨x45, S43, eS43, h44⟩ := g_bi h42; clear h42
      refine g_cV (n := 2) (As := [.int 0, .int 1]) X (c_X8_isSame hl D eS43) tw882 tw883 tw30 tw51 tw884 (by decide +kernel) rfl rfl ⟨Nat.le_of_ble_eq_true rfl, Nat.le_of_ble_eq_true rfl⟩ (ci := 8) rfl (by decide) ea41 ka41 rfl rfl (Nat.le_of_ble_eq_true rfl) dX8_isIn_137 ⟨gu.1, gu.2⟩ ?_
      clear eS43 ea41 ka41
      obtain ⟨c46, h47⟩ := g_if h44; clear h44
      obtain ⟨rfl, rfl⟩ := g_end h47
      exact g_zret X hr c46 gu.1 gu.2 dX8_isIn_140
    · have h40 := g_in hu c38; clear hu
      refine g_aload_n (j := 0) X dX8_isIn_81 rfl rfl ?_
      refine g_bipush X dX8_isIn_82 (v := 64) (by decide) ?_
      refine g_bipush X dX8_isIn_84 (v := 32) (by decide) ?_
      refine g_aload_n (j := 0) X dX8_isIn_86 rfl rfl ?_
      obtain ⟨x48, ex48, h49⟩ := g_bd h40; clear h40
      refine g_fI (ci := 8) (k := 23) X rfl il8 (by decide) tw726 (by decide) (fun _ _ _ => rfl) ex48 dX8_isIn_87 ?_
      clear ex48
      refine g_iconst X dX8_isIn_90 (v := 1) (by decide) ?_
      refine g_isub X dX8_isIn_91 ?_
      refine g_iload (j := 1) X dX8_isIn_92 rfl ?_
      refine g_isub X dX8_isIn_94 ?_
      refine g_imul X dX8_isIn_95 ?_
      refine g_iadd X dX8_isIn_96 ?_
      refine g_iconst X dX8_isIn_97 (v := 2) (by decide) ?_
      obtain ⟨a50, ea50, ka50, h51⟩ := g_dc h49; clear h49
      obtain ⟨S52, eS52, h53⟩ := g_bd h51; clear h51
      refine g_cV (n := 2) (As := [.int (64 + (32 * ((x48 - 1) - v6))), .int 2]) X (c_X8_fromTape hl D eS52) tw879 tw880 tw29 tw51 tw881 (by decide +kernel) rfl rfl ⟨Nat.le_of_ble_eq_true rfl, Nat.le_of_ble_eq_true rfl⟩ (ci := 8) rfl (by decide) ea50 ka50 rfl rfl (Nat.le_of_ble_eq_true rfl) dX8_isIn_98 ⟨gu.1, gu.2⟩ ?_
      clear eS52 ea50 ka50
      refine g_aload_n (j := 0) X dX8_isIn_101 rfl rfl ?_
      obtain ⟨x54, ex54, h55⟩ := g_bd h53; clear h53
      refine g_fR (ci := 8) (k := 22) X rfl il8 (by decide) tw725 (by decide) (fun _ _ _ => rfl) ex54 dX8_isIn_102 ?_
      clear ex54
      refine g_iload (j := 1) X dX8_isIn_105 rfl ?_
      obtain ⟨x56, ex56, h57⟩ := g_bd h55; clear h55
      refine g_iald X ex56 dX8_isIn_107 ?_
      clear ex56
      refine g_if_ne (tgt := 121) X dX8_isIn_108 (by decide) (fun c58 => ?_) (fun c58 => ?_)
      · have h59 := g_in h57 c58; clear h57
        refine g_aload_n (j := 0) X dX8_isIn_121 rfl rfl ?_
        refine g_iconst X dX8_isIn_122 (v := 2) (by decide) ?_
        refine g_iconst X dX8_isIn_123 (v := 1) (by decide) ?_
        refine g_iconst X dX8_isIn_124 (v := 1) (by decide) ?_
        obtain ⟨a61, ea61, ka61, h62⟩ := g_dc h59; clear h59
        obtain ⟨g63, h64⟩ := g_gd h62; clear h62
        obtain ⟨S65, eS65, h66⟩ := g_bd h64; clear h64
        refine g_cV (n := 3) (As := [.int 2, .int 1, .int 1]) X (c_X8_node hl D eS65) tw838 tw839 tw22 tw51 tw840 (by decide +kernel) rfl rfl ⟨Nat.le_of_ble_eq_true rfl, Nat.le_of_ble_eq_true rfl⟩ (ci := 8) rfl (by decide) ea61 ka61 rfl rfl (Nat.le_of_ble_eq_true rfl) dX8_isIn_125 ⟨g63.1, g63.2⟩ ?_
        clear eS65 ea61 ka61
        obtain ⟨x67, ex67, h68⟩ := g_let h66; clear h66
        refine g_iinc (j := 1) (v := x67) (lv' := [(6, .int x67), (0, va_rf (some a0))]) X dX8_isIn_128 rfl (by rw [ex67]; rfl) (by decide) rfl ?_
        clear ex67
        refine g_goto (tgt := 76) X dX8_isIn_131 (by decide) ?_
        refine g_sub [1, 0] rfl ?_
        exact ih S65 (cu + 1) (su + 8) a0 x67 h68
      · have h60 := g_ip h57 c58; clear h57
        refine g_aload_n (j := 0) X dX8_isIn_111 rfl rfl ?_
        refine g_iconst X dX8_isIn_112 (v := 1) (by decide) ?_
        refine g_iconst X dX8_isIn_113 (v := 2) (by decide) ?_
        refine g_iconst X dX8_isIn_114 (v := 1) (by decide) ?_
        obtain ⟨a69, ea69, ka69, h70⟩ := g_dc h60; clear h60
        obtain ⟨g71, h72⟩ := g_gd h70; clear h70
        obtain ⟨S73, eS73, h74⟩ := g_bd h72; clear h72
        refine g_cV (n := 3) (As := [.int 1, .int 2, .int 1]) X (c_X8_node hl D eS73) tw838 tw839 tw22 tw51 tw840 (by decide +kernel) rfl rfl ⟨Nat.le_of_ble_eq_true rfl, Nat.le_of_ble_eq_true rfl⟩ (ci := 8) rfl (by decide) ea69 ka69 rfl rfl (Nat.le_of_ble_eq_true rfl) dX8_isIn_115 ⟨g71.1, g71.2⟩ ?_
        clear eS73 ea69 ka69
        refine g_goto (tgt := 128) X dX8_isIn_118 (by decide) ?_
        obtain ⟨x75, ex75, h76⟩ := g_let h74; clear h74
        refine g_iinc (j := 1) (v := x75) (lv' := [(6, .int x75), (0, va_rf (some a0))]) X dX8_isIn_128 rfl (by rw [ex75]; rfl) (by decide) rfl ?_
        clear ex75
        refine g_goto (tgt := 76) X dX8_isIn_131 (by decide) ?_
        refine g_sub [1, 0] rfl ?_
        exact ih S73 (cu + 1) (su + 8) a0 x75 h76
def f_X8_isIn (S0 : gS) (a0 : Nat) (v1 : Int64) (v3 : Int64) : Option (Int32 × gS) :=
  gDc S0 8 (some a0) fun a1 =>
  gBi (f_X8_use S0 a1) fun x5 S3 =>
  (fpI S3 8 0 (some a0) 0).bind fun S6 =>
  if (lg_cmp v1 0) < 0 then
    some (0, S6)
  else
    if 0 ≤ (lg_cmp v1 v3) then
      some (0, S6)
    else
      if 64 ≤ x5 then
        gDc S6 8 (some a0) fun a17 =>
        (f_X8_chainOf S6 a17 v1 v3).bind fun S19 =>
        (fgI S19 8 23 (some a0)).bind fun x21 =>
        if x5 = (64 + (32 * x21)) then
          gDc S19 8 (some a0) fun a26 =>
          (f_X8_fromTape S19 a26 0 0).bind fun S28 =>
          gDc S28 8 (some a0) fun a30 =>
          (f_X8_fromTape S28 a30 32 1).bind fun S32 =>
          (fgI S32 8 23 (some a0)).bind fun x34 =>
          gLet (x34 - 1) fun x36 =>
          f_X8_isIn_L76 gFuel S32 0 0 a0 x36
        else
          some (0, S19)
      else
        some (0, S6)
set_option maxRecDepth 100000 in
set_option maxHeartbeats 4000000 in
theorem c_X8_isIn {l : Launch} (hl : l.stackTraces = false) (D : gD)  {S0 S9 : gS} {a0 : Nat} {v1 : Int64} {v3 : Int64} {res : Int32} (h0 : f_X8_isIn S0 a0 v1 v3 = some (res, S9)) : Met l yX8_isIn (gws yX8_isIn cX8_isIn 7 (some .boolean)) { frames := 5, cells := 70, slots := 560, locals := 115 } (gPc D S0 [.ref a0, .long v1, .long v3]) (gQ D (some (.int res)) S9) (70) (560) (gF D) := by
  refine g_met (lv := [(0, va_rf (some a0)), (1, .long v1), (3, .long v3)]) hl (by decide) (Nat.le_of_ble_eq_true rfl) rfl (fun p e s m args below meth c X hr hn => ?_)
  have X : gX D p l s m args meth c cX8_isIn 7 RX8 := X
  unfold f_X8_isIn at h0
  refine g_aload_n (j := 0) X dX8_isIn_0 rfl rfl ?_
  obtain ⟨a1, ea1, ka1, h2⟩ := g_dc h0; clear h0
  obtain ⟨x5, S3, eS3, h4⟩ := g_bi h2; clear h2
  refine g_cV (n := 0) (As := []) X (c_X8_use hl D eS3) tw784 tw785 tw15 tw51 tw786 (by decide +kernel) rfl rfl ⟨Nat.le_of_ble_eq_true rfl, Nat.le_of_ble_eq_true rfl⟩ (ci := 8) rfl (by decide) ea1 ka1 rfl rfl (Nat.le_of_ble_eq_true rfl) dX8_isIn_1 ⟨(by decide), (by decide)⟩ ?_
  clear eS3 ea1 ka1
  refine g_istore (i := 5) (lv' := [(5, .int x5), (0, va_rf (some a0)), (1, .long v1), (3, .long v3)]) X dX8_isIn_4 (by decide) rfl ?_
  refine g_aload_n (j := 1) X dX8_isIn_6 rfl rfl ?_
  refine g_iconst X dX8_isIn_7 (v := 0) (by decide) ?_
  obtain ⟨S6, eS6, h7⟩ := g_bd h4; clear h4
  refine g_pI (ci := 8) (k := 0) X rfl il8 tyX8 tyX8_ok nmX8 (by decide) tw703 rfl (by decide) (fun _ _ _ => rfl) rfl eS6 dX8_isIn_8 ?_
  clear eS6
  refine g_lload_n (j := 2) X dX8_isIn_11 rfl rfl ?_
  refine g_lconst X dX8_isIn_12 (v := 0) (by decide) ?_
  refine g_lcmp X dX8_isIn_13 ?_
  refine g_if_lt (tgt := 30) X dX8_isIn_14 (by decide) (fun c8 => ?_) (fun c8 => ?_)
  · have h9 := g_ip h7 c8; clear h7
    refine g_iconst X dX8_isIn_30 (v := 0) (by decide) ?_
    obtain ⟨rfl, rfl⟩ := g_end h9
    exact g_zret X hr (Or.inl rfl) (by decide) (by decide) dX8_isIn_31
  · have h10 := g_in h7 c8; clear h7
    refine g_lload_n (j := 2) X dX8_isIn_17 rfl rfl ?_
    refine g_lload_n (j := 3) X dX8_isIn_18 rfl rfl ?_
    refine g_lcmp X dX8_isIn_19 ?_
    refine g_if_ge (tgt := 30) X dX8_isIn_20 (by decide) (fun c11 => ?_) (fun c11 => ?_)
    · have h12 := g_ip h10 c11; clear h10
      refine g_iconst X dX8_isIn_30 (v := 0) (by decide) ?_
      obtain ⟨rfl, rfl⟩ := g_end h12
      exact g_zret X hr (Or.inl rfl) (by decide) (by decide) dX8_isIn_31
    · have h13 := g_in h10 c11; clear h10
      refine g_iload (j := 0) X dX8_isIn_23 rfl ?_
      refine g_bipush X dX8_isIn_25 (v := 64) (by decide) ?_
      refine g_icmp_ge (tgt := 32) X dX8_isIn_27 (by decide) (fun c14 => ?_) (fun c14 => ?_)
      · have h15 := g_ip h13 c14; clear h13
        refine g_aload_n (j := 1) X dX8_isIn_32 rfl rfl ?_
        refine g_lload_n (j := 2) X dX8_isIn_33 rfl rfl ?_
        refine g_lload_n (j := 3) X dX8_isIn_34 rfl rfl ?_
        obtain ⟨a17, ea17, ka17, h18⟩ := g_dc h15; clear h15
        obtain ⟨S19, eS19, h20⟩ := g_bd h18; clear h18
        refine g_cV (n := 2) (As := [.long v1, .long v3]) X (c_X8_chainOf hl D eS19) tw893 tw894 tw31 tw51 tw895 (by decide +kernel) rfl rfl ⟨Nat.le_of_ble_eq_true rfl, Nat.le_of_ble_eq_true rfl⟩ (ci := 8) rfl (by decide) ea17 ka17 rfl rfl (Nat.le_of_ble_eq_true rfl) dX8_isIn_35 ⟨(by decide), (by decide)⟩ ?_
        clear eS19 ea17 ka17
        refine g_iload (j := 0) X dX8_isIn_38 rfl ?_
        refine g_bipush X dX8_isIn_40 (v := 64) (by decide) ?_
        refine g_bipush X dX8_isIn_42 (v := 32) (by decide) ?_
        refine g_aload_n (j := 1) X dX8_isIn_44 rfl rfl ?_
        obtain ⟨x21, ex21, h22⟩ := g_bd h20; clear h20
        refine g_fI (ci := 8) (k := 23) X rfl il8 (by decide) tw726 (by decide) (fun _ _ _ => rfl) ex21 dX8_isIn_45 ?_
        clear ex21
        refine g_imul X dX8_isIn_48 ?_
        refine g_iadd X dX8_isIn_49 ?_
        refine g_icmp_eq (tgt := 55) X dX8_isIn_50 (by decide) (fun c23 => ?_) (fun c23 => ?_)
        · have h24 := g_ip h22 c23; clear h22
          refine g_aload_n (j := 1) X dX8_isIn_55 rfl rfl ?_
          refine g_iconst X dX8_isIn_56 (v := 0) (by decide) ?_
          refine g_iconst X dX8_isIn_57 (v := 0) (by decide) ?_
          obtain ⟨a26, ea26, ka26, h27⟩ := g_dc h24; clear h24
          obtain ⟨S28, eS28, h29⟩ := g_bd h27; clear h27
          refine g_cV (n := 2) (As := [.int 0, .int 0]) X (c_X8_fromTape hl D eS28) tw879 tw880 tw29 tw51 tw881 (by decide +kernel) rfl rfl ⟨Nat.le_of_ble_eq_true rfl, Nat.le_of_ble_eq_true rfl⟩ (ci := 8) rfl (by decide) ea26 ka26 rfl rfl (Nat.le_of_ble_eq_true rfl) dX8_isIn_58 ⟨(by decide), (by decide)⟩ ?_
          clear eS28 ea26 ka26
          refine g_aload_n (j := 1) X dX8_isIn_61 rfl rfl ?_
          refine g_bipush X dX8_isIn_62 (v := 32) (by decide) ?_
          refine g_iconst X dX8_isIn_64 (v := 1) (by decide) ?_
          obtain ⟨a30, ea30, ka30, h31⟩ := g_dc h29; clear h29
          obtain ⟨S32, eS32, h33⟩ := g_bd h31; clear h31
          refine g_cV (n := 2) (As := [.int 32, .int 1]) X (c_X8_fromTape hl D eS32) tw879 tw880 tw29 tw51 tw881 (by decide +kernel) rfl rfl ⟨Nat.le_of_ble_eq_true rfl, Nat.le_of_ble_eq_true rfl⟩ (ci := 8) rfl (by decide) ea30 ka30 rfl rfl (Nat.le_of_ble_eq_true rfl) dX8_isIn_65 ⟨(by decide), (by decide)⟩ ?_
          clear eS32 ea30 ka30
          refine g_aload_n (j := 1) X dX8_isIn_68 rfl rfl ?_
          obtain ⟨x34, ex34, h35⟩ := g_bd h33; clear h33
          refine g_fI (ci := 8) (k := 23) X rfl il8 (by decide) tw726 (by decide) (fun _ _ _ => rfl) ex34 dX8_isIn_69 ?_
          clear ex34
          refine g_iconst X dX8_isIn_72 (v := 1) (by decide) ?_
          refine g_isub X dX8_isIn_73 ?_
          obtain ⟨x36, ex36, h37⟩ := g_let h35; clear h35; rw [← ex36]; clear ex36
          refine g_istore (i := 6) (lv' := [(6, .int x36), (5, .int x5), (0, va_rf (some a0)), (1, .long v1), (3, .long v3)]) X dX8_isIn_74 (by decide) rfl ?_
          refine g_sub [2, 0] rfl ?_
          exact w_X8_isIn_L76 hl X hr gFuel S32 0 0 a0 x36 h37
        · have h25 := g_in h22 c23; clear h22
          refine g_iconst X dX8_isIn_53 (v := 0) (by decide) ?_
          obtain ⟨rfl, rfl⟩ := g_end h25
          exact g_zret X hr (Or.inl rfl) (by decide) (by decide) dX8_isIn_54
      · have h16 := g_in h13 c14; clear h13
        refine g_iconst X dX8_isIn_30 (v := 0) (by decide) ?_
        obtain ⟨rfl, rfl⟩ := g_end h16
        exact g_zret X hr (Or.inl rfl) (by decide) (by decide) dX8_isIn_31
