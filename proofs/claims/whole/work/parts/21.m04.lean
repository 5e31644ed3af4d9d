def f_X3_readLong_L17 : Nat → gS → Option Nat → Int32 → Int64 → Int32 → Option (Int64 × gS)
  | 0, _, _, _, _, _ => none
  | k + 1, S0, v0, v1, v2, v4 =>
    if 8 ≤ v4 then
      some (v2, S0)
    else
      (fI S0 9 v0 (v1 + v4)).bind fun x10 =>
      gLet ((v2 <<< ((8 : Int32).toInt64 &&& 63)) ||| ((x10 &&& 255).toInt64)) fun x12 =>
      gLet (v4 + 1) fun x14 =>
      f_X3_readLong_L17 k S0 v0 v1 x12 x14
set_option maxRecDepth 100000 in
set_option maxHeartbeats 4000000 in
theorem w_X3_readLong_L17 {p : Program} {l : Launch} {e : Env} {s : State} {m : MethodId} {args : Array Value} {below : List Frame} {meth : Method} {c : Code} {D : gD} {S9 : gS} {res : Int64}  (hl : l.stackTraces = false) (X : gX D p l s m args meth c cX3_readLong 5 RX3) (hr : meth.sig.returnType = (some .long)) : ∀ (k : Nat) (S0 : gS) (v0 : Option Nat) (v1 : Int32) (v2 : Int64) (v4 : Int32), f_X3_readLong_L17 k S0 v0 v1 v2 v4 = some (res, S9) → gJ D p l e { frames := 1, cells := 0, slots := 0, locals := 22 } s m args below meth c (MQ below (gQ D (some (.long res)) S9) args s (0) (0) (gF D)) 5 (0) (0) S0 17 [(0, va_rf v0), (1, .int v1), (2, .long v2), (4, .int v4)] [] := by
  intro k
  induction k with
  | zero => intro S0 v0 v1 v2 v4 h0; cases h0
  | succ k ih =>
    intro S0 v0 v1 v2 v4 h0
    have h0 := h0
    unfold f_X3_readLong_L17 at h0
    refine g_iload (j := 3) X dX3_readLong_17 rfl ?_
    refine g_bipush X dX3_readLong_19 (v := 8) (by decide) ?_
    refine g_icmp_ge (tgt := 47) X dX3_readLong_21 (by decide) (fun c7 => ?_) (fun c7 => ?_)
    · have h8 := g_ip h0 c7; clear h0
      refine g_lload_n (j := 2) X dX3_readLong_47 rfl rfl ?_
      obtain ⟨rfl, rfl⟩ := g_end h8
      exact g_lret X hr (by decide) (by decide) dX3_readLong_48
    · have h9 := g_in h0 c7; clear h0
      refine g_lload_n (j := 2) X dX3_readLong_24 rfl rfl ?_
      refine g_bipush X dX3_readLong_25 (v := 8) (by decide) ?_
      refine g_lshl X dX3_readLong_27 ?_
      refine g_aload_n (j := 0) X dX3_readLong_28 rfl rfl ?_
      refine g_iload_n (j := 1) X dX3_readLong_29 rfl rfl ?_
      refine g_iload (j := 3) X dX3_readLong_30 rfl ?_
      refine g_iadd X dX3_readLong_32 ?_
      obtain ⟨x10, ex10, h11⟩ := g_bd h9; clear h9
      refine g_bald X ex10 dX3_readLong_33 ?_
      clear ex10
      refine g_sipush X dX3_readLong_34 (v := 255) (by decide) ?_
      refine g_iand X dX3_readLong_37 ?_
      refine g_i2l X dX3_readLong_38 ?_
      refine g_lor X dX3_readLong_39 ?_
      obtain ⟨x12, ex12, h13⟩ := g_let h11; clear h11; rw [← ex12]; clear ex12
      refine g_lstore_n (i := 2) (lv' := [(2, .long x12), (0, va_rf v0), (1, .int v1), (4, .int v4)]) X dX3_readLong_40 rfl (by decide) rfl ?_
      obtain ⟨x14, ex14, h15⟩ := g_let h13; clear h13
      refine g_iinc (j := 3) (v := x14) (lv' := [(4, .int x14), (2, .long x12), (0, va_rf v0), (1, .int v1)]) X dX3_readLong_41 rfl (by rw [ex14]; rfl) (by decide) rfl ?_
      clear ex14
      refine g_goto (tgt := 17) X dX3_readLong_44 (by decide) ?_
      refine g_sub [2, 3, 1, 0] rfl ?_
      exact ih S0 v0 v1 x12 x14 h15
def f_X3_readLong (S0 : gS) (v0 : Option Nat) (v1 : Int32) : Option (Int64 × gS) :=
  gBi (f_X3_holds S0 v0 v1 8) fun x3 S1 =>
  if x3 = 0 then
    some (0, S1)
  else
    f_X3_readLong_L17 gFuel S1 v0 v1 0 0
set_option maxRecDepth 100000 in
set_option maxHeartbeats 4000000 in
theorem c_X3_readLong {l : Launch} (hl : l.stackTraces = false) (D : gD)  {S0 S9 : gS} {v0 : Option Nat} {v1 : Int32} {res : Int64} (h0 : f_X3_readLong S0 v0 v1 = some (res, S9)) : Met l yX3_readLong (gws yX3_readLong cX3_readLong 5 (some .long)) { frames := 1, cells := 0, slots := 0, locals := 22 } (gPc D S0 [va_rf v0, .int v1]) (gQ D (some (.long res)) S9) (0) (0) (gF D) := by
  refine g_met (lv := [(0, va_rf v0), (1, .int v1)]) hl (by decide) (by simp [lg_sl, g_rfc, g_ci, g_cj, g_cr]) (by simp [lv_args, g_rfc, g_ci, g_cj, g_cr]; try rfl) (fun p e s m args below meth c X hr hn => ?_)
  have X : gX D p l s m args meth c cX3_readLong 5 RX3 := X
  unfold f_X3_readLong at h0
  refine g_aload_n (j := 0) X dX3_readLong_0 rfl rfl ?_
  refine g_iload_n (j := 1) X dX3_readLong_1 rfl rfl ?_
  refine g_bipush X dX3_readLong_2 (v := 8) (by decide) ?_
  obtain ⟨x3, S1, eS1, h2⟩ := g_bi h0; clear h0
  refine g_cS (n := 3) (As := [va_rf v0, .int v1, .int 8]) X (c_X3_holds hl D eS1) tw229 tw224 tw52 tw225 (by decide +kernel) rfl rfl ⟨Nat.le_of_ble_eq_true rfl, Nat.le_of_ble_eq_true rfl⟩ rfl rfl (Nat.le_of_ble_eq_true rfl) dX3_readLong_4 ⟨(by decide), (by decide)⟩ ?_
  clear eS1
  refine g_if_ne (tgt := 12) X dX3_readLong_7 (by decide) (fun c4 => ?_) (fun c4 => ?_)
  · have h5 := g_in h2 c4; clear h2
    refine g_lconst X dX3_readLong_12 (v := 0) (by decide) ?_
    refine g_lstore_n (i := 2) (lv' := [(2, .long 0), (0, va_rf v0), (1, .int v1)]) X dX3_readLong_13 rfl (by decide) rfl ?_
    refine g_iconst X dX3_readLong_14 (v := 0) (by decide) ?_
    refine g_istore (i := 4) (lv' := [(4, .int 0), (2, .long 0), (0, va_rf v0), (1, .int v1)]) X dX3_readLong_15 (by decide) rfl ?_
    refine g_sub [2, 3, 1, 0] rfl ?_
    exact w_X3_readLong_L17 hl X hr gFuel S1 v0 v1 0 0 h5
  · have h6 := g_ip h2 c4; clear h2
    refine g_lconst X dX3_readLong_10 (v := 0) (by decide) ?_
    obtain ⟨rfl, rfl⟩ := g_end h6
    exact g_lret X hr (by decide) (by decide) dX3_readLong_11
def f_X3_longAt (S0 : gS) (a0 : Nat) (v1 : Int32) : Option (Int64 × gS) :=
  (fgR S0 3 0 (some a0)).bind fun x1 =>
  gBi (f_X3_readLong S0 x1 v1) fun x5 S3 =>
  some (x5, S3)
set_option maxRecDepth 100000 in
set_option maxHeartbeats 4000000 in
theorem c_X3_longAt {l : Launch} (hl : l.stackTraces = false) (D : gD)  {S0 S9 : gS} {a0 : Nat} {v1 : Int32} {res : Int64} (h0 : f_X3_longAt S0 a0 v1 = some (res, S9)) : Met l yX3_longAt (gws yX3_longAt cX3_longAt 2 (some .long)) { frames := 2, cells := 0, slots := 0, locals := 46 } (gPc D S0 [.ref a0, .int v1]) (gQ D (some (.long res)) S9) (0) (0) (gF D) := by
  refine g_met (lv := [(0, va_rf (some a0)), (1, .int v1)]) hl (by decide) (Nat.le_of_ble_eq_true rfl) rfl (fun p e s m args below meth c X hr hn => ?_)
  have X : gX D p l s m args meth c cX3_longAt 2 RX3 := X
  unfold f_X3_longAt at h0
  refine g_aload_n (j := 0) X dX3_longAt_0 rfl rfl ?_
  obtain ⟨x1, ex1, h2⟩ := g_bd h0; clear h0
  refine g_fR (ci := 3) (k := 0) X rfl il3 (by decide) tw422 (by decide) (fun _ _ _ => rfl) ex1 dX3_longAt_1 ?_
  clear ex1
  refine g_iload_n (j := 1) X dX3_longAt_4 rfl rfl ?_
  obtain ⟨x5, S3, eS3, h4⟩ := g_bi h2; clear h2
  refine g_cS (n := 2) (As := [va_rf x1, .int v1]) X (c_X3_readLong hl D eS3) tw456 tw457 tw52 tw458 (by decide +kernel) rfl rfl ⟨Nat.le_of_ble_eq_true rfl, Nat.le_of_ble_eq_true rfl⟩ rfl rfl (Nat.le_of_ble_eq_true rfl) dX3_longAt_5 ⟨(by decide), (by decide)⟩ ?_
  clear eS3
  obtain ⟨rfl, rfl⟩ := g_end h4
  exact g_lret X hr (by decide) (by decide) dX3_longAt_8
def f_X1_latestTime (S0 : gS) (a0 : Nat) : Option (Int64 × gS) :=
  (fgI S0 1 8 (some a0)).bind fun x1 =>
  gDc S0 1 (some a0) fun a3 =>
  gBi (f_X1_headAt S0 a3 (x1 - 1)) fun x7 S5 =>
  gnl x7 (
    some (0, S5)
  ) (
    gDc S5 3 x7 fun a12 =>
    gBi (f_X3_longAt S5 a12 0) fun x16 S14 =>
    some (x16, S14)
  )
set_option maxRecDepth 100000 in
set_option maxHeartbeats 4000000 in
theorem c_X1_latestTime {l : Launch} (hl : l.stackTraces = false) (D : gD)  {S0 S9 : gS} {a0 : Nat} {res : Int64} (h0 : f_X1_latestTime S0 a0 = some (res, S9)) : Met l yX1_latestTime (gws yX1_latestTime cX1_latestTime 2 (some .long)) { frames := 3, cells := 0, slots := 0, locals := 67 } (gPc D S0 [.ref a0]) (gQ D (some (.long res)) S9) (0) (0) (gF D) := by
  refine g_met (lv := [(0, va_rf (some a0))]) hl (by decide) (Nat.le_of_ble_eq_true rfl) rfl (fun p e s m args below meth c X hr hn => ?_)
  have X : gX D p l s m args meth c cX1_latestTime 2 RX1 := X
  unfold f_X1_latestTime at h0
  refine g_aload_n (j := 0) X dX1_latestTime_0 rfl rfl ?_
  refine g_aload_n (j := 0) X dX1_latestTime_1 rfl rfl ?_
  obtain ⟨x1, ex1, h2⟩ := g_bd h0; clear h0
  refine g_fI (ci := 1) (k := 8) X rfl il1 (by decide) tw118 (by decide) (fun _ _ _ => rfl) ex1 dX1_latestTime_2 ?_
  clear ex1
  refine g_iconst X dX1_latestTime_5 (v := 1) (by decide) ?_
  refine g_isub X dX1_latestTime_6 ?_
  obtain ⟨a3, ea3, ka3, h4⟩ := g_dc h2; clear h2
  obtain ⟨x7, S5, eS5, h6⟩ := g_bi h4; clear h4
  refine g_cV (n := 1) (As := [.int (x1 - 1)]) X (c_X1_headAt hl D eS5) tw448 tw449 tw450 tw46 tw451 (by decide +kernel) rfl rfl ⟨Nat.le_of_ble_eq_true rfl, Nat.le_of_ble_eq_true rfl⟩ (ci := 1) rfl (by decide) ea3 ka3 rfl rfl (Nat.le_of_ble_eq_true rfl) dX1_latestTime_7 ⟨(by decide), (by decide)⟩ ?_
  clear eS5 ea3 ka3
  refine g_astore_n (i := 1) (lv' := [(1, va_rf x7), (0, va_rf (some a0))]) X dX1_latestTime_10 rfl (by decide) rfl ?_
  refine g_aload_n (j := 0) X dX1_latestTime_11 rfl rfl ?_
  refine g_ifnonnull (tgt := 19) X dX1_latestTime_12 (by decide) (fun c10 => ?_) (fun q11 c10 => ?_)
  · have h8 := g_nln h6 c10; clear h6
    refine g_lconst X dX1_latestTime_15 (v := 0) (by decide) ?_
    refine g_goto (tgt := 24) X dX1_latestTime_16 (by decide) ?_
    obtain ⟨rfl, rfl⟩ := g_end h8
    exact g_lret X hr (by decide) (by decide) dX1_latestTime_24
  · have h9 := g_nls h6 c10; clear h6
    refine g_aload_n (j := 0) X dX1_latestTime_19 rfl rfl ?_
    refine g_iconst X dX1_latestTime_20 (v := 0) (by decide) ?_
    obtain ⟨a12, ea12, ka12, h13⟩ := g_dc h9; clear h9
    obtain ⟨x16, S14, eS14, h15⟩ := g_bi h13; clear h13
    refine g_cV (n := 1) (As := [.int 0]) X (c_X3_longAt hl D eS14) tw452 tw453 tw454 tw52 tw455 (by decide +kernel) rfl rfl ⟨Nat.le_of_ble_eq_true rfl, Nat.le_of_ble_eq_true rfl⟩ (ci := 3) rfl (by decide) ea12 ka12 rfl rfl (Nat.le_of_ble_eq_true rfl) dX1_latestTime_21 ⟨(by decide), (by decide)⟩ ?_
    clear eS14 ea12 ka12
    obtain ⟨rfl, rfl⟩ := g_end h15
    exact g_lret X hr (by decide) (by decide) dX1_latestTime_24
def f_X3_writeLong_L14 : Nat → gS → Option Nat → Int32 → Int64 → Int32 → Option gS
  | 0, _, _, _, _, _ => none
  | k + 1, S0, v0, v1, v2, v4 =>
    if 8 ≤ v4 then
      some S0
    else
      (faB S0 v0 (v1 + v4) (((g_lushr' v2 (56 - (8 * v4))).toInt32).toInt8.toInt32)).bind fun S10 =>
      gLet (v4 + 1) fun x12 =>
      f_X3_writeLong_L14 k S10 v0 v1 v2 x12
set_option maxRecDepth 100000 in
set_option maxHeartbeats 4000000 in
theorem w_X3_writeLong_L14 {p : Program} {l : Launch} {e : Env} {s : State} {m : MethodId} {args : Array Value} {below : List Frame} {meth : Method} {c : Code} {D : gD} {S9 : gS}  (hl : l.stackTraces = false) (X : gX D p l s m args meth c cX3_writeLong 5 RX3) (hr : meth.sig.returnType = none) : ∀ (k : Nat) (S0 : gS) (v0 : Option Nat) (v1 : Int32) (v2 : Int64) (v4 : Int32), f_X3_writeLong_L14 k S0 v0 v1 v2 v4 = some S9 → gJ D p l e { frames := 1, cells := 0, slots := 0, locals := 22 } s m args below meth c (MQ below (gQ D none S9) args s (0) (0) (gF D)) 5 (0) (0) S0 14 [(0, va_rf v0), (1, .int v1), (2, .long v2), (4, .int v4)] [] := by
  intro k
  induction k with
  | zero => intro S0 v0 v1 v2 v4 h0; cases h0
  | succ k ih =>
    intro S0 v0 v1 v2 v4 h0
    have h0 := h0
    unfold f_X3_writeLong_L14 at h0
    refine g_iload (j := 3) X dX3_writeLong_14 rfl ?_
    refine g_bipush X dX3_writeLong_16 (v := 8) (by decide) ?_
    refine g_icmp_ge (tgt := 45) X dX3_writeLong_18 (by decide) (fun c7 => ?_) (fun c7 => ?_)
    · have h8 := g_ip h0 c7; clear h0
      cases h8
      exact g_vret X hr (by decide) (by decide) dX3_writeLong_45
    · have h9 := g_in h0 c7; clear h0
      refine g_aload_n (j := 0) X dX3_writeLong_21 rfl rfl ?_
      refine g_iload_n (j := 1) X dX3_writeLong_22 rfl rfl ?_
      refine g_iload (j := 3) X dX3_writeLong_23 rfl ?_
      refine g_iadd X dX3_writeLong_25 ?_
      refine g_lload_n (j := 2) X dX3_writeLong_26 rfl rfl ?_
      refine g_bipush X dX3_writeLong_27 (v := 56) (by decide) ?_
      refine g_bipush X dX3_writeLong_29 (v := 8) (by decide) ?_
      refine g_iload (j := 3) X dX3_writeLong_31 rfl ?_
      refine g_imul X dX3_writeLong_33 ?_
      refine g_isub X dX3_writeLong_34 ?_
      refine g_lushr X dX3_writeLong_35 ?_
      refine g_l2i X dX3_writeLong_36 ?_
      refine g_i2b X dX3_writeLong_37 ?_
      obtain ⟨S10, eS10, h11⟩ := g_bd h9; clear h9
      refine g_bast X eS10 dX3_writeLong_38 ?_
      clear eS10
      obtain ⟨x12, ex12, h13⟩ := g_let h11; clear h11
      refine g_iinc (j := 3) (v := x12) (lv' := [(4, .int x12), (0, va_rf v0), (1, .int v1), (2, .long v2)]) X dX3_writeLong_39 rfl (by rw [ex12]; rfl) (by decide) rfl ?_
      clear ex12
      refine g_goto (tgt := 14) X dX3_writeLong_42 (by decide) ?_
      refine g_sub [1, 2, 3, 0] rfl ?_
      exact ih S10 v0 v1 v2 x12 h13
def f_X3_writeLong (S0 : gS) (v0 : Option Nat) (v1 : Int32) (v2 : Int64) : Option gS :=
  gBi (f_X3_holds S0 v0 v1 8) fun x3 S1 =>
  if x3 = 0 then
    some S1
  else
    f_X3_writeLong_L14 gFuel S1 v0 v1 v2 0
set_option maxRecDepth 100000 in
set_option maxHeartbeats 4000000 in
theorem c_X3_writeLong {l : Launch} (hl : l.stackTraces = false) (D : gD)  {S0 S9 : gS} {v0 : Option Nat} {v1 : Int32} {v2 : Int64} (h0 : f_X3_writeLong S0 v0 v1 v2 = some S9) : Met l yX3_writeLong (gws yX3_writeLong cX3_writeLong 5 none) { frames := 1, cells := 0, slots := 0, locals := 22 } (gPc D S0 [va_rf v0, .int v1, .long v2]) (gQ D none S9) (0) (0) (gF D) := by
  refine g_met (lv := [(0, va_rf v0), (1, .int v1), (2, .long v2)]) hl (by decide) (by simp [lg_sl, g_rfc, g_ci, g_cj, g_cr]) (by simp [lv_args, g_rfc, g_ci, g_cj, g_cr]; try rfl) (fun p e s m args below meth c X hr hn => ?_)
  have X : gX D p l s m args meth c cX3_writeLong 5 RX3 := X
  unfold f_X3_writeLong at h0
  refine g_aload_n (j := 0) X dX3_writeLong_0 rfl rfl ?_
  refine g_iload_n (j := 1) X dX3_writeLong_1 rfl rfl ?_
  refine g_bipush X dX3_writeLong_2 (v := 8) (by decide) ?_
  obtain ⟨x3, S1, eS1, h2⟩ := g_bi h0; clear h0
  refine g_cS (n := 3) (As := [va_rf v0, .int v1, .int 8]) X (c_X3_holds hl D eS1) tw229 tw224 tw52 tw225 (by decide +kernel) rfl rfl ⟨Nat.le_of_ble_eq_true rfl, Nat.le_of_ble_eq_true rfl⟩ rfl rfl (Nat.le_of_ble_eq_true rfl) dX3_writeLong_4 ⟨(by decide), (by decide)⟩ ?_
  clear eS1
  refine g_if_ne (tgt := 11) X dX3_writeLong_7 (by decide) (fun c4 => ?_) (fun c4 => ?_)
  · have h5 := g_in h2 c4; clear h2
    refine g_iconst X dX3_writeLong_11 (v := 0) (by decide) ?_
    refine g_istore (i := 4) (lv' := [(4, .int 0), (0, va_rf v0), (1, .int v1), (2, .long v2)]) X dX3_writeLong_12 (by decide) rfl ?_
    refine g_sub [1, 2, 3, 0] rfl ?_
    exact w_X3_writeLong_L14 hl X hr gFuel S1 v0 v1 v2 0 h5
  · have h6 := g_ip h2 c4; clear h2
    cases h6
    exact g_vret X hr (by decide) (by decide) dX3_writeLong_10
def f_X1_beginPadded_L9 : Nat → gS → Nat → Int32 → Int32 → Option gS
  | 0, _, _, _, _ => none
  | k + 1, S0, a0, v1, v2 =>
    if 64 ≤ v2 then
      some S0
    else
      (fgR S0 1 0 (some a0)).bind fun x10 =>
      (fgR S0 1 1 (some a0)).bind fun x12 =>
      (fI S0 9 x12 v2).bind fun x14 =>
      gDc S0 4 x10 fun a16 =>
      (f_X4_add S0 a16 (x14 ^^^ v1)).bind fun S18 =>
      gLet (v2 + 1) fun x20 =>
      f_X1_beginPadded_L9 k S18 a0 v1 x20
set_option maxRecDepth 100000 in
set_option maxHeartbeats 4000000 in
theorem w_X1_beginPadded_L9 {p : Program} {l : Launch} {e : Env} {s : State} {m : MethodId} {args : Array Value} {below : List Frame} {meth : Method} {c : Code} {D : gD} {S9 : gS}  (hl : l.stackTraces = false) (X : gX D p l s m args meth c cX1_beginPadded 3 RX1) (hr : meth.sig.returnType = none) : ∀ (k : Nat) (S0 : gS) (a0 : Nat) (v1 : Int32) (v2 : Int32), f_X1_beginPadded_L9 k S0 a0 v1 v2 = some S9 → gJ D p l e { frames := 2, cells := 0, slots := 0, locals := 60 } s m args below meth c (MQ below (gQ D none S9) args s (0) (0) (gF D)) 3 (0) (0) S0 9 [(0, va_rf (some a0)), (1, .int v1), (2, .int v2)] [] := by
  intro k
  induction k with
  | zero => intro S0 a0 v1 v2 h0; cases h0
  | succ k ih =>
    intro S0 a0 v1 v2 h0
    have h0 := h0
    unfold f_X1_beginPadded_L9 at h0
    refine g_iload_n (j := 2) X dX1_beginPadded_9 rfl rfl ?_
    refine g_bipush X dX1_beginPadded_10 (v := 64) (by decide) ?_
    refine g_icmp_ge (tgt := 36) X dX1_beginPadded_12 (by decide) (fun c7 => ?_) (fun c7 => ?_)
    · have h8 := g_ip h0 c7; clear h0
      cases h8
      exact g_vret X hr (by decide) (by decide) dX1_beginPadded_36
    · have h9 := g_in h0 c7; clear h0
      refine g_aload_n (j := 0) X dX1_beginPadded_15 rfl rfl ?_
      obtain ⟨x10, ex10, h11⟩ := g_bd h9; clear h9
      refine g_fR (ci := 1) (k := 0) X rfl il1 (by decide) tw106 (by decide) (fun _ _ _ => rfl) ex10 dX1_beginPadded_16 ?_
      clear ex10
      refine g_aload_n (j := 0) X dX1_beginPadded_19 rfl rfl ?_
      obtain ⟨x12, ex12, h13⟩ := g_bd h11; clear h11
      refine g_fR (ci := 1) (k := 1) X rfl il1 (by decide) tw107 (by decide) (fun _ _ _ => rfl) ex12 dX1_beginPadded_20 ?_
      clear ex12
      refine g_iload_n (j := 2) X dX1_beginPadded_23 rfl rfl ?_
      obtain ⟨x14, ex14, h15⟩ := g_bd h13; clear h13
      refine g_bald X ex14 dX1_beginPadded_24 ?_
      clear ex14
      refine g_iload_n (j := 1) X dX1_beginPadded_25 rfl rfl ?_
      refine g_ixor X dX1_beginPadded_26 ?_
      obtain ⟨a16, ea16, ka16, h17⟩ := g_dc h15; clear h15
      obtain ⟨S18, eS18, h19⟩ := g_bd h17; clear h17
      refine g_cV (n := 1) (As := [.int (x14 ^^^ v1)]) X (c_X4_add hl D eS18) tw426 tw297 tw298 tw47 tw299 (by decide +kernel) rfl rfl ⟨Nat.le_of_ble_eq_true rfl, Nat.le_of_ble_eq_true rfl⟩ (ci := 4) rfl (by decide) ea16 ka16 rfl rfl (Nat.le_of_ble_eq_true rfl) dX1_beginPadded_27 ⟨(by decide), (by decide)⟩ ?_
      clear eS18 ea16 ka16
      obtain ⟨x20, ex20, h21⟩ := g_let h19; clear h19
      refine g_iinc (j := 2) (v := x20) (lv' := [(2, .int x20), (0, va_rf (some a0)), (1, .int v1)]) X dX1_beginPadded_30 rfl (by rw [ex20]; rfl) (by decide) rfl ?_
      clear ex20
      refine g_goto (tgt := 9) X dX1_beginPadded_33 (by decide) ?_
      refine g_sub [1, 2, 0] rfl ?_
      exact ih S18 a0 v1 x20 h21
def f_X1_beginPadded (S0 : gS) (a0 : Nat) (v1 : Int32) : Option gS :=
  (fgR S0 1 0 (some a0)).bind fun x1 =>
  gDc S0 4 x1 fun a3 =>
  (f_X4_begin S0 a3).bind fun S5 =>
  f_X1_beginPadded_L9 gFuel S5 a0 v1 0
set_option maxRecDepth 100000 in
set_option maxHeartbeats 4000000 in
theorem c_X1_beginPadded {l : Launch} (hl : l.stackTraces = false) (D : gD)  {S0 S9 : gS} {a0 : Nat} {v1 : Int32} (h0 : f_X1_beginPadded S0 a0 v1 = some S9) : Met l yX1_beginPadded (gws yX1_beginPadded cX1_beginPadded 3 none) { frames := 2, cells := 0, slots := 0, locals := 60 } (gPc D S0 [.ref a0, .int v1]) (gQ D none S9) (0) (0) (gF D) := by
  refine g_met (lv := [(0, va_rf (some a0)), (1, .int v1)]) hl (by decide) (Nat.le_of_ble_eq_true rfl) rfl (fun p e s m args below meth c X hr hn => ?_)
  have X : gX D p l s m args meth c cX1_beginPadded 3 RX1 := X
  unfold f_X1_beginPadded at h0
  refine g_aload_n (j := 0) X dX1_beginPadded_0 rfl rfl ?_
  obtain ⟨x1, ex1, h2⟩ := g_bd h0; clear h0
  refine g_fR (ci := 1) (k := 0) X rfl il1 (by decide) tw106 (by decide) (fun _ _ _ => rfl) ex1 dX1_beginPadded_1 ?_
  clear ex1
  obtain ⟨a3, ea3, ka3, h4⟩ := g_dc h2; clear h2
  obtain ⟨S5, eS5, h6⟩ := g_bd h4; clear h4
  refine g_cV (n := 0) (As := []) X (c_X4_begin hl D eS5) tw396 tw291 tw292 tw47 tw293 (by decide +kernel) rfl rfl ⟨Nat.le_of_ble_eq_true rfl, Nat.le_of_ble_eq_true rfl⟩ (ci := 4) rfl (by decide) ea3 ka3 rfl rfl (Nat.le_of_ble_eq_true rfl) dX1_beginPadded_4 ⟨(by decide), (by decide)⟩ ?_
  clear eS5 ea3 ka3
  refine g_iconst X dX1_beginPadded_7 (v := 0) (by decide) ?_
  refine g_istore_n (i := 2) (lv' := [(2, .int 0), (0, va_rf (some a0)), (1, .int v1)]) X dX1_beginPadded_8 rfl (by decide) rfl ?_
  refine g_sub [1, 2, 0] rfl ?_
  exact w_X1_beginPadded_L9 hl X hr gFuel S5 a0 v1 0 h6
def f_X1_sealOf (S0 : gS) (a0 : Nat) (v1 : Option Nat) : Option (Option Nat × gS) :=
  gDc S0 1 (some a0) fun a1 =>
  (f_X1_beginPadded S0 a1 54).bind fun S3 =>
  (fgR S3 1 0 (some a0)).bind fun x5 =>
  gDc S3 4 x5 fun a7 =>
  (f_X4_add S3 a7 0).bind fun S9 =>
  (fgR S9 1 0 (some a0)).bind fun x11 =>
  gDc S9 4 x11 fun a13 =>
  (f_X4_add S9 a13 1).bind fun S15 =>
  (fgR S15 1 0 (some a0)).bind fun x17 =>
  gDc S15 4 x17 fun a19 =>
  (f_X4_addRow S15 a19 v1 0 48).bind fun S21 =>
  (fgR S21 1 0 (some a0)).bind fun x23 =>
  (fgR S21 1 9 (some a0)).bind fun x25 =>
  gDc S21 4 x23 fun a27 =>
  (f_X4_finish S21 a27 x25).bind fun S29 =>
  gDc S29 1 (some a0) fun a31 =>
  (f_X1_beginPadded S29 a31 92).bind fun S33 =>
  (fgR S33 1 0 (some a0)).bind fun x35 =>
  (fgR S33 1 9 (some a0)).bind fun x37 =>
  gDc S33 4 x35 fun a39 =>
  (f_X4_addRow S33 a39 x37 0 32).bind fun S41 =>
  (fgR S41 1 0 (some a0)).bind fun x43 =>
  (fgR S41 1 9 (some a0)).bind fun x45 =>
  gDc S41 4 x43 fun a47 =>
  (f_X4_finish S41 a47 x45).bind fun S49 =>
  (fgR S49 1 9 (some a0)).bind fun x51 =>
  some (x51, S49)
set_option maxRecDepth 100000 in
set_option maxHeartbeats 4000000 in
theorem c_X1_sealOf {l : Launch} (hl : l.stackTraces = false) (D : gD)  {S0 S9 : gS} {a0 : Nat} {v1 : Option Nat} {res : Option Nat} (h0 : f_X1_sealOf S0 a0 v1 = some (res, S9)) : Met l yX1_sealOf (gws yX1_sealOf cX1_sealOf 2 (some (.array .byte))) { frames := 3, cells := 0, slots := 0, locals := 82 } (gPc D S0 [.ref a0, va_rf v1]) (gQ D (some (va_rf res)) S9) (0) (0) (gF D) := by
  refine g_met (lv := [(0, va_rf (some a0)), (1, va_rf v1)]) hl (by decide) (by simp [lg_sl, g_rfc, g_ci, g_cj, g_cr]) (by simp [lv_args, g_rfc, g_ci, g_cj, g_cr]; try rfl) (fun p e s m args below meth c X hr hn => ?_)
  have X : gX D p l s m args meth c cX1_sealOf 2 RX1 := X
  unfold f_X1_sealOf at h0
  refine g_aload_n (j := 0) X dX1_sealOf_0 rfl rfl ?_
  refine g_bipush X dX1_sealOf_1 (v := 54) (by decide) ?_
  obtain ⟨a1, ea1, ka1, h2⟩ := g_dc h0; clear h0
  obtain ⟨S3, eS3, h4⟩ := g_bd h2; clear h2
  refine g_cV (n := 1) (As := [.int 54]) X (c_X1_beginPadded hl D eS3) tw474 tw475 tw11 tw46 tw476 (by decide +kernel) rfl rfl ⟨Nat.le_of_ble_eq_true rfl, Nat.le_of_ble_eq_true rfl⟩ (ci := 1) rfl (by decide) ea1 ka1 rfl rfl (Nat.le_of_ble_eq_true rfl) dX1_sealOf_3 ⟨(by decide), (by decide)⟩ ?_
  clear eS3 ea1 ka1
  refine g_aload_n (j := 0) X dX1_sealOf_6 rfl rfl ?_
  obtain ⟨x5, ex5, h6⟩ := g_bd h4; clear h4
  refine g_fR (ci := 1) (k := 0) X rfl il1 (by decide) tw106 (by decide) (fun _ _ _ => rfl) ex5 dX1_sealOf_7 ?_
  clear ex5
  refine g_iconst X dX1_sealOf_10 (v := 0) (by decide) ?_
  obtain ⟨a7, ea7, ka7, h8⟩ := g_dc h6; clear h6
  obtain ⟨S9, eS9, h10⟩ := g_bd h8; clear h8
  refine g_cV (n := 1) (As := [.int 0]) X (c_X4_add hl D eS9) tw426 tw297 tw298 tw47 tw299 (by decide +kernel) rfl rfl ⟨Nat.le_of_ble_eq_true rfl, Nat.le_of_ble_eq_true rfl⟩ (ci := 4) rfl (by decide) ea7 ka7 rfl rfl (Nat.le_of_ble_eq_true rfl) dX1_sealOf_11 ⟨(by decide), (by decide)⟩ ?_
  clear eS9 ea7 ka7
  refine g_aload_n (j := 0) X dX1_sealOf_14 rfl rfl ?_
  obtain ⟨x11, ex11, h12⟩ := g_bd h10; clear h10
  refine g_fR (ci := 1) (k := 0) X rfl il1 (by decide) tw106 (by decide) (fun _ _ _ => rfl) ex11 dX1_sealOf_15 ?_
  clear ex11
  refine g_iconst X dX1_sealOf_18 (v := 1) (by decide) ?_
  obtain ⟨a13, ea13, ka13, h14⟩ := g_dc h12; clear h12
  obtain ⟨S15, eS15, h16⟩ := g_bd h14; clear h14
  refine g_cV (n := 1) (As := [.int 1]) X (c_X4_add hl D eS15) tw426 tw297 tw298 tw47 tw299 (by decide +kernel) rfl rfl ⟨Nat.le_of_ble_eq_true rfl, Nat.le_of_ble_eq_true rfl⟩ (ci := 4) rfl (by decide) ea13 ka13 rfl rfl (Nat.le_of_ble_eq_true rfl) dX1_sealOf_19 ⟨(by decide), (by decide)⟩ ?_
  clear eS15 ea13 ka13
  refine g_aload_n (j := 0) X dX1_sealOf_22 rfl rfl ?_
  obtain ⟨x17, ex17, h18⟩ := g_bd h16; clear h16
  refine g_fR (ci := 1) (k := 0) X rfl il1 (by decide) tw106 (by decide) (fun _ _ _ => rfl) ex17 dX1_sealOf_23 ?_
  clear ex17
  refine g_aload_n (j := 1) X dX1_sealOf_26 rfl rfl ?_
  refine g_iconst X dX1_sealOf_27 (v := 0) (by decide) ?_
  refine g_bipush X dX1_sealOf_28 (v := 48) (by decide) ?_
  obtain ⟨a19, ea19, ka19, h20⟩ := g_dc h18; clear h18
  obtain ⟨S21, eS21, h22⟩ := g_bd h20; clear h20
  refine g_cV (n := 3) (As := [va_rf v1, .int 0, .int 48]) X (c_X4_addRow hl D eS21) tw397 tw308 tw309 tw47 tw310 (by decide +kernel) rfl rfl ⟨Nat.le_of_ble_eq_true rfl, Nat.le_of_ble_eq_true rfl⟩ (ci := 4) rfl (by decide) ea19 ka19 rfl rfl (Nat.le_of_ble_eq_true rfl) dX1_sealOf_30 ⟨(by decide), (by decide)⟩ ?_
  clear eS21 ea19 ka19
  refine g_aload_n (j := 0) X dX1_sealOf_33 rfl rfl ?_
  obtain ⟨x23, ex23, h24⟩ := g_bd h22; clear h22
  refine g_fR (ci := 1) (k := 0) X rfl il1 (by decide) tw106 (by decide) (fun _ _ _ => rfl) ex23 dX1_sealOf_34 ?_
  clear ex23
  refine g_aload_n (j := 0) X dX1_sealOf_37 rfl rfl ?_
  obtain ⟨x25, ex25, h26⟩ := g_bd h24; clear h24
  refine g_fR (ci := 1) (k := 9) X rfl il1 (by decide) tw119 (by decide) (fun _ _ _ => rfl) ex25 dX1_sealOf_38 ?_
  clear ex25
  obtain ⟨a27, ea27, ka27, h28⟩ := g_dc h26; clear h26
  obtain ⟨S29, eS29, h30⟩ := g_bd h28; clear h28
  refine g_cV (n := 1) (As := [va_rf x25]) X (c_X4_finish hl D eS29) tw398 tw313 tw314 tw47 tw315 (by decide +kernel) rfl rfl ⟨Nat.le_of_ble_eq_true rfl, Nat.le_of_ble_eq_true rfl⟩ (ci := 4) rfl (by decide) ea27 ka27 rfl rfl (Nat.le_of_ble_eq_true rfl) dX1_sealOf_41 ⟨(by decide), (by decide)⟩ ?_
  clear eS29 ea27 ka27
  refine g_aload_n (j := 0) X dX1_sealOf_44 rfl rfl ?_
  refine g_bipush X dX1_sealOf_45 (v := 92) (by decide) ?_
  obtain ⟨a31, ea31, ka31, h32⟩ := g_dc h30; clear h30
  obtain ⟨S33, eS33, h34⟩ := g_bd h32; clear h32
  refine g_cV (n := 1) (As := [.int 92]) X (c_X1_beginPadded hl D eS33) tw474 tw475 tw11 tw46 tw476 (by decide +kernel) rfl rfl ⟨Nat.le_of_ble_eq_true rfl, Nat.le_of_ble_eq_true rfl⟩ (ci := 1) rfl (by decide) ea31 ka31 rfl rfl (Nat.le_of_ble_eq_true rfl) dX1_sealOf_47 ⟨(by decide), (by decide)⟩ ?_
  clear eS33 ea31 ka31
  refine g_aload_n (j := 0) X dX1_sealOf_50 rfl rfl ?_
  obtain ⟨x35, ex35, h36⟩ := g_bd h34; clear h34
  refine g_fR (ci := 1) (k := 0) X rfl il1 (by decide) tw106 (by decide) (fun _ _ _ => rfl) ex35 dX1_sealOf_51 ?_
  clear ex35
  refine g_aload_n (j := 0) X dX1_sealOf_54 rfl rfl ?_
  obtain ⟨x37, ex37, h38⟩ := g_bd h36; clear h36
  refine g_fR (ci := 1) (k := 9) X rfl il1 (by decide) tw119 (by decide) (fun _ _ _ => rfl) ex37 dX1_sealOf_55 ?_
  clear ex37
  refine g_iconst X dX1_sealOf_58 (v := 0) (by decide) ?_
  refine g_bipush X dX1_sealOf_59 (v := 32) (by decide) ?_
  obtain ⟨a39, ea39, ka39, h40⟩ := g_dc h38; clear h38
  obtain ⟨S41, eS41, h42⟩ := g_bd h40; clear h40
  refine g_cV (n := 3) (As := [va_rf x37, .int 0, .int 32]) X (c_X4_addRow hl D eS41) tw397 tw308 tw309 tw47 tw310 (by decide +kernel) rfl rfl ⟨Nat.le_of_ble_eq_true rfl, Nat.le_of_ble_eq_true rfl⟩ (ci := 4) rfl (by decide) ea39 ka39 rfl rfl (Nat.le_of_ble_eq_true rfl) dX1_sealOf_61 ⟨(by decide), (by decide)⟩ ?_
  clear eS41 ea39 ka39
  refine g_aload_n (j := 0) X dX1_sealOf_64 rfl rfl ?_
  obtain ⟨x43, ex43, h44⟩ := g_bd h42; clear h42
  refine g_fR (ci := 1) (k := 0) X rfl il1 (by decide) tw106 (by decide) (fun _ _ _ => rfl) ex43 dX1_sealOf_65 ?_
  clear ex43
  refine g_aload_n (j := 0) X dX1_sealOf_68 rfl rfl ?_
  obtain ⟨x45, ex45, h46⟩ := g_bd h44; clear h44
  refine g_fR (ci := 1) (k := 9) X rfl il1 (by decide) tw119 (by decide) (fun _ _ _ => rfl) ex45 dX1_sealOf_69 ?_
  clear ex45
  obtain ⟨a47, ea47, ka47, h48⟩ := g_dc h46; clear h46
  obtain ⟨S49, eS49, h50⟩ := g_bd h48; clear h48
  refine g_cV (n := 1) (As := [va_rf x45]) X (c_X4_finish hl D eS49) tw398 tw313 tw314 tw47 tw315 (by decide +kernel) rfl rfl ⟨Nat.le_of_ble_eq_true rfl, Nat.le_of_ble_eq_true rfl⟩ (ci := 4) rfl (by decide) ea47 ka47 rfl rfl (Nat.le_of_ble_eq_true rfl) dX1_sealOf_72 ⟨(by decide), (by decide)⟩ ?_
  clear eS49 ea47 ka47
  refine g_aload_n (j := 0) X dX1_sealOf_75 rfl rfl ?_
  obtain ⟨x51, ex51, h52⟩ := g_bd h50; clear h50
  refine g_fR (ci := 1) (k := 9) X rfl il1 (by decide) tw119 (by decide) (fun _ _ _ => rfl) ex51 dX1_sealOf_76 ?_
  clear ex51
  obtain ⟨rfl, rfl⟩ := g_end h52
  exact g_aret X hr (Or.inr ⟨_, rfl⟩) (by decide) (by decide) dX1_sealOf_79
def f_X1_addHead (S0 : gS) (a0 : Nat) (v1 : Int64) : Option (Int32 × gS) :=
  (fgI S0 1 8 (some a0)).bind fun x1 =>
  if x1 < 40 then
    (fgI S0 1 4 (some a0)).bind fun x6 =>
    (fpI S0 1 6 (some a0) x6).bind fun S8 =>
    (fgR S8 1 10 (some a0)).bind fun x10 =>
    (f_X3_writeLong S8 x10 0 v1).bind fun S12 =>
    (fgR S12 1 10 (some a0)).bind fun x14 =>
    (fgI S12 1 6 (some a0)).bind fun x16 =>
    (f_X3_writeLong S12 x14 8 x16.toInt64).bind fun S18 =>
    (fgI S18 1 6 (some a0)).bind fun x20 =>
    gDc S18 1 (some a0) fun a22 =>
    gBi (f_X1_rootOf S18 a22 0 x20) fun x26 S24 =>
    (fgR S24 1 10 (some a0)).bind fun x27 =>
    (f_X3_copy S24 x26 0 x27 16 32).bind fun S29 =>
    (fgR S29 1 10 (some a0)).bind fun x31 =>
    gDc S29 1 (some a0) fun a33 =>
    gBi (f_X1_sealOf S29 a33 x31) fun x37 S35 =>
    (fgR S35 1 10 (some a0)).bind fun x38 =>
    (f_X3_copy S35 x37 0 x38 48 32).bind fun S40 =>
    (fgR S40 1 7 (some a0)).bind fun x42 =>
    (fgI S40 1 8 (some a0)).bind fun x44 =>
    gLet (gZ S40) fun z46 =>
    gLet (gnw S40 3 1) fun S47 =>
    (fgR S47 1 10 (some a0)).bind fun x50 =>
    (f_X3_init S47 z46 x50 80).bind fun S52 =>
    (faR S52 14 3 x42 x44 (some z46)).bind fun S54 =>
    (fgI S54 1 8 (some a0)).bind fun x56 =>
    (fpI S54 1 8 (some a0) (x56 + 1)).bind fun S58 =>
    (fgI S58 1 8 (some a0)).bind fun x60 =>
    some (x60 - 1, S58)
  else
    some ((-1), S0)
set_option maxRecDepth 100000 in
set_option maxHeartbeats 4000000 in
theorem c_X1_addHead {l : Launch} (hl : l.stackTraces = false) (D : gD)  {S0 S9 : gS} {a0 : Nat} {v1 : Int64} {res : Int32} (h0 : f_X1_addHead S0 a0 v1 = some (res, S9)) : Met l yX1_addHead (gws yX1_addHead cX1_addHead 3 (some .int)) { frames := 4, cells := 2, slots := 121, locals := 110 } (gPc D S0 [.ref a0, .long v1]) (gQ D (some (.int res)) S9) (2) (121) (gF D) := by
  refine g_met (lv := [(0, va_rf (some a0)), (1, .long v1)]) hl (by decide) (Nat.le_of_ble_eq_true rfl) rfl (fun p e s m args below meth c X hr hn => ?_)
  have X : gX D p l s m args meth c cX1_addHead 3 RX1 := X
  unfold f_X1_addHead at h0
  refine g_aload_n (j := 0) X dX1_addHead_0 rfl rfl ?_
  obtain ⟨x1, ex1, h2⟩ := g_bd h0; clear h0
  refine g_fI (ci := 1) (k := 8) X rfl il1 (by decide) tw118 (by decide) (fun _ _ _ => rfl) ex1 dX1_addHead_1 ?_
  clear ex1
  refine g_bipush X dX1_addHead_4 (v := 40) (by decide) ?_
  refine g_icmp_lt (tgt := 11) X dX1_addHead_6 (by decide) (fun c3 => ?_) (fun c3 => ?_)
  · have h4 := g_ip h2 c3; clear h2
    refine g_aload_n (j := 0) X dX1_addHead_11 rfl rfl ?_
    refine g_aload_n (j := 0) X dX1_addHead_12 rfl rfl ?_
    obtain ⟨x6, ex6, h7⟩ := g_bd h4; clear h4
    refine g_fI (ci := 1) (k := 4) X rfl il1 (by decide) tw111 (by decide) (fun _ _ _ => rfl) ex6 dX1_addHead_13 ?_
    clear ex6
    obtain ⟨S8, eS8, h9⟩ := g_bd h7; clear h7
    refine g_pI (ci := 1) (k := 6) X rfl il1 tyX1 tyX1_ok nmX1 (by decide) tw114 rfl (by decide) (fun _ _ _ => rfl) rfl eS8 dX1_addHead_16 ?_
    clear eS8
    refine g_aload_n (j := 0) X dX1_addHead_19 rfl rfl ?_
    obtain ⟨x10, ex10, h11⟩ := g_bd h9; clear h9
    refine g_fR (ci := 1) (k := 10) X rfl il1 (by decide) tw120 (by decide) (fun _ _ _ => rfl) ex10 dX1_addHead_20 ?_
    clear ex10
    refine g_iconst X dX1_addHead_23 (v := 0) (by decide) ?_
    refine g_lload_n (j := 1) X dX1_addHead_24 rfl rfl ?_
    obtain ⟨S12, eS12, h13⟩ := g_bd h11; clear h11
    refine g_cS (n := 3) (As := [va_rf x10, .int 0, .long v1]) X (c_X3_writeLong hl D eS12) tw463 tw464 tw52 tw465 (by decide +kernel) rfl rfl ⟨Nat.le_of_ble_eq_true rfl, Nat.le_of_ble_eq_true rfl⟩ rfl rfl (Nat.le_of_ble_eq_true rfl) dX1_addHead_25 ⟨(by decide), (by decide)⟩ ?_
    clear eS12
    refine g_aload_n (j := 0) X dX1_addHead_28 rfl rfl ?_
    obtain ⟨x14, ex14, h15⟩ := g_bd h13; clear h13
    refine g_fR (ci := 1) (k := 10) X rfl il1 (by decide) tw120 (by decide) (fun _ _ _ => rfl) ex14 dX1_addHead_29 ?_
    clear ex14
    refine g_bipush X dX1_addHead_32 (v := 8) (by decide) ?_
    refine g_aload_n (j := 0) X dX1_addHead_34 rfl rfl ?_
    obtain ⟨x16, ex16, h17⟩ := g_bd h15; clear h15
    refine g_fI (ci := 1) (k := 6) X rfl il1 (by decide) tw114 (by decide) (fun _ _ _ => rfl) ex16 dX1_addHead_35 ?_
    clear ex16
    refine g_i2l X dX1_addHead_38 ?_
    obtain ⟨S18, eS18, h19⟩ := g_bd h17; clear h17
    refine g_cS (n := 3) (As := [va_rf x14, .int 8, .long x16.toInt64]) X (c_X3_writeLong hl D eS18) tw463 tw464 tw52 tw465 (by decide +kernel) rfl rfl ⟨Nat.le_of_ble_eq_true rfl, Nat.le_of_ble_eq_true rfl⟩ rfl rfl (Nat.le_of_ble_eq_true rfl) dX1_addHead_39 ⟨(by decide), (by decide)⟩ ?_
    clear eS18
    refine g_aload_n (j := 0) X dX1_addHead_42 rfl rfl ?_
    refine g_iconst X dX1_addHead_43 (v := 0) (by decide) ?_
    refine g_aload_n (j := 0) X dX1_addHead_44 rfl rfl ?_
    obtain ⟨x20, ex20, h21⟩ := g_bd h19; clear h19
    refine g_fI (ci := 1) (k := 6) X rfl il1 (by decide) tw114 (by decide) (fun _ _ _ => rfl) ex20 dX1_addHead_45 ?_
    clear ex20
    obtain ⟨a22, ea22, ka22, h23⟩ := g_dc h21; clear h21
    obtain ⟨x26, S24, eS24, h25⟩ := g_bi h23; clear h23
    refine g_cV (n := 2) (As := [.int 0, .int x20]) X (c_X1_rootOf hl D eS24) tw466 tw467 tw468 tw46 tw469 (by decide +kernel) rfl rfl ⟨Nat.le_of_ble_eq_true rfl, Nat.le_of_ble_eq_true rfl⟩ (ci := 1) rfl (by decide) ea22 ka22 rfl rfl (Nat.le_of_ble_eq_true rfl) dX1_addHead_48 ⟨(by decide), (by decide)⟩ ?_
    clear eS24 ea22 ka22
    refine g_iconst X dX1_addHead_51 (v := 0) (by decide) ?_
    refine g_aload_n (j := 0) X dX1_addHead_52 rfl rfl ?_
    obtain ⟨x27, ex27, h28⟩ := g_bd h25; clear h25
    refine g_fR (ci := 1) (k := 10) X rfl il1 (by decide) tw120 (by decide) (fun _ _ _ => rfl) ex27 dX1_addHead_53 ?_
    clear ex27
    refine g_bipush X dX1_addHead_56 (v := 16) (by decide) ?_
    refine g_bipush X dX1_addHead_58 (v := 32) (by decide) ?_
    obtain ⟨S29, eS29, h30⟩ := g_bd h28; clear h28
    refine g_cS (n := 5) (As := [va_rf x26, .int 0, va_rf x27, .int 16, .int 32]) X (c_X3_copy hl D eS29) tw399 tw227 tw52 tw228 (by decide +kernel) rfl rfl ⟨Nat.le_of_ble_eq_true rfl, Nat.le_of_ble_eq_true rfl⟩ rfl rfl (Nat.le_of_ble_eq_true rfl) dX1_addHead_60 ⟨(by decide), (by decide)⟩ ?_
    clear eS29
    refine g_aload_n (j := 0) X dX1_addHead_63 rfl rfl ?_
    refine g_aload_n (j := 0) X dX1_addHead_64 rfl rfl ?_
    obtain ⟨x31, ex31, h32⟩ := g_bd h30; clear h30
    refine g_fR (ci := 1) (k := 10) X rfl il1 (by decide) tw120 (by decide) (fun _ _ _ => rfl) ex31 dX1_addHead_65 ?_
    clear ex31
    obtain ⟨a33, ea33, ka33, h34⟩ := g_dc h32; clear h32
    obtain ⟨x37, S35, eS35, h36⟩ := g_bi h34; clear h34
    refine g_cV (n := 1) (As := [va_rf x31]) X (c_X1_sealOf hl D eS35) tw470 tw471 tw472 tw46 tw473 (by decide +kernel) rfl rfl ⟨Nat.le_of_ble_eq_true rfl, Nat.le_of_ble_eq_true rfl⟩ (ci := 1) rfl (by decide) ea33 ka33 rfl rfl (Nat.le_of_ble_eq_true rfl) dX1_addHead_68 ⟨(by decide), (by decide)⟩ ?_
    clear eS35 ea33 ka33
    refine g_iconst X dX1_addHead_71 (v := 0) (by decide) ?_
    refine g_aload_n (j := 0) X dX1_addHead_72 rfl rfl ?_
    obtain ⟨x38, ex38, h39⟩ := g_bd h36; clear h36
    refine g_fR (ci := 1) (k := 10) X rfl il1 (by decide) tw120 (by decide) (fun _ _ _ => rfl) ex38 dX1_addHead_73 ?_
    clear ex38
    refine g_bipush X dX1_addHead_76 (v := 48) (by decide) ?_
    refine g_bipush X dX1_addHead_78 (v := 32) (by decide) ?_
    obtain ⟨S40, eS40, h41⟩ := g_bd h39; clear h39
    refine g_cS (n := 5) (As := [va_rf x37, .int 0, va_rf x38, .int 48, .int 32]) X (c_X3_copy hl D eS40) tw399 tw227 tw52 tw228 (by decide +kernel) rfl rfl ⟨Nat.le_of_ble_eq_true rfl, Nat.le_of_ble_eq_true rfl⟩ rfl rfl (Nat.le_of_ble_eq_true rfl) dX1_addHead_80 ⟨(by decide), (by decide)⟩ ?_
    clear eS40
    refine g_aload_n (j := 0) X dX1_addHead_83 rfl rfl ?_
    obtain ⟨x42, ex42, h43⟩ := g_bd h41; clear h41
    refine g_fR (ci := 1) (k := 7) X rfl il1 (by decide) tw116 (by decide) (fun _ _ _ => rfl) ex42 dX1_addHead_84 ?_
    clear ex42
    refine g_aload_n (j := 0) X dX1_addHead_87 rfl rfl ?_
    obtain ⟨x44, ex44, h45⟩ := g_bd h43; clear h43
    refine g_fI (ci := 1) (k := 8) X rfl il1 (by decide) tw118 (by decide) (fun _ _ _ => rfl) ex44 dX1_addHead_88 ?_
    clear ex44
    refine g_new (ci := 3) X rfl (by decide) il3 tyX3 tyX3_ok (by decide) tw105 tw416 tw52 (by decide) (by decide) dX1_addHead_91 ?_
    obtain ⟨z46, ez46, h49⟩ := g_let h45; clear h45; rw [← ez46]; clear ez46
    obtain ⟨S47, eS47, h48⟩ := g_let h49; clear h49; rw [← eS47]; clear eS47
    refine g_dup X dX1_addHead_94 (g_rfc _) ?_
    refine g_aload_n (j := 0) X dX1_addHead_95 rfl rfl ?_
    obtain ⟨x50, ex50, h51⟩ := g_bd h48; clear h48
    refine g_fR (ci := 1) (k := 10) X rfl il1 (by decide) tw120 (by decide) (fun _ _ _ => rfl) ex50 dX1_addHead_96 ?_
    clear ex50
    refine g_bipush X dX1_addHead_99 (v := 80) (by decide) ?_
    obtain ⟨S52, eS52, h53⟩ := g_bd h51; clear h51
    refine g_cI (n := 2) (As := [va_rf x50, .int 80]) X (c_X3_init hl D eS52) tw417 tw418 tw52 tw419 rfl (by decide +kernel) rfl rfl ⟨Nat.le_of_ble_eq_true rfl, Nat.le_of_ble_eq_true rfl⟩ rfl rfl rfl (by simp [g_rfc, g_ci, g_cj, g_cr]) dX1_addHead_101 ⟨(by decide), (by decide)⟩ ?_
    clear eS52
    obtain ⟨S54, eS54, h55⟩ := g_bd h53; clear h53
    refine g_aast14 X eS54 dX1_addHead_104 ?_
    clear eS54
    refine g_aload_n (j := 0) X dX1_addHead_105 rfl rfl ?_
    refine g_dup X dX1_addHead_106 (g_rfc _) ?_
    obtain ⟨x56, ex56, h57⟩ := g_bd h55; clear h55
    refine g_fI (ci := 1) (k := 8) X rfl il1 (by decide) tw118 (by decide) (fun _ _ _ => rfl) ex56 dX1_addHead_107 ?_
    clear ex56
    refine g_iconst X dX1_addHead_110 (v := 1) (by decide) ?_
    refine g_iadd X dX1_addHead_111 ?_
    obtain ⟨S58, eS58, h59⟩ := g_bd h57; clear h57
    refine g_pI (ci := 1) (k := 8) X rfl il1 tyX1 tyX1_ok nmX1 (by decide) tw118 rfl (by decide) (fun _ _ _ => rfl) rfl eS58 dX1_addHead_112 ?_
    clear eS58
    refine g_aload_n (j := 0) X dX1_addHead_115 rfl rfl ?_
    obtain ⟨x60, ex60, h61⟩ := g_bd h59; clear h59
    refine g_fI (ci := 1) (k := 8) X rfl il1 (by decide) tw118 (by decide) (fun _ _ _ => rfl) ex60 dX1_addHead_116 ?_
    clear ex60
    refine g_iconst X dX1_addHead_119 (v := 1) (by decide) ?_
    refine g_isub X dX1_addHead_120 ?_
    obtain ⟨rfl, rfl⟩ := g_end h61
    exact g_iret X hr (by decide) (by decide) dX1_addHead_121
  · have h5 := g_in h2 c3; clear h2
    refine g_iconst X dX1_addHead_9 (v := (-1)) (by decide) ?_
    obtain ⟨rfl, rfl⟩ := g_end h5
    exact g_iret X hr (by decide) (by decide) dX1_addHead_10
def f_X1_hasSealed (S0 : gS) (a0 : Nat) (v1 : Option Nat) : Option (Int32 × gS) :=
  gDc S0 1 (some a0) fun a1 =>
  gBi (f_X1_sealOf S0 a1 v1) fun x5 S3 =>
  gBi (f_X3_same S3 x5 0 v1 48 32) fun x8 S6 =>
  if x8 = 0 ∨ x8 = 1 then
    some (x8, S6)
  else none
set_option maxRecDepth 100000 in
set_option maxHeartbeats 4000000 in
theorem c_X1_hasSealed {l : Launch} (hl : l.stackTraces = false) (D : gD)  {S0 S9 : gS} {a0 : Nat} {v1 : Option Nat} {res : Int32} (h0 : f_X1_hasSealed S0 a0 v1 = some (res, S9)) : Met l yX1_hasSealed (gws yX1_hasSealed cX1_hasSealed 2 (some .boolean)) { frames := 4, cells := 0, slots := 0, locals := 103 } (gPc D S0 [.ref a0, va_rf v1]) (gQ D (some (.int res)) S9) (0) (0) (gF D) := by
  refine g_met (lv := [(0, va_rf (some a0)), (1, va_rf v1)]) hl (by decide) (by simp [lg_sl, g_rfc, g_ci, g_cj, g_cr]) (by simp [lv_args, g_rfc, g_ci, g_cj, g_cr]; try rfl) (fun p e s m args below meth c X hr hn => ?_)
  have X : gX D p l s m args meth c cX1_hasSealed 2 RX1 := X
  unfold f_X1_hasSealed at h0
  refine g_aload_n (j := 0) X dX1_hasSealed_0 rfl rfl ?_
  refine g_aload_n (j := 1) X dX1_hasSealed_1 rfl rfl ?_
  obtain ⟨a1, ea1, ka1, h2⟩ := g_dc h0; clear h0
  obtain ⟨x5, S3, eS3, h4⟩ := g_bi h2; clear h2
  refine g_cV (n := 1) (As := [va_rf v1]) X (c_X1_sealOf hl D eS3) tw470 tw471 tw472 tw46 tw473 (by decide +kernel) rfl rfl ⟨Nat.le_of_ble_eq_true rfl, Nat.le_of_ble_eq_true rfl⟩ (ci := 1) rfl (by decide) ea1 ka1 rfl rfl (Nat.le_of_ble_eq_true rfl) dX1_hasSealed_2 ⟨(by decide), (by decide)⟩ ?_
  clear eS3 ea1 ka1
  refine g_iconst X dX1_hasSealed_5 (v := 0) (by decide) ?_
  refine g_aload_n (j := 1) X dX1_hasSealed_6 rfl rfl ?_
  refine g_bipush X dX1_hasSealed_7 (v := 48) (by decide) ?_
  refine g_bipush X dX1_hasSealed_9 (v := 32) (by decide) ?_
  obtain ⟨x8, S6, eS6, h7⟩ := g_bi h4; clear h4
  refine g_cS (n := 5) (As := [va_rf x5, .int 0, va_rf v1, .int 48, .int 32]) X (c_X3_same hl D eS6) tw411 tw321 tw52 tw322 (by decide +kernel) rfl rfl ⟨Nat.le_of_ble_eq_true rfl, Nat.le_of_ble_eq_true rfl⟩ rfl rfl (Nat.le_of_ble_eq_true rfl) dX1_hasSealed_11 ⟨(by decide), (by decide)⟩ ?_
  clear eS6
  obtain ⟨c9, h10⟩ := g_if h7; clear h7
  obtain ⟨rfl, rfl⟩ := g_end h10
  exact g_zret X hr c9 (by decide) (by decide) dX1_hasSealed_14
def f_X2_init (S0 : gS) (a0 : Nat) : Option gS :=
  (fnA 64 64).bind fun k1 =>
  gLet (gZ S0) fun z5 =>
  gLet (gnw S0 11 k1) fun S3 =>
  (fpR S3 2 0 (some a0) (some z5)).bind fun S7 =>
  (fnA 64 64).bind fun k9 =>
  gLet (gZ S7) fun z13 =>
  gLet (gnw S7 11 k9) fun S11 =>
  (fpR S11 2 1 (some a0) (some z13)).bind fun S15 =>
  (fnA 64 64).bind fun k17 =>
  gLet (gZ S15) fun z21 =>
  gLet (gnw S15 12 k17) fun S19 =>
  (fpR S19 2 2 (some a0) (some z21)).bind fun S23 =>
  some S23
set_option maxRecDepth 100000 in
set_option maxHeartbeats 4000000 in
theorem c_X2_init {l : Launch} (hl : l.stackTraces = false) (D : gD)  {S0 S9 : gS} {a0 : Nat} (h0 : f_X2_init S0 a0 = some S9) : Met l yX2_init (gws yX2_init cX2_init 1 none) { frames := 1, cells := 3, slots := 192, locals := 12 } (gPc D S0 [.ref a0]) (gQ D none S9) (3) (192) (gF D) := by
  refine g_met (lv := [(0, va_rf (some a0))]) hl (by decide) (Nat.le_of_ble_eq_true rfl) rfl (fun p e s m args below meth c X hr hn => ?_)
  have X : gX D p l s m args meth c cX2_init 1 RX2 := X
  have hin : meth.name = "<init>" := hn
  unfold f_X2_init at h0
  refine g_aload_n (j := 0) X dX2_init_0 rfl rfl ?_
  refine g_obji X rfl tw148 tw70 tw71 dX2_init_1 (by decide) (Nat.le_of_ble_eq_true rfl) ?_
  refine g_aload_n (j := 0) X dX2_init_4 rfl rfl ?_
  refine g_bipush X dX2_init_5 (v := 64) (by decide) ?_
  obtain ⟨k1, ek1, h2⟩ := g_bd h0; clear h0
  refine g_newa11 (cap := 64) X tw172 ek1 (by decide) (by decide) (by decide) dX2_init_7 ?_
  refine g_wid (k := 1) (n := 64) (Nat.le_refl _) (Nat.add_le_add_left (fnA_s ek1).2.2 _) ?_
  clear ek1
  obtain ⟨z5, ez5, h6⟩ := g_let h2; clear h2; rw [← ez5]; clear ez5
  obtain ⟨S3, eS3, h4⟩ := g_let h6; clear h6; rw [← eS3]; clear eS3
  obtain ⟨S7, eS7, h8⟩ := g_bd h4; clear h4
  refine g_pFa (ci := 2) (k := 0) X hin rfl il2 tyX2 tyX2_ok nmX2 (by decide) tw149 rfl rfl (by decide) (fun _ _ _ => rfl) rfl eS7 dX2_init_9 ?_
  clear eS7
  refine g_aload_n (j := 0) X dX2_init_12 rfl rfl ?_
  refine g_bipush X dX2_init_13 (v := 64) (by decide) ?_
  obtain ⟨k9, ek9, h10⟩ := g_bd h8; clear h8
  refine g_newa11 (cap := 64) X tw172 ek9 (by decide) (by decide) (by decide) dX2_init_15 ?_
  refine g_wid (k := 2) (n := 128) (Nat.le_refl _) (Nat.add_le_add_left (fnA_s ek9).2.2 _) ?_
  clear ek9
  obtain ⟨z13, ez13, h14⟩ := g_let h10; clear h10; rw [← ez13]; clear ez13
  obtain ⟨S11, eS11, h12⟩ := g_let h14; clear h14; rw [← eS11]; clear eS11
  obtain ⟨S15, eS15, h16⟩ := g_bd h12; clear h12
  refine g_pFa (ci := 2) (k := 1) X hin rfl il2 tyX2 tyX2_ok nmX2 (by decide) tw151 rfl rfl (by decide) (fun _ _ _ => rfl) rfl eS15 dX2_init_17 ?_
  clear eS15
  refine g_aload_n (j := 0) X dX2_init_20 rfl rfl ?_
  refine g_bipush X dX2_init_21 (v := 64) (by decide) ?_
  obtain ⟨k17, ek17, h18⟩ := g_bd h16; clear h16
  refine g_newa12 (cap := 64) X tw173 ek17 (by decide) (by decide) (by decide) dX2_init_23 ?_
  refine g_wid (k := 3) (n := 192) (Nat.le_refl _) (Nat.add_le_add_left (fnA_s ek17).2.2 _) ?_
  clear ek17
  obtain ⟨z21, ez21, h22⟩ := g_let h18; clear h18; rw [← ez21]; clear ez21
  obtain ⟨S19, eS19, h20⟩ := g_let h22; clear h22; rw [← eS19]; clear eS19
  obtain ⟨S23, eS23, h24⟩ := g_bd h20; clear h20
  refine g_pFa (ci := 2) (k := 2) X hin rfl il2 tyX2 tyX2_ok nmX2 (by decide) tw153 rfl rfl (by decide) (fun _ _ _ => rfl) rfl eS23 dX2_init_25 ?_
  clear eS23
  cases h24
  exact g_vret X hr (by decide) (by decide) dX2_init_28
def f_X2_begin (S0 : gS) (a0 : Nat) (v1 : Int64) : Option gS :=
  (fpI S0 2 3 (some a0) 0).bind fun S1 =>
  (fpL S1 2 4 (some a0) 0).bind fun S3 =>
  (fpL S3 2 5 (some a0) v1).bind fun S5 =>
  (fpZ S5 2 6 (some a0) 0).bind fun S7 =>
  some S7
set_option maxRecDepth 100000 in
set_option maxHeartbeats 4000000 in
theorem c_X2_begin {l : Launch} (hl : l.stackTraces = false) (D : gD)  {S0 S9 : gS} {a0 : Nat} {v1 : Int64} (h0 : f_X2_begin S0 a0 v1 = some S9) : Met l yX2_begin (gws yX2_begin cX2_begin 3 none) { frames := 0, cells := 0, slots := 0, locals := 0 } (gPc D S0 [.ref a0, .long v1]) (gQ D none S9) (0) (0) (gF D) := by
  refine g_met (lv := [(0, va_rf (some a0)), (1, .long v1)]) hl (by decide) (Nat.le_of_ble_eq_true rfl) rfl (fun p e s m args below meth c X hr hn => ?_)
  have X : gX D p l s m args meth c cX2_begin 3 RX2 := X
  unfold f_X2_begin at h0
  refine g_aload_n (j := 0) X dX2_begin_0 rfl rfl ?_
  refine g_iconst X dX2_begin_1 (v := 0) (by decide) ?_
  obtain ⟨S1, eS1, h2⟩ := g_bd h0; clear h0
  refine g_pI (ci := 2) (k := 3) X rfl il2 tyX2 tyX2_ok nmX2 (by decide) tw155 rfl (by decide) (fun _ _ _ => rfl) rfl eS1 dX2_begin_2 ?_
  clear eS1
  refine g_aload_n (j := 0) X dX2_begin_5 rfl rfl ?_
  refine g_lconst X dX2_begin_6 (v := 0) (by decide) ?_
  obtain ⟨S3, eS3, h4⟩ := g_bd h2; clear h2
  refine g_pL (ci := 2) (k := 4) X rfl il2 tyX2 tyX2_ok nmX2 (by decide) tw158 rfl (by decide) (fun _ _ _ => rfl) rfl eS3 dX2_begin_7 ?_
  clear eS3
  refine g_aload_n (j := 0) X dX2_begin_10 rfl rfl ?_
  refine g_lload_n (j := 1) X dX2_begin_11 rfl rfl ?_
  obtain ⟨S5, eS5, h6⟩ := g_bd h4; clear h4
  refine g_pL (ci := 2) (k := 5) X rfl il2 tyX2 tyX2_ok nmX2 (by decide) tw160 rfl (by decide) (fun _ _ _ => rfl) rfl eS5 dX2_begin_12 ?_
  clear eS5
  refine g_aload_n (j := 0) X dX2_begin_15 rfl rfl ?_
  refine g_iconst X dX2_begin_16 (v := 0) (by decide) ?_
  obtain ⟨S7, eS7, h8⟩ := g_bd h6; clear h6
  refine g_pZ (ci := 2) (k := 6) X rfl il2 tyX2 tyX2_ok nmX2 (by decide) tw162 rfl (by decide) (fun _ _ _ => rfl) rfl eS7 dX2_begin_17 ?_
  clear eS7
  cases h8
  exact g_vret X hr (by decide) (by decide) dX2_begin_20
def f_X2_frontOf_L5 : Nat → gS → Int64 → Int64 → Int32 → Option (Int64 × gS)
  | 0, _, _, _, _ => none
  | k + 1, S0, v0, v2, v4 =>
    if 62 ≤ v4 then
      some (v2, S0)
    else
      if 0 ≤ (lg_cmp v2 (v0 - v2)) then
        some (v2, S0)
      else
        gLet (v2 <<< ((1 : Int32).toInt64 &&& 63)) fun x7 =>
        gLet (v4 + 1) fun x9 =>
        f_X2_frontOf_L5 k S0 v0 x7 x9
set_option maxRecDepth 100000 in
set_option maxHeartbeats 4000000 in
theorem w_X2_frontOf_L5 {p : Program} {l : Launch} {e : Env} {s : State} {m : MethodId} {args : Array Value} {below : List Frame} {meth : Method} {c : Code} {D : gD} {S9 : gS} {res : Int64}  (hl : l.stackTraces = false) (X : gX D p l s m args meth c cX2_frontOf 5 RX2) (hr : meth.sig.returnType = (some .long)) : ∀ (k : Nat) (S0 : gS) (v0 : Int64) (v2 : Int64) (v4 : Int32), f_X2_frontOf_L5 k S0 v0 v2 v4 = some (res, S9) → gJ D p l e { frames := 0, cells := 0, slots := 0, locals := 0 } s m args below meth c (MQ below (gQ D (some (.long res)) S9) args s (0) (0) (gF D)) 5 (0) (0) S0 5 [(0, .long v0), (2, .long v2), (4, .int v4)] [] := by
  intro k
  induction k with
  | zero => intro S0 v0 v2 v4 h0; cases h0
  | succ k ih =>
    intro S0 v0 v2 v4 h0
    have h0 := h0
    unfold f_X2_frontOf_L5 at h0
    refine g_iload (j := 2) X dX2_frontOf_5 rfl ?_
    refine g_bipush X dX2_frontOf_7 (v := 62) (by decide) ?_
    refine g_icmp_ge (tgt := 30) X dX2_frontOf_9 (by decide) (fun c1 => ?_) (fun c1 => ?_)
    · have h2 := g_ip h0 c1; clear h0
      refine g_lload_n (j := 1) X dX2_frontOf_30 rfl rfl ?_
      obtain ⟨rfl, rfl⟩ := g_end h2
      exact g_lret X hr (by decide) (by decide) dX2_frontOf_31
    · have h3 := g_in h0 c1; clear h0
      refine g_lload_n (j := 1) X dX2_frontOf_12 rfl rfl ?_
      refine g_lload_n (j := 0) X dX2_frontOf_13 rfl rfl ?_
      refine g_lload_n (j := 1) X dX2_frontOf_14 rfl rfl ?_
      refine g_lsub X dX2_frontOf_15 ?_
      refine g_lcmp X dX2_frontOf_16 ?_
      refine g_if_ge (tgt := 30) X dX2_frontOf_17 (by decide) (fun c4 => ?_) (fun c4 => ?_)
      · have h5 := g_ip h3 c4; clear h3
        refine g_lload_n (j := 1) X dX2_frontOf_30 rfl rfl ?_
        obtain ⟨rfl, rfl⟩ := g_end h5
        exact g_lret X hr (by decide) (by decide) dX2_frontOf_31
      · have h6 := g_in h3 c4; clear h3
        refine g_lload_n (j := 1) X dX2_frontOf_20 rfl rfl ?_
        refine g_iconst X dX2_frontOf_21 (v := 1) (by decide) ?_
        refine g_lshl X dX2_frontOf_22 ?_
        obtain ⟨x7, ex7, h8⟩ := g_let h6; clear h6; rw [← ex7]; clear ex7
        refine g_lstore_n (i := 2) (lv' := [(2, .long x7), (0, .long v0), (4, .int v4)]) X dX2_frontOf_23 rfl (by decide) rfl ?_
        obtain ⟨x9, ex9, h10⟩ := g_let h8; clear h8
        refine g_iinc (j := 2) (v := x9) (lv' := [(4, .int x9), (2, .long x7), (0, .long v0)]) X dX2_frontOf_24 rfl (by rw [ex9]; rfl) (by decide) rfl ?_
        clear ex9
        refine g_goto (tgt := 5) X dX2_frontOf_27 (by decide) ?_
        refine g_sub [2, 1, 0] rfl ?_
        exact ih S0 v0 x7 x9 h10
def f_X2_frontOf (S0 : gS) (v0 : Int64) : Option (Int64 × gS) :=
  f_X2_frontOf_L5 gFuel S0 v0 1 0
set_option maxRecDepth 100000 in
set_option maxHeartbeats 4000000 in
theorem c_X2_frontOf {l : Launch} (hl : l.stackTraces = false) (D : gD)  {S0 S9 : gS} {v0 : Int64} {res : Int64} (h0 : f_X2_frontOf S0 v0 = some (res, S9)) : Met l yX2_frontOf (gws yX2_frontOf cX2_frontOf 5 (some .long)) { frames := 0, cells := 0, slots := 0, locals := 0 } (gPc D S0 [.long v0]) (gQ D (some (.long res)) S9) (0) (0) (gF D) := by
  refine g_met (lv := [(0, .long v0)]) hl (by decide) (Nat.le_of_ble_eq_true rfl) rfl (fun p e s m args below meth c X hr hn => ?_)
  have X : gX D p l s m args meth c cX2_frontOf 5 RX2 := X
  unfold f_X2_frontOf at h0
  refine g_lconst X dX2_frontOf_0 (v := 1) (by decide) ?_
  refine g_lstore_n (i := 2) (lv' := [(2, .long 1), (0, .long v0)]) X dX2_frontOf_1 rfl (by decide) rfl ?_
  refine g_iconst X dX2_frontOf_2 (v := 0) (by decide) ?_
  refine g_istore (i := 4) (lv' := [(4, .int 0), (2, .long 1), (0, .long v0)]) X dX2_frontOf_3 (by decide) rfl ?_
  refine g_sub [2, 1, 0] rfl ?_
  exact w_X2_frontOf_L5 hl X hr gFuel S0 v0 1 0 h0
def f_X2_note (S0 : gS) (a0 : Nat) (v1 : Int64) (v3 : Int64) (v5 : Int32) : Option gS :=
  (fgI S0 2 3 (some a0)).bind fun x1 =>
  if x1 < 64 then
    (fgR S0 2 0 (some a0)).bind fun x6 =>
    (fgI S0 2 3 (some a0)).bind fun x8 =>
    (faL S0 x6 x8 v1).bind fun S10 =>
    (fgR S10 2 1 (some a0)).bind fun x12 =>
    (fgI S10 2 3 (some a0)).bind fun x14 =>
    (faL S10 x12 x14 v3).bind fun S16 =>
    (fgR S16 2 2 (some a0)).bind fun x18 =>
    (fgI S16 2 3 (some a0)).bind fun x20 =>
    (faZ S16 x18 x20 v5).bind fun S22 =>
    (fgI S22 2 3 (some a0)).bind fun x24 =>
    (fpI S22 2 3 (some a0) (x24 + 1)).bind fun S26 =>
    some S26
  else
    some S0
set_option maxRecDepth 100000 in
set_option maxHeartbeats 4000000 in
theorem c_X2_note {l : Launch} (hl : l.stackTraces = false) (D : gD)  {S0 S9 : gS} {a0 : Nat} {v1 : Int64} {v3 : Int64} {v5 : Int32} (h0 : f_X2_note S0 a0 v1 v3 v5 = some S9) : Met l yX2_note (gws yX2_note cX2_note 6 none) { frames := 0, cells := 0, slots := 0, locals := 0 } (gPc D S0 [.ref a0, .long v1, .long v3, .int v5]) (gQ D none S9) (0) (0) (gF D) := by
  refine g_met (lv := [(0, va_rf (some a0)), (1, .long v1), (3, .long v3), (5, .int v5)]) hl (by decide) (Nat.le_of_ble_eq_true rfl) rfl (fun p e s m args below meth c X hr hn => ?_)
  have X : gX D p l s m args meth c cX2_note 6 RX2 := X
  unfold f_X2_note at h0
  refine g_aload_n (j := 0) X dX2_note_0 rfl rfl ?_
  obtain ⟨x1, ex1, h2⟩ := g_bd h0; clear h0
  refine g_fI (ci := 2) (k := 3) X rfl il2 (by decide) tw155 (by decide) (fun _ _ _ => rfl) ex1 dX2_note_1 ?_
  clear ex1
  refine g_bipush X dX2_note_4 (v := 64) (by decide) ?_
  refine g_icmp_lt (tgt := 10) X dX2_note_6 (by decide) (fun c3 => ?_) (fun c3 => ?_)
  · have h4 := g_ip h2 c3; clear h2
    refine g_aload_n (j := 0) X dX2_note_10 rfl rfl ?_
    obtain ⟨x6, ex6, h7⟩ := g_bd h4; clear h4
    refine g_fR (ci := 2) (k := 0) X rfl il2 (by decide) tw149 (by decide) (fun _ _ _ => rfl) ex6 dX2_note_11 ?_
    clear ex6
    refine g_aload_n (j := 0) X dX2_note_14 rfl rfl ?_
    obtain ⟨x8, ex8, h9⟩ := g_bd h7; clear h7
    refine g_fI (ci := 2) (k := 3) X rfl il2 (by decide) tw155 (by decide) (fun _ _ _ => rfl) ex8 dX2_note_15 ?_
    clear ex8
    refine g_lload_n (j := 1) X dX2_note_18 rfl rfl ?_
    obtain ⟨S10, eS10, h11⟩ := g_bd h9; clear h9
    refine g_last X eS10 dX2_note_19 ?_
    clear eS10
    refine g_aload_n (j := 0) X dX2_note_20 rfl rfl ?_
    obtain ⟨x12, ex12, h13⟩ := g_bd h11; clear h11
    refine g_fR (ci := 2) (k := 1) X rfl il2 (by decide) tw151 (by decide) (fun _ _ _ => rfl) ex12 dX2_note_21 ?_
    clear ex12
    refine g_aload_n (j := 0) X dX2_note_24 rfl rfl ?_
    obtain ⟨x14, ex14, h15⟩ := g_bd h13; clear h13
    refine g_fI (ci := 2) (k := 3) X rfl il2 (by decide) tw155 (by decide) (fun _ _ _ => rfl) ex14 dX2_note_25 ?_
    clear ex14
    refine g_lload_n (j := 2) X dX2_note_28 rfl rfl ?_
    obtain ⟨S16, eS16, h17⟩ := g_bd h15; clear h15
    refine g_last X eS16 dX2_note_29 ?_
    clear eS16
    refine g_aload_n (j := 0) X dX2_note_30 rfl rfl ?_
    obtain ⟨x18, ex18, h19⟩ := g_bd h17; clear h17
    refine g_fR (ci := 2) (k := 2) X rfl il2 (by decide) tw153 (by decide) (fun _ _ _ => rfl) ex18 dX2_note_31 ?_
    clear ex18
    refine g_aload_n (j := 0) X dX2_note_34 rfl rfl ?_
    obtain ⟨x20, ex20, h21⟩ := g_bd h19; clear h19
    refine g_fI (ci := 2) (k := 3) X rfl il2 (by decide) tw155 (by decide) (fun _ _ _ => rfl) ex20 dX2_note_35 ?_
    clear ex20
    refine g_iload (j := 3) X dX2_note_38 rfl ?_
    obtain ⟨S22, eS22, h23⟩ := g_bd h21; clear h21
    refine g_zast X eS22 dX2_note_40 ?_
    clear eS22
    refine g_aload_n (j := 0) X dX2_note_41 rfl rfl ?_
    refine g_dup X dX2_note_42 (g_rfc _) ?_
    obtain ⟨x24, ex24, h25⟩ := g_bd h23; clear h23
    refine g_fI (ci := 2) (k := 3) X rfl il2 (by decide) tw155 (by decide) (fun _ _ _ => rfl) ex24 dX2_note_43 ?_
    clear ex24
    refine g_iconst X dX2_note_46 (v := 1) (by decide) ?_
    refine g_iadd X dX2_note_47 ?_
    obtain ⟨S26, eS26, h27⟩ := g_bd h25; clear h25
    refine g_pI (ci := 2) (k := 3) X rfl il2 tyX2 tyX2_ok nmX2 (by decide) tw155 rfl (by decide) (fun _ _ _ => rfl) rfl eS26 dX2_note_48 ?_
    clear eS26
    cases h27
    exact g_vret X hr (by decide) (by decide) dX2_note_51
  · have h5 := g_in h2 c3; clear h2
    cases h5
    exact g_vret X hr (by decide) (by decide) dX2_note_9
def f_X2_passBack (S0 : gS) (a0 : Nat) (v1 : Int64) : Option gS :=
  (fgL S0 2 5 (some a0)).bind fun x1 =>
  gDc S0 2 (some a0) fun a3 =>
  (f_X2_note S0 a3 v1 x1 0).bind fun S5 =>
  (fpL S5 2 5 (some a0) v1).bind fun S7 =>
  some S7
set_option maxRecDepth 100000 in
set_option maxHeartbeats 4000000 in
theorem c_X2_passBack {l : Launch} (hl : l.stackTraces = false) (D : gD)  {S0 S9 : gS} {a0 : Nat} {v1 : Int64} (h0 : f_X2_passBack S0 a0 v1 = some S9) : Met l yX2_passBack (gws yX2_passBack cX2_passBack 3 none) { frames := 1, cells := 0, slots := 0, locals := 25 } (gPc D S0 [.ref a0, .long v1]) (gQ D none S9) (0) (0) (gF D) := by
  refine g_met (lv := [(0, va_rf (some a0)), (1, .long v1)]) hl (by decide) (Nat.le_of_ble_eq_true rfl) rfl (fun p e s m args below meth c X hr hn => ?_)
  have X : gX D p l s m args meth c cX2_passBack 3 RX2 := X
  unfold f_X2_passBack at h0
  refine g_aload_n (j := 0) X dX2_passBack_0 rfl rfl ?_
  refine g_lload_n (j := 1) X dX2_passBack_1 rfl rfl ?_
  refine g_aload_n (j := 0) X dX2_passBack_2 rfl rfl ?_
  obtain ⟨x1, ex1, h2⟩ := g_bd h0; clear h0
  refine g_fL (ci := 2) (k := 5) X rfl il2 (by decide) tw160 (by decide) (fun _ _ _ => rfl) ex1 dX2_passBack_3 ?_
  clear ex1
  refine g_iconst X dX2_passBack_6 (v := 0) (by decide) ?_
  obtain ⟨a3, ea3, ka3, h4⟩ := g_dc h2; clear h2
  obtain ⟨S5, eS5, h6⟩ := g_bd h4; clear h4
  refine g_cV (n := 3) (As := [.long v1, .long x1, .int 0]) X (c_X2_note hl D eS5) tw266 tw267 tw2 tw49 tw268 (by decide +kernel) rfl rfl ⟨Nat.le_of_ble_eq_true rfl, Nat.le_of_ble_eq_true rfl⟩ (ci := 2) rfl (by decide) ea3 ka3 rfl rfl (Nat.le_of_ble_eq_true rfl) dX2_passBack_7 ⟨(by decide), (by decide)⟩ ?_
  clear eS5 ea3 ka3
  refine g_aload_n (j := 0) X dX2_passBack_10 rfl rfl ?_
  refine g_lload_n (j := 1) X dX2_passBack_11 rfl rfl ?_
  obtain ⟨S7, eS7, h8⟩ := g_bd h6; clear h6
  refine g_pL (ci := 2) (k := 5) X rfl il2 tyX2 tyX2_ok nmX2 (by decide) tw160 rfl (by decide) (fun _ _ _ => rfl) rfl eS7 dX2_passBack_12 ?_
  clear eS7
  cases h8
  exact g_vret X hr (by decide) (by decide) dX2_passBack_15
def f_X2_passFront (S0 : gS) (a0 : Nat) (v1 : Int64) : Option gS :=
  (fgL S0 2 4 (some a0)).bind fun x1 =>
  gDc S0 2 (some a0) fun a3 =>
  (f_X2_note S0 a3 x1 v1 1).bind fun S5 =>
  (fpL S5 2 4 (some a0) v1).bind fun S7 =>
  some S7
set_option maxRecDepth 100000 in
set_option maxHeartbeats 4000000 in
theorem c_X2_passFront {l : Launch} (hl : l.stackTraces = false) (D : gD)  {S0 S9 : gS} {a0 : Nat} {v1 : Int64} (h0 : f_X2_passFront S0 a0 v1 = some S9) : Met l yX2_passFront (gws yX2_passFront cX2_passFront 3 none) { frames := 1, cells := 0, slots := 0, locals := 25 } (gPc D S0 [.ref a0, .long v1]) (gQ D none S9) (0) (0) (gF D) := by
  refine g_met (lv := [(0, va_rf (some a0)), (1, .long v1)]) hl (by decide) (Nat.le_of_ble_eq_true rfl) rfl (fun p e s m args below meth c X hr hn => ?_)
  have X : gX D p l s m args meth c cX2_passFront 3 RX2 := X
  unfold f_X2_passFront at h0
  refine g_aload_n (j := 0) X dX2_passFront_0 rfl rfl ?_
  refine g_aload_n (j := 0) X dX2_passFront_1 rfl rfl ?_
  obtain ⟨x1, ex1, h2⟩ := g_bd h0; clear h0
  refine g_fL (ci := 2) (k := 4) X rfl il2 (by decide) tw158 (by decide) (fun _ _ _ => rfl) ex1 dX2_passFront_2 ?_
  clear ex1
  refine g_lload_n (j := 1) X dX2_passFront_5 rfl rfl ?_
  refine g_iconst X dX2_passFront_6 (v := 1) (by decide) ?_
  obtain ⟨a3, ea3, ka3, h4⟩ := g_dc h2; clear h2
  obtain ⟨S5, eS5, h6⟩ := g_bd h4; clear h4
  refine g_cV (n := 3) (As := [.long x1, .long v1, .int 1]) X (c_X2_note hl D eS5) tw266 tw267 tw2 tw49 tw268 (by decide +kernel) rfl rfl ⟨Nat.le_of_ble_eq_true rfl, Nat.le_of_ble_eq_true rfl⟩ (ci := 2) rfl (by decide) ea3 ka3 rfl rfl (Nat.le_of_ble_eq_true rfl) dX2_passFront_7 ⟨(by decide), (by decide)⟩ ?_
  clear eS5 ea3 ka3
  refine g_aload_n (j := 0) X dX2_passFront_10 rfl rfl ?_
  refine g_lload_n (j := 1) X dX2_passFront_11 rfl rfl ?_
  obtain ⟨S7, eS7, h8⟩ := g_bd h6; clear h6
  refine g_pL (ci := 2) (k := 4) X rfl il2 tyX2 tyX2_ok nmX2 (by decide) tw158 rfl (by decide) (fun _ _ _ => rfl) rfl eS7 dX2_passFront_12 ?_
  clear eS7
  cases h8
  exact g_vret X hr (by decide) (by decide) dX2_passFront_15
