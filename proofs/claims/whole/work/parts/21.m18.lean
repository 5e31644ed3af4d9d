def f_X8_seal_L65 : Nat → gS → Nat → Int32 → Option (Int32 × gS)
  | 0, _, _, _ => none
  | k + 1, S0, a0, v3 =>
    if 48 ≤ v3 then
      (fpI S0 8 4 (some a0) 48).bind fun S43 =>
      gDc S43 8 (some a0) fun a45 =>
      (f_X8_outSlot S43 a45 1).bind fun S47 =>
      some (1, S47)
    else
      (fgR S0 8 3 (some a0)).bind fun x49 =>
      (fgR S0 8 1 (some a0)).bind fun x51 =>
      (fI S0 10 x51 v3).bind fun x53 =>
      (faI S0 x49 v3 x53).bind fun S55 =>
      gLet (v3 + 1) fun x57 =>
      f_X8_seal_L65 k S55 a0 x57
set_option maxRecDepth 100000 in
set_option maxHeartbeats 4000000 in
theorem w_X8_seal_L65 {p : Program} {l : Launch} {e : Env} {s : State} {m : MethodId} {args : Array Value} {below : List Frame} {meth : Method} {c : Code} {D : gD} {S9 : gS} {res : Int32}  (hl : l.stackTraces = false) (X : gX D p l s m args meth c cX8_seal 4 RX8) (hr : meth.sig.returnType = (some .boolean)) : ∀ (k : Nat) (S0 : gS) (a0 : Nat) (v3 : Int32), f_X8_seal_L65 k S0 a0 v3 = some (res, S9) → gJ D p l e { frames := 4, cells := 3, slots := 24, locals := 104 } s m args below meth c (MQ below (gQ D (some (.int res)) S9) args s (3) (24) (gF D)) 4 (3) (24) S0 65 [(0, va_rf (some a0)), (3, .int v3)] [] := by
  intro k
  induction k with
  | zero => intro S0 a0 v3 h0; cases h0
  | succ k ih =>
    intro S0 a0 v3 h0
    have h0 := h0
    unfold f_X8_seal_L65 at h0
    refine g_iload_n (j := 1) X dX8_seal_65 rfl rfl ?_
    refine g_bipush X dX8_seal_66 (v := 48) (by decide) ?_
    refine g_icmp_ge (tgt := 89) X dX8_seal_68 (by decide) (fun c40 => ?_) (fun c40 => ?_)
    · have h41 := g_ip h0 c40; clear h0
      refine g_aload_n (j := 0) X dX8_seal_89 rfl rfl ?_
      refine g_bipush X dX8_seal_90 (v := 48) (by decide) ?_
      obtain ⟨S43, eS43, h44⟩ := g_bd h41; clear h41
      refine g_pI (ci := 8) (k := 4) X rfl il8 tyX8 tyX8_ok nmX8 (by decide) tw713 rfl (by decide) (fun _ _ _ => rfl) rfl eS43 dX8_seal_92 ?_
      clear eS43
      refine g_aload_n (j := 0) X dX8_seal_95 rfl rfl ?_
      refine g_iconst X dX8_seal_96 (v := 1) (by decide) ?_
      obtain ⟨a45, ea45, ka45, h46⟩ := g_dc h44; clear h44
      obtain ⟨S47, eS47, h48⟩ := g_bd h46; clear h46
      refine g_cV (n := 1) (As := [.int 1]) X (c_X8_outSlot hl D eS47) tw878 tw879 tw28 tw51 tw880 (by decide +kernel) rfl rfl ⟨by decide, by decide⟩ (ci := 8) rfl (by decide) ea45 ka45 rfl rfl (Nat.le_of_ble_eq_true rfl) dX8_seal_97 ⟨(by decide), (by decide)⟩ ?_
      clear eS47 ea45 ka45
      refine g_iconst X dX8_seal_100 (v := 1) (by decide) ?_
      obtain ⟨rfl, rfl⟩ := g_end h48
      exact g_zret X hr (Or.inr rfl) (by decide) (by decide) dX8_seal_101
    · have h42 := g_in h0 c40; clear h0
      refine g_aload_n (j := 0) X dX8_seal_71 rfl rfl ?_
      obtain ⟨x49, ex49, h50⟩ := g_bd h42; clear h42
      refine g_fR (ci := 8) (k := 3) X rfl il8 (by decide) tw712 (by decide) (fun _ _ _ => rfl) ex49 dX8_seal_72 ?_
      clear ex49
      refine g_iload_n (j := 1) X dX8_seal_75 rfl rfl ?_
      refine g_aload_n (j := 0) X dX8_seal_76 rfl rfl ?_
      obtain ⟨x51, ex51, h52⟩ := g_bd h50; clear h50
      refine g_fR (ci := 8) (k := 1) X rfl il8 (by decide) tw710 (by decide) (fun _ _ _ => rfl) ex51 dX8_seal_77 ?_
      clear ex51
      refine g_iload_n (j := 1) X dX8_seal_80 rfl rfl ?_
      obtain ⟨x53, ex53, h54⟩ := g_bd h52; clear h52
      refine g_iald X ex53 dX8_seal_81 ?_
      clear ex53
      obtain ⟨S55, eS55, h56⟩ := g_bd h54; clear h54
      refine g_iast X eS55 dX8_seal_82 ?_
      clear eS55
      obtain ⟨x57, ex57, h58⟩ := g_let h56; clear h56
      refine g_iinc (j := 1) (v := x57) (lv' := [(3, .int x57), (0, va_rf (some a0))]) X dX8_seal_83 rfl (by rw [ex57]; rfl) (by decide) rfl ?_
      clear ex57
      refine g_goto (tgt := 65) X dX8_seal_86 (by decide) ?_
      refine g_sub [1, 0] rfl ?_
      exact ih S55 a0 x57 h58
def f_X8_seal_B28 (S0 : gS) (a0 : Nat) (v1 : Int32) (t0 : Int32) (t1 : Option Nat) : Option (Int32 × gS) :=
  (fpI S0 8 0 t1 t0).bind fun S15 =>
  (fgI S15 8 0 (some a0)).bind fun x17 =>
  if x17 ≤ 0 then
    gDc S15 8 (some a0) fun a22 =>
    (f_X8_fromTape S15 a22 16 0).bind fun S24 =>
    gDc S24 8 (some a0) fun a26 =>
    gBi (f_X8_tapeLong S24 a26 0) fun x30 S28 =>
    gDc S28 8 (some a0) fun a31 =>
    gBi (f_X8_tapeLong S28 a31 8) fun x35 S33 =>
    gDc S33 8 (some a0) fun a36 =>
    (f_X8_sealOf S33 a36 v1 x30 x35).bind fun S38 =>
    f_X8_seal_L65 gFuel S38 a0 0
  else
    some (0, S15)
set_option maxRecDepth 100000 in
set_option maxHeartbeats 4000000 in
theorem w_X8_seal_B28 {p : Program} {l : Launch} {e : Env} {s : State} {m : MethodId} {args : Array Value} {below : List Frame} {meth : Method} {c : Code} {D : gD} {S9 : gS} {res : Int32}  (hl : l.stackTraces = false) (X : gX D p l s m args meth c cX8_seal 4 RX8) (hr : meth.sig.returnType = (some .boolean)) (S0 : gS) (a0 : Nat) (v1 : Int32) (t0 : Int32) (t1 : Option Nat) (h0 : f_X8_seal_B28 S0 a0 v1 t0 t1 = some (res, S9)) : gJ D p l e { frames := 4, cells := 3, slots := 24, locals := 104 } s m args below meth c (MQ below (gQ D (some (.int res)) S9) args s (3) (24) (gF D)) 4 (0) (0) S0 28 [(0, va_rf (some a0)), (1, .int v1)] [.int t0, va_rf t1] := by
  unfold f_X8_seal_B28 at h0
  obtain ⟨S15, eS15, h16⟩ := g_bd h0; clear h0
  refine g_pI (ci := 8) (k := 0) X rfl il8 tyX8 tyX8_ok nmX8 (by decide) tw709 rfl (by decide) (fun _ _ _ => rfl) rfl eS15 dX8_seal_28 ?_
  clear eS15
  refine g_aload_n (j := 0) X dX8_seal_31 rfl rfl ?_
  obtain ⟨x17, ex17, h18⟩ := g_bd h16; clear h16
  refine g_fI (ci := 8) (k := 0) X rfl il8 (by decide) tw709 (by decide) (fun _ _ _ => rfl) ex17 dX8_seal_32 ?_
  clear ex17
  refine g_if_le (tgt := 40) X dX8_seal_35 (by decide) (fun c19 => ?_) (fun c19 => ?_)
  · have h20 := g_ip h18 c19; clear h18
    refine g_aload_n (j := 0) X dX8_seal_40 rfl rfl ?_
    refine g_bipush X dX8_seal_41 (v := 16) (by decide) ?_
    refine g_iconst X dX8_seal_43 (v := 0) (by decide) ?_
    obtain ⟨a22, ea22, ka22, h23⟩ := g_dc h20; clear h20
    obtain ⟨S24, eS24, h25⟩ := g_bd h23; clear h23
    refine g_cV (n := 2) (As := [.int 16, .int 0]) X (c_X8_fromTape hl D eS24) tw885 tw886 tw29 tw51 tw887 (by decide +kernel) rfl rfl ⟨by decide, by decide⟩ (ci := 8) rfl (by decide) ea22 ka22 rfl rfl (Nat.le_of_ble_eq_true rfl) dX8_seal_44 ⟨(by decide), (by decide)⟩ ?_
    clear eS24 ea22 ka22
    refine g_aload_n (j := 0) X dX8_seal_47 rfl rfl ?_
    refine g_iload_n (j := 1) X dX8_seal_48 rfl rfl ?_
    refine g_aload_n (j := 0) X dX8_seal_49 rfl rfl ?_
    refine g_iconst X dX8_seal_50 (v := 0) (by decide) ?_
    obtain ⟨a26, ea26, ka26, h27⟩ := g_dc h25; clear h25
    obtain ⟨x30, S28, eS28, h29⟩ := g_bi h27; clear h27
    refine g_cV (n := 1) (As := [.int 0]) X (c_X8_tapeLong hl D eS28) tw944 tw945 tw37 tw51 tw946 (by decide +kernel) rfl rfl ⟨by decide, by decide⟩ (ci := 8) rfl (by decide) ea26 ka26 rfl rfl (Nat.le_of_ble_eq_true rfl) dX8_seal_51 ⟨(by decide), (by decide)⟩ ?_
    clear eS28 ea26 ka26
    refine g_aload_n (j := 0) X dX8_seal_54 rfl rfl ?_
    refine g_bipush X dX8_seal_55 (v := 8) (by decide) ?_
    obtain ⟨a31, ea31, ka31, h32⟩ := g_dc h29; clear h29
    obtain ⟨x35, S33, eS33, h34⟩ := g_bi h32; clear h32
    refine g_cV (n := 1) (As := [.int 8]) X (c_X8_tapeLong hl D eS33) tw944 tw945 tw37 tw51 tw946 (by decide +kernel) rfl rfl ⟨by decide, by decide⟩ (ci := 8) rfl (by decide) ea31 ka31 rfl rfl (Nat.le_of_ble_eq_true rfl) dX8_seal_57 ⟨(by decide), (by decide)⟩ ?_
    clear eS33 ea31 ka31
    obtain ⟨a36, ea36, ka36, h37⟩ := g_dc h34; clear h34
    obtain ⟨S38, eS38, h39⟩ := g_bd h37; clear h37
    refine g_cV (n := 3) (As := [.int v1, .long x30, .long x35]) X (c_X8_sealOf hl D eS38) tw853 tw854 tw25 tw51 tw855 (by decide +kernel) rfl rfl ⟨by decide, by decide⟩ (ci := 8) rfl (by decide) ea36 ka36 rfl rfl (Nat.le_of_ble_eq_true rfl) dX8_seal_60 ⟨(by decide), (by decide)⟩ ?_
    clear eS38 ea36 ka36
    refine g_iconst X dX8_seal_63 (v := 0) (by decide) ?_
    refine g_istore_n (i := 3) (lv' := [(3, .int 0), (0, va_rf (some a0)), (1, .int v1)]) X dX8_seal_64 rfl (by decide) rfl ?_
    refine g_sub [1, 0] rfl ?_
    exact w_X8_seal_L65 hl X hr gFuel S38 a0 0 h39
  · have h21 := g_in h18 c19; clear h18
    refine g_iconst X dX8_seal_38 (v := 0) (by decide) ?_
    obtain ⟨rfl, rfl⟩ := g_end h21
    exact g_zret X hr (Or.inl rfl) (by decide) (by decide) dX8_seal_39
def f_X8_seal (S0 : gS) (a0 : Nat) (v1 : Int32) : Option (Int32 × gS) :=
  gDc S0 8 (some a0) fun a1 =>
  gBi (f_X8_use S0 a1) fun x5 S3 =>
  gBi (f_X8_isLog S3 v1) fun x8 S6 =>
  if x8 = 0 then
    f_X8_seal_B28 S6 a0 v1 1 (some a0)
  else
    if x5 = 48 then
      f_X8_seal_B28 S6 a0 v1 0 (some a0)
    else
      f_X8_seal_B28 S6 a0 v1 2 (some a0)
set_option maxRecDepth 100000 in
set_option maxHeartbeats 4000000 in
theorem c_X8_seal {l : Launch} (hl : l.stackTraces = false) (D : gD)  {S0 S9 : gS} {a0 : Nat} {v1 : Int32} {res : Int32} (h0 : f_X8_seal S0 a0 v1 = some (res, S9)) : Met l yX8_seal (gws yX8_seal cX8_seal 4 (some .boolean)) { frames := 4, cells := 3, slots := 24, locals := 104 } (gPc D S0 [.ref a0, .int v1]) (gQ D (some (.int res)) S9) (3) (24) (gF D) := by
  refine g_met (lv := [(0, va_rf (some a0)), (1, .int v1)]) hl (by decide) (Nat.le_of_ble_eq_true rfl) rfl (fun p e s m args below meth c X hr hn => ?_)
  have X : gX D p l s m args meth c cX8_seal 4 RX8 := X
  unfold f_X8_seal at h0
  refine g_aload_n (j := 0) X dX8_seal_0 rfl rfl ?_
  obtain ⟨a1, ea1, ka1, h2⟩ := g_dc h0; clear h0
  obtain ⟨x5, S3, eS3, h4⟩ := g_bi h2; clear h2
  refine g_cV (n := 0) (As := []) X (c_X8_use hl D eS3) tw790 tw791 tw15 tw51 tw792 (by decide +kernel) rfl rfl ⟨by decide, by decide⟩ (ci := 8) rfl (by decide) ea1 ka1 rfl rfl (Nat.le_of_ble_eq_true rfl) dX8_seal_1 ⟨(by decide), (by decide)⟩ ?_
  clear eS3 ea1 ka1
  refine g_istore_n (i := 2) (lv' := [(2, .int x5), (0, va_rf (some a0)), (1, .int v1)]) X dX8_seal_4 rfl (by decide) rfl ?_
  refine g_aload_n (j := 1) X dX8_seal_5 rfl rfl ?_
  refine g_iload_n (j := 2) X dX8_seal_6 rfl rfl ?_
  obtain ⟨x8, S6, eS6, h7⟩ := g_bi h4; clear h4
  refine g_cS (n := 1) (As := [.int v1]) X (c_X8_isLog hl D eS6) tw793 tw794 tw51 tw795 (by decide +kernel) rfl rfl ⟨by decide, by decide⟩ rfl rfl (Nat.le_of_ble_eq_true rfl) dX8_seal_7 ⟨(by decide), (by decide)⟩ ?_
  clear eS6
  refine g_if_ne (tgt := 17) X dX8_seal_10 (by decide) (fun c9 => ?_) (fun c9 => ?_)
  · have h10 := g_in h7 c9; clear h7
    refine g_iload_n (j := 0) X dX8_seal_17 rfl rfl ?_
    refine g_bipush X dX8_seal_18 (v := 48) (by decide) ?_
    refine g_icmp_eq (tgt := 27) X dX8_seal_20 (by decide) (fun c12 => ?_) (fun c12 => ?_)
    · have h13 := g_ip h10 c12; clear h10
      refine g_iconst X dX8_seal_27 (v := 0) (by decide) ?_
      refine g_sub [1, 2] rfl ?_
      exact w_X8_seal_B28 hl X hr S6 a0 v1 0 (some a0) h13
    · have h14 := g_in h10 c12; clear h10
      refine g_iconst X dX8_seal_23 (v := 2) (by decide) ?_
      refine g_goto (tgt := 28) X dX8_seal_24 (by decide) ?_
      refine g_sub [1, 2] rfl ?_
      exact w_X8_seal_B28 hl X hr S6 a0 v1 2 (some a0) h14
  · have h11 := g_ip h7 c9; clear h7
    refine g_iconst X dX8_seal_13 (v := 1) (by decide) ?_
    refine g_goto (tgt := 28) X dX8_seal_14 (by decide) ?_
    refine g_sub [1, 2] rfl ?_
    exact w_X8_seal_B28 hl X hr S6 a0 v1 1 (some a0) h11
def f_X8_isWitness (S0 : gS) (v0 : Int32) : Option (Int32 × gS) :=
  if v0 < 0 then
    some (0, S0)
  else
    if 3 < v0 then
      some (0, S0)
    else
      some (1, S0)
set_option maxRecDepth 100000 in
set_option maxHeartbeats 4000000 in
theorem c_X8_isWitness {l : Launch} (hl : l.stackTraces = false) (D : gD)  {S0 S9 : gS} {v0 : Int32} {res : Int32} (h0 : f_X8_isWitness S0 v0 = some (res, S9)) : Met l yX8_isWitness (gws yX8_isWitness cX8_isWitness 1 (some .boolean)) { frames := 0, cells := 0, slots := 0, locals := 0 } (gPc D S0 [.int v0]) (gQ D (some (.int res)) S9) (0) (0) (gF D) := by
  refine g_met (lv := [(0, .int v0)]) hl (by decide) (Nat.le_of_ble_eq_true rfl) rfl (fun p e s m args below meth c X hr hn => ?_)
  have X : gX D p l s m args meth c cX8_isWitness 1 RX8 := X
  unfold f_X8_isWitness at h0
  refine g_iload_n (j := 0) X dX8_isWitness_0 rfl rfl ?_
  refine g_if_lt (tgt := 13) X dX8_isWitness_1 (by decide) (fun c1 => ?_) (fun c1 => ?_)
  · have h2 := g_ip h0 c1; clear h0
    refine g_iconst X dX8_isWitness_13 (v := 0) (by decide) ?_
    obtain ⟨rfl, rfl⟩ := g_end h2
    exact g_zret X hr (Or.inl rfl) (by decide) (by decide) dX8_isWitness_14
  · have h3 := g_in h0 c1; clear h0
    refine g_iload_n (j := 0) X dX8_isWitness_4 rfl rfl ?_
    refine g_iconst X dX8_isWitness_5 (v := 3) (by decide) ?_
    refine g_icmp_gt (tgt := 13) X dX8_isWitness_6 (by decide) (fun c4 => ?_) (fun c4 => ?_)
    · have h5 := g_ip h3 c4; clear h3
      refine g_iconst X dX8_isWitness_13 (v := 0) (by decide) ?_
      obtain ⟨rfl, rfl⟩ := g_end h5
      exact g_zret X hr (Or.inl rfl) (by decide) (by decide) dX8_isWitness_14
    · have h6 := g_in h3 c4; clear h3
      refine g_iconst X dX8_isWitness_9 (v := 1) (by decide) ?_
      refine g_goto (tgt := 14) X dX8_isWitness_10 (by decide) ?_
      obtain ⟨rfl, rfl⟩ := g_end h6
      exact g_zret X hr (Or.inr rfl) (by decide) (by decide) dX8_isWitness_14
def f_X8_placeOf (S0 : gS) (v0 : Int32) (v1 : Int32) (v2 : Int32) : Option (Int32 × gS) :=
  some ((3 * ((2 * v0) + v1)) + v2, S0)
set_option maxRecDepth 100000 in
set_option maxHeartbeats 4000000 in
theorem c_X8_placeOf {l : Launch} (hl : l.stackTraces = false) (D : gD)  {S0 S9 : gS} {v0 : Int32} {v1 : Int32} {v2 : Int32} {res : Int32} (h0 : f_X8_placeOf S0 v0 v1 v2 = some (res, S9)) : Met l yX8_placeOf (gws yX8_placeOf cX8_placeOf 3 (some .int)) { frames := 0, cells := 0, slots := 0, locals := 0 } (gPc D S0 [.int v0, .int v1, .int v2]) (gQ D (some (.int res)) S9) (0) (0) (gF D) := by
  refine g_met (lv := [(0, .int v0), (1, .int v1), (2, .int v2)]) hl (by decide) (Nat.le_of_ble_eq_true rfl) rfl (fun p e s m args below meth c X hr hn => ?_)
  have X : gX D p l s m args meth c cX8_placeOf 3 RX8 := X
  unfold f_X8_placeOf at h0
  refine g_iconst X dX8_placeOf_0 (v := 3) (by decide) ?_
  refine g_iconst X dX8_placeOf_1 (v := 2) (by decide) ?_
  refine g_iload_n (j := 0) X dX8_placeOf_2 rfl rfl ?_
  refine g_imul X dX8_placeOf_3 ?_
  refine g_iload_n (j := 1) X dX8_placeOf_4 rfl rfl ?_
  refine g_iadd X dX8_placeOf_5 ?_
  refine g_imul X dX8_placeOf_6 ?_
  refine g_iload_n (j := 2) X dX8_placeOf_7 rfl rfl ?_
  refine g_iadd X dX8_placeOf_8 ?_
  obtain ⟨rfl, rfl⟩ := g_end h0
  exact g_iret X hr (by decide) (by decide) dX8_placeOf_9
def f_X8_seenLong_L5 : Nat → gS → Nat → Int32 → Int32 → Int64 → Int32 → Option (Int64 × gS)
  | 0, _, _, _, _, _, _ => none
  | k + 1, S0, a0, v1, v2, v3, v5 =>
    if 8 ≤ v5 then
      some (v3, S0)
    else
      (fgR S0 8 14 (some a0)).bind fun x4 =>
      (fI S0 10 x4 (((80 * v1) + v2) + v5)).bind fun x6 =>
      gLet ((v3 <<< ((8 : Int32).toInt64 &&& 63)) ||| x6.toInt64) fun x8 =>
      gLet (v5 + 1) fun x10 =>
      f_X8_seenLong_L5 k S0 a0 v1 v2 x8 x10
set_option maxRecDepth 100000 in
set_option maxHeartbeats 4000000 in
theorem w_X8_seenLong_L5 {p : Program} {l : Launch} {e : Env} {s : State} {m : MethodId} {args : Array Value} {below : List Frame} {meth : Method} {c : Code} {D : gD} {S9 : gS} {res : Int64}  (hl : l.stackTraces = false) (X : gX D p l s m args meth c cX8_seenLong 6 RX8) (hr : meth.sig.returnType = (some .long)) : ∀ (k : Nat) (S0 : gS) (a0 : Nat) (v1 : Int32) (v2 : Int32) (v3 : Int64) (v5 : Int32), f_X8_seenLong_L5 k S0 a0 v1 v2 v3 v5 = some (res, S9) → gJ D p l e { frames := 0, cells := 0, slots := 0, locals := 0 } s m args below meth c (MQ below (gQ D (some (.long res)) S9) args s (0) (0) (gF D)) 6 (0) (0) S0 5 [(0, va_rf (some a0)), (1, .int v1), (2, .int v2), (3, .long v3), (5, .int v5)] [] := by
  intro k
  induction k with
  | zero => intro S0 a0 v1 v2 v3 v5 h0; cases h0
  | succ k ih =>
    intro S0 a0 v1 v2 v3 v5 h0
    have h0 := h0
    unfold f_X8_seenLong_L5 at h0
    refine g_iload (j := 4) X dX8_seenLong_5 rfl ?_
    refine g_bipush X dX8_seenLong_7 (v := 8) (by decide) ?_
    refine g_icmp_ge (tgt := 39) X dX8_seenLong_9 (by decide) (fun c1 => ?_) (fun c1 => ?_)
    · have h2 := g_ip h0 c1; clear h0
      refine g_lload_n (j := 3) X dX8_seenLong_39 rfl rfl ?_
      obtain ⟨rfl, rfl⟩ := g_end h2
      exact g_lret X hr (by decide) (by decide) dX8_seenLong_40
    · have h3 := g_in h0 c1; clear h0
      refine g_lload_n (j := 3) X dX8_seenLong_12 rfl rfl ?_
      refine g_bipush X dX8_seenLong_13 (v := 8) (by decide) ?_
      refine g_lshl X dX8_seenLong_15 ?_
      refine g_aload_n (j := 0) X dX8_seenLong_16 rfl rfl ?_
      obtain ⟨x4, ex4, h5⟩ := g_bd h3; clear h3
      refine g_fR (ci := 8) (k := 14) X rfl il8 (by decide) tw723 (by decide) (fun _ _ _ => rfl) ex4 dX8_seenLong_17 ?_
      clear ex4
      refine g_bipush X dX8_seenLong_20 (v := 80) (by decide) ?_
      refine g_iload_n (j := 1) X dX8_seenLong_22 rfl rfl ?_
      refine g_imul X dX8_seenLong_23 ?_
      refine g_iload_n (j := 2) X dX8_seenLong_24 rfl rfl ?_
      refine g_iadd X dX8_seenLong_25 ?_
      refine g_iload (j := 4) X dX8_seenLong_26 rfl ?_
      refine g_iadd X dX8_seenLong_28 ?_
      obtain ⟨x6, ex6, h7⟩ := g_bd h5; clear h5
      refine g_iald X ex6 dX8_seenLong_29 ?_
      clear ex6
      refine g_i2l X dX8_seenLong_30 ?_
      refine g_lor X dX8_seenLong_31 ?_
      obtain ⟨x8, ex8, h9⟩ := g_let h7; clear h7; rw [← ex8]; clear ex8
      refine g_lstore_n (i := 3) (lv' := [(3, .long x8), (0, va_rf (some a0)), (1, .int v1), (2, .int v2), (5, .int v5)]) X dX8_seenLong_32 rfl (by decide) rfl ?_
      obtain ⟨x10, ex10, h11⟩ := g_let h9; clear h9
      refine g_iinc (j := 4) (v := x10) (lv' := [(5, .int x10), (3, .long x8), (0, va_rf (some a0)), (1, .int v1), (2, .int v2)]) X dX8_seenLong_33 rfl (by rw [ex10]; rfl) (by decide) rfl ?_
      clear ex10
      refine g_goto (tgt := 5) X dX8_seenLong_36 (by decide) ?_
      refine g_sub [2, 3, 4, 1, 0] rfl ?_
      exact ih S0 a0 v1 v2 x8 x10 h11
def f_X8_seenLong (S0 : gS) (a0 : Nat) (v1 : Int32) (v2 : Int32) : Option (Int64 × gS) :=
  f_X8_seenLong_L5 gFuel S0 a0 v1 v2 0 0
set_option maxRecDepth 100000 in
set_option maxHeartbeats 4000000 in
theorem c_X8_seenLong {l : Launch} (hl : l.stackTraces = false) (D : gD)  {S0 S9 : gS} {a0 : Nat} {v1 : Int32} {v2 : Int32} {res : Int64} (h0 : f_X8_seenLong S0 a0 v1 v2 = some (res, S9)) : Met l yX8_seenLong (gws yX8_seenLong cX8_seenLong 6 (some .long)) { frames := 0, cells := 0, slots := 0, locals := 0 } (gPc D S0 [.ref a0, .int v1, .int v2]) (gQ D (some (.long res)) S9) (0) (0) (gF D) := by
  refine g_met (lv := [(0, va_rf (some a0)), (1, .int v1), (2, .int v2)]) hl (by decide) (Nat.le_of_ble_eq_true rfl) rfl (fun p e s m args below meth c X hr hn => ?_)
  have X : gX D p l s m args meth c cX8_seenLong 6 RX8 := X
  unfold f_X8_seenLong at h0
  refine g_lconst X dX8_seenLong_0 (v := 0) (by decide) ?_
  refine g_lstore_n (i := 3) (lv' := [(3, .long 0), (0, va_rf (some a0)), (1, .int v1), (2, .int v2)]) X dX8_seenLong_1 rfl (by decide) rfl ?_
  refine g_iconst X dX8_seenLong_2 (v := 0) (by decide) ?_
  refine g_istore (i := 5) (lv' := [(5, .int 0), (3, .long 0), (0, va_rf (some a0)), (1, .int v1), (2, .int v2)]) X dX8_seenLong_3 (by decide) rfl ?_
  refine g_sub [2, 3, 4, 1, 0] rfl ?_
  exact w_X8_seenLong_L5 hl X hr gFuel S0 a0 v1 v2 0 0 h0
def f_X8_seenSlot_L2 : Nat → gS → Nat → Int32 → Int32 → Int32 → Option gS
  | 0, _, _, _, _, _ => none
  | k + 1, S0, a0, v1, v2, v3 =>
    if 8 ≤ v3 then
      some S0
    else
      gLet (((80 * v1) + 16) + (4 * v3)) fun x4 =>
      (fgR S0 8 21 (some a0)).bind fun x6 =>
      (fgR S0 8 14 (some a0)).bind fun x8 =>
      (fI S0 10 x8 x4).bind fun x10 =>
      (fgR S0 8 14 (some a0)).bind fun x12 =>
      (fI S0 10 x12 (x4 + 1)).bind fun x14 =>
      (fgR S0 8 14 (some a0)).bind fun x16 =>
      (fI S0 10 x16 (x4 + 2)).bind fun x18 =>
      (fgR S0 8 14 (some a0)).bind fun x20 =>
      (fI S0 10 x20 (x4 + 3)).bind fun x22 =>
      (faI S0 x6 ((8 * v2) + v3) ((((x10 <<< (24 &&& 31)) ||| (x14 <<< (16 &&& 31))) ||| (x18 <<< (8 &&& 31))) ||| x22)).bind fun S24 =>
      gLet (v3 + 1) fun x26 =>
      f_X8_seenSlot_L2 k S24 a0 v1 v2 x26
set_option maxRecDepth 100000 in
set_option maxHeartbeats 4000000 in
theorem w_X8_seenSlot_L2 {p : Program} {l : Launch} {e : Env} {s : State} {m : MethodId} {args : Array Value} {below : List Frame} {meth : Method} {c : Code} {D : gD} {S9 : gS}  (hl : l.stackTraces = false) (X : gX D p l s m args meth c cX8_seenSlot 5 RX8) (hr : meth.sig.returnType = none) : ∀ (k : Nat) (S0 : gS) (a0 : Nat) (v1 : Int32) (v2 : Int32) (v3 : Int32), f_X8_seenSlot_L2 k S0 a0 v1 v2 v3 = some S9 → gJ D p l e { frames := 0, cells := 0, slots := 0, locals := 0 } s m args below meth c (MQ below (gQ D none S9) args s (0) (0) (gF D)) 5 (0) (0) S0 2 [(0, va_rf (some a0)), (1, .int v1), (2, .int v2), (3, .int v3)] [] := by
  intro k
  induction k with
  | zero => intro S0 a0 v1 v2 v3 h0; cases h0
  | succ k ih =>
    intro S0 a0 v1 v2 v3 h0
    have h0 := h0
    unfold f_X8_seenSlot_L2 at h0
    refine g_iload_n (j := 3) X dX8_seenSlot_2 rfl rfl ?_
    refine g_bipush X dX8_seenSlot_3 (v := 8) (by decide) ?_
    refine g_icmp_ge (tgt := 84) X dX8_seenSlot_5 (by decide) (fun c1 => ?_) (fun c1 => ?_)
    · have h2 := g_ip h0 c1; clear h0
      cases h2
      exact g_vret X hr (by decide) (by decide) dX8_seenSlot_84
    · have h3 := g_in h0 c1; clear h0
      refine g_bipush X dX8_seenSlot_8 (v := 80) (by decide) ?_
      refine g_iload_n (j := 1) X dX8_seenSlot_10 rfl rfl ?_
      refine g_imul X dX8_seenSlot_11 ?_
      refine g_bipush X dX8_seenSlot_12 (v := 16) (by decide) ?_
      refine g_iadd X dX8_seenSlot_14 ?_
      refine g_iconst X dX8_seenSlot_15 (v := 4) (by decide) ?_
      refine g_iload_n (j := 3) X dX8_seenSlot_16 rfl rfl ?_
      refine g_imul X dX8_seenSlot_17 ?_
      refine g_iadd X dX8_seenSlot_18 ?_
      obtain ⟨x4, ex4, h5⟩ := g_let h3; clear h3; rw [← ex4]; clear ex4
      refine g_istore (i := 4) (lv' := [(4, .int x4), (0, va_rf (some a0)), (1, .int v1), (2, .int v2), (3, .int v3)]) X dX8_seenSlot_19 (by decide) rfl ?_
      refine g_aload_n (j := 1) X dX8_seenSlot_21 rfl rfl ?_
      obtain ⟨x6, ex6, h7⟩ := g_bd h5; clear h5
      refine g_fR (ci := 8) (k := 21) X rfl il8 (by decide) tw730 (by decide) (fun _ _ _ => rfl) ex6 dX8_seenSlot_22 ?_
      clear ex6
      refine g_bipush X dX8_seenSlot_25 (v := 8) (by decide) ?_
      refine g_iload_n (j := 3) X dX8_seenSlot_27 rfl rfl ?_
      refine g_imul X dX8_seenSlot_28 ?_
      refine g_iload_n (j := 4) X dX8_seenSlot_29 rfl rfl ?_
      refine g_iadd X dX8_seenSlot_30 ?_
      refine g_aload_n (j := 1) X dX8_seenSlot_31 rfl rfl ?_
      obtain ⟨x8, ex8, h9⟩ := g_bd h7; clear h7
      refine g_fR (ci := 8) (k := 14) X rfl il8 (by decide) tw723 (by decide) (fun _ _ _ => rfl) ex8 dX8_seenSlot_32 ?_
      clear ex8
      refine g_iload (j := 0) X dX8_seenSlot_35 rfl ?_
      obtain ⟨x10, ex10, h11⟩ := g_bd h9; clear h9
      refine g_iald X ex10 dX8_seenSlot_37 ?_
      clear ex10
      refine g_bipush X dX8_seenSlot_38 (v := 24) (by decide) ?_
      refine g_ishl X dX8_seenSlot_40 ?_
      refine g_aload_n (j := 1) X dX8_seenSlot_41 rfl rfl ?_
      obtain ⟨x12, ex12, h13⟩ := g_bd h11; clear h11
      refine g_fR (ci := 8) (k := 14) X rfl il8 (by decide) tw723 (by decide) (fun _ _ _ => rfl) ex12 dX8_seenSlot_42 ?_
      clear ex12
      refine g_iload (j := 0) X dX8_seenSlot_45 rfl ?_
      refine g_iconst X dX8_seenSlot_47 (v := 1) (by decide) ?_
      refine g_iadd X dX8_seenSlot_48 ?_
      obtain ⟨x14, ex14, h15⟩ := g_bd h13; clear h13
      refine g_iald X ex14 dX8_seenSlot_49 ?_
      clear ex14
      refine g_bipush X dX8_seenSlot_50 (v := 16) (by decide) ?_
      refine g_ishl X dX8_seenSlot_52 ?_
      refine g_ior X dX8_seenSlot_53 ?_
      refine g_aload_n (j := 1) X dX8_seenSlot_54 rfl rfl ?_
      obtain ⟨x16, ex16, h17⟩ := g_bd h15; clear h15
      refine g_fR (ci := 8) (k := 14) X rfl il8 (by decide) tw723 (by decide) (fun _ _ _ => rfl) ex16 dX8_seenSlot_55 ?_
      clear ex16
      refine g_iload (j := 0) X dX8_seenSlot_58 rfl ?_
      refine g_iconst X dX8_seenSlot_60 (v := 2) (by decide) ?_
      refine g_iadd X dX8_seenSlot_61 ?_
      obtain ⟨x18, ex18, h19⟩ := g_bd h17; clear h17
      refine g_iald X ex18 dX8_seenSlot_62 ?_
      clear ex18
      refine g_bipush X dX8_seenSlot_63 (v := 8) (by decide) ?_
      refine g_ishl X dX8_seenSlot_65 ?_
      refine g_ior X dX8_seenSlot_66 ?_
      refine g_aload_n (j := 1) X dX8_seenSlot_67 rfl rfl ?_
      obtain ⟨x20, ex20, h21⟩ := g_bd h19; clear h19
      refine g_fR (ci := 8) (k := 14) X rfl il8 (by decide) tw723 (by decide) (fun _ _ _ => rfl) ex20 dX8_seenSlot_68 ?_
      clear ex20
      refine g_iload (j := 0) X dX8_seenSlot_71 rfl ?_
      refine g_iconst X dX8_seenSlot_73 (v := 3) (by decide) ?_
      refine g_iadd X dX8_seenSlot_74 ?_
      obtain ⟨x22, ex22, h23⟩ := g_bd h21; clear h21
      refine g_iald X ex22 dX8_seenSlot_75 ?_
      clear ex22
      refine g_ior X dX8_seenSlot_76 ?_
      obtain ⟨S24, eS24, h25⟩ := g_bd h23; clear h23
      refine g_iast X eS24 dX8_seenSlot_77 ?_
      clear eS24
      obtain ⟨x26, ex26, h27⟩ := g_let h25; clear h25
      refine g_iinc (j := 4) (v := x26) (lv' := [(3, .int x26), (4, .int x4), (0, va_rf (some a0)), (1, .int v1), (2, .int v2)]) X dX8_seenSlot_78 rfl (by rw [ex26]; rfl) (by decide) rfl ?_
      clear ex26
      refine g_goto (tgt := 2) X dX8_seenSlot_81 (by decide) ?_
      refine g_sub [2, 3, 4, 0] rfl ?_
      exact ih S24 a0 v1 v2 x26 h27
def f_X8_seenSlot (S0 : gS) (a0 : Nat) (v1 : Int32) (v2 : Int32) : Option gS :=
  f_X8_seenSlot_L2 gFuel S0 a0 v1 v2 0
set_option maxRecDepth 100000 in
set_option maxHeartbeats 4000000 in
theorem c_X8_seenSlot {l : Launch} (hl : l.stackTraces = false) (D : gD)  {S0 S9 : gS} {a0 : Nat} {v1 : Int32} {v2 : Int32} (h0 : f_X8_seenSlot S0 a0 v1 v2 = some S9) : Met l yX8_seenSlot (gws yX8_seenSlot cX8_seenSlot 5 none) { frames := 0, cells := 0, slots := 0, locals := 0 } (gPc D S0 [.ref a0, .int v1, .int v2]) (gQ D none S9) (0) (0) (gF D) := by
  refine g_met (lv := [(0, va_rf (some a0)), (1, .int v1), (2, .int v2)]) hl (by decide) (Nat.le_of_ble_eq_true rfl) rfl (fun p e s m args below meth c X hr hn => ?_)
  have X : gX D p l s m args meth c cX8_seenSlot 5 RX8 := X
  unfold f_X8_seenSlot at h0
  refine g_iconst X dX8_seenSlot_0 (v := 0) (by decide) ?_
  refine g_istore_n (i := 3) (lv' := [(3, .int 0), (0, va_rf (some a0)), (1, .int v1), (2, .int v2)]) X dX8_seenSlot_1 rfl (by decide) rfl ?_
  refine g_sub [1, 2, 3, 0] rfl ?_
  exact w_X8_seenSlot_L2 hl X hr gFuel S0 a0 v1 v2 0 h0
def f_X8_keep_L2 : Nat → gS → Nat → Int32 → Int32 → Option gS
  | 0, _, _, _, _ => none
  | k + 1, S0, a0, v1, v2 =>
    if 80 ≤ v2 then
      (fgR S0 8 15 (some a0)).bind fun x4 =>
      (faZ S0 x4 v1 1).bind fun S6 =>
      some S6
    else
      (fgR S0 8 14 (some a0)).bind fun x8 =>
      (fgR S0 8 1 (some a0)).bind fun x10 =>
      (fI S0 10 x10 v2).bind fun x12 =>
      (faI S0 x8 ((80 * v1) + v2) x12).bind fun S14 =>
      gLet (v2 + 1) fun x16 =>
      f_X8_keep_L2 k S14 a0 v1 x16
set_option maxRecDepth 100000 in
set_option maxHeartbeats 4000000 in
theorem w_X8_keep_L2 {p : Program} {l : Launch} {e : Env} {s : State} {m : MethodId} {args : Array Value} {below : List Frame} {meth : Method} {c : Code} {D : gD} {S9 : gS}  (hl : l.stackTraces = false) (X : gX D p l s m args meth c cX8_keep 3 RX8) (hr : meth.sig.returnType = none) : ∀ (k : Nat) (S0 : gS) (a0 : Nat) (v1 : Int32) (v2 : Int32), f_X8_keep_L2 k S0 a0 v1 v2 = some S9 → gJ D p l e { frames := 0, cells := 0, slots := 0, locals := 0 } s m args below meth c (MQ below (gQ D none S9) args s (0) (0) (gF D)) 3 (0) (0) S0 2 [(0, va_rf (some a0)), (1, .int v1), (2, .int v2)] [] := by
  intro k
  induction k with
  | zero => intro S0 a0 v1 v2 h0; cases h0
  | succ k ih =>
    intro S0 a0 v1 v2 h0
    have h0 := h0
    unfold f_X8_keep_L2 at h0
    refine g_iload_n (j := 2) X dX8_keep_2 rfl rfl ?_
    refine g_bipush X dX8_keep_3 (v := 80) (by decide) ?_
    refine g_icmp_ge (tgt := 31) X dX8_keep_5 (by decide) (fun c1 => ?_) (fun c1 => ?_)
    · have h2 := g_ip h0 c1; clear h0
      refine g_aload_n (j := 0) X dX8_keep_31 rfl rfl ?_
      obtain ⟨x4, ex4, h5⟩ := g_bd h2; clear h2
      refine g_fR (ci := 8) (k := 15) X rfl il8 (by decide) tw724 (by decide) (fun _ _ _ => rfl) ex4 dX8_keep_32 ?_
      clear ex4
      refine g_iload_n (j := 1) X dX8_keep_35 rfl rfl ?_
      refine g_iconst X dX8_keep_36 (v := 1) (by decide) ?_
      obtain ⟨S6, eS6, h7⟩ := g_bd h5; clear h5
      refine g_zast X eS6 dX8_keep_37 ?_
      clear eS6
      cases h7
      exact g_vret X hr (by decide) (by decide) dX8_keep_38
    · have h3 := g_in h0 c1; clear h0
      refine g_aload_n (j := 0) X dX8_keep_8 rfl rfl ?_
      obtain ⟨x8, ex8, h9⟩ := g_bd h3; clear h3
      refine g_fR (ci := 8) (k := 14) X rfl il8 (by decide) tw723 (by decide) (fun _ _ _ => rfl) ex8 dX8_keep_9 ?_
      clear ex8
      refine g_bipush X dX8_keep_12 (v := 80) (by decide) ?_
      refine g_iload_n (j := 1) X dX8_keep_14 rfl rfl ?_
      refine g_imul X dX8_keep_15 ?_
      refine g_iload_n (j := 2) X dX8_keep_16 rfl rfl ?_
      refine g_iadd X dX8_keep_17 ?_
      refine g_aload_n (j := 0) X dX8_keep_18 rfl rfl ?_
      obtain ⟨x10, ex10, h11⟩ := g_bd h9; clear h9
      refine g_fR (ci := 8) (k := 1) X rfl il8 (by decide) tw710 (by decide) (fun _ _ _ => rfl) ex10 dX8_keep_19 ?_
      clear ex10
      refine g_iload_n (j := 2) X dX8_keep_22 rfl rfl ?_
      obtain ⟨x12, ex12, h13⟩ := g_bd h11; clear h11
      refine g_iald X ex12 dX8_keep_23 ?_
      clear ex12
      obtain ⟨S14, eS14, h15⟩ := g_bd h13; clear h13
      refine g_iast X eS14 dX8_keep_24 ?_
      clear eS14
      obtain ⟨x16, ex16, h17⟩ := g_let h15; clear h15
      refine g_iinc (j := 2) (v := x16) (lv' := [(2, .int x16), (0, va_rf (some a0)), (1, .int v1)]) X dX8_keep_25 rfl (by rw [ex16]; rfl) (by decide) rfl ?_
      clear ex16
      refine g_goto (tgt := 2) X dX8_keep_28 (by decide) ?_
      refine g_sub [1, 2, 0] rfl ?_
      exact ih S14 a0 v1 x16 h17
def f_X8_keep (S0 : gS) (a0 : Nat) (v1 : Int32) : Option gS :=
  f_X8_keep_L2 gFuel S0 a0 v1 0
set_option maxRecDepth 100000 in
set_option maxHeartbeats 4000000 in
theorem c_X8_keep {l : Launch} (hl : l.stackTraces = false) (D : gD)  {S0 S9 : gS} {a0 : Nat} {v1 : Int32} (h0 : f_X8_keep S0 a0 v1 = some S9) : Met l yX8_keep (gws yX8_keep cX8_keep 3 none) { frames := 0, cells := 0, slots := 0, locals := 0 } (gPc D S0 [.ref a0, .int v1]) (gQ D none S9) (0) (0) (gF D) := by
  refine g_met (lv := [(0, va_rf (some a0)), (1, .int v1)]) hl (by decide) (Nat.le_of_ble_eq_true rfl) rfl (fun p e s m args below meth c X hr hn => ?_)
  have X : gX D p l s m args meth c cX8_keep 3 RX8 := X
  unfold f_X8_keep at h0
  refine g_iconst X dX8_keep_0 (v := 0) (by decide) ?_
  refine g_istore_n (i := 2) (lv' := [(2, .int 0), (0, va_rf (some a0)), (1, .int v1)]) X dX8_keep_1 rfl (by decide) rfl ?_
  refine g_sub [1, 2, 0] rfl ?_
  exact w_X8_keep_L2 hl X hr gFuel S0 a0 v1 0 h0
def f_X8_copySeen_L2 : Nat → gS → Nat → Int32 → Int32 → Int32 → Option gS
  | 0, _, _, _, _, _ => none
  | k + 1, S0, a0, v1, v2, v3 =>
    if 80 ≤ v3 then
      (fgR S0 8 15 (some a0)).bind fun x4 =>
      (faZ S0 x4 v2 1).bind fun S6 =>
      some S6
    else
      (fgR S0 8 14 (some a0)).bind fun x8 =>
      (fgR S0 8 14 (some a0)).bind fun x10 =>
      (fI S0 10 x10 ((80 * v1) + v3)).bind fun x12 =>
      (faI S0 x8 ((80 * v2) + v3) x12).bind fun S14 =>
      gLet (v3 + 1) fun x16 =>
      f_X8_copySeen_L2 k S14 a0 v1 v2 x16
set_option maxRecDepth 100000 in
set_option maxHeartbeats 4000000 in
theorem w_X8_copySeen_L2 {p : Program} {l : Launch} {e : Env} {s : State} {m : MethodId} {args : Array Value} {below : List Frame} {meth : Method} {c : Code} {D : gD} {S9 : gS}  (hl : l.stackTraces = false) (X : gX D p l s m args meth c cX8_copySeen 4 RX8) (hr : meth.sig.returnType = none) : ∀ (k : Nat) (S0 : gS) (a0 : Nat) (v1 : Int32) (v2 : Int32) (v3 : Int32), f_X8_copySeen_L2 k S0 a0 v1 v2 v3 = some S9 → gJ D p l e { frames := 0, cells := 0, slots := 0, locals := 0 } s m args below meth c (MQ below (gQ D none S9) args s (0) (0) (gF D)) 4 (0) (0) S0 2 [(0, va_rf (some a0)), (1, .int v1), (2, .int v2), (3, .int v3)] [] := by
  intro k
  induction k with
  | zero => intro S0 a0 v1 v2 v3 h0; cases h0
  | succ k ih =>
    intro S0 a0 v1 v2 v3 h0
    have h0 := h0
    unfold f_X8_copySeen_L2 at h0
    refine g_iload_n (j := 3) X dX8_copySeen_2 rfl rfl ?_
    refine g_bipush X dX8_copySeen_3 (v := 80) (by decide) ?_
    refine g_icmp_ge (tgt := 36) X dX8_copySeen_5 (by decide) (fun c1 => ?_) (fun c1 => ?_)
    · have h2 := g_ip h0 c1; clear h0
      refine g_aload_n (j := 0) X dX8_copySeen_36 rfl rfl ?_
      obtain ⟨x4, ex4, h5⟩ := g_bd h2; clear h2
      refine g_fR (ci := 8) (k := 15) X rfl il8 (by decide) tw724 (by decide) (fun _ _ _ => rfl) ex4 dX8_copySeen_37 ?_
      clear ex4
      refine g_iload_n (j := 2) X dX8_copySeen_40 rfl rfl ?_
      refine g_iconst X dX8_copySeen_41 (v := 1) (by decide) ?_
      obtain ⟨S6, eS6, h7⟩ := g_bd h5; clear h5
      refine g_zast X eS6 dX8_copySeen_42 ?_
      clear eS6
      cases h7
      exact g_vret X hr (by decide) (by decide) dX8_copySeen_43
    · have h3 := g_in h0 c1; clear h0
      refine g_aload_n (j := 0) X dX8_copySeen_8 rfl rfl ?_
      obtain ⟨x8, ex8, h9⟩ := g_bd h3; clear h3
      refine g_fR (ci := 8) (k := 14) X rfl il8 (by decide) tw723 (by decide) (fun _ _ _ => rfl) ex8 dX8_copySeen_9 ?_
      clear ex8
      refine g_bipush X dX8_copySeen_12 (v := 80) (by decide) ?_
      refine g_iload_n (j := 2) X dX8_copySeen_14 rfl rfl ?_
      refine g_imul X dX8_copySeen_15 ?_
      refine g_iload_n (j := 3) X dX8_copySeen_16 rfl rfl ?_
      refine g_iadd X dX8_copySeen_17 ?_
      refine g_aload_n (j := 0) X dX8_copySeen_18 rfl rfl ?_
      obtain ⟨x10, ex10, h11⟩ := g_bd h9; clear h9
      refine g_fR (ci := 8) (k := 14) X rfl il8 (by decide) tw723 (by decide) (fun _ _ _ => rfl) ex10 dX8_copySeen_19 ?_
      clear ex10
      refine g_bipush X dX8_copySeen_22 (v := 80) (by decide) ?_
      refine g_iload_n (j := 1) X dX8_copySeen_24 rfl rfl ?_
      refine g_imul X dX8_copySeen_25 ?_
      refine g_iload_n (j := 3) X dX8_copySeen_26 rfl rfl ?_
      refine g_iadd X dX8_copySeen_27 ?_
      obtain ⟨x12, ex12, h13⟩ := g_bd h11; clear h11
      refine g_iald X ex12 dX8_copySeen_28 ?_
      clear ex12
      obtain ⟨S14, eS14, h15⟩ := g_bd h13; clear h13
      refine g_iast X eS14 dX8_copySeen_29 ?_
      clear eS14
      obtain ⟨x16, ex16, h17⟩ := g_let h15; clear h15
      refine g_iinc (j := 3) (v := x16) (lv' := [(3, .int x16), (0, va_rf (some a0)), (1, .int v1), (2, .int v2)]) X dX8_copySeen_30 rfl (by rw [ex16]; rfl) (by decide) rfl ?_
      clear ex16
      refine g_goto (tgt := 2) X dX8_copySeen_33 (by decide) ?_
      refine g_sub [1, 2, 3, 0] rfl ?_
      exact ih S14 a0 v1 v2 x16 h17
def f_X8_copySeen (S0 : gS) (a0 : Nat) (v1 : Int32) (v2 : Int32) : Option gS :=
  f_X8_copySeen_L2 gFuel S0 a0 v1 v2 0
set_option maxRecDepth 100000 in
set_option maxHeartbeats 4000000 in
theorem c_X8_copySeen {l : Launch} (hl : l.stackTraces = false) (D : gD)  {S0 S9 : gS} {a0 : Nat} {v1 : Int32} {v2 : Int32} (h0 : f_X8_copySeen S0 a0 v1 v2 = some S9) : Met l yX8_copySeen (gws yX8_copySeen cX8_copySeen 4 none) { frames := 0, cells := 0, slots := 0, locals := 0 } (gPc D S0 [.ref a0, .int v1, .int v2]) (gQ D none S9) (0) (0) (gF D) := by
  refine g_met (lv := [(0, va_rf (some a0)), (1, .int v1), (2, .int v2)]) hl (by decide) (Nat.le_of_ble_eq_true rfl) rfl (fun p e s m args below meth c X hr hn => ?_)
  have X : gX D p l s m args meth c cX8_copySeen 4 RX8 := X
  unfold f_X8_copySeen at h0
  refine g_iconst X dX8_copySeen_0 (v := 0) (by decide) ?_
  refine g_istore_n (i := 3) (lv' := [(3, .int 0), (0, va_rf (some a0)), (1, .int v1), (2, .int v2)]) X dX8_copySeen_1 rfl (by decide) rfl ?_
  refine g_sub [1, 2, 3, 0] rfl ?_
  exact w_X8_copySeen_L2 hl X hr gFuel S0 a0 v1 v2 0 h0
