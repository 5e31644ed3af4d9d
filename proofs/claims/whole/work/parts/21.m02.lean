def f_X1_init (S0 : gS) (a0 : Nat) : Option gS :=
  gLet (gZ S0) fun z1 =>
  gLet (gnw S0 4 4) fun S2 =>
  (f_X4_init S2 z1).bind fun S5 =>
  (fpR S5 1 0 (some a0) (some z1)).bind fun S7 =>
  (fnA 64 64).bind fun k9 =>
  gLet (gZ S7) fun z13 =>
  gLet (gnw S7 9 k9) fun S11 =>
  (fpR S11 1 1 (some a0) (some z13)).bind fun S15 =>
  (fnA 200 200).bind fun k17 =>
  gLet (gZ S15) fun z21 =>
  gLet (gnw S15 14 k17) fun S19 =>
  (fpR S19 1 3 (some a0) (some z21)).bind fun S23 =>
  (fnA 400 400).bind fun k25 =>
  gLet (gZ S23) fun z29 =>
  gLet (gnw S23 14 k25) fun S27 =>
  (fpR S27 1 5 (some a0) (some z29)).bind fun S31 =>
  (fnA 40 40).bind fun k33 =>
  gLet (gZ S31) fun z37 =>
  gLet (gnw S31 14 k33) fun S35 =>
  (fpR S35 1 7 (some a0) (some z37)).bind fun S39 =>
  (fnA 32 32).bind fun k41 =>
  gLet (gZ S39) fun z45 =>
  gLet (gnw S39 9 k41) fun S43 =>
  (fpR S43 1 9 (some a0) (some z45)).bind fun S47 =>
  (fnA 80 80).bind fun k49 =>
  gLet (gZ S47) fun z53 =>
  gLet (gnw S47 9 k49) fun S51 =>
  (fpR S51 1 10 (some a0) (some z53)).bind fun S55 =>
  some S55
set_option maxRecDepth 100000 in
set_option maxHeartbeats 4000000 in
theorem c_X1_init {l : Launch} (hl : l.stackTraces = false) (D : gD)  {S0 S9 : gS} {a0 : Nat} (h0 : f_X1_init S0 a0 = some S9) : Met l yX1_init (gws yX1_init cX1_init 1 none) { frames := 2, cells := 9, slots := 892, locals := 32 } (gPc D S0 [.ref a0]) (gQ D none S9) (9) (892) (gF D) := by
  refine g_met (lv := [(0, va_rf (some a0))]) hl (by decide) (Nat.le_of_ble_eq_true rfl) rfl (fun p e s m args below meth c X hr hn => ?_)
  have X : gX D p l s m args meth c cX1_init 1 RX1 := X
  have hin : meth.name = "<init>" := hn
  unfold f_X1_init at h0
  refine g_aload_n (j := 0) X dX1_init_0 rfl rfl ?_
  refine g_obji X rfl tw90 tw70 tw71 dX1_init_1 (by decide) (Nat.le_of_ble_eq_true rfl) ?_
  refine g_aload_n (j := 0) X dX1_init_4 rfl rfl ?_
  refine g_new (ci := 4) X rfl (by decide) il4 tyX4 tyX4_ok (by decide) tw91 tw92 tw47 (by decide) (by decide) dX1_init_5 ?_
  obtain ⟨z1, ez1, h4⟩ := g_let h0; clear h0; rw [← ez1]; clear ez1
  obtain ⟨S2, eS2, h3⟩ := g_let h4; clear h4; rw [← eS2]; clear eS2
  refine g_dup X dX1_init_8 (g_rfc _) ?_
  obtain ⟨S5, eS5, h6⟩ := g_bd h3; clear h3
  refine g_cN (n := 0) (As := []) X (c_X4_init hl D eS5) X.K.2.2.2.2.2.2.2.2.2.2.2.2 tw93 tw47 tw94 rfl (by decide +kernel) rfl rfl ⟨Nat.le_of_ble_eq_true rfl, Nat.le_of_ble_eq_true rfl⟩ rfl rfl rfl (Nat.le_of_ble_eq_true rfl) dX1_init_9 ⟨(by decide), (by decide)⟩ ?_
  clear eS5
  obtain ⟨S7, eS7, h8⟩ := g_bd h6; clear h6
  refine g_pFo (ci := 1) (k := 0) X hin rfl il1 tyX1 tyX1_ok nmX1 (by decide) tw106 rfl rfl (by decide) (fun _ _ _ => rfl) rfl eS7 dX1_init_12 ?_
  clear eS7
  refine g_aload_n (j := 0) X dX1_init_15 rfl rfl ?_
  refine g_bipush X dX1_init_16 (v := 64) (by decide) ?_
  obtain ⟨k9, ek9, h10⟩ := g_bd h8; clear h8
  refine g_newa9 (cap := 64) X tw85 ek9 (by decide) (by decide) (by decide) dX1_init_18 ?_
  refine g_wid (k := 4) (n := 140) (Nat.le_refl _) (Nat.add_le_add_left (fnA_s ek9).2.2 _) ?_
  clear ek9
  obtain ⟨z13, ez13, h14⟩ := g_let h10; clear h10; rw [← ez13]; clear ez13
  obtain ⟨S11, eS11, h12⟩ := g_let h14; clear h14; rw [← eS11]; clear eS11
  obtain ⟨S15, eS15, h16⟩ := g_bd h12; clear h12
  refine g_pFa (ci := 1) (k := 1) X hin rfl il1 tyX1 tyX1_ok nmX1 (by decide) tw107 rfl rfl (by decide) (fun _ _ _ => rfl) rfl eS15 dX1_init_20 ?_
  clear eS15
  refine g_aload_n (j := 0) X dX1_init_23 rfl rfl ?_
  refine g_sipush X dX1_init_24 (v := 200) (by decide) ?_
  obtain ⟨k17, ek17, h18⟩ := g_bd h16; clear h16
  refine g_anew14 (cap := 200) X tw105 ek17 (by decide) (by decide) (by decide) dX1_init_27 ?_
  refine g_wid (k := 5) (n := 340) (Nat.le_refl _) (Nat.add_le_add_left (fnA_s ek17).2.2 _) ?_
  clear ek17
  obtain ⟨z21, ez21, h22⟩ := g_let h18; clear h18; rw [← ez21]; clear ez21
  obtain ⟨S19, eS19, h20⟩ := g_let h22; clear h22; rw [← eS19]; clear eS19
  obtain ⟨S23, eS23, h24⟩ := g_bd h20; clear h20
  refine g_pFa (ci := 1) (k := 3) X hin rfl il1 tyX1 tyX1_ok nmX1 (by decide) tw110 rfl rfl (by decide) (fun _ _ _ => rfl) rfl eS23 dX1_init_30 ?_
  clear eS23
  refine g_aload_n (j := 0) X dX1_init_33 rfl rfl ?_
  refine g_sipush X dX1_init_34 (v := 400) (by decide) ?_
  obtain ⟨k25, ek25, h26⟩ := g_bd h24; clear h24
  refine g_anew14 (cap := 400) X tw105 ek25 (by decide) (by decide) (by decide) dX1_init_37 ?_
  refine g_wid (k := 6) (n := 740) (Nat.le_refl _) (Nat.add_le_add_left (fnA_s ek25).2.2 _) ?_
  clear ek25
  obtain ⟨z29, ez29, h30⟩ := g_let h26; clear h26; rw [← ez29]; clear ez29
  obtain ⟨S27, eS27, h28⟩ := g_let h30; clear h30; rw [← eS27]; clear eS27
  obtain ⟨S31, eS31, h32⟩ := g_bd h28; clear h28
  refine g_pFa (ci := 1) (k := 5) X hin rfl il1 tyX1 tyX1_ok nmX1 (by decide) tw113 rfl rfl (by decide) (fun _ _ _ => rfl) rfl eS31 dX1_init_40 ?_
  clear eS31
  refine g_aload_n (j := 0) X dX1_init_43 rfl rfl ?_
  refine g_bipush X dX1_init_44 (v := 40) (by decide) ?_
  obtain ⟨k33, ek33, h34⟩ := g_bd h32; clear h32
  refine g_anew14 (cap := 40) X tw105 ek33 (by decide) (by decide) (by decide) dX1_init_46 ?_
  refine g_wid (k := 7) (n := 780) (Nat.le_refl _) (Nat.add_le_add_left (fnA_s ek33).2.2 _) ?_
  clear ek33
  obtain ⟨z37, ez37, h38⟩ := g_let h34; clear h34; rw [← ez37]; clear ez37
  obtain ⟨S35, eS35, h36⟩ := g_let h38; clear h38; rw [← eS35]; clear eS35
  obtain ⟨S39, eS39, h40⟩ := g_bd h36; clear h36
  refine g_pFa (ci := 1) (k := 7) X hin rfl il1 tyX1 tyX1_ok nmX1 (by decide) tw116 rfl rfl (by decide) (fun _ _ _ => rfl) rfl eS39 dX1_init_49 ?_
  clear eS39
  refine g_aload_n (j := 0) X dX1_init_52 rfl rfl ?_
  refine g_bipush X dX1_init_53 (v := 32) (by decide) ?_
  obtain ⟨k41, ek41, h42⟩ := g_bd h40; clear h40
  refine g_newa9 (cap := 32) X tw85 ek41 (by decide) (by decide) (by decide) dX1_init_55 ?_
  refine g_wid (k := 8) (n := 812) (Nat.le_refl _) (Nat.add_le_add_left (fnA_s ek41).2.2 _) ?_
  clear ek41
  obtain ⟨z45, ez45, h46⟩ := g_let h42; clear h42; rw [← ez45]; clear ez45
  obtain ⟨S43, eS43, h44⟩ := g_let h46; clear h46; rw [← eS43]; clear eS43
  obtain ⟨S47, eS47, h48⟩ := g_bd h44; clear h44
  refine g_pFa (ci := 1) (k := 9) X hin rfl il1 tyX1 tyX1_ok nmX1 (by decide) tw119 rfl rfl (by decide) (fun _ _ _ => rfl) rfl eS47 dX1_init_57 ?_
  clear eS47
  refine g_aload_n (j := 0) X dX1_init_60 rfl rfl ?_
  refine g_bipush X dX1_init_61 (v := 80) (by decide) ?_
  obtain ⟨k49, ek49, h50⟩ := g_bd h48; clear h48
  refine g_newa9 (cap := 80) X tw85 ek49 (by decide) (by decide) (by decide) dX1_init_63 ?_
  refine g_wid (k := 9) (n := 892) (Nat.le_refl _) (Nat.add_le_add_left (fnA_s ek49).2.2 _) ?_
  clear ek49
  obtain ⟨z53, ez53, h54⟩ := g_let h50; clear h50; rw [← ez53]; clear ez53
  obtain ⟨S51, eS51, h52⟩ := g_let h54; clear h54; rw [← eS51]; clear eS51
  obtain ⟨S55, eS55, h56⟩ := g_bd h52; clear h52
  refine g_pFa (ci := 1) (k := 10) X hin rfl il1 tyX1 tyX1_ok nmX1 (by decide) tw120 rfl rfl (by decide) (fun _ _ _ => rfl) rfl eS55 dX1_init_65 ?_
  clear eS55
  cases h56
  exact g_vret X hr (by decide) (by decide) dX1_init_68
def f_J7_fill_031fb_L5 : Nat → gS → Option Nat → Int32 → Int32 → Int32 → Option gS
  | 0, _, _, _, _, _ => none
  | k + 1, S0, v0, v1, v2, v3 =>
    if v3 ≤ v2 then
      some S0
    else
      (faB S0 v0 v2 v1).bind fun S6 =>
      gLet (v2 + 1) fun x8 =>
      f_J7_fill_031fb_L5 k S6 v0 v1 x8 v3
set_option maxRecDepth 100000 in
set_option maxHeartbeats 4000000 in
theorem w_J7_fill_031fb_L5 {p : Program} {l : Launch} {e : Env} {s : State} {m : MethodId} {args : Array Value} {below : List Frame} {meth : Method} {c : Code} {D : gD} {S9 : gS}  (hl : l.stackTraces = false) (X : gX D p l s m args meth c cJ7_fill_031fb 4 RJ7) (hr : meth.sig.returnType = none) : ∀ (k : Nat) (S0 : gS) (v0 : Option Nat) (v1 : Int32) (v2 : Int32) (v3 : Int32), f_J7_fill_031fb_L5 k S0 v0 v1 v2 v3 = some S9 → gJ D p l e { frames := 0, cells := 0, slots := 0, locals := 0 } s m args below meth c (MQ below (gQ D none S9) args s (0) (0) (gF D)) 4 (0) (0) S0 5 [(0, va_rf v0), (1, .int v1), (2, .int v2), (3, .int v3)] [] := by
  intro k
  induction k with
  | zero => intro S0 v0 v1 v2 v3 h0; cases h0
  | succ k ih =>
    intro S0 v0 v1 v2 v3 h0
    have h0 := h0
    unfold f_J7_fill_031fb_L5 at h0
    refine g_iload_n (j := 2) X dJ7_fill_031fb_5 rfl rfl ?_
    refine g_iload_n (j := 3) X dJ7_fill_031fb_6 rfl rfl ?_
    refine g_icmp_ge (tgt := 20) X dJ7_fill_031fb_7 (by decide) (fun c3 => ?_) (fun c3 => ?_)
    · have h4 := g_ip h0 c3; clear h0
      cases h4
      exact g_vret X hr (by decide) (by decide) dJ7_fill_031fb_20
    · have h5 := g_in h0 c3; clear h0
      refine g_aload_n (j := 0) X dJ7_fill_031fb_10 rfl rfl ?_
      refine g_iload_n (j := 2) X dJ7_fill_031fb_11 rfl rfl ?_
      refine g_iload_n (j := 1) X dJ7_fill_031fb_12 rfl rfl ?_
      obtain ⟨S6, eS6, h7⟩ := g_bd h5; clear h5
      refine g_bast X eS6 dJ7_fill_031fb_13 ?_
      clear eS6
      obtain ⟨x8, ex8, h9⟩ := g_let h7; clear h7
      refine g_iinc (j := 2) (v := x8) (lv' := [(2, .int x8), (0, va_rf v0), (1, .int v1), (3, .int v3)]) X dJ7_fill_031fb_14 rfl (by rw [ex8]; rfl) (by decide) rfl ?_
      clear ex8
      refine g_goto (tgt := 5) X dJ7_fill_031fb_17 (by decide) ?_
      refine g_sub [1, 2, 0, 3] rfl ?_
      exact ih S6 v0 v1 x8 v3 h9
def f_J7_fill_031fb (S0 : gS) (v0 : Option Nat) (v1 : Int32) : Option gS :=
  (fN S0 v0).bind fun x1 =>
  f_J7_fill_031fb_L5 gFuel S0 v0 v1 0 x1
set_option maxRecDepth 100000 in
set_option maxHeartbeats 4000000 in
theorem c_J7_fill_031fb {l : Launch} (hl : l.stackTraces = false) (D : gD)  {S0 S9 : gS} {v0 : Option Nat} {v1 : Int32} (h0 : f_J7_fill_031fb S0 v0 v1 = some S9) : Met l yJ7_fill_031fb (gws yJ7_fill_031fb cJ7_fill_031fb 4 none) { frames := 0, cells := 0, slots := 0, locals := 0 } (gPc D S0 [va_rf v0, .int v1]) (gQ D none S9) (0) (0) (gF D) := by
  refine g_met (lv := [(0, va_rf v0), (1, .int v1)]) hl (by decide) (by simp [lg_sl, g_rfc, g_ci, g_cj, g_cr]) (by simp [lv_args, g_rfc, g_ci, g_cj, g_cr]; try rfl) (fun p e s m args below meth c X hr hn => ?_)
  have X : gX D p l s m args meth c cJ7_fill_031fb 4 RJ7 := X
  unfold f_J7_fill_031fb at h0
  refine g_iconst X dJ7_fill_031fb_0 (v := 0) (by decide) ?_
  refine g_istore_n (i := 2) (lv' := [(2, .int 0), (0, va_rf v0), (1, .int v1)]) X dJ7_fill_031fb_1 rfl (by decide) rfl ?_
  refine g_aload_n (j := 1) X dJ7_fill_031fb_2 rfl rfl ?_
  obtain ⟨x1, ex1, h2⟩ := g_bd h0; clear h0
  refine g_alen X ex1 dJ7_fill_031fb_3 ?_
  clear ex1
  refine g_istore_n (i := 3) (lv' := [(3, .int x1), (2, .int 0), (0, va_rf v0), (1, .int v1)]) X dJ7_fill_031fb_4 rfl (by decide) rfl ?_
  refine g_sub [2, 3, 1, 0] rfl ?_
  exact w_J7_fill_031fb_L5 hl X hr gFuel S0 v0 v1 0 x1 h2
def f_X1_takeKey (S0 : gS) (a0 : Nat) (v1 : Option Nat) (v2 : Int32) : Option gS :=
  (fgR S0 1 1 (some a0)).bind fun x1 =>
  (f_J7_fill_031fb S0 x1 0).bind fun S3 =>
  if v2 ≤ 64 then
    (fgR S3 1 1 (some a0)).bind fun x8 =>
    (f_X3_copy S3 v1 0 x8 0 v2).bind fun S10 =>
    (fpI S10 1 2 (some a0) v2).bind fun S12 =>
    some S12
  else
    (fgR S3 1 0 (some a0)).bind fun x14 =>
    gDc S3 4 x14 fun a16 =>
    (f_X4_begin S3 a16).bind fun S18 =>
    (fgR S18 1 0 (some a0)).bind fun x20 =>
    gDc S18 4 x20 fun a22 =>
    (f_X4_addRow S18 a22 v1 0 v2).bind fun S24 =>
    (fgR S24 1 0 (some a0)).bind fun x26 =>
    (fgR S24 1 1 (some a0)).bind fun x28 =>
    gDc S24 4 x26 fun a30 =>
    (f_X4_finish S24 a30 x28).bind fun S32 =>
    (fpI S32 1 2 (some a0) v2).bind fun S34 =>
    some S34
set_option maxRecDepth 100000 in
set_option maxHeartbeats 4000000 in
theorem c_X1_takeKey {l : Launch} (hl : l.stackTraces = false) (D : gD)  {S0 S9 : gS} {a0 : Nat} {v1 : Option Nat} {v2 : Int32} (h0 : f_X1_takeKey S0 a0 v1 v2 = some S9) : Met l yX1_takeKey (gws yX1_takeKey cX1_takeKey 3 none) { frames := 2, cells := 0, slots := 0, locals := 64 } (gPc D S0 [.ref a0, va_rf v1, .int v2]) (gQ D none S9) (0) (0) (gF D) := by
  refine g_met (lv := [(0, va_rf (some a0)), (1, va_rf v1), (2, .int v2)]) hl (by decide) (by simp [lg_sl, g_rfc, g_ci, g_cj, g_cr]) (by simp [lv_args, g_rfc, g_ci, g_cj, g_cr]; try rfl) (fun p e s m args below meth c X hr hn => ?_)
  have X : gX D p l s m args meth c cX1_takeKey 3 RX1 := X
  unfold f_X1_takeKey at h0
  refine g_aload_n (j := 0) X dX1_takeKey_0 rfl rfl ?_
  obtain ⟨x1, ex1, h2⟩ := g_bd h0; clear h0
  refine g_fR (ci := 1) (k := 1) X rfl il1 (by decide) tw107 (by decide) (fun _ _ _ => rfl) ex1 dX1_takeKey_1 ?_
  clear ex1
  refine g_iconst X dX1_takeKey_4 (v := 0) (by decide) ?_
  obtain ⟨S3, eS3, h4⟩ := g_bd h2; clear h2
  refine g_cS (n := 2) (As := [va_rf x1, .int 0]) X (c_J7_fill_031fb hl D eS3) tw393 tw394 tw60 tw395 (by decide +kernel) rfl rfl ⟨Nat.le_of_ble_eq_true rfl, Nat.le_of_ble_eq_true rfl⟩ rfl rfl (Nat.le_of_ble_eq_true rfl) dX1_takeKey_5 ⟨(by decide), (by decide)⟩ ?_
  clear eS3
  refine g_iload_n (j := 2) X dX1_takeKey_8 rfl rfl ?_
  refine g_bipush X dX1_takeKey_9 (v := 64) (by decide) ?_
  refine g_icmp_le (tgt := 45) X dX1_takeKey_11 (by decide) (fun c5 => ?_) (fun c5 => ?_)
  · have h6 := g_ip h4 c5; clear h4
    refine g_aload_n (j := 1) X dX1_takeKey_45 rfl rfl ?_
    refine g_iconst X dX1_takeKey_46 (v := 0) (by decide) ?_
    refine g_aload_n (j := 0) X dX1_takeKey_47 rfl rfl ?_
    obtain ⟨x8, ex8, h9⟩ := g_bd h6; clear h6
    refine g_fR (ci := 1) (k := 1) X rfl il1 (by decide) tw107 (by decide) (fun _ _ _ => rfl) ex8 dX1_takeKey_48 ?_
    clear ex8
    refine g_iconst X dX1_takeKey_51 (v := 0) (by decide) ?_
    refine g_iload_n (j := 2) X dX1_takeKey_52 rfl rfl ?_
    obtain ⟨S10, eS10, h11⟩ := g_bd h9; clear h9
    refine g_cS (n := 5) (As := [va_rf v1, .int 0, va_rf x8, .int 0, .int v2]) X (c_X3_copy hl D eS10) tw399 tw227 tw52 tw228 (by decide +kernel) rfl rfl ⟨Nat.le_of_ble_eq_true rfl, Nat.le_of_ble_eq_true rfl⟩ rfl rfl (Nat.le_of_ble_eq_true rfl) dX1_takeKey_53 ⟨(by decide), (by decide)⟩ ?_
    clear eS10
    refine g_aload_n (j := 0) X dX1_takeKey_56 rfl rfl ?_
    refine g_iload_n (j := 2) X dX1_takeKey_57 rfl rfl ?_
    obtain ⟨S12, eS12, h13⟩ := g_bd h11; clear h11
    refine g_pI (ci := 1) (k := 2) X rfl il1 tyX1 tyX1_ok nmX1 (by decide) tw108 rfl (by decide) (fun _ _ _ => rfl) rfl eS12 dX1_takeKey_58 ?_
    clear eS12
    cases h13
    exact g_vret X hr (by decide) (by decide) dX1_takeKey_61
  · have h7 := g_in h4 c5; clear h4
    refine g_aload_n (j := 0) X dX1_takeKey_14 rfl rfl ?_
    obtain ⟨x14, ex14, h15⟩ := g_bd h7; clear h7
    refine g_fR (ci := 1) (k := 0) X rfl il1 (by decide) tw106 (by decide) (fun _ _ _ => rfl) ex14 dX1_takeKey_15 ?_
    clear ex14
    obtain ⟨a16, ea16, ka16, h17⟩ := g_dc h15; clear h15
    obtain ⟨S18, eS18, h19⟩ := g_bd h17; clear h17
    refine g_cV (n := 0) (As := []) X (c_X4_begin hl D eS18) tw396 tw291 tw292 tw47 tw293 (by decide +kernel) rfl rfl ⟨Nat.le_of_ble_eq_true rfl, Nat.le_of_ble_eq_true rfl⟩ (ci := 4) rfl (by decide) ea16 ka16 rfl rfl (Nat.le_of_ble_eq_true rfl) dX1_takeKey_18 ⟨(by decide), (by decide)⟩ ?_
    clear eS18 ea16 ka16
    refine g_aload_n (j := 0) X dX1_takeKey_21 rfl rfl ?_
    obtain ⟨x20, ex20, h21⟩ := g_bd h19; clear h19
    refine g_fR (ci := 1) (k := 0) X rfl il1 (by decide) tw106 (by decide) (fun _ _ _ => rfl) ex20 dX1_takeKey_22 ?_
    clear ex20
    refine g_aload_n (j := 1) X dX1_takeKey_25 rfl rfl ?_
    refine g_iconst X dX1_takeKey_26 (v := 0) (by decide) ?_
    refine g_iload_n (j := 2) X dX1_takeKey_27 rfl rfl ?_
    obtain ⟨a22, ea22, ka22, h23⟩ := g_dc h21; clear h21
    obtain ⟨S24, eS24, h25⟩ := g_bd h23; clear h23
    refine g_cV (n := 3) (As := [va_rf v1, .int 0, .int v2]) X (c_X4_addRow hl D eS24) tw397 tw308 tw309 tw47 tw310 (by decide +kernel) rfl rfl ⟨Nat.le_of_ble_eq_true rfl, Nat.le_of_ble_eq_true rfl⟩ (ci := 4) rfl (by decide) ea22 ka22 rfl rfl (Nat.le_of_ble_eq_true rfl) dX1_takeKey_28 ⟨(by decide), (by decide)⟩ ?_
    clear eS24 ea22 ka22
    refine g_aload_n (j := 0) X dX1_takeKey_31 rfl rfl ?_
    obtain ⟨x26, ex26, h27⟩ := g_bd h25; clear h25
    refine g_fR (ci := 1) (k := 0) X rfl il1 (by decide) tw106 (by decide) (fun _ _ _ => rfl) ex26 dX1_takeKey_32 ?_
    clear ex26
    refine g_aload_n (j := 0) X dX1_takeKey_35 rfl rfl ?_
    obtain ⟨x28, ex28, h29⟩ := g_bd h27; clear h27
    refine g_fR (ci := 1) (k := 1) X rfl il1 (by decide) tw107 (by decide) (fun _ _ _ => rfl) ex28 dX1_takeKey_36 ?_
    clear ex28
    obtain ⟨a30, ea30, ka30, h31⟩ := g_dc h29; clear h29
    obtain ⟨S32, eS32, h33⟩ := g_bd h31; clear h31
    refine g_cV (n := 1) (As := [va_rf x28]) X (c_X4_finish hl D eS32) tw398 tw313 tw314 tw47 tw315 (by decide +kernel) rfl rfl ⟨Nat.le_of_ble_eq_true rfl, Nat.le_of_ble_eq_true rfl⟩ (ci := 4) rfl (by decide) ea30 ka30 rfl rfl (Nat.le_of_ble_eq_true rfl) dX1_takeKey_39 ⟨(by decide), (by decide)⟩ ?_
    clear eS32 ea30 ka30
    refine g_goto (tgt := 56) X dX1_takeKey_42 (by decide) ?_
    refine g_aload_n (j := 0) X dX1_takeKey_56 rfl rfl ?_
    refine g_iload_n (j := 2) X dX1_takeKey_57 rfl rfl ?_
    obtain ⟨S34, eS34, h35⟩ := g_bd h33; clear h33
    refine g_pI (ci := 1) (k := 2) X rfl il1 tyX1 tyX1_ok nmX1 (by decide) tw108 rfl (by decide) (fun _ _ _ => rfl) rfl eS34 dX1_takeKey_58 ?_
    clear eS34
    cases h35
    exact g_vret X hr (by decide) (by decide) dX1_takeKey_61
def f_X1_numberOf_L2 : Nat → gS → Nat → Option Nat → Int32 → Int32 → Option (Int32 × gS)
  | 0, _, _, _, _, _ => none
  | k + 1, S0, a0, v1, v2, v3 =>
    (fgI S0 1 4 (some a0)).bind fun x1 =>
    if x1 ≤ v3 then
      some ((-1), S0)
    else
      if 200 ≤ v3 then
        some ((-1), S0)
      else
        (fgR S0 1 3 (some a0)).bind fun x9 =>
        (fR S0 14 x9 v3).bind fun x11 =>
        gnl x11 (
          gLet (v3 + 1) fun x17 =>
          f_X1_numberOf_L2 k S0 a0 v1 v2 x17
        ) (
          (fgR S0 3 0 x11).bind fun x19 =>
          (fN S0 x19).bind fun x21 =>
          if x21 = v2 then
            (fgR S0 3 0 x11).bind fun x28 =>
            gBi (f_X3_same S0 x28 0 v1 0 v2) fun x32 S30 =>
            if x32 = 0 then
              gLet (v3 + 1) fun x36 =>
              f_X1_numberOf_L2 k S30 a0 v1 v2 x36
            else
              some (v3, S30)
          else
            gLet (v3 + 1) fun x26 =>
            f_X1_numberOf_L2 k S0 a0 v1 v2 x26
        )
set_option maxRecDepth 100000 in
set_option maxHeartbeats 4000000 in
theorem w_X1_numberOf_L2 {p : Program} {l : Launch} {e : Env} {s : State} {m : MethodId} {args : Array Value} {below : List Frame} {meth : Method} {c : Code} {D : gD} {S9 : gS} {res : Int32}  (hl : l.stackTraces = false) (X : gX D p l s m args meth c cX1_numberOf 5 RX1) (hr : meth.sig.returnType = (some .int)) : ∀ (k : Nat) (S0 : gS) (a0 : Nat) (v1 : Option Nat) (v2 : Int32) (v3 : Int32), f_X1_numberOf_L2 k S0 a0 v1 v2 v3 = some (res, S9) → gJ D p l e { frames := 2, cells := 0, slots := 0, locals := 47 } s m args below meth c (MQ below (gQ D (some (.int res)) S9) args s (0) (0) (gF D)) 5 (0) (0) S0 2 [(0, va_rf (some a0)), (1, va_rf v1), (2, .int v2), (3, .int v3)] [] := by
  intro k
  induction k with
  | zero => intro S0 a0 v1 v2 v3 h0; cases h0
  | succ k ih =>
    intro S0 a0 v1 v2 v3 h0
    have h0 := h0
    unfold f_X1_numberOf_L2 at h0
    refine g_iload_n (j := 3) X dX1_numberOf_2 rfl rfl ?_
    refine g_aload_n (j := 0) X dX1_numberOf_3 rfl rfl ?_
    obtain ⟨x1, ex1, h2⟩ := g_bd h0; clear h0
    refine g_fI (ci := 1) (k := 4) X rfl il1 (by decide) tw111 (by decide) (fun _ _ _ => rfl) ex1 dX1_numberOf_4 ?_
    clear ex1
    refine g_icmp_ge (tgt := 63) X dX1_numberOf_7 (by decide) (fun c3 => ?_) (fun c3 => ?_)
    · have h4 := g_ip h2 c3; clear h2
      refine g_iconst X dX1_numberOf_63 (v := (-1)) (by decide) ?_
      obtain ⟨rfl, rfl⟩ := g_end h4
      exact g_iret X hr (by decide) (by decide) dX1_numberOf_64
    · have h5 := g_in h2 c3; clear h2
      refine g_iload_n (j := 3) X dX1_numberOf_10 rfl rfl ?_
      refine g_sipush X dX1_numberOf_11 (v := 200) (by decide) ?_
      refine g_icmp_ge (tgt := 63) X dX1_numberOf_14 (by decide) (fun c6 => ?_) (fun c6 => ?_)
      · have h7 := g_ip h5 c6; clear h5
        refine g_iconst X dX1_numberOf_63 (v := (-1)) (by decide) ?_
        obtain ⟨rfl, rfl⟩ := g_end h7
        exact g_iret X hr (by decide) (by decide) dX1_numberOf_64
      · have h8 := g_in h5 c6; clear h5
        refine g_aload_n (j := 0) X dX1_numberOf_17 rfl rfl ?_
        obtain ⟨x9, ex9, h10⟩ := g_bd h8; clear h8
        refine g_fR (ci := 1) (k := 3) X rfl il1 (by decide) tw110 (by decide) (fun _ _ _ => rfl) ex9 dX1_numberOf_18 ?_
        clear ex9
        refine g_iload_n (j := 3) X dX1_numberOf_21 rfl rfl ?_
        obtain ⟨x11, ex11, h12⟩ := g_bd h10; clear h10
        refine g_aald14 X ex11 dX1_numberOf_22 ?_
        clear ex11
        refine g_astore (i := 4) (lv' := [(4, va_rf x11), (0, va_rf (some a0)), (1, va_rf v1), (2, .int v2), (3, .int v3)]) X dX1_numberOf_23 (by decide) rfl ?_
        refine g_aload (j := 0) X dX1_numberOf_25 rfl ?_
        refine g_ifnull (tgt := 57) X dX1_numberOf_27 (by decide) (fun c15 => ?_) (fun q16 c15 => ?_)
        · have h13 := g_nln h12 c15; clear h12
          obtain ⟨x17, ex17, h18⟩ := g_let h13; clear h13
          refine g_iinc (j := 4) (v := x17) (lv' := [(3, .int x17), (4, va_rf x11), (0, va_rf (some a0)), (1, va_rf v1), (2, .int v2)]) X dX1_numberOf_57 rfl (by rw [ex17]; rfl) (by decide) rfl ?_
          clear ex17
          refine g_goto (tgt := 2) X dX1_numberOf_60 (by decide) ?_
          refine g_sub [2, 3, 4, 0] rfl ?_
          exact ih S0 a0 v1 v2 x17 h18
        · have h14 := g_nls h12 c15; clear h12
          refine g_aload (j := 0) X dX1_numberOf_30 rfl ?_
          obtain ⟨x19, ex19, h20⟩ := g_bd h14; clear h14
          refine g_fR (ci := 3) (k := 0) X rfl il3 (by decide) tw423 (by decide) (fun _ _ _ => rfl) ex19 dX1_numberOf_32 ?_
          clear ex19
          obtain ⟨x21, ex21, h22⟩ := g_bd h20; clear h20
          refine g_alen X ex21 dX1_numberOf_35 ?_
          clear ex21
          refine g_iload_n (j := 3) X dX1_numberOf_36 rfl rfl ?_
          refine g_icmp_ne (tgt := 57) X dX1_numberOf_37 (by decide) (fun c23 => ?_) (fun c23 => ?_)
          · have h24 := g_in h22 c23; clear h22
            obtain ⟨x26, ex26, h27⟩ := g_let h24; clear h24
            refine g_iinc (j := 4) (v := x26) (lv' := [(3, .int x26), (4, va_rf x11), (0, va_rf (some a0)), (1, va_rf v1), (2, .int v2)]) X dX1_numberOf_57 rfl (by rw [ex26]; rfl) (by decide) rfl ?_
            clear ex26
            refine g_goto (tgt := 2) X dX1_numberOf_60 (by decide) ?_
            refine g_sub [2, 3, 4, 0] rfl ?_
            exact ih S0 a0 v1 v2 x26 h27
          · have h25 := g_ip h22 c23; clear h22
            refine g_aload (j := 0) X dX1_numberOf_40 rfl ?_
            obtain ⟨x28, ex28, h29⟩ := g_bd h25; clear h25
            refine g_fR (ci := 3) (k := 0) X rfl il3 (by decide) tw423 (by decide) (fun _ _ _ => rfl) ex28 dX1_numberOf_42 ?_
            clear ex28
            refine g_iconst X dX1_numberOf_45 (v := 0) (by decide) ?_
            refine g_aload_n (j := 2) X dX1_numberOf_46 rfl rfl ?_
            refine g_iconst X dX1_numberOf_47 (v := 0) (by decide) ?_
            refine g_iload_n (j := 3) X dX1_numberOf_48 rfl rfl ?_
            obtain ⟨x32, S30, eS30, h31⟩ := g_bi h29; clear h29
            refine g_cS (n := 5) (As := [va_rf x28, .int 0, va_rf v1, .int 0, .int v2]) X (c_X3_same hl D eS30) tw411 tw321 tw52 tw322 (by decide +kernel) rfl rfl ⟨Nat.le_of_ble_eq_true rfl, Nat.le_of_ble_eq_true rfl⟩ rfl rfl (Nat.le_of_ble_eq_true rfl) dX1_numberOf_49 ⟨(by decide), (by decide)⟩ ?_
            clear eS30
            refine g_if_eq (tgt := 57) X dX1_numberOf_52 (by decide) (fun c33 => ?_) (fun c33 => ?_)
            · have h34 := g_ip h31 c33; clear h31
              obtain ⟨x36, ex36, h37⟩ := g_let h34; clear h34
              refine g_iinc (j := 4) (v := x36) (lv' := [(3, .int x36), (4, va_rf x11), (0, va_rf (some a0)), (1, va_rf v1), (2, .int v2)]) X dX1_numberOf_57 rfl (by rw [ex36]; rfl) (by decide) rfl ?_
              clear ex36
              refine g_goto (tgt := 2) X dX1_numberOf_60 (by decide) ?_
              refine g_sub [2, 3, 4, 0] rfl ?_
              exact ih S30 a0 v1 v2 x36 h37
            · have h35 := g_in h31 c33; clear h31
              refine g_iload_n (j := 4) X dX1_numberOf_55 rfl rfl ?_
              obtain ⟨rfl, rfl⟩ := g_end h35
              exact g_iret X hr (by decide) (by decide) dX1_numberOf_56
def f_X1_numberOf (S0 : gS) (a0 : Nat) (v1 : Option Nat) (v2 : Int32) : Option (Int32 × gS) :=
  f_X1_numberOf_L2 gFuel S0 a0 v1 v2 0
set_option maxRecDepth 100000 in
set_option maxHeartbeats 4000000 in
theorem c_X1_numberOf {l : Launch} (hl : l.stackTraces = false) (D : gD)  {S0 S9 : gS} {a0 : Nat} {v1 : Option Nat} {v2 : Int32} {res : Int32} (h0 : f_X1_numberOf S0 a0 v1 v2 = some (res, S9)) : Met l yX1_numberOf (gws yX1_numberOf cX1_numberOf 5 (some .int)) { frames := 2, cells := 0, slots := 0, locals := 47 } (gPc D S0 [.ref a0, va_rf v1, .int v2]) (gQ D (some (.int res)) S9) (0) (0) (gF D) := by
  refine g_met (lv := [(0, va_rf (some a0)), (1, va_rf v1), (2, .int v2)]) hl (by decide) (by simp [lg_sl, g_rfc, g_ci, g_cj, g_cr]) (by simp [lv_args, g_rfc, g_ci, g_cj, g_cr]; try rfl) (fun p e s m args below meth c X hr hn => ?_)
  have X : gX D p l s m args meth c cX1_numberOf 5 RX1 := X
  unfold f_X1_numberOf at h0
  refine g_iconst X dX1_numberOf_0 (v := 0) (by decide) ?_
  refine g_istore_n (i := 3) (lv' := [(3, .int 0), (0, va_rf (some a0)), (1, va_rf v1), (2, .int v2)]) X dX1_numberOf_1 rfl (by decide) rfl ?_
  refine g_sub [1, 2, 3, 0] rfl ?_
  exact w_X1_numberOf_L2 hl X hr gFuel S0 a0 v1 v2 0 h0
def f_X3_init (S0 : gS) (a0 : Nat) (v1 : Option Nat) (v2 : Int32) : Option gS :=
  gBi (f_X3_holds S0 v1 0 v2) fun x3 S1 =>
  if x3 = 0 then
    (fnA 0 0).bind fun k7 =>
    gLet (gZ S1) fun z11 =>
    gLet (gnw S1 9 k7) fun S9 =>
    (fpR S9 3 0 (some a0) (some z11)).bind fun S13 =>
    (fgR S13 3 0 (some a0)).bind fun x15 =>
    (f_X3_copy S13 v1 0 x15 0 0).bind fun S17 =>
    some S17
  else
    (fnA v2 120).bind fun k19 =>
    gLet (gZ S1) fun z23 =>
    gLet (gnw S1 9 k19) fun S21 =>
    (fpR S21 3 0 (some a0) (some z23)).bind fun S25 =>
    (fgR S25 3 0 (some a0)).bind fun x27 =>
    (f_X3_copy S25 v1 0 x27 0 v2).bind fun S29 =>
    some S29
set_option maxRecDepth 100000 in
set_option maxHeartbeats 4000000 in
theorem c_X3_init {l : Launch} (hl : l.stackTraces = false) (D : gD)  {S0 S9 : gS} {a0 : Nat} {v1 : Option Nat} {v2 : Int32} (h0 : f_X3_init S0 a0 v1 v2 = some S9) : Met l yX3_init (gws yX3_init cX3_init 4 none) { frames := 2, cells := 1, slots := 120, locals := 64 } (gPc D S0 [.ref a0, va_rf v1, .int v2]) (gQ D none S9) (1) (120) (gF D) := by
  refine g_met (lv := [(0, va_rf (some a0)), (1, va_rf v1), (2, .int v2)]) hl (by decide) (by simp [lg_sl, g_rfc, g_ci, g_cj, g_cr]) (by simp [lv_args, g_rfc, g_ci, g_cj, g_cr]; try rfl) (fun p e s m args below meth c X hr hn => ?_)
  have X : gX D p l s m args meth c cX3_init 4 RX3 := X
  have hin : meth.name = "<init>" := hn
  unfold f_X3_init at h0
  refine g_aload_n (j := 0) X dX3_init_0 rfl rfl ?_
  refine g_obji X rfl tw420 tw70 tw71 dX3_init_1 (by decide) (Nat.le_of_ble_eq_true rfl) ?_
  refine g_aload_n (j := 1) X dX3_init_4 rfl rfl ?_
  refine g_iconst X dX3_init_5 (v := 0) (by decide) ?_
  refine g_iload_n (j := 2) X dX3_init_6 rfl rfl ?_
  obtain ⟨x3, S1, eS1, h2⟩ := g_bi h0; clear h0
  refine g_cS (n := 3) (As := [va_rf v1, .int 0, .int v2]) X (c_X3_holds hl D eS1) tw229 tw224 tw52 tw225 (by decide +kernel) rfl rfl ⟨Nat.le_of_ble_eq_true rfl, Nat.le_of_ble_eq_true rfl⟩ rfl rfl (Nat.le_of_ble_eq_true rfl) dX3_init_7 ⟨(by decide), (by decide)⟩ ?_
  clear eS1
  refine g_if_eq (tgt := 17) X dX3_init_10 (by decide) (fun c4 => ?_) (fun c4 => ?_)
  · have h5 := g_ip h2 c4; clear h2
    refine g_iconst X dX3_init_17 (v := 0) (by decide) ?_
    refine g_istore_n (i := 3) (lv' := [(3, .int 0), (0, va_rf (some a0)), (1, va_rf v1), (2, .int v2)]) X dX3_init_18 rfl (by decide) rfl ?_
    refine g_aload_n (j := 1) X dX3_init_19 rfl rfl ?_
    refine g_iload_n (j := 0) X dX3_init_20 rfl rfl ?_
    obtain ⟨k7, ek7, h8⟩ := g_bd h5; clear h5
    refine g_newa9 (cap := 0) X tw85 ek7 (by decide) (by decide) (by decide) dX3_init_21 ?_
    refine g_wid (k := 1) (n := 0) (Nat.le_refl _) (Nat.add_le_add_left (fnA_s ek7).2.2 _) ?_
    clear ek7
    obtain ⟨z11, ez11, h12⟩ := g_let h8; clear h8; rw [← ez11]; clear ez11
    obtain ⟨S9, eS9, h10⟩ := g_let h12; clear h12; rw [← eS9]; clear eS9
    obtain ⟨S13, eS13, h14⟩ := g_bd h10; clear h10
    refine g_pFa (ci := 3) (k := 0) X hin rfl il3 tyX3 tyX3_ok nmX3 (by decide) tw422 rfl rfl (by decide) (fun _ _ _ => rfl) rfl eS13 dX3_init_23 ?_
    clear eS13
    refine g_aload_n (j := 2) X dX3_init_26 rfl rfl ?_
    refine g_iconst X dX3_init_27 (v := 0) (by decide) ?_
    refine g_aload_n (j := 1) X dX3_init_28 rfl rfl ?_
    obtain ⟨x15, ex15, h16⟩ := g_bd h14; clear h14
    refine g_fR (ci := 3) (k := 0) X rfl il3 (by decide) tw422 (by decide) (fun _ _ _ => rfl) ex15 dX3_init_29 ?_
    clear ex15
    refine g_iconst X dX3_init_32 (v := 0) (by decide) ?_
    refine g_iload_n (j := 0) X dX3_init_33 rfl rfl ?_
    obtain ⟨S17, eS17, h18⟩ := g_bd h16; clear h16
    refine g_cS (n := 5) (As := [va_rf v1, .int 0, va_rf x15, .int 0, .int 0]) X (c_X3_copy hl D eS17) tw421 tw227 tw52 tw228 (by decide +kernel) rfl rfl ⟨Nat.le_of_ble_eq_true rfl, Nat.le_of_ble_eq_true rfl⟩ rfl rfl (Nat.le_of_ble_eq_true rfl) dX3_init_34 ⟨(by decide), (by decide)⟩ ?_
    clear eS17
    cases h18
    exact g_vret X hr (by decide) (by decide) dX3_init_37
  · have h6 := g_in h2 c4; clear h2
    refine g_iload_n (j := 2) X dX3_init_13 rfl rfl ?_
    refine g_goto (tgt := 18) X dX3_init_14 (by decide) ?_
    refine g_istore_n (i := 3) (lv' := [(3, .int v2), (0, va_rf (some a0)), (1, va_rf v1), (2, .int v2)]) X dX3_init_18 rfl (by decide) rfl ?_
    refine g_aload_n (j := 1) X dX3_init_19 rfl rfl ?_
    refine g_iload_n (j := 0) X dX3_init_20 rfl rfl ?_
    obtain ⟨k19, ek19, h20⟩ := g_bd h6; clear h6
    refine g_newa9 (cap := 120) X tw85 ek19 (by decide) (by decide) (by decide) dX3_init_21 ?_
    refine g_wid (k := 1) (n := 120) (Nat.le_refl _) (Nat.add_le_add_left (fnA_s ek19).2.2 _) ?_
    clear ek19
    obtain ⟨z23, ez23, h24⟩ := g_let h20; clear h20; rw [← ez23]; clear ez23
    obtain ⟨S21, eS21, h22⟩ := g_let h24; clear h24; rw [← eS21]; clear eS21
    obtain ⟨S25, eS25, h26⟩ := g_bd h22; clear h22
    refine g_pFa (ci := 3) (k := 0) X hin rfl il3 tyX3 tyX3_ok nmX3 (by decide) tw422 rfl rfl (by decide) (fun _ _ _ => rfl) rfl eS25 dX3_init_23 ?_
    clear eS25
    refine g_aload_n (j := 2) X dX3_init_26 rfl rfl ?_
    refine g_iconst X dX3_init_27 (v := 0) (by decide) ?_
    refine g_aload_n (j := 1) X dX3_init_28 rfl rfl ?_
    obtain ⟨x27, ex27, h28⟩ := g_bd h26; clear h26
    refine g_fR (ci := 3) (k := 0) X rfl il3 (by decide) tw422 (by decide) (fun _ _ _ => rfl) ex27 dX3_init_29 ?_
    clear ex27
    refine g_iconst X dX3_init_32 (v := 0) (by decide) ?_
    refine g_iload_n (j := 0) X dX3_init_33 rfl rfl ?_
    obtain ⟨S29, eS29, h30⟩ := g_bd h28; clear h28
    refine g_cS (n := 5) (As := [va_rf v1, .int 0, va_rf x27, .int 0, .int v2]) X (c_X3_copy hl D eS29) tw421 tw227 tw52 tw228 (by decide +kernel) rfl rfl ⟨Nat.le_of_ble_eq_true rfl, Nat.le_of_ble_eq_true rfl⟩ rfl rfl (Nat.le_of_ble_eq_true rfl) dX3_init_34 ⟨(by decide), (by decide)⟩ ?_
    clear eS29
    cases h30
    exact g_vret X hr (by decide) (by decide) dX3_init_37
def f_X1_keepFull (S0 : gS) (a0 : Nat) (v1 : Int32) (v2 : Int32) : Option gS :=
  gLet ((v1 + v2) - 1) fun x1 =>
  if x1 < 0 then
    some S0
  else
    (fgR S0 1 5 (some a0)).bind fun x6 =>
    (fN S0 x6).bind fun x8 =>
    if x8 ≤ x1 then
      some S0
    else
      (fgR S0 1 5 (some a0)).bind fun x13 =>
      gLet (gZ S0) fun z15 =>
      gLet (gnw S0 3 1) fun S16 =>
      (fgR S16 1 9 (some a0)).bind fun x19 =>
      (f_X3_init S16 z15 x19 32).bind fun S21 =>
      (faR S21 14 3 x13 x1 (some z15)).bind fun S23 =>
      some S23
set_option maxRecDepth 100000 in
set_option maxHeartbeats 4000000 in
theorem c_X1_keepFull {l : Launch} (hl : l.stackTraces = false) (D : gD)  {S0 S9 : gS} {a0 : Nat} {v1 : Int32} {v2 : Int32} (h0 : f_X1_keepFull S0 a0 v1 v2 = some S9) : Met l yX1_keepFull (gws yX1_keepFull cX1_keepFull 4 none) { frames := 3, cells := 2, slots := 121, locals := 87 } (gPc D S0 [.ref a0, .int v1, .int v2]) (gQ D none S9) (2) (121) (gF D) := by
  refine g_met (lv := [(0, va_rf (some a0)), (1, .int v1), (2, .int v2)]) hl (by decide) (Nat.le_of_ble_eq_true rfl) rfl (fun p e s m args below meth c X hr hn => ?_)
  have X : gX D p l s m args meth c cX1_keepFull 4 RX1 := X
  unfold f_X1_keepFull at h0
  refine g_iload_n (j := 1) X dX1_keepFull_0 rfl rfl ?_
  refine g_iload_n (j := 2) X dX1_keepFull_1 rfl rfl ?_
  refine g_iadd X dX1_keepFull_2 ?_
  refine g_iconst X dX1_keepFull_3 (v := 1) (by decide) ?_
  refine g_isub X dX1_keepFull_4 ?_
  obtain ⟨x1, ex1, h2⟩ := g_let h0; clear h0; rw [← ex1]; clear ex1
  refine g_istore_n (i := 3) (lv' := [(3, .int x1), (0, va_rf (some a0)), (1, .int v1), (2, .int v2)]) X dX1_keepFull_5 rfl (by decide) rfl ?_
  refine g_iload_n (j := 0) X dX1_keepFull_6 rfl rfl ?_
  refine g_if_lt (tgt := 38) X dX1_keepFull_7 (by decide) (fun c3 => ?_) (fun c3 => ?_)
  · have h4 := g_ip h2 c3; clear h2
    cases h4
    exact g_vret X hr (by decide) (by decide) dX1_keepFull_38
  · have h5 := g_in h2 c3; clear h2
    refine g_iload_n (j := 0) X dX1_keepFull_10 rfl rfl ?_
    refine g_aload_n (j := 1) X dX1_keepFull_11 rfl rfl ?_
    obtain ⟨x6, ex6, h7⟩ := g_bd h5; clear h5
    refine g_fR (ci := 1) (k := 5) X rfl il1 (by decide) tw113 (by decide) (fun _ _ _ => rfl) ex6 dX1_keepFull_12 ?_
    clear ex6
    obtain ⟨x8, ex8, h9⟩ := g_bd h7; clear h7
    refine g_alen X ex8 dX1_keepFull_15 ?_
    clear ex8
    refine g_icmp_ge (tgt := 38) X dX1_keepFull_16 (by decide) (fun c10 => ?_) (fun c10 => ?_)
    · have h11 := g_ip h9 c10; clear h9
      cases h11
      exact g_vret X hr (by decide) (by decide) dX1_keepFull_38
    · have h12 := g_in h9 c10; clear h9
      refine g_aload_n (j := 1) X dX1_keepFull_19 rfl rfl ?_
      obtain ⟨x13, ex13, h14⟩ := g_bd h12; clear h12
      refine g_fR (ci := 1) (k := 5) X rfl il1 (by decide) tw113 (by decide) (fun _ _ _ => rfl) ex13 dX1_keepFull_20 ?_
      clear ex13
      refine g_iload_n (j := 0) X dX1_keepFull_23 rfl rfl ?_
      refine g_new (ci := 3) X rfl (by decide) il3 tyX3 tyX3_ok (by decide) tw105 tw416 tw52 (by decide) (by decide) dX1_keepFull_24 ?_
      obtain ⟨z15, ez15, h18⟩ := g_let h14; clear h14; rw [← ez15]; clear ez15
      obtain ⟨S16, eS16, h17⟩ := g_let h18; clear h18; rw [← eS16]; clear eS16
      refine g_dup X dX1_keepFull_27 (g_rfc _) ?_
      refine g_aload_n (j := 1) X dX1_keepFull_28 rfl rfl ?_
      obtain ⟨x19, ex19, h20⟩ := g_bd h17; clear h17
      refine g_fR (ci := 1) (k := 9) X rfl il1 (by decide) tw119 (by decide) (fun _ _ _ => rfl) ex19 dX1_keepFull_29 ?_
      clear ex19
      refine g_bipush X dX1_keepFull_32 (v := 32) (by decide) ?_
      obtain ⟨S21, eS21, h22⟩ := g_bd h20; clear h20
      refine g_cI (n := 2) (As := [va_rf x19, .int 32]) X (c_X3_init hl D eS21) tw417 tw418 tw52 tw419 rfl (by decide +kernel) rfl rfl ⟨Nat.le_of_ble_eq_true rfl, Nat.le_of_ble_eq_true rfl⟩ rfl rfl rfl (by simp [g_rfc, g_ci, g_cj, g_cr]) dX1_keepFull_34 ⟨(by decide), (by decide)⟩ ?_
      clear eS21
      obtain ⟨S23, eS23, h24⟩ := g_bd h22; clear h22
      refine g_aast14 X eS23 dX1_keepFull_37 ?_
      clear eS23
      cases h24
      exact g_vret X hr (by decide) (by decide) dX1_keepFull_38
def f_X1_fullOf (S0 : gS) (a0 : Nat) (v1 : Int32) (v2 : Int32) : Option (Option Nat × gS) :=
  gLet ((v1 + v2) - 1) fun x1 =>
  if x1 < 0 then
    gnl none (
      some (none, S0)
    ) (
      (fgR S0 3 0 none).bind fun x10 =>
      some (x10, S0)
    )
  else
    (fgR S0 1 5 (some a0)).bind fun x12 =>
    (fN S0 x12).bind fun x14 =>
    if x1 < x14 then
      (fgR S0 1 5 (some a0)).bind fun x19 =>
      (fR S0 14 x19 x1).bind fun x21 =>
      gnl x21 (
        some (none, S0)
      ) (
        (fgR S0 3 0 x21).bind fun x27 =>
        some (x27, S0)
      )
    else
      gnl none (
        some (none, S0)
      ) (
        (fgR S0 3 0 none).bind fun x33 =>
        some (x33, S0)
      )
set_option maxRecDepth 100000 in
set_option maxHeartbeats 4000000 in
theorem c_X1_fullOf {l : Launch} (hl : l.stackTraces = false) (D : gD)  {S0 S9 : gS} {a0 : Nat} {v1 : Int32} {v2 : Int32} {res : Option Nat} (h0 : f_X1_fullOf S0 a0 v1 v2 = some (res, S9)) : Met l yX1_fullOf (gws yX1_fullOf cX1_fullOf 5 (some (.array .byte))) { frames := 0, cells := 0, slots := 0, locals := 0 } (gPc D S0 [.ref a0, .int v1, .int v2]) (gQ D (some (va_rf res)) S9) (0) (0) (gF D) := by
  refine g_met (lv := [(0, va_rf (some a0)), (1, .int v1), (2, .int v2)]) hl (by decide) (Nat.le_of_ble_eq_true rfl) rfl (fun p e s m args below meth c X hr hn => ?_)
  have X : gX D p l s m args meth c cX1_fullOf 5 RX1 := X
  unfold f_X1_fullOf at h0
  refine g_iload_n (j := 1) X dX1_fullOf_0 rfl rfl ?_
  refine g_iload_n (j := 2) X dX1_fullOf_1 rfl rfl ?_
  refine g_iadd X dX1_fullOf_2 ?_
  refine g_iconst X dX1_fullOf_3 (v := 1) (by decide) ?_
  refine g_isub X dX1_fullOf_4 ?_
  obtain ⟨x1, ex1, h2⟩ := g_let h0; clear h0; rw [← ex1]; clear ex1
  refine g_istore_n (i := 3) (lv' := [(3, .int x1), (0, va_rf (some a0)), (1, .int v1), (2, .int v2)]) X dX1_fullOf_5 rfl (by decide) rfl ?_
  refine g_iload_n (j := 0) X dX1_fullOf_6 rfl rfl ?_
  refine g_if_lt (tgt := 19) X dX1_fullOf_7 (by decide) (fun c3 => ?_) (fun c3 => ?_)
  · have h4 := g_ip h2 c3; clear h2
    refine g_null X dX1_fullOf_19 ?_
    refine g_goto (tgt := 29) X dX1_fullOf_20 (by decide) ?_
    refine g_astore (i := 4) (lv' := [(4, va_rf none), (3, .int x1), (0, va_rf (some a0)), (1, .int v1), (2, .int v2)]) X dX1_fullOf_29 (by decide) rfl ?_
    refine g_aload (j := 0) X dX1_fullOf_31 rfl ?_
    refine g_ifnonnull (tgt := 40) X dX1_fullOf_33 (by decide) (fun c8 => ?_) (fun q9 c8 => ?_)
    · have h6 := g_nln h4 c8; clear h4
      refine g_null X dX1_fullOf_36 ?_
      refine g_goto (tgt := 45) X dX1_fullOf_37 (by decide) ?_
      obtain ⟨rfl, rfl⟩ := g_end h6
      exact g_aret X hr (Or.inr ⟨_, rfl⟩) (by decide) (by decide) dX1_fullOf_45
    · have h7 := g_nls h4 c8; clear h4
      refine g_aload (j := 0) X dX1_fullOf_40 rfl ?_
      obtain ⟨x10, ex10, h11⟩ := g_bd h7; clear h7
      refine g_fR (ci := 3) (k := 0) X rfl il3 (by decide) tw423 (by decide) (fun _ _ _ => rfl) ex10 dX1_fullOf_42 ?_
      clear ex10
      obtain ⟨rfl, rfl⟩ := g_end h11
      exact g_aret X hr (Or.inr ⟨_, rfl⟩) (by decide) (by decide) dX1_fullOf_45
  · have h5 := g_in h2 c3; clear h2
    refine g_iload_n (j := 0) X dX1_fullOf_10 rfl rfl ?_
    refine g_aload_n (j := 1) X dX1_fullOf_11 rfl rfl ?_
    obtain ⟨x12, ex12, h13⟩ := g_bd h5; clear h5
    refine g_fR (ci := 1) (k := 5) X rfl il1 (by decide) tw113 (by decide) (fun _ _ _ => rfl) ex12 dX1_fullOf_12 ?_
    clear ex12
    obtain ⟨x14, ex14, h15⟩ := g_bd h13; clear h13
    refine g_alen X ex14 dX1_fullOf_15 ?_
    clear ex14
    refine g_icmp_lt (tgt := 23) X dX1_fullOf_16 (by decide) (fun c16 => ?_) (fun c16 => ?_)
    · have h17 := g_ip h15 c16; clear h15
      refine g_aload_n (j := 1) X dX1_fullOf_23 rfl rfl ?_
      obtain ⟨x19, ex19, h20⟩ := g_bd h17; clear h17
      refine g_fR (ci := 1) (k := 5) X rfl il1 (by decide) tw113 (by decide) (fun _ _ _ => rfl) ex19 dX1_fullOf_24 ?_
      clear ex19
      refine g_iload_n (j := 0) X dX1_fullOf_27 rfl rfl ?_
      obtain ⟨x21, ex21, h22⟩ := g_bd h20; clear h20
      refine g_aald14 X ex21 dX1_fullOf_28 ?_
      clear ex21
      refine g_astore (i := 4) (lv' := [(4, va_rf x21), (3, .int x1), (0, va_rf (some a0)), (1, .int v1), (2, .int v2)]) X dX1_fullOf_29 (by decide) rfl ?_
      refine g_aload (j := 0) X dX1_fullOf_31 rfl ?_
      refine g_ifnonnull (tgt := 40) X dX1_fullOf_33 (by decide) (fun c25 => ?_) (fun q26 c25 => ?_)
      · have h23 := g_nln h22 c25; clear h22
        refine g_null X dX1_fullOf_36 ?_
        refine g_goto (tgt := 45) X dX1_fullOf_37 (by decide) ?_
        obtain ⟨rfl, rfl⟩ := g_end h23
        exact g_aret X hr (Or.inr ⟨_, rfl⟩) (by decide) (by decide) dX1_fullOf_45
      · have h24 := g_nls h22 c25; clear h22
        refine g_aload (j := 0) X dX1_fullOf_40 rfl ?_
        obtain ⟨x27, ex27, h28⟩ := g_bd h24; clear h24
        refine g_fR (ci := 3) (k := 0) X rfl il3 (by decide) tw423 (by decide) (fun _ _ _ => rfl) ex27 dX1_fullOf_42 ?_
        clear ex27
        obtain ⟨rfl, rfl⟩ := g_end h28
        exact g_aret X hr (Or.inr ⟨_, rfl⟩) (by decide) (by decide) dX1_fullOf_45
    · have h18 := g_in h15 c16; clear h15
      refine g_null X dX1_fullOf_19 ?_
      refine g_goto (tgt := 29) X dX1_fullOf_20 (by decide) ?_
      refine g_astore (i := 4) (lv' := [(4, va_rf none), (3, .int x1), (0, va_rf (some a0)), (1, .int v1), (2, .int v2)]) X dX1_fullOf_29 (by decide) rfl ?_
      refine g_aload (j := 0) X dX1_fullOf_31 rfl ?_
      refine g_ifnonnull (tgt := 40) X dX1_fullOf_33 (by decide) (fun c31 => ?_) (fun q32 c31 => ?_)
      · have h29 := g_nln h18 c31; clear h18
        refine g_null X dX1_fullOf_36 ?_
        refine g_goto (tgt := 45) X dX1_fullOf_37 (by decide) ?_
        obtain ⟨rfl, rfl⟩ := g_end h29
        exact g_aret X hr (Or.inr ⟨_, rfl⟩) (by decide) (by decide) dX1_fullOf_45
      · have h30 := g_nls h18 c31; clear h18
        refine g_aload (j := 0) X dX1_fullOf_40 rfl ?_
        obtain ⟨x33, ex33, h34⟩ := g_bd h30; clear h30
        refine g_fR (ci := 3) (k := 0) X rfl il3 (by decide) tw423 (by decide) (fun _ _ _ => rfl) ex33 dX1_fullOf_42 ?_
        clear ex33
        obtain ⟨rfl, rfl⟩ := g_end h34
        exact g_aret X hr (Or.inr ⟨_, rfl⟩) (by decide) (by decide) dX1_fullOf_45
def f_X1_joinFulls_L2 : Nat → gS → Nat → Nat → Nat → Int32 → Int32 → Option gS
  | 0, _, _, _, _, _, _ => none
  | k + 1, S0, cu, su, a0, v1, v2 =>
    gGd (cu ≤ 16 ∧ su ≤ 968) <|
    if 200 ≤ v2 then
      some S0
    else
      if (v1 &&& ((2 * v2) - 1)) = 0 then
        gLet (v1 - v2) fun x7 =>
        gLet (x7 - v2) fun x9 =>
        (fgR S0 1 0 (some a0)).bind fun x11 =>
        gDc S0 1 (some a0) fun a13 =>
        gBi (f_X1_fullOf S0 a13 x9 x7) fun x17 S15 =>
        gDc S15 1 (some a0) fun a18 =>
        gBi (f_X1_fullOf S15 a18 x7 v1) fun x22 S20 =>
        (fgR S20 1 9 (some a0)).bind fun x23 =>
        gDc S20 4 x11 fun a25 =>
        (f_X4_node S20 a25 x17 0 x22 0 x23).bind fun S27 =>
        gDc S27 1 (some a0) fun a29 =>
        gGd (cu + 2 ≤ 16 ∧ su + 121 ≤ 968) <|
        (f_X1_keepFull S27 a29 x9 v1).bind fun S33 =>
        gLet (v2 * 2) fun x35 =>
        f_X1_joinFulls_L2 k S33 (cu + 2) (su + 121) a0 v1 x35
      else
        some S0
set_option maxRecDepth 100000 in
set_option maxHeartbeats 4000000 in
theorem w_X1_joinFulls_L2 {p : Program} {l : Launch} {e : Env} {s : State} {m : MethodId} {args : Array Value} {below : List Frame} {meth : Method} {c : Code} {D : gD} {S9 : gS}  (hl : l.stackTraces = false) (X : gX D p l s m args meth c cX1_joinFulls 5 RX1) (hr : meth.sig.returnType = none) : ∀ (k : Nat) (S0 : gS) (cu su : Nat) (a0 : Nat) (v1 : Int32) (v2 : Int32), f_X1_joinFulls_L2 k S0 cu su a0 v1 v2 = some S9 → gJ D p l e { frames := 4, cells := 16, slots := 968, locals := 110 } s m args below meth c (MQ below (gQ D none S9) args s (16) (968) (gF D)) 5 (cu) (su) S0 2 [(0, va_rf (some a0)), (1, .int v1), (2, .int v2)] [] := by
  intro k
  induction k with
  | zero => intro S0 cu su a0 v1 v2 h0; cases h0
  | succ k ih =>
    intro S0 cu su a0 v1 v2 h0
    have h0 := h0
    unfold f_X1_joinFulls_L2 at h0
    obtain ⟨gu, hu⟩ := g_gd h0; clear h0
    refine g_iload_n (j := 2) X dX1_joinFulls_2 rfl rfl ?_
    refine g_sipush X dX1_joinFulls_3 (v := 200) (by decide) ?_
    refine g_icmp_ge (tgt := 68) X dX1_joinFulls_6 (by decide) (fun c1 => ?_) (fun c1 => ?_)
    · have h2 := g_ip hu c1; clear hu
      cases h2
      exact g_vret X hr gu.1 gu.2 dX1_joinFulls_68
    · have h3 := g_in hu c1; clear hu
      refine g_iload_n (j := 1) X dX1_joinFulls_9 rfl rfl ?_
      refine g_iconst X dX1_joinFulls_10 (v := 2) (by decide) ?_
      refine g_iload_n (j := 2) X dX1_joinFulls_11 rfl rfl ?_
      refine g_imul X dX1_joinFulls_12 ?_
      refine g_iconst X dX1_joinFulls_13 (v := 1) (by decide) ?_
      refine g_isub X dX1_joinFulls_14 ?_
      refine g_iand X dX1_joinFulls_15 ?_
      refine g_if_ne (tgt := 68) X dX1_joinFulls_16 (by decide) (fun c4 => ?_) (fun c4 => ?_)
      · have h5 := g_in h3 c4; clear h3
        cases h5
        exact g_vret X hr gu.1 gu.2 dX1_joinFulls_68
      · have h6 := g_ip h3 c4; clear h3
        refine g_iload_n (j := 1) X dX1_joinFulls_19 rfl rfl ?_
        refine g_iload_n (j := 2) X dX1_joinFulls_20 rfl rfl ?_
        refine g_isub X dX1_joinFulls_21 ?_
        obtain ⟨x7, ex7, h8⟩ := g_let h6; clear h6; rw [← ex7]; clear ex7
        refine g_istore_n (i := 3) (lv' := [(3, .int x7), (0, va_rf (some a0)), (1, .int v1), (2, .int v2)]) X dX1_joinFulls_22 rfl (by decide) rfl ?_
        refine g_iload_n (j := 0) X dX1_joinFulls_23 rfl rfl ?_
        refine g_iload_n (j := 3) X dX1_joinFulls_24 rfl rfl ?_
        refine g_isub X dX1_joinFulls_25 ?_
        obtain ⟨x9, ex9, h10⟩ := g_let h8; clear h8; rw [← ex9]; clear ex9
        refine g_istore (i := 4) (lv' := [(4, .int x9), (3, .int x7), (0, va_rf (some a0)), (1, .int v1), (2, .int v2)]) X dX1_joinFulls_26 (by decide) rfl ?_
        refine g_aload_n (j := 2) X dX1_joinFulls_28 rfl rfl ?_
        obtain ⟨x11, ex11, h12⟩ := g_bd h10; clear h10
        refine g_fR (ci := 1) (k := 0) X rfl il1 (by decide) tw106 (by decide) (fun _ _ _ => rfl) ex11 dX1_joinFulls_29 ?_
        clear ex11
        refine g_aload_n (j := 2) X dX1_joinFulls_32 rfl rfl ?_
        refine g_iload (j := 0) X dX1_joinFulls_33 rfl ?_
        refine g_iload_n (j := 1) X dX1_joinFulls_35 rfl rfl ?_
        obtain ⟨a13, ea13, ka13, h14⟩ := g_dc h12; clear h12
        obtain ⟨x17, S15, eS15, h16⟩ := g_bi h14; clear h14
        refine g_cV (n := 2) (As := [.int x9, .int x7]) X (c_X1_fullOf hl D eS15) tw433 tw434 tw10 tw46 tw435 (by decide +kernel) rfl rfl ⟨Nat.le_of_ble_eq_true rfl, Nat.le_of_ble_eq_true rfl⟩ (ci := 1) rfl (by decide) ea13 ka13 rfl rfl (by simp [g_rfc, g_ci, g_cj, g_cr]) dX1_joinFulls_36 ⟨gu.1, gu.2⟩ ?_
        clear eS15 ea13 ka13
        refine g_iconst X dX1_joinFulls_39 (v := 0) (by decide) ?_
        refine g_aload_n (j := 2) X dX1_joinFulls_40 rfl rfl ?_
        refine g_iload_n (j := 1) X dX1_joinFulls_41 rfl rfl ?_
        refine g_iload_n (j := 3) X dX1_joinFulls_42 rfl rfl ?_
        obtain ⟨a18, ea18, ka18, h19⟩ := g_dc h16; clear h16
        obtain ⟨x22, S20, eS20, h21⟩ := g_bi h19; clear h19
        refine g_cV (n := 2) (As := [.int x7, .int v1]) X (c_X1_fullOf hl D eS20) tw433 tw434 tw10 tw46 tw435 (by decide +kernel) rfl rfl ⟨Nat.le_of_ble_eq_true rfl, Nat.le_of_ble_eq_true rfl⟩ (ci := 1) rfl (by decide) ea18 ka18 rfl rfl (by simp [g_rfc, g_ci, g_cj, g_cr]) dX1_joinFulls_43 ⟨gu.1, gu.2⟩ ?_
        clear eS20 ea18 ka18
        refine g_iconst X dX1_joinFulls_46 (v := 0) (by decide) ?_
        refine g_aload_n (j := 2) X dX1_joinFulls_47 rfl rfl ?_
        obtain ⟨x23, ex23, h24⟩ := g_bd h21; clear h21
        refine g_fR (ci := 1) (k := 9) X rfl il1 (by decide) tw119 (by decide) (fun _ _ _ => rfl) ex23 dX1_joinFulls_48 ?_
        clear ex23
        obtain ⟨a25, ea25, ka25, h26⟩ := g_dc h24; clear h24
        obtain ⟨S27, eS27, h28⟩ := g_bd h26; clear h26
        refine g_cV (n := 5) (As := [va_rf x17, .int 0, va_rf x22, .int 0, va_rf x23]) X (c_X4_node hl D eS27) tw436 tw287 tw288 tw47 tw289 (by decide +kernel) rfl rfl ⟨Nat.le_of_ble_eq_true rfl, Nat.le_of_ble_eq_true rfl⟩ (ci := 4) rfl (by decide) ea25 ka25 rfl rfl (Nat.le_of_ble_eq_true rfl) dX1_joinFulls_51 ⟨gu.1, gu.2⟩ ?_
        clear eS27 ea25 ka25
        refine g_aload_n (j := 2) X dX1_joinFulls_54 rfl rfl ?_
        refine g_iload (j := 0) X dX1_joinFulls_55 rfl ?_
        refine g_iload_n (j := 3) X dX1_joinFulls_57 rfl rfl ?_
        obtain ⟨a29, ea29, ka29, h30⟩ := g_dc h28; clear h28
        obtain ⟨g31, h32⟩ := g_gd h30; clear h30
        obtain ⟨S33, eS33, h34⟩ := g_bd h32; clear h32
        refine g_cV (n := 2) (As := [.int x9, .int v1]) X (c_X1_keepFull hl D eS33) tw427 tw428 tw8 tw46 tw429 (by decide +kernel) rfl rfl ⟨Nat.le_of_ble_eq_true rfl, Nat.le_of_ble_eq_true rfl⟩ (ci := 1) rfl (by decide) ea29 ka29 rfl rfl (Nat.le_of_ble_eq_true rfl) dX1_joinFulls_58 ⟨g31.1, g31.2⟩ ?_
        clear eS33 ea29 ka29
        refine g_iload_n (j := 4) X dX1_joinFulls_61 rfl rfl ?_
        refine g_iconst X dX1_joinFulls_62 (v := 2) (by decide) ?_
        refine g_imul X dX1_joinFulls_63 ?_
        obtain ⟨x35, ex35, h36⟩ := g_let h34; clear h34; rw [← ex35]; clear ex35
        refine g_istore_n (i := 2) (lv' := [(2, .int x35), (4, .int x9), (3, .int x7), (0, va_rf (some a0)), (1, .int v1)]) X dX1_joinFulls_64 rfl (by decide) rfl ?_
        refine g_goto (tgt := 2) X dX1_joinFulls_65 (by decide) ?_
        refine g_sub [3, 4, 0] rfl ?_
        exact ih S33 (cu + 2) (su + 121) a0 v1 x35 h36
def f_X1_joinFulls (S0 : gS) (a0 : Nat) (v1 : Int32) : Option gS :=
  f_X1_joinFulls_L2 gFuel S0 0 0 a0 v1 1
set_option maxRecDepth 100000 in
set_option maxHeartbeats 4000000 in
theorem c_X1_joinFulls {l : Launch} (hl : l.stackTraces = false) (D : gD)  {S0 S9 : gS} {a0 : Nat} {v1 : Int32} (h0 : f_X1_joinFulls S0 a0 v1 = some S9) : Met l yX1_joinFulls (gws yX1_joinFulls cX1_joinFulls 5 none) { frames := 4, cells := 16, slots := 968, locals := 110 } (gPc D S0 [.ref a0, .int v1]) (gQ D none S9) (16) (968) (gF D) := by
  refine g_met (lv := [(0, va_rf (some a0)), (1, .int v1)]) hl (by decide) (Nat.le_of_ble_eq_true rfl) rfl (fun p e s m args below meth c X hr hn => ?_)
  have X : gX D p l s m args meth c cX1_joinFulls 5 RX1 := X
  unfold f_X1_joinFulls at h0
  refine g_iconst X dX1_joinFulls_0 (v := 1) (by decide) ?_
  refine g_istore_n (i := 2) (lv' := [(2, .int 1), (0, va_rf (some a0)), (1, .int v1)]) X dX1_joinFulls_1 rfl (by decide) rfl ?_
  refine g_sub [1, 2, 0] rfl ?_
  exact w_X1_joinFulls_L2 hl X hr gFuel S0 0 0 a0 v1 1 h0
