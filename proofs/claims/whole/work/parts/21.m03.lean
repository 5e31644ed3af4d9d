def f_X1_addEntry (S0 : gS) (a0 : Nat) (v1 : Option Nat) (v2 : Int32) : Option (Int32 × gS) :=
  (fgI S0 1 4 (some a0)).bind fun x1 =>
  if x1 < 200 then
    (fgI S0 1 4 (some a0)).bind fun x6 =>
    (fgR S0 1 3 (some a0)).bind fun x8 =>
    gLet (gZ S0) fun z10 =>
    gLet (gnw S0 3 1) fun S11 =>
    (f_X3_init S11 z10 v1 v2).bind fun S14 =>
    (faR S14 14 3 x8 x6 (some z10)).bind fun S16 =>
    (fgI S16 1 4 (some a0)).bind fun x18 =>
    (fpI S16 1 4 (some a0) (x18 + 1)).bind fun S20 =>
    (fgR S20 1 0 (some a0)).bind fun x22 =>
    gDc S20 4 x22 fun a24 =>
    (f_X4_begin S20 a24).bind fun S26 =>
    (fgR S26 1 0 (some a0)).bind fun x28 =>
    gDc S26 4 x28 fun a30 =>
    (f_X4_add S26 a30 0).bind fun S32 =>
    (fgR S32 1 0 (some a0)).bind fun x34 =>
    gDc S32 4 x34 fun a36 =>
    (f_X4_addRow S32 a36 v1 0 v2).bind fun S38 =>
    (fgR S38 1 0 (some a0)).bind fun x40 =>
    (fgR S38 1 9 (some a0)).bind fun x42 =>
    gDc S38 4 x40 fun a44 =>
    (f_X4_finish S38 a44 x42).bind fun S46 =>
    (fgI S46 1 4 (some a0)).bind fun x48 =>
    gDc S46 1 (some a0) fun a50 =>
    (f_X1_keepFull S46 a50 x6 x48).bind fun S52 =>
    (fgI S52 1 4 (some a0)).bind fun x54 =>
    gDc S52 1 (some a0) fun a56 =>
    (f_X1_joinFulls S52 a56 x54).bind fun S58 =>
    some (x6, S58)
  else
    some ((-1), S0)
set_option maxRecDepth 100000 in
set_option maxHeartbeats 4000000 in
theorem c_X1_addEntry {l : Launch} (hl : l.stackTraces = false) (D : gD)  {S0 S9 : gS} {a0 : Nat} {v1 : Option Nat} {v2 : Int32} {res : Int32} (h0 : f_X1_addEntry S0 a0 v1 v2 = some (res, S9)) : Met l yX1_addEntry (gws yX1_addEntry cX1_addEntry 4 (some .int)) { frames := 5, cells := 20, slots := 1210, locals := 134 } (gPc D S0 [.ref a0, va_rf v1, .int v2]) (gQ D (some (.int res)) S9) (20) (1210) (gF D) := by
  refine g_met (lv := [(0, va_rf (some a0)), (1, va_rf v1), (2, .int v2)]) hl (by decide) (by simp [lg_sl, g_rfc, g_ci, g_cj, g_cr]) (by simp [lv_args, g_rfc, g_ci, g_cj, g_cr]; try rfl) (fun p e s m args below meth c X hr hn => ?_)
  have X : gX D p l s m args meth c cX1_addEntry 4 RX1 := X
  unfold f_X1_addEntry at h0
  refine g_aload_n (j := 0) X dX1_addEntry_0 rfl rfl ?_
  obtain ⟨x1, ex1, h2⟩ := g_bd h0; clear h0
  refine g_fI (ci := 1) (k := 4) X rfl il1 (by decide) tw111 (by decide) (fun _ _ _ => rfl) ex1 dX1_addEntry_1 ?_
  clear ex1
  refine g_sipush X dX1_addEntry_4 (v := 200) (by decide) ?_
  refine g_icmp_lt (tgt := 12) X dX1_addEntry_7 (by decide) (fun c3 => ?_) (fun c3 => ?_)
  · have h4 := g_ip h2 c3; clear h2
    refine g_aload_n (j := 0) X dX1_addEntry_12 rfl rfl ?_
    obtain ⟨x6, ex6, h7⟩ := g_bd h4; clear h4
    refine g_fI (ci := 1) (k := 4) X rfl il1 (by decide) tw111 (by decide) (fun _ _ _ => rfl) ex6 dX1_addEntry_13 ?_
    clear ex6
    refine g_istore_n (i := 3) (lv' := [(3, .int x6), (0, va_rf (some a0)), (1, va_rf v1), (2, .int v2)]) X dX1_addEntry_16 rfl (by decide) rfl ?_
    refine g_aload_n (j := 1) X dX1_addEntry_17 rfl rfl ?_
    obtain ⟨x8, ex8, h9⟩ := g_bd h7; clear h7
    refine g_fR (ci := 1) (k := 3) X rfl il1 (by decide) tw110 (by decide) (fun _ _ _ => rfl) ex8 dX1_addEntry_18 ?_
    clear ex8
    refine g_iload_n (j := 0) X dX1_addEntry_21 rfl rfl ?_
    refine g_new (ci := 3) X rfl (by decide) il3 tyX3 tyX3_ok (by decide) tw105 tw416 tw52 (by decide) (by decide) dX1_addEntry_22 ?_
    obtain ⟨z10, ez10, h13⟩ := g_let h9; clear h9; rw [← ez10]; clear ez10
    obtain ⟨S11, eS11, h12⟩ := g_let h13; clear h13; rw [← eS11]; clear eS11
    refine g_dup X dX1_addEntry_25 (g_rfc _) ?_
    refine g_aload_n (j := 2) X dX1_addEntry_26 rfl rfl ?_
    refine g_iload_n (j := 3) X dX1_addEntry_27 rfl rfl ?_
    obtain ⟨S14, eS14, h15⟩ := g_bd h12; clear h12
    refine g_cI (n := 2) (As := [va_rf v1, .int v2]) X (c_X3_init hl D eS14) tw417 tw418 tw52 tw419 rfl (by decide +kernel) rfl rfl ⟨Nat.le_of_ble_eq_true rfl, Nat.le_of_ble_eq_true rfl⟩ rfl rfl rfl (by simp [g_rfc, g_ci, g_cj, g_cr]) dX1_addEntry_28 ⟨(by decide), (by decide)⟩ ?_
    clear eS14
    obtain ⟨S16, eS16, h17⟩ := g_bd h15; clear h15
    refine g_aast14 X eS16 dX1_addEntry_31 ?_
    clear eS16
    refine g_aload_n (j := 1) X dX1_addEntry_32 rfl rfl ?_
    refine g_dup X dX1_addEntry_33 (g_rfc _) ?_
    obtain ⟨x18, ex18, h19⟩ := g_bd h17; clear h17
    refine g_fI (ci := 1) (k := 4) X rfl il1 (by decide) tw111 (by decide) (fun _ _ _ => rfl) ex18 dX1_addEntry_34 ?_
    clear ex18
    refine g_iconst X dX1_addEntry_37 (v := 1) (by decide) ?_
    refine g_iadd X dX1_addEntry_38 ?_
    obtain ⟨S20, eS20, h21⟩ := g_bd h19; clear h19
    refine g_pI (ci := 1) (k := 4) X rfl il1 tyX1 tyX1_ok nmX1 (by decide) tw111 rfl (by decide) (fun _ _ _ => rfl) rfl eS20 dX1_addEntry_39 ?_
    clear eS20
    refine g_aload_n (j := 1) X dX1_addEntry_42 rfl rfl ?_
    obtain ⟨x22, ex22, h23⟩ := g_bd h21; clear h21
    refine g_fR (ci := 1) (k := 0) X rfl il1 (by decide) tw106 (by decide) (fun _ _ _ => rfl) ex22 dX1_addEntry_43 ?_
    clear ex22
    obtain ⟨a24, ea24, ka24, h25⟩ := g_dc h23; clear h23
    obtain ⟨S26, eS26, h27⟩ := g_bd h25; clear h25
    refine g_cV (n := 0) (As := []) X (c_X4_begin hl D eS26) tw396 tw291 tw292 tw47 tw293 (by decide +kernel) rfl rfl ⟨Nat.le_of_ble_eq_true rfl, Nat.le_of_ble_eq_true rfl⟩ (ci := 4) rfl (by decide) ea24 ka24 rfl rfl (Nat.le_of_ble_eq_true rfl) dX1_addEntry_46 ⟨(by decide), (by decide)⟩ ?_
    clear eS26 ea24 ka24
    refine g_aload_n (j := 1) X dX1_addEntry_49 rfl rfl ?_
    obtain ⟨x28, ex28, h29⟩ := g_bd h27; clear h27
    refine g_fR (ci := 1) (k := 0) X rfl il1 (by decide) tw106 (by decide) (fun _ _ _ => rfl) ex28 dX1_addEntry_50 ?_
    clear ex28
    refine g_iconst X dX1_addEntry_53 (v := 0) (by decide) ?_
    obtain ⟨a30, ea30, ka30, h31⟩ := g_dc h29; clear h29
    obtain ⟨S32, eS32, h33⟩ := g_bd h31; clear h31
    refine g_cV (n := 1) (As := [.int 0]) X (c_X4_add hl D eS32) tw426 tw297 tw298 tw47 tw299 (by decide +kernel) rfl rfl ⟨Nat.le_of_ble_eq_true rfl, Nat.le_of_ble_eq_true rfl⟩ (ci := 4) rfl (by decide) ea30 ka30 rfl rfl (Nat.le_of_ble_eq_true rfl) dX1_addEntry_54 ⟨(by decide), (by decide)⟩ ?_
    clear eS32 ea30 ka30
    refine g_aload_n (j := 1) X dX1_addEntry_57 rfl rfl ?_
    obtain ⟨x34, ex34, h35⟩ := g_bd h33; clear h33
    refine g_fR (ci := 1) (k := 0) X rfl il1 (by decide) tw106 (by decide) (fun _ _ _ => rfl) ex34 dX1_addEntry_58 ?_
    clear ex34
    refine g_aload_n (j := 2) X dX1_addEntry_61 rfl rfl ?_
    refine g_iconst X dX1_addEntry_62 (v := 0) (by decide) ?_
    refine g_iload_n (j := 3) X dX1_addEntry_63 rfl rfl ?_
    obtain ⟨a36, ea36, ka36, h37⟩ := g_dc h35; clear h35
    obtain ⟨S38, eS38, h39⟩ := g_bd h37; clear h37
    refine g_cV (n := 3) (As := [va_rf v1, .int 0, .int v2]) X (c_X4_addRow hl D eS38) tw397 tw308 tw309 tw47 tw310 (by decide +kernel) rfl rfl ⟨Nat.le_of_ble_eq_true rfl, Nat.le_of_ble_eq_true rfl⟩ (ci := 4) rfl (by decide) ea36 ka36 rfl rfl (Nat.le_of_ble_eq_true rfl) dX1_addEntry_64 ⟨(by decide), (by decide)⟩ ?_
    clear eS38 ea36 ka36
    refine g_aload_n (j := 1) X dX1_addEntry_67 rfl rfl ?_
    obtain ⟨x40, ex40, h41⟩ := g_bd h39; clear h39
    refine g_fR (ci := 1) (k := 0) X rfl il1 (by decide) tw106 (by decide) (fun _ _ _ => rfl) ex40 dX1_addEntry_68 ?_
    clear ex40
    refine g_aload_n (j := 1) X dX1_addEntry_71 rfl rfl ?_
    obtain ⟨x42, ex42, h43⟩ := g_bd h41; clear h41
    refine g_fR (ci := 1) (k := 9) X rfl il1 (by decide) tw119 (by decide) (fun _ _ _ => rfl) ex42 dX1_addEntry_72 ?_
    clear ex42
    obtain ⟨a44, ea44, ka44, h45⟩ := g_dc h43; clear h43
    obtain ⟨S46, eS46, h47⟩ := g_bd h45; clear h45
    refine g_cV (n := 1) (As := [va_rf x42]) X (c_X4_finish hl D eS46) tw398 tw313 tw314 tw47 tw315 (by decide +kernel) rfl rfl ⟨Nat.le_of_ble_eq_true rfl, Nat.le_of_ble_eq_true rfl⟩ (ci := 4) rfl (by decide) ea44 ka44 rfl rfl (Nat.le_of_ble_eq_true rfl) dX1_addEntry_75 ⟨(by decide), (by decide)⟩ ?_
    clear eS46 ea44 ka44
    refine g_aload_n (j := 1) X dX1_addEntry_78 rfl rfl ?_
    refine g_iload_n (j := 0) X dX1_addEntry_79 rfl rfl ?_
    refine g_aload_n (j := 1) X dX1_addEntry_80 rfl rfl ?_
    obtain ⟨x48, ex48, h49⟩ := g_bd h47; clear h47
    refine g_fI (ci := 1) (k := 4) X rfl il1 (by decide) tw111 (by decide) (fun _ _ _ => rfl) ex48 dX1_addEntry_81 ?_
    clear ex48
    obtain ⟨a50, ea50, ka50, h51⟩ := g_dc h49; clear h49
    obtain ⟨S52, eS52, h53⟩ := g_bd h51; clear h51
    refine g_cV (n := 2) (As := [.int x6, .int x48]) X (c_X1_keepFull hl D eS52) tw427 tw428 tw8 tw46 tw429 (by decide +kernel) rfl rfl ⟨Nat.le_of_ble_eq_true rfl, Nat.le_of_ble_eq_true rfl⟩ (ci := 1) rfl (by decide) ea50 ka50 rfl rfl (Nat.le_of_ble_eq_true rfl) dX1_addEntry_84 ⟨(by decide), (by decide)⟩ ?_
    clear eS52 ea50 ka50
    refine g_aload_n (j := 1) X dX1_addEntry_87 rfl rfl ?_
    refine g_aload_n (j := 1) X dX1_addEntry_88 rfl rfl ?_
    obtain ⟨x54, ex54, h55⟩ := g_bd h53; clear h53
    refine g_fI (ci := 1) (k := 4) X rfl il1 (by decide) tw111 (by decide) (fun _ _ _ => rfl) ex54 dX1_addEntry_89 ?_
    clear ex54
    obtain ⟨a56, ea56, ka56, h57⟩ := g_dc h55; clear h55
    obtain ⟨S58, eS58, h59⟩ := g_bd h57; clear h57
    refine g_cV (n := 1) (As := [.int x54]) X (c_X1_joinFulls hl D eS58) tw430 tw431 tw9 tw46 tw432 (by decide +kernel) rfl rfl ⟨Nat.le_of_ble_eq_true rfl, Nat.le_of_ble_eq_true rfl⟩ (ci := 1) rfl (by decide) ea56 ka56 rfl rfl (Nat.le_of_ble_eq_true rfl) dX1_addEntry_92 ⟨(by decide), (by decide)⟩ ?_
    clear eS58 ea56 ka56
    refine g_iload_n (j := 0) X dX1_addEntry_95 rfl rfl ?_
    obtain ⟨rfl, rfl⟩ := g_end h59
    exact g_iret X hr (by decide) (by decide) dX1_addEntry_96
  · have h5 := g_in h2 c3; clear h2
    refine g_iconst X dX1_addEntry_10 (v := (-1)) (by decide) ?_
    obtain ⟨rfl, rfl⟩ := g_end h5
    exact g_iret X hr (by decide) (by decide) dX1_addEntry_11
def f_X1_entryAt (S0 : gS) (a0 : Nat) (v1 : Int32) : Option (Option Nat × gS) :=
  if v1 < 0 then
    some (none, S0)
  else
    (fgI S0 1 4 (some a0)).bind fun x4 =>
    if x4 ≤ v1 then
      some (none, S0)
    else
      if v1 < 200 then
        (fgR S0 1 3 (some a0)).bind fun x12 =>
        (fR S0 14 x12 v1).bind fun x14 =>
        some (x14, S0)
      else
        some (none, S0)
set_option maxRecDepth 100000 in
set_option maxHeartbeats 4000000 in
theorem c_X1_entryAt {l : Launch} (hl : l.stackTraces = false) (D : gD)  {S0 S9 : gS} {a0 : Nat} {v1 : Int32} {res : Option Nat} (h0 : f_X1_entryAt S0 a0 v1 = some (res, S9)) : Met l yX1_entryAt (gws yX1_entryAt cX1_entryAt 2 (some (.object "LeafWitness$Row"))) { frames := 0, cells := 0, slots := 0, locals := 0 } (gPc D S0 [.ref a0, .int v1]) (gQ D (some (va_rf res)) S9) (0) (0) (gF D) := by
  refine g_met (lv := [(0, va_rf (some a0)), (1, .int v1)]) hl (by decide) (Nat.le_of_ble_eq_true rfl) rfl (fun p e s m args below meth c X hr hn => ?_)
  have X : gX D p l s m args meth c cX1_entryAt 2 RX1 := X
  unfold f_X1_entryAt at h0
  refine g_iload_n (j := 1) X dX1_entryAt_0 rfl rfl ?_
  refine g_if_lt (tgt := 19) X dX1_entryAt_1 (by decide) (fun c1 => ?_) (fun c1 => ?_)
  · have h2 := g_ip h0 c1; clear h0
    refine g_null X dX1_entryAt_19 ?_
    refine g_goto (tgt := 29) X dX1_entryAt_20 (by decide) ?_
    obtain ⟨rfl, rfl⟩ := g_end h2
    exact g_aret X hr (Or.inl ⟨_, rfl⟩) (by decide) (by decide) dX1_entryAt_29
  · have h3 := g_in h0 c1; clear h0
    refine g_iload_n (j := 1) X dX1_entryAt_4 rfl rfl ?_
    refine g_aload_n (j := 0) X dX1_entryAt_5 rfl rfl ?_
    obtain ⟨x4, ex4, h5⟩ := g_bd h3; clear h3
    refine g_fI (ci := 1) (k := 4) X rfl il1 (by decide) tw111 (by decide) (fun _ _ _ => rfl) ex4 dX1_entryAt_6 ?_
    clear ex4
    refine g_icmp_ge (tgt := 19) X dX1_entryAt_9 (by decide) (fun c6 => ?_) (fun c6 => ?_)
    · have h7 := g_ip h5 c6; clear h5
      refine g_null X dX1_entryAt_19 ?_
      refine g_goto (tgt := 29) X dX1_entryAt_20 (by decide) ?_
      obtain ⟨rfl, rfl⟩ := g_end h7
      exact g_aret X hr (Or.inl ⟨_, rfl⟩) (by decide) (by decide) dX1_entryAt_29
    · have h8 := g_in h5 c6; clear h5
      refine g_iload_n (j := 1) X dX1_entryAt_12 rfl rfl ?_
      refine g_sipush X dX1_entryAt_13 (v := 200) (by decide) ?_
      refine g_icmp_lt (tgt := 23) X dX1_entryAt_16 (by decide) (fun c9 => ?_) (fun c9 => ?_)
      · have h10 := g_ip h8 c9; clear h8
        refine g_aload_n (j := 0) X dX1_entryAt_23 rfl rfl ?_
        obtain ⟨x12, ex12, h13⟩ := g_bd h10; clear h10
        refine g_fR (ci := 1) (k := 3) X rfl il1 (by decide) tw110 (by decide) (fun _ _ _ => rfl) ex12 dX1_entryAt_24 ?_
        clear ex12
        refine g_iload_n (j := 1) X dX1_entryAt_27 rfl rfl ?_
        obtain ⟨x14, ex14, h15⟩ := g_bd h13; clear h13
        refine g_aald14 X ex14 dX1_entryAt_28 ?_
        clear ex14
        obtain ⟨rfl, rfl⟩ := g_end h15
        exact g_aret X hr (Or.inl ⟨_, rfl⟩) (by decide) (by decide) dX1_entryAt_29
      · have h11 := g_in h8 c9; clear h8
        refine g_null X dX1_entryAt_19 ?_
        refine g_goto (tgt := 29) X dX1_entryAt_20 (by decide) ?_
        obtain ⟨rfl, rfl⟩ := g_end h11
        exact g_aret X hr (Or.inl ⟨_, rfl⟩) (by decide) (by decide) dX1_entryAt_29
def f_X1_leafAt (S0 : gS) (a0 : Nat) (v1 : Int32) : Option (Option Nat × gS) :=
  gDc S0 1 (some a0) fun a1 =>
  gBi (f_X1_fullOf S0 a1 v1 (v1 + 1)) fun x5 S3 =>
  some (x5, S3)
set_option maxRecDepth 100000 in
set_option maxHeartbeats 4000000 in
theorem c_X1_leafAt {l : Launch} (hl : l.stackTraces = false) (D : gD)  {S0 S9 : gS} {a0 : Nat} {v1 : Int32} {res : Option Nat} (h0 : f_X1_leafAt S0 a0 v1 = some (res, S9)) : Met l yX1_leafAt (gws yX1_leafAt cX1_leafAt 2 (some (.array .byte))) { frames := 1, cells := 0, slots := 0, locals := 24 } (gPc D S0 [.ref a0, .int v1]) (gQ D (some (va_rf res)) S9) (0) (0) (gF D) := by
  refine g_met (lv := [(0, va_rf (some a0)), (1, .int v1)]) hl (by decide) (Nat.le_of_ble_eq_true rfl) rfl (fun p e s m args below meth c X hr hn => ?_)
  have X : gX D p l s m args meth c cX1_leafAt 2 RX1 := X
  unfold f_X1_leafAt at h0
  refine g_aload_n (j := 0) X dX1_leafAt_0 rfl rfl ?_
  refine g_iload_n (j := 1) X dX1_leafAt_1 rfl rfl ?_
  refine g_iload_n (j := 1) X dX1_leafAt_2 rfl rfl ?_
  refine g_iconst X dX1_leafAt_3 (v := 1) (by decide) ?_
  refine g_iadd X dX1_leafAt_4 ?_
  obtain ⟨a1, ea1, ka1, h2⟩ := g_dc h0; clear h0
  obtain ⟨x5, S3, eS3, h4⟩ := g_bi h2; clear h2
  refine g_cV (n := 2) (As := [.int v1, .int (v1 + 1)]) X (c_X1_fullOf hl D eS3) tw433 tw434 tw10 tw46 tw435 (by decide +kernel) rfl rfl ⟨Nat.le_of_ble_eq_true rfl, Nat.le_of_ble_eq_true rfl⟩ (ci := 1) rfl (by decide) ea1 ka1 rfl rfl (Nat.le_of_ble_eq_true rfl) dX1_leafAt_5 ⟨(by decide), (by decide)⟩ ?_
  clear eS3 ea1 ka1
  obtain ⟨rfl, rfl⟩ := g_end h4
  exact g_aret X hr (Or.inr ⟨_, rfl⟩) (by decide) (by decide) dX1_leafAt_8
def f_X1_numberOfLeaf_L2 : Nat → gS → Nat → Option Nat → Int32 → Option (Int32 × gS)
  | 0, _, _, _, _ => none
  | k + 1, S0, a0, v1, v2 =>
    (fgI S0 1 6 (some a0)).bind fun x1 =>
    if x1 ≤ v2 then
      some ((-1), S0)
    else
      gDc S0 1 (some a0) fun a6 =>
      gBi (f_X1_leafAt S0 a6 v2) fun x10 S8 =>
      gBi (f_X3_same S8 x10 0 v1 0 32) fun x13 S11 =>
      if x13 = 0 then
        gLet (v2 + 1) fun x17 =>
        f_X1_numberOfLeaf_L2 k S11 a0 v1 x17
      else
        some (v2, S11)
set_option maxRecDepth 100000 in
set_option maxHeartbeats 4000000 in
theorem w_X1_numberOfLeaf_L2 {p : Program} {l : Launch} {e : Env} {s : State} {m : MethodId} {args : Array Value} {below : List Frame} {meth : Method} {c : Code} {D : gD} {S9 : gS} {res : Int32}  (hl : l.stackTraces = false) (X : gX D p l s m args meth c cX1_numberOfLeaf 3 RX1) (hr : meth.sig.returnType = (some .int)) : ∀ (k : Nat) (S0 : gS) (a0 : Nat) (v1 : Option Nat) (v2 : Int32), f_X1_numberOfLeaf_L2 k S0 a0 v1 v2 = some (res, S9) → gJ D p l e { frames := 2, cells := 0, slots := 0, locals := 47 } s m args below meth c (MQ below (gQ D (some (.int res)) S9) args s (0) (0) (gF D)) 3 (0) (0) S0 2 [(0, va_rf (some a0)), (1, va_rf v1), (2, .int v2)] [] := by
  intro k
  induction k with
  | zero => intro S0 a0 v1 v2 h0; cases h0
  | succ k ih =>
    intro S0 a0 v1 v2 h0
    have h0 := h0
    unfold f_X1_numberOfLeaf_L2 at h0
    refine g_iload_n (j := 2) X dX1_numberOfLeaf_2 rfl rfl ?_
    refine g_aload_n (j := 0) X dX1_numberOfLeaf_3 rfl rfl ?_
    obtain ⟨x1, ex1, h2⟩ := g_bd h0; clear h0
    refine g_fI (ci := 1) (k := 6) X rfl il1 (by decide) tw114 (by decide) (fun _ _ _ => rfl) ex1 dX1_numberOfLeaf_4 ?_
    clear ex1
    refine g_icmp_ge (tgt := 34) X dX1_numberOfLeaf_7 (by decide) (fun c3 => ?_) (fun c3 => ?_)
    · have h4 := g_ip h2 c3; clear h2
      refine g_iconst X dX1_numberOfLeaf_34 (v := (-1)) (by decide) ?_
      obtain ⟨rfl, rfl⟩ := g_end h4
      exact g_iret X hr (by decide) (by decide) dX1_numberOfLeaf_35
    · have h5 := g_in h2 c3; clear h2
      refine g_aload_n (j := 0) X dX1_numberOfLeaf_10 rfl rfl ?_
      refine g_iload_n (j := 2) X dX1_numberOfLeaf_11 rfl rfl ?_
      obtain ⟨a6, ea6, ka6, h7⟩ := g_dc h5; clear h5
      obtain ⟨x10, S8, eS8, h9⟩ := g_bi h7; clear h7
      refine g_cV (n := 1) (As := [.int v2]) X (c_X1_leafAt hl D eS8) tw540 tw526 tw527 tw46 tw528 (by decide +kernel) rfl rfl ⟨Nat.le_of_ble_eq_true rfl, Nat.le_of_ble_eq_true rfl⟩ (ci := 1) rfl (by decide) ea6 ka6 rfl rfl (Nat.le_of_ble_eq_true rfl) dX1_numberOfLeaf_12 ⟨(by decide), (by decide)⟩ ?_
      clear eS8 ea6 ka6
      refine g_iconst X dX1_numberOfLeaf_15 (v := 0) (by decide) ?_
      refine g_aload_n (j := 1) X dX1_numberOfLeaf_16 rfl rfl ?_
      refine g_iconst X dX1_numberOfLeaf_17 (v := 0) (by decide) ?_
      refine g_bipush X dX1_numberOfLeaf_18 (v := 32) (by decide) ?_
      obtain ⟨x13, S11, eS11, h12⟩ := g_bi h9; clear h9
      refine g_cS (n := 5) (As := [va_rf x10, .int 0, va_rf v1, .int 0, .int 32]) X (c_X3_same hl D eS11) tw411 tw321 tw52 tw322 (by decide +kernel) rfl rfl ⟨Nat.le_of_ble_eq_true rfl, Nat.le_of_ble_eq_true rfl⟩ rfl rfl (Nat.le_of_ble_eq_true rfl) dX1_numberOfLeaf_20 ⟨(by decide), (by decide)⟩ ?_
      clear eS11
      refine g_if_eq (tgt := 28) X dX1_numberOfLeaf_23 (by decide) (fun c14 => ?_) (fun c14 => ?_)
      · have h15 := g_ip h12 c14; clear h12
        obtain ⟨x17, ex17, h18⟩ := g_let h15; clear h15
        refine g_iinc (j := 2) (v := x17) (lv' := [(2, .int x17), (0, va_rf (some a0)), (1, va_rf v1)]) X dX1_numberOfLeaf_28 rfl (by rw [ex17]; rfl) (by decide) (by simp [g_rfc, g_ci, g_cj, g_cr]) ?_
        clear ex17
        refine g_goto (tgt := 2) X dX1_numberOfLeaf_31 (by decide) ?_
        refine g_sub [1, 2, 0] rfl ?_
        exact ih S11 a0 v1 x17 h18
      · have h16 := g_in h12 c14; clear h12
        refine g_iload_n (j := 2) X dX1_numberOfLeaf_26 rfl rfl ?_
        obtain ⟨rfl, rfl⟩ := g_end h16
        exact g_iret X hr (by decide) (by decide) dX1_numberOfLeaf_27
def f_X1_numberOfLeaf (S0 : gS) (a0 : Nat) (v1 : Option Nat) : Option (Int32 × gS) :=
  f_X1_numberOfLeaf_L2 gFuel S0 a0 v1 0
set_option maxRecDepth 100000 in
set_option maxHeartbeats 4000000 in
theorem c_X1_numberOfLeaf {l : Launch} (hl : l.stackTraces = false) (D : gD)  {S0 S9 : gS} {a0 : Nat} {v1 : Option Nat} {res : Int32} (h0 : f_X1_numberOfLeaf S0 a0 v1 = some (res, S9)) : Met l yX1_numberOfLeaf (gws yX1_numberOfLeaf cX1_numberOfLeaf 3 (some .int)) { frames := 2, cells := 0, slots := 0, locals := 47 } (gPc D S0 [.ref a0, va_rf v1]) (gQ D (some (.int res)) S9) (0) (0) (gF D) := by
  refine g_met (lv := [(0, va_rf (some a0)), (1, va_rf v1)]) hl (by decide) (by simp [lg_sl, g_rfc, g_ci, g_cj, g_cr]) (by simp [lv_args, g_rfc, g_ci, g_cj, g_cr]; try rfl) (fun p e s m args below meth c X hr hn => ?_)
  have X : gX D p l s m args meth c cX1_numberOfLeaf 3 RX1 := X
  unfold f_X1_numberOfLeaf at h0
  refine g_iconst X dX1_numberOfLeaf_0 (v := 0) (by decide) ?_
  refine g_istore_n (i := 2) (lv' := [(2, .int 0), (0, va_rf (some a0)), (1, va_rf v1)]) X dX1_numberOfLeaf_1 rfl (by decide) (by simp [g_rfc, g_ci, g_cj, g_cr]) ?_
  refine g_sub [1, 2, 0] rfl ?_
  exact w_X1_numberOfLeaf_L2 hl X hr gFuel S0 a0 v1 0 h0
def f_X1_rootOf_L33 : Nat → gS → Nat → Int32 → Int32 → Int32 → Int32 → Option (Option Nat × gS)
  | 0, _, _, _, _, _, _ => none
  | k + 1, S0, a0, v1, v2, v3, v4 =>
    if 200 < v4 then
      (fgR S0 1 9 (some a0)).bind fun x7 =>
      some (x7, S0)
    else
      if v3 ≤ v1 then
        (fgR S0 1 9 (some a0)).bind fun x12 =>
        some (x12, S0)
      else
        if ((v2 - v1) &&& v4) = 0 then
          gLet (v4 * 2) fun x17 =>
          f_X1_rootOf_L33 k S0 a0 v1 v2 v3 x17
        else
          gDc S0 1 (some a0) fun a19 =>
          gBi (f_X1_fullOf S0 a19 (v3 - v4) v3) fun x23 S21 =>
          if v3 = v2 then
            (fgR S21 1 9 (some a0)).bind fun x41 =>
            (f_X3_copy S21 x23 0 x41 0 32).bind fun S43 =>
            gLet (v3 - v4) fun x45 =>
            gLet (v4 * 2) fun x47 =>
            f_X1_rootOf_L33 k S43 a0 v1 v2 x45 x47
          else
            (fgR S21 1 0 (some a0)).bind fun x27 =>
            (fgR S21 1 9 (some a0)).bind fun x29 =>
            (fgR S21 1 9 (some a0)).bind fun x31 =>
            gDc S21 4 x27 fun a33 =>
            (f_X4_node S21 a33 x23 0 x29 0 x31).bind fun S35 =>
            gLet (v3 - v4) fun x37 =>
            gLet (v4 * 2) fun x39 =>
            f_X1_rootOf_L33 k S35 a0 v1 v2 x37 x39
set_option maxRecDepth 100000 in
set_option maxHeartbeats 4000000 in
theorem w_X1_rootOf_L33 {p : Program} {l : Launch} {e : Env} {s : State} {m : MethodId} {args : Array Value} {below : List Frame} {meth : Method} {c : Code} {D : gD} {S9 : gS} {res : Option Nat}  (hl : l.stackTraces = false) (X : gX D p l s m args meth c cX1_rootOf 6 RX1) (hr : meth.sig.returnType = (some (.array .byte))) : ∀ (k : Nat) (S0 : gS) (a0 : Nat) (v1 : Int32) (v2 : Int32) (v3 : Int32) (v4 : Int32), f_X1_rootOf_L33 k S0 a0 v1 v2 v3 v4 = some (res, S9) → gJ D p l e { frames := 3, cells := 0, slots := 0, locals := 85 } s m args below meth c (MQ below (gQ D (some (va_rf res)) S9) args s (0) (0) (gF D)) 6 (0) (0) S0 33 [(0, va_rf (some a0)), (1, .int v1), (2, .int v2), (3, .int v3), (4, .int v4)] [] := by
  intro k
  induction k with
  | zero => intro S0 a0 v1 v2 v3 v4 h0; cases h0
  | succ k ih =>
    intro S0 a0 v1 v2 v3 v4 h0
    have h0 := h0
    unfold f_X1_rootOf_L33 at h0
    refine g_iload (j := 4) X dX1_rootOf_33 rfl ?_
    refine g_sipush X dX1_rootOf_35 (v := 200) (by decide) ?_
    refine g_icmp_gt (tgt := 120) X dX1_rootOf_38 (by decide) (fun c4 => ?_) (fun c4 => ?_)
    · have h5 := g_ip h0 c4; clear h0
      refine g_aload_n (j := 0) X dX1_rootOf_120 rfl rfl ?_
      obtain ⟨x7, ex7, h8⟩ := g_bd h5; clear h5
      refine g_fR (ci := 1) (k := 9) X rfl il1 (by decide) tw119 (by decide) (fun _ _ _ => rfl) ex7 dX1_rootOf_121 ?_
      clear ex7
      obtain ⟨rfl, rfl⟩ := g_end h8
      exact g_aret X hr (Or.inr ⟨_, rfl⟩) (by decide) (by decide) dX1_rootOf_124
    · have h6 := g_in h0 c4; clear h0
      refine g_iload_n (j := 3) X dX1_rootOf_41 rfl rfl ?_
      refine g_iload_n (j := 1) X dX1_rootOf_42 rfl rfl ?_
      refine g_icmp_le (tgt := 120) X dX1_rootOf_43 (by decide) (fun c9 => ?_) (fun c9 => ?_)
      · have h10 := g_ip h6 c9; clear h6
        refine g_aload_n (j := 0) X dX1_rootOf_120 rfl rfl ?_
        obtain ⟨x12, ex12, h13⟩ := g_bd h10; clear h10
        refine g_fR (ci := 1) (k := 9) X rfl il1 (by decide) tw119 (by decide) (fun _ _ _ => rfl) ex12 dX1_rootOf_121 ?_
        clear ex12
        obtain ⟨rfl, rfl⟩ := g_end h13
        exact g_aret X hr (Or.inr ⟨_, rfl⟩) (by decide) (by decide) dX1_rootOf_124
      · have h11 := g_in h6 c9; clear h6
        refine g_iload_n (j := 2) X dX1_rootOf_46 rfl rfl ?_
        refine g_iload_n (j := 1) X dX1_rootOf_47 rfl rfl ?_
        refine g_isub X dX1_rootOf_48 ?_
        refine g_iload (j := 4) X dX1_rootOf_49 rfl ?_
        refine g_iand X dX1_rootOf_51 ?_
        refine g_if_eq (tgt := 111) X dX1_rootOf_52 (by decide) (fun c14 => ?_) (fun c14 => ?_)
        · have h15 := g_ip h11 c14; clear h11
          refine g_iload (j := 4) X dX1_rootOf_111 rfl ?_
          refine g_iconst X dX1_rootOf_113 (v := 2) (by decide) ?_
          refine g_imul X dX1_rootOf_114 ?_
          obtain ⟨x17, ex17, h18⟩ := g_let h15; clear h15; rw [← ex17]; clear ex17
          refine g_istore (i := 4) (lv' := [(4, .int x17), (0, va_rf (some a0)), (1, .int v1), (2, .int v2), (3, .int v3)]) X dX1_rootOf_115 (by decide) rfl ?_
          refine g_goto (tgt := 33) X dX1_rootOf_117 (by decide) ?_
          refine g_sub [1, 2, 3, 4, 0] rfl ?_
          exact ih S0 a0 v1 v2 v3 x17 h18
        · have h16 := g_in h11 c14; clear h11
          refine g_aload_n (j := 0) X dX1_rootOf_55 rfl rfl ?_
          refine g_iload_n (j := 3) X dX1_rootOf_56 rfl rfl ?_
          refine g_iload (j := 4) X dX1_rootOf_57 rfl ?_
          refine g_isub X dX1_rootOf_59 ?_
          refine g_iload_n (j := 3) X dX1_rootOf_60 rfl rfl ?_
          obtain ⟨a19, ea19, ka19, h20⟩ := g_dc h16; clear h16
          obtain ⟨x23, S21, eS21, h22⟩ := g_bi h20; clear h20
          refine g_cV (n := 2) (As := [.int (v3 - v4), .int v3]) X (c_X1_fullOf hl D eS21) tw433 tw434 tw10 tw46 tw435 (by decide +kernel) rfl rfl ⟨Nat.le_of_ble_eq_true rfl, Nat.le_of_ble_eq_true rfl⟩ (ci := 1) rfl (by decide) ea19 ka19 rfl rfl (Nat.le_of_ble_eq_true rfl) dX1_rootOf_61 ⟨(by decide), (by decide)⟩ ?_
          clear eS21 ea19 ka19
          refine g_astore (i := 5) (lv' := [(5, va_rf x23), (0, va_rf (some a0)), (1, .int v1), (2, .int v2), (3, .int v3), (4, .int v4)]) X dX1_rootOf_64 (by decide) rfl ?_
          refine g_iload_n (j := 4) X dX1_rootOf_66 rfl rfl ?_
          refine g_iload_n (j := 3) X dX1_rootOf_67 rfl rfl ?_
          refine g_icmp_ne (tgt := 87) X dX1_rootOf_68 (by decide) (fun c24 => ?_) (fun c24 => ?_)
          · have h25 := g_in h22 c24; clear h22
            refine g_aload_n (j := 1) X dX1_rootOf_87 rfl rfl ?_
            obtain ⟨x27, ex27, h28⟩ := g_bd h25; clear h25
            refine g_fR (ci := 1) (k := 0) X rfl il1 (by decide) tw106 (by decide) (fun _ _ _ => rfl) ex27 dX1_rootOf_88 ?_
            clear ex27
            refine g_aload (j := 0) X dX1_rootOf_91 rfl ?_
            refine g_iconst X dX1_rootOf_93 (v := 0) (by decide) ?_
            refine g_aload_n (j := 1) X dX1_rootOf_94 rfl rfl ?_
            obtain ⟨x29, ex29, h30⟩ := g_bd h28; clear h28
            refine g_fR (ci := 1) (k := 9) X rfl il1 (by decide) tw119 (by decide) (fun _ _ _ => rfl) ex29 dX1_rootOf_95 ?_
            clear ex29
            refine g_iconst X dX1_rootOf_98 (v := 0) (by decide) ?_
            refine g_aload_n (j := 1) X dX1_rootOf_99 rfl rfl ?_
            obtain ⟨x31, ex31, h32⟩ := g_bd h30; clear h30
            refine g_fR (ci := 1) (k := 9) X rfl il1 (by decide) tw119 (by decide) (fun _ _ _ => rfl) ex31 dX1_rootOf_100 ?_
            clear ex31
            obtain ⟨a33, ea33, ka33, h34⟩ := g_dc h32; clear h32
            obtain ⟨S35, eS35, h36⟩ := g_bd h34; clear h34
            refine g_cV (n := 5) (As := [va_rf x23, .int 0, va_rf x29, .int 0, va_rf x31]) X (c_X4_node hl D eS35) tw436 tw287 tw288 tw47 tw289 (by decide +kernel) rfl rfl ⟨Nat.le_of_ble_eq_true rfl, Nat.le_of_ble_eq_true rfl⟩ (ci := 4) rfl (by decide) ea33 ka33 rfl rfl (Nat.le_of_ble_eq_true rfl) dX1_rootOf_103 ⟨(by decide), (by decide)⟩ ?_
            clear eS35 ea33 ka33
            refine g_iload_n (j := 4) X dX1_rootOf_106 rfl rfl ?_
            refine g_iload (j := 5) X dX1_rootOf_107 rfl ?_
            refine g_isub X dX1_rootOf_109 ?_
            obtain ⟨x37, ex37, h38⟩ := g_let h36; clear h36; rw [← ex37]; clear ex37
            refine g_istore_n (i := 3) (lv' := [(3, .int x37), (5, va_rf x23), (0, va_rf (some a0)), (1, .int v1), (2, .int v2), (4, .int v4)]) X dX1_rootOf_110 rfl (by decide) rfl ?_
            refine g_iload (j := 5) X dX1_rootOf_111 rfl ?_
            refine g_iconst X dX1_rootOf_113 (v := 2) (by decide) ?_
            refine g_imul X dX1_rootOf_114 ?_
            obtain ⟨x39, ex39, h40⟩ := g_let h38; clear h38; rw [← ex39]; clear ex39
            refine g_istore (i := 4) (lv' := [(4, .int x39), (3, .int x37), (5, va_rf x23), (0, va_rf (some a0)), (1, .int v1), (2, .int v2)]) X dX1_rootOf_115 (by decide) rfl ?_
            refine g_goto (tgt := 33) X dX1_rootOf_117 (by decide) ?_
            refine g_sub [3, 4, 5, 1, 0] rfl ?_
            exact ih S35 a0 v1 v2 x37 x39 h40
          · have h26 := g_ip h22 c24; clear h22
            refine g_aload (j := 0) X dX1_rootOf_71 rfl ?_
            refine g_iconst X dX1_rootOf_73 (v := 0) (by decide) ?_
            refine g_aload_n (j := 1) X dX1_rootOf_74 rfl rfl ?_
            obtain ⟨x41, ex41, h42⟩ := g_bd h26; clear h26
            refine g_fR (ci := 1) (k := 9) X rfl il1 (by decide) tw119 (by decide) (fun _ _ _ => rfl) ex41 dX1_rootOf_75 ?_
            clear ex41
            refine g_iconst X dX1_rootOf_78 (v := 0) (by decide) ?_
            refine g_bipush X dX1_rootOf_79 (v := 32) (by decide) ?_
            obtain ⟨S43, eS43, h44⟩ := g_bd h42; clear h42
            refine g_cS (n := 5) (As := [va_rf x23, .int 0, va_rf x41, .int 0, .int 32]) X (c_X3_copy hl D eS43) tw399 tw227 tw52 tw228 (by decide +kernel) rfl rfl ⟨Nat.le_of_ble_eq_true rfl, Nat.le_of_ble_eq_true rfl⟩ rfl rfl (Nat.le_of_ble_eq_true rfl) dX1_rootOf_81 ⟨(by decide), (by decide)⟩ ?_
            clear eS43
            refine g_goto (tgt := 106) X dX1_rootOf_84 (by decide) ?_
            refine g_iload_n (j := 4) X dX1_rootOf_106 rfl rfl ?_
            refine g_iload (j := 5) X dX1_rootOf_107 rfl ?_
            refine g_isub X dX1_rootOf_109 ?_
            obtain ⟨x45, ex45, h46⟩ := g_let h44; clear h44; rw [← ex45]; clear ex45
            refine g_istore_n (i := 3) (lv' := [(3, .int x45), (5, va_rf x23), (0, va_rf (some a0)), (1, .int v1), (2, .int v2), (4, .int v4)]) X dX1_rootOf_110 rfl (by decide) rfl ?_
            refine g_iload (j := 5) X dX1_rootOf_111 rfl ?_
            refine g_iconst X dX1_rootOf_113 (v := 2) (by decide) ?_
            refine g_imul X dX1_rootOf_114 ?_
            obtain ⟨x47, ex47, h48⟩ := g_let h46; clear h46; rw [← ex47]; clear ex47
            refine g_istore (i := 4) (lv' := [(4, .int x47), (3, .int x45), (5, va_rf x23), (0, va_rf (some a0)), (1, .int v1), (2, .int v2)]) X dX1_rootOf_115 (by decide) rfl ?_
            refine g_goto (tgt := 33) X dX1_rootOf_117 (by decide) ?_
            refine g_sub [3, 4, 5, 1, 0] rfl ?_
            exact ih S43 a0 v1 v2 x45 x47 h48
def f_X1_rootOf (S0 : gS) (a0 : Nat) (v1 : Int32) (v2 : Int32) : Option (Option Nat × gS) :=
  if v1 < v2 then
    f_X1_rootOf_L33 gFuel S0 a0 v1 v2 v2 1
  else
    (fgR S0 1 0 (some a0)).bind fun x49 =>
    gDc S0 4 x49 fun a51 =>
    (f_X4_begin S0 a51).bind fun S53 =>
    (fgR S53 1 0 (some a0)).bind fun x55 =>
    (fgR S53 1 9 (some a0)).bind fun x57 =>
    gDc S53 4 x55 fun a59 =>
    (f_X4_finish S53 a59 x57).bind fun S61 =>
    (fgR S61 1 9 (some a0)).bind fun x63 =>
    some (x63, S61)
set_option maxRecDepth 100000 in
set_option maxHeartbeats 4000000 in
theorem c_X1_rootOf {l : Launch} (hl : l.stackTraces = false) (D : gD)  {S0 S9 : gS} {a0 : Nat} {v1 : Int32} {v2 : Int32} {res : Option Nat} (h0 : f_X1_rootOf S0 a0 v1 v2 = some (res, S9)) : Met l yX1_rootOf (gws yX1_rootOf cX1_rootOf 6 (some (.array .byte))) { frames := 3, cells := 0, slots := 0, locals := 85 } (gPc D S0 [.ref a0, .int v1, .int v2]) (gQ D (some (va_rf res)) S9) (0) (0) (gF D) := by
  refine g_met (lv := [(0, va_rf (some a0)), (1, .int v1), (2, .int v2)]) hl (by decide) (Nat.le_of_ble_eq_true rfl) rfl (fun p e s m args below meth c X hr hn => ?_)
  have X : gX D p l s m args meth c cX1_rootOf 6 RX1 := X
  unfold f_X1_rootOf at h0
  refine g_iload_n (j := 1) X dX1_rootOf_0 rfl rfl ?_
  refine g_iload_n (j := 2) X dX1_rootOf_1 rfl rfl ?_
  refine g_icmp_lt (tgt := 28) X dX1_rootOf_2 (by decide) (fun c1 => ?_) (fun c1 => ?_)
  · have h2 := g_ip h0 c1; clear h0
    refine g_iload_n (j := 2) X dX1_rootOf_28 rfl rfl ?_
    refine g_istore_n (i := 3) (lv' := [(3, .int v2), (0, va_rf (some a0)), (1, .int v1), (2, .int v2)]) X dX1_rootOf_29 rfl (by decide) rfl ?_
    refine g_iconst X dX1_rootOf_30 (v := 1) (by decide) ?_
    refine g_istore (i := 4) (lv' := [(4, .int 1), (3, .int v2), (0, va_rf (some a0)), (1, .int v1), (2, .int v2)]) X dX1_rootOf_31 (by decide) rfl ?_
    refine g_sub [2, 3, 4, 1, 0] rfl ?_
    exact w_X1_rootOf_L33 hl X hr gFuel S0 a0 v1 v2 v2 1 h2
  · have h3 := g_in h0 c1; clear h0
    refine g_aload_n (j := 0) X dX1_rootOf_5 rfl rfl ?_
    obtain ⟨x49, ex49, h50⟩ := g_bd h3; clear h3
    refine g_fR (ci := 1) (k := 0) X rfl il1 (by decide) tw106 (by decide) (fun _ _ _ => rfl) ex49 dX1_rootOf_6 ?_
    clear ex49
    obtain ⟨a51, ea51, ka51, h52⟩ := g_dc h50; clear h50
    obtain ⟨S53, eS53, h54⟩ := g_bd h52; clear h52
    refine g_cV (n := 0) (As := []) X (c_X4_begin hl D eS53) tw396 tw291 tw292 tw47 tw293 (by decide +kernel) rfl rfl ⟨Nat.le_of_ble_eq_true rfl, Nat.le_of_ble_eq_true rfl⟩ (ci := 4) rfl (by decide) ea51 ka51 rfl rfl (Nat.le_of_ble_eq_true rfl) dX1_rootOf_9 ⟨(by decide), (by decide)⟩ ?_
    clear eS53 ea51 ka51
    refine g_aload_n (j := 0) X dX1_rootOf_12 rfl rfl ?_
    obtain ⟨x55, ex55, h56⟩ := g_bd h54; clear h54
    refine g_fR (ci := 1) (k := 0) X rfl il1 (by decide) tw106 (by decide) (fun _ _ _ => rfl) ex55 dX1_rootOf_13 ?_
    clear ex55
    refine g_aload_n (j := 0) X dX1_rootOf_16 rfl rfl ?_
    obtain ⟨x57, ex57, h58⟩ := g_bd h56; clear h56
    refine g_fR (ci := 1) (k := 9) X rfl il1 (by decide) tw119 (by decide) (fun _ _ _ => rfl) ex57 dX1_rootOf_17 ?_
    clear ex57
    obtain ⟨a59, ea59, ka59, h60⟩ := g_dc h58; clear h58
    obtain ⟨S61, eS61, h62⟩ := g_bd h60; clear h60
    refine g_cV (n := 1) (As := [va_rf x57]) X (c_X4_finish hl D eS61) tw398 tw313 tw314 tw47 tw315 (by decide +kernel) rfl rfl ⟨Nat.le_of_ble_eq_true rfl, Nat.le_of_ble_eq_true rfl⟩ (ci := 4) rfl (by decide) ea59 ka59 rfl rfl (Nat.le_of_ble_eq_true rfl) dX1_rootOf_20 ⟨(by decide), (by decide)⟩ ?_
    clear eS61 ea59 ka59
    refine g_aload_n (j := 0) X dX1_rootOf_23 rfl rfl ?_
    obtain ⟨x63, ex63, h64⟩ := g_bd h62; clear h62
    refine g_fR (ci := 1) (k := 9) X rfl il1 (by decide) tw119 (by decide) (fun _ _ _ => rfl) ex63 dX1_rootOf_24 ?_
    clear ex63
    obtain ⟨rfl, rfl⟩ := g_end h64
    exact g_aret X hr (Or.inr ⟨_, rfl⟩) (by decide) (by decide) dX1_rootOf_27
def f_X5_free (S0 : gS) (a0 : Nat) : Option (Int32 × gS) :=
  (fgR S0 5 0 (some a0)).bind fun x1 =>
  (fN S0 x1).bind fun x3 =>
  (fgI S0 5 1 (some a0)).bind fun x5 =>
  some (x3 - x5, S0)
set_option maxRecDepth 100000 in
set_option maxHeartbeats 4000000 in
theorem c_X5_free {l : Launch} (hl : l.stackTraces = false) (D : gD)  {S0 S9 : gS} {a0 : Nat} {res : Int32} (h0 : f_X5_free S0 a0 = some (res, S9)) : Met l yX5_free (gws yX5_free cX5_free 1 (some .int)) { frames := 0, cells := 0, slots := 0, locals := 0 } (gPc D S0 [.ref a0]) (gQ D (some (.int res)) S9) (0) (0) (gF D) := by
  refine g_met (lv := [(0, va_rf (some a0))]) hl (by decide) (Nat.le_of_ble_eq_true rfl) rfl (fun p e s m args below meth c X hr hn => ?_)
  have X : gX D p l s m args meth c cX5_free 1 RX5 := X
  unfold f_X5_free at h0
  refine g_aload_n (j := 0) X dX5_free_0 rfl rfl ?_
  obtain ⟨x1, ex1, h2⟩ := g_bd h0; clear h0
  refine g_fR (ci := 5) (k := 0) X rfl il5 (by decide) tw78 (by decide) (fun _ _ _ => rfl) ex1 dX5_free_1 ?_
  clear ex1
  obtain ⟨x3, ex3, h4⟩ := g_bd h2; clear h2
  refine g_alen X ex3 dX5_free_4 ?_
  clear ex3
  refine g_aload_n (j := 0) X dX5_free_5 rfl rfl ?_
  obtain ⟨x5, ex5, h6⟩ := g_bd h4; clear h4
  refine g_fI (ci := 5) (k := 1) X rfl il5 (by decide) tw80 (by decide) (fun _ _ _ => rfl) ex5 dX5_free_6 ?_
  clear ex5
  refine g_isub X dX5_free_9 ?_
  obtain ⟨rfl, rfl⟩ := g_end h6
  exact g_iret X hr (by decide) (by decide) dX5_free_10
def f_X5_addRow (S0 : gS) (a0 : Nat) (v1 : Option Nat) (v2 : Int32) (v3 : Int32) : Option gS :=
  gBi (f_X3_holds S0 v1 v2 v3) fun x3 S1 =>
  if x3 = 0 then
    some S1
  else
    gDc S1 5 (some a0) fun a7 =>
    gBi (f_X5_free S1 a7) fun x11 S9 =>
    if x11 < v3 then
      some S9
    else
      (fgR S9 5 0 (some a0)).bind fun x15 =>
      (fgI S9 5 1 (some a0)).bind fun x17 =>
      (f_X3_copy S9 v1 v2 x15 x17 v3).bind fun S19 =>
      (fgI S19 5 1 (some a0)).bind fun x21 =>
      (fpI S19 5 1 (some a0) (x21 + v3)).bind fun S23 =>
      some S23
set_option maxRecDepth 100000 in
set_option maxHeartbeats 4000000 in
theorem c_X5_addRow {l : Launch} (hl : l.stackTraces = false) (D : gD)  {S0 S9 : gS} {a0 : Nat} {v1 : Option Nat} {v2 : Int32} {v3 : Int32} (h0 : f_X5_addRow S0 a0 v1 v2 v3 = some S9) : Met l yX5_addRow (gws yX5_addRow cX5_addRow 4 none) { frames := 2, cells := 0, slots := 0, locals := 64 } (gPc D S0 [.ref a0, va_rf v1, .int v2, .int v3]) (gQ D none S9) (0) (0) (gF D) := by
  refine g_met (lv := [(0, va_rf (some a0)), (1, va_rf v1), (2, .int v2), (3, .int v3)]) hl (by decide) (by simp [lg_sl, g_rfc, g_ci, g_cj, g_cr]) (by simp [lv_args, g_rfc, g_ci, g_cj, g_cr]; try rfl) (fun p e s m args below meth c X hr hn => ?_)
  have X : gX D p l s m args meth c cX5_addRow 4 RX5 := X
  unfold f_X5_addRow at h0
  refine g_aload_n (j := 1) X dX5_addRow_0 rfl rfl ?_
  refine g_iload_n (j := 2) X dX5_addRow_1 rfl rfl ?_
  refine g_iload_n (j := 3) X dX5_addRow_2 rfl rfl ?_
  obtain ⟨x3, S1, eS1, h2⟩ := g_bi h0; clear h0
  refine g_cS (n := 3) (As := [va_rf v1, .int v2, .int v3]) X (c_X3_holds hl D eS1) tw223 tw224 tw52 tw225 (by decide +kernel) rfl rfl ⟨Nat.le_of_ble_eq_true rfl, Nat.le_of_ble_eq_true rfl⟩ rfl rfl (Nat.le_of_ble_eq_true rfl) dX5_addRow_3 ⟨(by decide), (by decide)⟩ ?_
  clear eS1
  refine g_if_eq (tgt := 41) X dX5_addRow_6 (by decide) (fun c4 => ?_) (fun c4 => ?_)
  · have h5 := g_ip h2 c4; clear h2
    cases h5
    exact g_vret X hr (by decide) (by decide) dX5_addRow_41
  · have h6 := g_in h2 c4; clear h2
    refine g_iload_n (j := 3) X dX5_addRow_9 rfl rfl ?_
    refine g_aload_n (j := 0) X dX5_addRow_10 rfl rfl ?_
    obtain ⟨a7, ea7, ka7, h8⟩ := g_dc h6; clear h6
    obtain ⟨x11, S9, eS9, h10⟩ := g_bi h8; clear h8
    refine g_cV (n := 0) (As := []) X (c_X5_free hl D eS9) tw210 tw203 tw204 tw45 tw205 (by decide +kernel) rfl rfl ⟨Nat.le_of_ble_eq_true rfl, Nat.le_of_ble_eq_true rfl⟩ (ci := 5) rfl (by decide) ea7 ka7 rfl rfl (Nat.le_of_ble_eq_true rfl) dX5_addRow_11 ⟨(by decide), (by decide)⟩ ?_
    clear eS9 ea7 ka7
    refine g_icmp_gt (tgt := 41) X dX5_addRow_14 (by decide) (fun c12 => ?_) (fun c12 => ?_)
    · have h13 := g_ip h10 c12; clear h10
      cases h13
      exact g_vret X hr (by decide) (by decide) dX5_addRow_41
    · have h14 := g_in h10 c12; clear h10
      refine g_aload_n (j := 1) X dX5_addRow_17 rfl rfl ?_
      refine g_iload_n (j := 2) X dX5_addRow_18 rfl rfl ?_
      refine g_aload_n (j := 0) X dX5_addRow_19 rfl rfl ?_
      obtain ⟨x15, ex15, h16⟩ := g_bd h14; clear h14
      refine g_fR (ci := 5) (k := 0) X rfl il5 (by decide) tw78 (by decide) (fun _ _ _ => rfl) ex15 dX5_addRow_20 ?_
      clear ex15
      refine g_aload_n (j := 0) X dX5_addRow_23 rfl rfl ?_
      obtain ⟨x17, ex17, h18⟩ := g_bd h16; clear h16
      refine g_fI (ci := 5) (k := 1) X rfl il5 (by decide) tw80 (by decide) (fun _ _ _ => rfl) ex17 dX5_addRow_24 ?_
      clear ex17
      refine g_iload_n (j := 3) X dX5_addRow_27 rfl rfl ?_
      obtain ⟨S19, eS19, h20⟩ := g_bd h18; clear h18
      refine g_cS (n := 5) (As := [va_rf v1, .int v2, va_rf x15, .int x17, .int v3]) X (c_X3_copy hl D eS19) tw226 tw227 tw52 tw228 (by decide +kernel) rfl rfl ⟨Nat.le_of_ble_eq_true rfl, Nat.le_of_ble_eq_true rfl⟩ rfl rfl (Nat.le_of_ble_eq_true rfl) dX5_addRow_28 ⟨(by decide), (by decide)⟩ ?_
      clear eS19
      refine g_aload_n (j := 0) X dX5_addRow_31 rfl rfl ?_
      refine g_dup X dX5_addRow_32 (g_rfc _) ?_
      obtain ⟨x21, ex21, h22⟩ := g_bd h20; clear h20
      refine g_fI (ci := 5) (k := 1) X rfl il5 (by decide) tw80 (by decide) (fun _ _ _ => rfl) ex21 dX5_addRow_33 ?_
      clear ex21
      refine g_iload_n (j := 3) X dX5_addRow_36 rfl rfl ?_
      refine g_iadd X dX5_addRow_37 ?_
      obtain ⟨S23, eS23, h24⟩ := g_bd h22; clear h22
      refine g_pI (ci := 5) (k := 1) X rfl il5 tyX5 tyX5_ok nmX5 (by decide) tw80 rfl (by decide) (fun _ _ _ => rfl) rfl eS23 dX5_addRow_38 ?_
      clear eS23
      cases h24
      exact g_vret X hr (by decide) (by decide) dX5_addRow_41
def f_X2_digests (S0 : gS) (a0 : Nat) : Option (Int32 × gS) :=
  (fgI S0 2 3 (some a0)).bind fun x1 =>
  (fgI S0 2 6 (some a0)).bind fun x3 =>
  if x3 = 0 then
    some (x1 + 0, S0)
  else
    some (x1 + 1, S0)
set_option maxRecDepth 100000 in
set_option maxHeartbeats 4000000 in
theorem c_X2_digests {l : Launch} (hl : l.stackTraces = false) (D : gD)  {S0 S9 : gS} {a0 : Nat} {res : Int32} (h0 : f_X2_digests S0 a0 = some (res, S9)) : Met l yX2_digests (gws yX2_digests cX2_digests 1 (some .int)) { frames := 0, cells := 0, slots := 0, locals := 0 } (gPc D S0 [.ref a0]) (gQ D (some (.int res)) S9) (0) (0) (gF D) := by
  refine g_met (lv := [(0, va_rf (some a0))]) hl (by decide) (Nat.le_of_ble_eq_true rfl) rfl (fun p e s m args below meth c X hr hn => ?_)
  have X : gX D p l s m args meth c cX2_digests 1 RX2 := X
  unfold f_X2_digests at h0
  refine g_aload_n (j := 0) X dX2_digests_0 rfl rfl ?_
  obtain ⟨x1, ex1, h2⟩ := g_bd h0; clear h0
  refine g_fI (ci := 2) (k := 3) X rfl il2 (by decide) tw155 (by decide) (fun _ _ _ => rfl) ex1 dX2_digests_1 ?_
  clear ex1
  refine g_aload_n (j := 0) X dX2_digests_4 rfl rfl ?_
  obtain ⟨x3, ex3, h4⟩ := g_bd h2; clear h2
  refine g_fI (ci := 2) (k := 6) X rfl il2 (by decide) tw162 (by decide) (fun _ _ _ => rfl) ex3 dX2_digests_5 ?_
  clear ex3
  refine g_if_eq (tgt := 15) X dX2_digests_8 (by decide) (fun c5 => ?_) (fun c5 => ?_)
  · have h6 := g_ip h4 c5; clear h4
    refine g_iconst X dX2_digests_15 (v := 0) (by decide) ?_
    refine g_iadd X dX2_digests_16 ?_
    obtain ⟨rfl, rfl⟩ := g_end h6
    exact g_iret X hr (by decide) (by decide) dX2_digests_17
  · have h7 := g_in h4 c5; clear h4
    refine g_iconst X dX2_digests_11 (v := 1) (by decide) ?_
    refine g_goto (tgt := 16) X dX2_digests_12 (by decide) ?_
    refine g_iadd X dX2_digests_16 ?_
    obtain ⟨rfl, rfl⟩ := g_end h7
    exact g_iret X hr (by decide) (by decide) dX2_digests_17
def f_X1_writeDigests_L40 : Nat → gS → Nat → Option Nat → Option Nat → Int32 → Option (Int32 × gS)
  | 0, _, _, _, _, _ => none
  | k + 1, S0, a0, v1, v2, v3 =>
    if v3 < 0 then
      gDc S0 2 v1 fun a15 =>
      gBi (f_X2_digests S0 a15) fun x19 S17 =>
      some (x19, S17)
    else
      if 64 ≤ v3 then
        gDc S0 2 v1 fun a23 =>
        gBi (f_X2_digests S0 a23) fun x27 S25 =>
        some (x27, S25)
      else
        (fgR S0 2 0 v1).bind fun x28 =>
        (fL S0 x28 v3).bind fun x30 =>
        (fgR S0 2 1 v1).bind fun x32 =>
        (fL S0 x32 v3).bind fun x34 =>
        gDc S0 1 (some a0) fun a36 =>
        gBi (f_X1_rootOf S0 a36 x30.toInt32 x34.toInt32) fun x40 S38 =>
        gDc S38 5 v2 fun a41 =>
        (f_X5_addRow S38 a41 x40 0 32).bind fun S43 =>
        gLet (v3 + (-1)) fun x45 =>
        f_X1_writeDigests_L40 k S43 a0 v1 v2 x45
set_option maxRecDepth 100000 in
set_option maxHeartbeats 4000000 in
theorem w_X1_writeDigests_L40 {p : Program} {l : Launch} {e : Env} {s : State} {m : MethodId} {args : Array Value} {below : List Frame} {meth : Method} {c : Code} {D : gD} {S9 : gS} {res : Int32}  (hl : l.stackTraces = false) (X : gX D p l s m args meth c cX1_writeDigests 4 RX1) (hr : meth.sig.returnType = (some .int)) : ∀ (k : Nat) (S0 : gS) (a0 : Nat) (v1 : Option Nat) (v2 : Option Nat) (v3 : Int32), f_X1_writeDigests_L40 k S0 a0 v1 v2 v3 = some (res, S9) → gJ D p l e { frames := 4, cells := 0, slots := 0, locals := 110 } s m args below meth c (MQ below (gQ D (some (.int res)) S9) args s (0) (0) (gF D)) 4 (0) (0) S0 40 [(0, va_rf (some a0)), (1, va_rf v1), (2, va_rf v2), (3, .int v3)] [] := by
  intro k
  induction k with
  | zero => intro S0 a0 v1 v2 v3 h0; cases h0
  | succ k ih =>
    intro S0 a0 v1 v2 v3 h0
    have h0 := h0
    unfold f_X1_writeDigests_L40 at h0
    refine g_iload_n (j := 3) X dX1_writeDigests_40 rfl rfl ?_
    refine g_if_lt (tgt := 81) X dX1_writeDigests_41 (by decide) (fun c12 => ?_) (fun c12 => ?_)
    · have h13 := g_ip h0 c12; clear h0
      refine g_aload_n (j := 1) X dX1_writeDigests_81 rfl rfl ?_
      obtain ⟨a15, ea15, ka15, h16⟩ := g_dc h13; clear h13
      obtain ⟨x19, S17, eS17, h18⟩ := g_bi h16; clear h16
      refine g_cV (n := 0) (As := []) X (c_X2_digests hl D eS17) tw561 tw273 tw274 tw49 tw275 (by decide +kernel) rfl rfl ⟨Nat.le_of_ble_eq_true rfl, Nat.le_of_ble_eq_true rfl⟩ (ci := 2) rfl (by decide) ea15 ka15 rfl rfl (Nat.le_of_ble_eq_true rfl) dX1_writeDigests_82 ⟨(by decide), (by decide)⟩ ?_
      clear eS17 ea15 ka15
      obtain ⟨rfl, rfl⟩ := g_end h18
      exact g_iret X hr (by decide) (by decide) dX1_writeDigests_85
    · have h14 := g_in h0 c12; clear h0
      refine g_iload_n (j := 3) X dX1_writeDigests_44 rfl rfl ?_
      refine g_bipush X dX1_writeDigests_45 (v := 64) (by decide) ?_
      refine g_icmp_ge (tgt := 81) X dX1_writeDigests_47 (by decide) (fun c20 => ?_) (fun c20 => ?_)
      · have h21 := g_ip h14 c20; clear h14
        refine g_aload_n (j := 1) X dX1_writeDigests_81 rfl rfl ?_
        obtain ⟨a23, ea23, ka23, h24⟩ := g_dc h21; clear h21
        obtain ⟨x27, S25, eS25, h26⟩ := g_bi h24; clear h24
        refine g_cV (n := 0) (As := []) X (c_X2_digests hl D eS25) tw561 tw273 tw274 tw49 tw275 (by decide +kernel) rfl rfl ⟨Nat.le_of_ble_eq_true rfl, Nat.le_of_ble_eq_true rfl⟩ (ci := 2) rfl (by decide) ea23 ka23 rfl rfl (Nat.le_of_ble_eq_true rfl) dX1_writeDigests_82 ⟨(by decide), (by decide)⟩ ?_
        clear eS25 ea23 ka23
        obtain ⟨rfl, rfl⟩ := g_end h26
        exact g_iret X hr (by decide) (by decide) dX1_writeDigests_85
      · have h22 := g_in h14 c20; clear h14
        refine g_aload_n (j := 2) X dX1_writeDigests_50 rfl rfl ?_
        refine g_aload_n (j := 0) X dX1_writeDigests_51 rfl rfl ?_
        refine g_aload_n (j := 1) X dX1_writeDigests_52 rfl rfl ?_
        obtain ⟨x28, ex28, h29⟩ := g_bd h22; clear h22
        refine g_fR (ci := 2) (k := 0) X rfl il2 (by decide) tw150 (by decide) (fun _ _ _ => rfl) ex28 dX1_writeDigests_53 ?_
        clear ex28
        refine g_iload_n (j := 3) X dX1_writeDigests_56 rfl rfl ?_
        obtain ⟨x30, ex30, h31⟩ := g_bd h29; clear h29
        refine g_lald X ex30 dX1_writeDigests_57 ?_
        clear ex30
        refine g_l2i X dX1_writeDigests_58 ?_
        refine g_aload_n (j := 1) X dX1_writeDigests_59 rfl rfl ?_
        obtain ⟨x32, ex32, h33⟩ := g_bd h31; clear h31
        refine g_fR (ci := 2) (k := 1) X rfl il2 (by decide) tw152 (by decide) (fun _ _ _ => rfl) ex32 dX1_writeDigests_60 ?_
        clear ex32
        refine g_iload_n (j := 3) X dX1_writeDigests_63 rfl rfl ?_
        obtain ⟨x34, ex34, h35⟩ := g_bd h33; clear h33
        refine g_lald X ex34 dX1_writeDigests_64 ?_
        clear ex34
        refine g_l2i X dX1_writeDigests_65 ?_
        obtain ⟨a36, ea36, ka36, h37⟩ := g_dc h35; clear h35
        obtain ⟨x40, S38, eS38, h39⟩ := g_bi h37; clear h37
        refine g_cV (n := 2) (As := [.int x30.toInt32, .int x34.toInt32]) X (c_X1_rootOf hl D eS38) tw466 tw467 tw468 tw46 tw469 (by decide +kernel) rfl rfl ⟨Nat.le_of_ble_eq_true rfl, Nat.le_of_ble_eq_true rfl⟩ (ci := 1) rfl (by decide) ea36 ka36 rfl rfl (by simp [g_rfc, g_ci, g_cj, g_cr]) dX1_writeDigests_66 ⟨(by decide), (by decide)⟩ ?_
        clear eS38 ea36 ka36
        refine g_iconst X dX1_writeDigests_69 (v := 0) (by decide) ?_
        refine g_bipush X dX1_writeDigests_70 (v := 32) (by decide) ?_
        obtain ⟨a41, ea41, ka41, h42⟩ := g_dc h39; clear h39
        obtain ⟨S43, eS43, h44⟩ := g_bd h42; clear h42
        refine g_cV (n := 3) (As := [va_rf x40, .int 0, .int 32]) X (c_X5_addRow hl D eS43) tw560 tw220 tw221 tw45 tw222 (by decide +kernel) rfl rfl ⟨Nat.le_of_ble_eq_true rfl, Nat.le_of_ble_eq_true rfl⟩ (ci := 5) rfl (by decide) ea41 ka41 rfl rfl (Nat.le_of_ble_eq_true rfl) dX1_writeDigests_72 ⟨(by decide), (by decide)⟩ ?_
        clear eS43 ea41 ka41
        obtain ⟨x45, ex45, h46⟩ := g_let h44; clear h44
        refine g_iinc (j := 3) (v := x45) (lv' := [(3, .int x45), (0, va_rf (some a0)), (1, va_rf v1), (2, va_rf v2)]) X dX1_writeDigests_75 rfl (by rw [ex45]; rfl) (by decide) (by simp [g_rfc, g_ci, g_cj, g_cr]) ?_
        clear ex45
        refine g_goto (tgt := 40) X dX1_writeDigests_78 (by decide) ?_
        refine g_sub [1, 2, 3, 0] rfl ?_
        exact ih S43 a0 v1 v2 x45 h46
def f_X1_writeDigests_B33 (S0 : gS) (a0 : Nat) (v1 : Option Nat) (v2 : Option Nat) : Option (Int32 × gS) :=
  (fgI S0 2 3 v1).bind fun x8 =>
  gLet (x8 - 1) fun x10 =>
  f_X1_writeDigests_L40 gFuel S0 a0 v1 v2 x10
set_option maxRecDepth 100000 in
set_option maxHeartbeats 4000000 in
theorem w_X1_writeDigests_B33 {p : Program} {l : Launch} {e : Env} {s : State} {m : MethodId} {args : Array Value} {below : List Frame} {meth : Method} {c : Code} {D : gD} {S9 : gS} {res : Int32}  (hl : l.stackTraces = false) (X : gX D p l s m args meth c cX1_writeDigests 4 RX1) (hr : meth.sig.returnType = (some .int)) (S0 : gS) (a0 : Nat) (v1 : Option Nat) (v2 : Option Nat) (h0 : f_X1_writeDigests_B33 S0 a0 v1 v2 = some (res, S9)) : gJ D p l e { frames := 4, cells := 0, slots := 0, locals := 110 } s m args below meth c (MQ below (gQ D (some (.int res)) S9) args s (0) (0) (gF D)) 4 (0) (0) S0 33 [(0, va_rf (some a0)), (1, va_rf v1), (2, va_rf v2)] [] := by
  unfold f_X1_writeDigests_B33 at h0
  refine g_aload_n (j := 1) X dX1_writeDigests_33 rfl rfl ?_
  obtain ⟨x8, ex8, h9⟩ := g_bd h0; clear h0
  refine g_fI (ci := 2) (k := 3) X rfl il2 (by decide) tw157 (by decide) (fun _ _ _ => rfl) ex8 dX1_writeDigests_34 ?_
  clear ex8
  refine g_iconst X dX1_writeDigests_37 (v := 1) (by decide) ?_
  refine g_isub X dX1_writeDigests_38 ?_
  obtain ⟨x10, ex10, h11⟩ := g_let h9; clear h9; rw [← ex10]; clear ex10
  refine g_istore_n (i := 3) (lv' := [(3, .int x10), (0, va_rf (some a0)), (1, va_rf v1), (2, va_rf v2)]) X dX1_writeDigests_39 rfl (by decide) (by simp [g_rfc, g_ci, g_cj, g_cr]) ?_
  refine g_sub [1, 2, 3, 0] rfl ?_
  exact w_X1_writeDigests_L40 hl X hr gFuel S0 a0 v1 v2 x10 h11
def f_X1_writeDigests (S0 : gS) (a0 : Nat) (v1 : Option Nat) (v2 : Option Nat) : Option (Int32 × gS) :=
  (fpI S0 5 1 v2 0).bind fun S1 =>
  (fgI S1 2 6 v1).bind fun x3 =>
  if x3 = 0 then
    f_X1_writeDigests_B33 S1 a0 v1 v2
  else
    (fgL S1 2 4 v1).bind fun x47 =>
    (fgL S1 2 5 v1).bind fun x49 =>
    gDc S1 1 (some a0) fun a51 =>
    gBi (f_X1_rootOf S1 a51 x47.toInt32 x49.toInt32) fun x55 S53 =>
    gDc S53 5 v2 fun a56 =>
    (f_X5_addRow S53 a56 x55 0 32).bind fun S58 =>
    f_X1_writeDigests_B33 S58 a0 v1 v2
set_option maxRecDepth 100000 in
set_option maxHeartbeats 4000000 in
theorem c_X1_writeDigests {l : Launch} (hl : l.stackTraces = false) (D : gD)  {S0 S9 : gS} {a0 : Nat} {v1 : Option Nat} {v2 : Option Nat} {res : Int32} (h0 : f_X1_writeDigests S0 a0 v1 v2 = some (res, S9)) : Met l yX1_writeDigests (gws yX1_writeDigests cX1_writeDigests 4 (some .int)) { frames := 4, cells := 0, slots := 0, locals := 110 } (gPc D S0 [.ref a0, va_rf v1, va_rf v2]) (gQ D (some (.int res)) S9) (0) (0) (gF D) := by
  refine g_met (lv := [(0, va_rf (some a0)), (1, va_rf v1), (2, va_rf v2)]) hl (by decide) (by simp [lg_sl, g_rfc, g_ci, g_cj, g_cr]) (by simp [lv_args, g_rfc, g_ci, g_cj, g_cr]; try rfl) (fun p e s m args below meth c X hr hn => ?_)
  have X : gX D p l s m args meth c cX1_writeDigests 4 RX1 := X
  unfold f_X1_writeDigests at h0
  refine g_aload_n (j := 2) X dX1_writeDigests_0 rfl rfl ?_
  refine g_iconst X dX1_writeDigests_1 (v := 0) (by decide) ?_
  obtain ⟨S1, eS1, h2⟩ := g_bd h0; clear h0
  refine g_pI (ci := 5) (k := 1) X rfl il5 tyX5 tyX5_ok nmX5 (by decide) tw82 rfl (by decide) (fun _ _ _ => rfl) rfl eS1 dX1_writeDigests_2 ?_
  clear eS1
  refine g_aload_n (j := 1) X dX1_writeDigests_5 rfl rfl ?_
  obtain ⟨x3, ex3, h4⟩ := g_bd h2; clear h2
  refine g_fI (ci := 2) (k := 6) X rfl il2 (by decide) tw164 (by decide) (fun _ _ _ => rfl) ex3 dX1_writeDigests_6 ?_
  clear ex3
  refine g_if_eq (tgt := 33) X dX1_writeDigests_9 (by decide) (fun c5 => ?_) (fun c5 => ?_)
  · have h6 := g_ip h4 c5; clear h4
    refine g_sub [0, 1, 2] rfl ?_
    exact w_X1_writeDigests_B33 hl X hr S1 a0 v1 v2 h6
  · have h7 := g_in h4 c5; clear h4
    refine g_aload_n (j := 2) X dX1_writeDigests_12 rfl rfl ?_
    refine g_aload_n (j := 0) X dX1_writeDigests_13 rfl rfl ?_
    refine g_aload_n (j := 1) X dX1_writeDigests_14 rfl rfl ?_
    obtain ⟨x47, ex47, h48⟩ := g_bd h7; clear h7
    refine g_fL (ci := 2) (k := 4) X rfl il2 (by decide) tw159 (by decide) (fun _ _ _ => rfl) ex47 dX1_writeDigests_15 ?_
    clear ex47
    refine g_l2i X dX1_writeDigests_18 ?_
    refine g_aload_n (j := 1) X dX1_writeDigests_19 rfl rfl ?_
    obtain ⟨x49, ex49, h50⟩ := g_bd h48; clear h48
    refine g_fL (ci := 2) (k := 5) X rfl il2 (by decide) tw161 (by decide) (fun _ _ _ => rfl) ex49 dX1_writeDigests_20 ?_
    clear ex49
    refine g_l2i X dX1_writeDigests_23 ?_
    obtain ⟨a51, ea51, ka51, h52⟩ := g_dc h50; clear h50
    obtain ⟨x55, S53, eS53, h54⟩ := g_bi h52; clear h52
    refine g_cV (n := 2) (As := [.int x47.toInt32, .int x49.toInt32]) X (c_X1_rootOf hl D eS53) tw466 tw467 tw468 tw46 tw469 (by decide +kernel) rfl rfl ⟨Nat.le_of_ble_eq_true rfl, Nat.le_of_ble_eq_true rfl⟩ (ci := 1) rfl (by decide) ea51 ka51 rfl rfl (by simp [g_rfc, g_ci, g_cj, g_cr]) dX1_writeDigests_24 ⟨(by decide), (by decide)⟩ ?_
    clear eS53 ea51 ka51
    refine g_iconst X dX1_writeDigests_27 (v := 0) (by decide) ?_
    refine g_bipush X dX1_writeDigests_28 (v := 32) (by decide) ?_
    obtain ⟨a56, ea56, ka56, h57⟩ := g_dc h54; clear h54
    obtain ⟨S58, eS58, h59⟩ := g_bd h57; clear h57
    refine g_cV (n := 3) (As := [va_rf x55, .int 0, .int 32]) X (c_X5_addRow hl D eS58) tw560 tw220 tw221 tw45 tw222 (by decide +kernel) rfl rfl ⟨Nat.le_of_ble_eq_true rfl, Nat.le_of_ble_eq_true rfl⟩ (ci := 5) rfl (by decide) ea56 ka56 rfl rfl (Nat.le_of_ble_eq_true rfl) dX1_writeDigests_30 ⟨(by decide), (by decide)⟩ ?_
    clear eS58 ea56 ka56
    refine g_sub [0, 1, 2] rfl ?_
    exact w_X1_writeDigests_B33 hl X hr S58 a0 v1 v2 h59
def f_X1_headAt (S0 : gS) (a0 : Nat) (v1 : Int32) : Option (Option Nat × gS) :=
  if v1 < 0 then
    some (none, S0)
  else
    (fgI S0 1 8 (some a0)).bind fun x4 =>
    if x4 ≤ v1 then
      some (none, S0)
    else
      if v1 < 40 then
        (fgR S0 1 7 (some a0)).bind fun x12 =>
        (fR S0 14 x12 v1).bind fun x14 =>
        some (x14, S0)
      else
        some (none, S0)
set_option maxRecDepth 100000 in
set_option maxHeartbeats 4000000 in
theorem c_X1_headAt {l : Launch} (hl : l.stackTraces = false) (D : gD)  {S0 S9 : gS} {a0 : Nat} {v1 : Int32} {res : Option Nat} (h0 : f_X1_headAt S0 a0 v1 = some (res, S9)) : Met l yX1_headAt (gws yX1_headAt cX1_headAt 2 (some (.object "LeafWitness$Row"))) { frames := 0, cells := 0, slots := 0, locals := 0 } (gPc D S0 [.ref a0, .int v1]) (gQ D (some (va_rf res)) S9) (0) (0) (gF D) := by
  refine g_met (lv := [(0, va_rf (some a0)), (1, .int v1)]) hl (by decide) (Nat.le_of_ble_eq_true rfl) rfl (fun p e s m args below meth c X hr hn => ?_)
  have X : gX D p l s m args meth c cX1_headAt 2 RX1 := X
  unfold f_X1_headAt at h0
  refine g_iload_n (j := 1) X dX1_headAt_0 rfl rfl ?_
  refine g_if_lt (tgt := 18) X dX1_headAt_1 (by decide) (fun c1 => ?_) (fun c1 => ?_)
  · have h2 := g_ip h0 c1; clear h0
    refine g_null X dX1_headAt_18 ?_
    refine g_goto (tgt := 28) X dX1_headAt_19 (by decide) ?_
    obtain ⟨rfl, rfl⟩ := g_end h2
    exact g_aret X hr (Or.inl ⟨_, rfl⟩) (by decide) (by decide) dX1_headAt_28
  · have h3 := g_in h0 c1; clear h0
    refine g_iload_n (j := 1) X dX1_headAt_4 rfl rfl ?_
    refine g_aload_n (j := 0) X dX1_headAt_5 rfl rfl ?_
    obtain ⟨x4, ex4, h5⟩ := g_bd h3; clear h3
    refine g_fI (ci := 1) (k := 8) X rfl il1 (by decide) tw118 (by decide) (fun _ _ _ => rfl) ex4 dX1_headAt_6 ?_
    clear ex4
    refine g_icmp_ge (tgt := 18) X dX1_headAt_9 (by decide) (fun c6 => ?_) (fun c6 => ?_)
    · have h7 := g_ip h5 c6; clear h5
      refine g_null X dX1_headAt_18 ?_
      refine g_goto (tgt := 28) X dX1_headAt_19 (by decide) ?_
      obtain ⟨rfl, rfl⟩ := g_end h7
      exact g_aret X hr (Or.inl ⟨_, rfl⟩) (by decide) (by decide) dX1_headAt_28
    · have h8 := g_in h5 c6; clear h5
      refine g_iload_n (j := 1) X dX1_headAt_12 rfl rfl ?_
      refine g_bipush X dX1_headAt_13 (v := 40) (by decide) ?_
      refine g_icmp_lt (tgt := 22) X dX1_headAt_15 (by decide) (fun c9 => ?_) (fun c9 => ?_)
      · have h10 := g_ip h8 c9; clear h8
        refine g_aload_n (j := 0) X dX1_headAt_22 rfl rfl ?_
        obtain ⟨x12, ex12, h13⟩ := g_bd h10; clear h10
        refine g_fR (ci := 1) (k := 7) X rfl il1 (by decide) tw116 (by decide) (fun _ _ _ => rfl) ex12 dX1_headAt_23 ?_
        clear ex12
        refine g_iload_n (j := 1) X dX1_headAt_26 rfl rfl ?_
        obtain ⟨x14, ex14, h15⟩ := g_bd h13; clear h13
        refine g_aald14 X ex14 dX1_headAt_27 ?_
        clear ex14
        obtain ⟨rfl, rfl⟩ := g_end h15
        exact g_aret X hr (Or.inl ⟨_, rfl⟩) (by decide) (by decide) dX1_headAt_28
      · have h11 := g_in h8 c9; clear h8
        refine g_null X dX1_headAt_18 ?_
        refine g_goto (tgt := 28) X dX1_headAt_19 (by decide) ?_
        obtain ⟨rfl, rfl⟩ := g_end h11
        exact g_aret X hr (Or.inl ⟨_, rfl⟩) (by decide) (by decide) dX1_headAt_28
