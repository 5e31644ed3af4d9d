def f_X4_init (S0 : gS) (a0 : Nat) : Option gS :=
  (fnA 8 8).bind fun k1 =>
  gLet (gZ S0) fun z5 =>
  gLet (gnw S0 10 k1) fun S3 =>
  (fpR S3 4 0 (some a0) (some z5)).bind fun S7 =>
  (fnA 64 64).bind fun k9 =>
  gLet (gZ S7) fun z13 =>
  gLet (gnw S7 10 k9) fun S11 =>
  (fpR S11 4 1 (some a0) (some z13)).bind fun S15 =>
  some S15
set_option maxRecDepth 100000 in
set_option maxHeartbeats 4000000 in
theorem c_X4_init {l : Launch} (hl : l.stackTraces = false) (D : gD)  {S0 S9 : gS} {a0 : Nat} (h0 : f_X4_init S0 a0 = some S9) : Met l yX4_init (gws yX4_init cX4_init 1 none) { frames := 1, cells := 2, slots := 72, locals := 12 } (gPc D S0 [.ref a0]) (gQ D none S9) (2) (72) (gF D) := by
  refine g_met (lv := [(0, va_rf (some a0))]) hl (by decide) (Nat.le_of_ble_eq_true rfl) rfl (fun p e s m args below meth c X hr hn => ?_)
  have X : gX D p l s m args meth c cX4_init 1 RX4 := X
  have hin : meth.name = "<init>" := hn
  unfold f_X4_init at h0
  refine g_aload_n (j := 0) X dX4_init_0 rfl rfl ?_
  refine g_obji X rfl tw95 tw70 tw71 dX4_init_1 (by decide) (Nat.le_of_ble_eq_true rfl) ?_
  refine g_aload_n (j := 0) X dX4_init_4 rfl rfl ?_
  refine g_bipush X dX4_init_5 (v := 8) (by decide) ?_
  obtain ⟨k1, ek1, h2⟩ := g_bd h0; clear h0
  refine g_newa10 (cap := 8) X tw104 ek1 (by decide) (by decide) (by decide) dX4_init_7 ?_
  refine g_wid (k := 1) (n := 8) (Nat.le_refl _) (Nat.add_le_add_left (fnA_s ek1).2.2 _) ?_
  clear ek1
  obtain ⟨z5, ez5, h6⟩ := g_let h2; clear h2; rw [← ez5]; clear ez5
  obtain ⟨S3, eS3, h4⟩ := g_let h6; clear h6; rw [← eS3]; clear eS3
  obtain ⟨S7, eS7, h8⟩ := g_bd h4; clear h4
  refine g_pFa (ci := 4) (k := 0) X hin rfl il4 tyX4 tyX4_ok nmX4 (by decide) tw96 rfl rfl (by decide) (fun _ _ _ => rfl) rfl eS7 dX4_init_9 ?_
  clear eS7
  refine g_aload_n (j := 0) X dX4_init_12 rfl rfl ?_
  refine g_bipush X dX4_init_13 (v := 64) (by decide) ?_
  obtain ⟨k9, ek9, h10⟩ := g_bd h8; clear h8
  refine g_newa10 (cap := 64) X tw104 ek9 (by decide) (by decide) (by decide) dX4_init_15 ?_
  refine g_wid (k := 2) (n := 72) (Nat.le_refl _) (Nat.add_le_add_left (fnA_s ek9).2.2 _) ?_
  clear ek9
  obtain ⟨z13, ez13, h14⟩ := g_let h10; clear h10; rw [← ez13]; clear ez13
  obtain ⟨S11, eS11, h12⟩ := g_let h14; clear h14; rw [← eS11]; clear eS11
  obtain ⟨S15, eS15, h16⟩ := g_bd h12; clear h12
  refine g_pFa (ci := 4) (k := 1) X hin rfl il4 tyX4 tyX4_ok nmX4 (by decide) tw97 rfl rfl (by decide) (fun _ _ _ => rfl) rfl eS15 dX4_init_17 ?_
  clear eS15
  cases h16
  exact g_vret X hr (by decide) (by decide) dX4_init_20
def f_X0_init (S0 : gS) (a0 : Nat) : Option gS :=
  gLet (gZ S0) fun z1 =>
  gLet (gnw S0 4 4) fun S2 =>
  (f_X4_init S2 z1).bind fun S5 =>
  (fpR S5 0 0 (some a0) (some z1)).bind fun S7 =>
  (fnA 32 32).bind fun k9 =>
  gLet (gZ S7) fun z13 =>
  gLet (gnw S7 9 k9) fun S11 =>
  (fpR S11 0 1 (some a0) (some z13)).bind fun S15 =>
  (fnA 32 32).bind fun k17 =>
  gLet (gZ S15) fun z21 =>
  gLet (gnw S15 9 k17) fun S19 =>
  (fpR S19 0 2 (some a0) (some z21)).bind fun S23 =>
  some S23
set_option maxRecDepth 100000 in
set_option maxHeartbeats 4000000 in
theorem c_X0_init {l : Launch} (hl : l.stackTraces = false) (D : gD)  {S0 S9 : gS} {a0 : Nat} (h0 : f_X0_init S0 a0 = some S9) : Met l yX0_init (gws yX0_init cX0_init 1 none) { frames := 2, cells := 5, slots := 140, locals := 32 } (gPc D S0 [.ref a0]) (gQ D none S9) (5) (140) (gF D) := by
  refine g_met (lv := [(0, va_rf (some a0))]) hl (by decide) (Nat.le_of_ble_eq_true rfl) rfl (fun p e s m args below meth c X hr hn => ?_)
  have X : gX D p l s m args meth c cX0_init 1 RX0 := X
  have hin : meth.name = "<init>" := hn
  unfold f_X0_init at h0
  refine g_aload_n (j := 0) X dX0_init_0 rfl rfl ?_
  refine g_obji X rfl tw178 tw70 tw71 dX0_init_1 (by decide) (Nat.le_of_ble_eq_true rfl) ?_
  refine g_aload_n (j := 0) X dX0_init_4 rfl rfl ?_
  refine g_new (ci := 4) X rfl (by decide) il4 tyX4 tyX4_ok (by decide) tw179 tw92 tw47 (by decide) (by decide) dX0_init_5 ?_
  obtain ⟨z1, ez1, h4⟩ := g_let h0; clear h0; rw [← ez1]; clear ez1
  obtain ⟨S2, eS2, h3⟩ := g_let h4; clear h4; rw [← eS2]; clear eS2
  refine g_dup X dX0_init_8 (g_rfc _) ?_
  obtain ⟨S5, eS5, h6⟩ := g_bd h3; clear h3
  refine g_cN (n := 0) (As := []) X (c_X4_init hl D eS5) X.K.2.2.2.2.2.2.2.2.2.2.2.1 tw93 tw47 tw94 rfl (by decide +kernel) rfl rfl ⟨Nat.le_of_ble_eq_true rfl, Nat.le_of_ble_eq_true rfl⟩ rfl rfl rfl (Nat.le_of_ble_eq_true rfl) dX0_init_9 ⟨(by decide), (by decide)⟩ ?_
  clear eS5
  obtain ⟨S7, eS7, h8⟩ := g_bd h6; clear h6
  refine g_pFo (ci := 0) (k := 0) X hin rfl il0 tyX0 tyX0_ok nmX0 (by decide) tw180 rfl rfl (by decide) (fun _ _ _ => rfl) rfl eS7 dX0_init_12 ?_
  clear eS7
  refine g_aload_n (j := 0) X dX0_init_15 rfl rfl ?_
  refine g_bipush X dX0_init_16 (v := 32) (by decide) ?_
  obtain ⟨k9, ek9, h10⟩ := g_bd h8; clear h8
  refine g_newa9 (cap := 32) X tw85 ek9 (by decide) (by decide) (by decide) dX0_init_18 ?_
  refine g_wid (k := 4) (n := 108) (Nat.le_refl _) (Nat.add_le_add_left (fnA_s ek9).2.2 _) ?_
  clear ek9
  obtain ⟨z13, ez13, h14⟩ := g_let h10; clear h10; rw [← ez13]; clear ez13
  obtain ⟨S11, eS11, h12⟩ := g_let h14; clear h14; rw [← eS11]; clear eS11
  obtain ⟨S15, eS15, h16⟩ := g_bd h12; clear h12
  refine g_pFa (ci := 0) (k := 1) X hin rfl il0 tyX0 tyX0_ok nmX0 (by decide) tw181 rfl rfl (by decide) (fun _ _ _ => rfl) rfl eS15 dX0_init_20 ?_
  clear eS15
  refine g_aload_n (j := 0) X dX0_init_23 rfl rfl ?_
  refine g_bipush X dX0_init_24 (v := 32) (by decide) ?_
  obtain ⟨k17, ek17, h18⟩ := g_bd h16; clear h16
  refine g_newa9 (cap := 32) X tw85 ek17 (by decide) (by decide) (by decide) dX0_init_26 ?_
  refine g_wid (k := 5) (n := 140) (Nat.le_refl _) (Nat.add_le_add_left (fnA_s ek17).2.2 _) ?_
  clear ek17
  obtain ⟨z21, ez21, h22⟩ := g_let h18; clear h18; rw [← ez21]; clear ez21
  obtain ⟨S19, eS19, h20⟩ := g_let h22; clear h22; rw [← eS19]; clear eS19
  obtain ⟨S23, eS23, h24⟩ := g_bd h20; clear h20
  refine g_pFa (ci := 0) (k := 2) X hin rfl il0 tyX0 tyX0_ok nmX0 (by decide) tw182 rfl rfl (by decide) (fun _ _ _ => rfl) rfl eS23 dX0_init_28 ?_
  clear eS23
  cases h24
  exact g_vret X hr (by decide) (by decide) dX0_init_31
def f_X3_holds (S0 : gS) (v0 : Option Nat) (v1 : Int32) (v2 : Int32) : Option (Int32 × gS) :=
  gnl v0 (
    some (0, S0)
  ) (
    if v1 < 0 then
      some (0, S0)
    else
      if v2 < 0 then
        some (0, S0)
      else
        (fN S0 v0).bind fun x11 =>
        if x11 < v1 then
          some (0, S0)
        else
          (fN S0 v0).bind fun x16 =>
          if (x16 - v1) < v2 then
            some (0, S0)
          else
            some (1, S0)
  )
set_option maxRecDepth 100000 in
set_option maxHeartbeats 4000000 in
theorem c_X3_holds {l : Launch} (hl : l.stackTraces = false) (D : gD)  {S0 S9 : gS} {v0 : Option Nat} {v1 : Int32} {v2 : Int32} {res : Int32} (h0 : f_X3_holds S0 v0 v1 v2 = some (res, S9)) : Met l yX3_holds (gws yX3_holds cX3_holds 3 (some .boolean)) { frames := 0, cells := 0, slots := 0, locals := 0 } (gPc D S0 [va_rf v0, .int v1, .int v2]) (gQ D (some (.int res)) S9) (0) (0) (gF D) := by
  refine g_met (lv := [(0, va_rf v0), (1, .int v1), (2, .int v2)]) hl (by decide) (by simp [lg_sl, g_rfc, g_ci, g_cj, g_cr]) (by simp [lv_args, g_rfc, g_ci, g_cj, g_cr]; try rfl) (fun p e s m args below meth c X hr hn => ?_)
  have X : gX D p l s m args meth c cX3_holds 3 RX3 := X
  unfold f_X3_holds at h0
  refine g_aload_n (j := 0) X dX3_holds_0 rfl rfl ?_
  refine g_ifnull (tgt := 30) X dX3_holds_1 (by decide) (fun c3 => ?_) (fun q4 c3 => ?_)
  · have h1 := g_nln h0 c3; clear h0
    refine g_iconst X dX3_holds_30 (v := 0) (by decide) ?_
    obtain ⟨rfl, rfl⟩ := g_end h1
    exact g_zret X hr (Or.inl rfl) (by decide) (by decide) dX3_holds_31
  · have h2 := g_nls h0 c3; clear h0
    refine g_iload_n (j := 1) X dX3_holds_4 rfl rfl ?_
    refine g_if_lt (tgt := 30) X dX3_holds_5 (by decide) (fun c5 => ?_) (fun c5 => ?_)
    · have h6 := g_ip h2 c5; clear h2
      refine g_iconst X dX3_holds_30 (v := 0) (by decide) ?_
      obtain ⟨rfl, rfl⟩ := g_end h6
      exact g_zret X hr (Or.inl rfl) (by decide) (by decide) dX3_holds_31
    · have h7 := g_in h2 c5; clear h2
      refine g_iload_n (j := 2) X dX3_holds_8 rfl rfl ?_
      refine g_if_lt (tgt := 30) X dX3_holds_9 (by decide) (fun c8 => ?_) (fun c8 => ?_)
      · have h9 := g_ip h7 c8; clear h7
        refine g_iconst X dX3_holds_30 (v := 0) (by decide) ?_
        obtain ⟨rfl, rfl⟩ := g_end h9
        exact g_zret X hr (Or.inl rfl) (by decide) (by decide) dX3_holds_31
      · have h10 := g_in h7 c8; clear h7
        refine g_iload_n (j := 1) X dX3_holds_12 rfl rfl ?_
        refine g_aload_n (j := 0) X dX3_holds_13 rfl rfl ?_
        obtain ⟨x11, ex11, h12⟩ := g_bd h10; clear h10
        refine g_alen X ex11 dX3_holds_14 ?_
        clear ex11
        refine g_icmp_gt (tgt := 30) X dX3_holds_15 (by decide) (fun c13 => ?_) (fun c13 => ?_)
        · have h14 := g_ip h12 c13; clear h12
          refine g_iconst X dX3_holds_30 (v := 0) (by decide) ?_
          obtain ⟨rfl, rfl⟩ := g_end h14
          exact g_zret X hr (Or.inl rfl) (by decide) (by decide) dX3_holds_31
        · have h15 := g_in h12 c13; clear h12
          refine g_iload_n (j := 2) X dX3_holds_18 rfl rfl ?_
          refine g_aload_n (j := 0) X dX3_holds_19 rfl rfl ?_
          obtain ⟨x16, ex16, h17⟩ := g_bd h15; clear h15
          refine g_alen X ex16 dX3_holds_20 ?_
          clear ex16
          refine g_iload_n (j := 1) X dX3_holds_21 rfl rfl ?_
          refine g_isub X dX3_holds_22 ?_
          refine g_icmp_gt (tgt := 30) X dX3_holds_23 (by decide) (fun c18 => ?_) (fun c18 => ?_)
          · have h19 := g_ip h17 c18; clear h17
            refine g_iconst X dX3_holds_30 (v := 0) (by decide) ?_
            obtain ⟨rfl, rfl⟩ := g_end h19
            exact g_zret X hr (Or.inl rfl) (by decide) (by decide) dX3_holds_31
          · have h20 := g_in h17 c18; clear h17
            refine g_iconst X dX3_holds_26 (v := 1) (by decide) ?_
            refine g_goto (tgt := 31) X dX3_holds_27 (by decide) ?_
            obtain ⟨rfl, rfl⟩ := g_end h20
            exact g_zret X hr (Or.inr rfl) (by decide) (by decide) dX3_holds_31
def f_X3_copy (S0 : gS) (v0 : Option Nat) (v1 : Int32) (v2 : Option Nat) (v3 : Int32) (v4 : Int32) : Option gS :=
  gBi (f_X3_holds S0 v0 v1 v4) fun x3 S1 =>
  if x3 = 0 then
    some S1
  else
    gBi (f_X3_holds S1 v2 v3 v4) fun x9 S7 =>
    if x9 = 0 then
      some S7
    else
      (fcp S7 v0 v1 v2 v3 v4).bind fun S13 =>
      some S13
set_option maxRecDepth 100000 in
set_option maxHeartbeats 4000000 in
theorem c_X3_copy {l : Launch} (hl : l.stackTraces = false) (D : gD)  {S0 S9 : gS} {v0 : Option Nat} {v1 : Int32} {v2 : Option Nat} {v3 : Int32} {v4 : Int32} (h0 : f_X3_copy S0 v0 v1 v2 v3 v4 = some S9) : Met l yX3_copy (gws yX3_copy cX3_copy 5 none) { frames := 1, cells := 0, slots := 0, locals := 40 } (gPc D S0 [va_rf v0, .int v1, va_rf v2, .int v3, .int v4]) (gQ D none S9) (0) (0) (gF D) := by
  refine g_met (lv := [(0, va_rf v0), (1, .int v1), (2, va_rf v2), (3, .int v3), (4, .int v4)]) hl (by decide) (by simp [lg_sl, g_rfc, g_ci, g_cj, g_cr]) (by simp [lv_args, g_rfc, g_ci, g_cj, g_cr]; try rfl) (fun p e s m args below meth c X hr hn => ?_)
  have X : gX D p l s m args meth c cX3_copy 5 RX3 := X
  unfold f_X3_copy at h0
  refine g_aload_n (j := 0) X dX3_copy_0 rfl rfl ?_
  refine g_iload_n (j := 1) X dX3_copy_1 rfl rfl ?_
  refine g_iload (j := 4) X dX3_copy_2 rfl ?_
  obtain ⟨x3, S1, eS1, h2⟩ := g_bi h0; clear h0
  refine g_cS (n := 3) (As := [va_rf v0, .int v1, .int v4]) X (c_X3_holds hl D eS1) tw229 tw224 tw52 tw225 (by decide +kernel) rfl rfl ⟨Nat.le_of_ble_eq_true rfl, Nat.le_of_ble_eq_true rfl⟩ rfl rfl (Nat.le_of_ble_eq_true rfl) dX3_copy_4 ⟨(by decide), (by decide)⟩ ?_
  clear eS1
  refine g_if_eq (tgt := 29) X dX3_copy_7 (by decide) (fun c4 => ?_) (fun c4 => ?_)
  · have h5 := g_ip h2 c4; clear h2
    cases h5
    exact g_vret X hr (by decide) (by decide) dX3_copy_29
  · have h6 := g_in h2 c4; clear h2
    refine g_aload_n (j := 2) X dX3_copy_10 rfl rfl ?_
    refine g_iload_n (j := 3) X dX3_copy_11 rfl rfl ?_
    refine g_iload (j := 4) X dX3_copy_12 rfl ?_
    obtain ⟨x9, S7, eS7, h8⟩ := g_bi h6; clear h6
    refine g_cS (n := 3) (As := [va_rf v2, .int v3, .int v4]) X (c_X3_holds hl D eS7) tw229 tw224 tw52 tw225 (by decide +kernel) rfl rfl ⟨Nat.le_of_ble_eq_true rfl, Nat.le_of_ble_eq_true rfl⟩ rfl rfl (Nat.le_of_ble_eq_true rfl) dX3_copy_14 ⟨(by decide), (by decide)⟩ ?_
    clear eS7
    refine g_if_eq (tgt := 29) X dX3_copy_17 (by decide) (fun c10 => ?_) (fun c10 => ?_)
    · have h11 := g_ip h8 c10; clear h8
      cases h11
      exact g_vret X hr (by decide) (by decide) dX3_copy_29
    · have h12 := g_in h8 c10; clear h8
      refine g_aload_n (j := 0) X dX3_copy_20 rfl rfl ?_
      refine g_iload_n (j := 1) X dX3_copy_21 rfl rfl ?_
      refine g_aload_n (j := 2) X dX3_copy_22 rfl rfl ?_
      refine g_iload_n (j := 3) X dX3_copy_23 rfl rfl ?_
      refine g_iload (j := 4) X dX3_copy_24 rfl ?_
      obtain ⟨S13, eS13, h14⟩ := g_bd h12; clear h12
      refine g_copy X tw230 tw232 tw231 tw53 eS13 (by decide) (by decide) dX3_copy_26 ?_
      clear eS13
      cases h14
      exact g_vret X hr (by decide) (by decide) dX3_copy_29
def f_X0_start (S0 : gS) (a0 : Nat) (v1 : Option Nat) (v2 : Int32) : Option gS :=
  (fgR S0 0 1 (some a0)).bind fun x1 =>
  (f_X3_copy S0 v1 v2 x1 0 32).bind fun S3 =>
  (fgR S3 0 2 (some a0)).bind fun x5 =>
  (f_X3_copy S3 v1 v2 x5 0 32).bind fun S7 =>
  some S7
set_option maxRecDepth 100000 in
set_option maxHeartbeats 4000000 in
theorem c_X0_start {l : Launch} (hl : l.stackTraces = false) (D : gD)  {S0 S9 : gS} {a0 : Nat} {v1 : Option Nat} {v2 : Int32} (h0 : f_X0_start S0 a0 v1 v2 = some S9) : Met l yX0_start (gws yX0_start cX0_start 3 none) { frames := 2, cells := 0, slots := 0, locals := 64 } (gPc D S0 [.ref a0, va_rf v1, .int v2]) (gQ D none S9) (0) (0) (gF D) := by
  refine g_met (lv := [(0, va_rf (some a0)), (1, va_rf v1), (2, .int v2)]) hl (by decide) (by simp [lg_sl, g_rfc, g_ci, g_cj, g_cr]) (by simp [lv_args, g_rfc, g_ci, g_cj, g_cr]; try rfl) (fun p e s m args below meth c X hr hn => ?_)
  have X : gX D p l s m args meth c cX0_start 3 RX0 := X
  unfold f_X0_start at h0
  refine g_aload_n (j := 1) X dX0_start_0 rfl rfl ?_
  refine g_iload_n (j := 2) X dX0_start_1 rfl rfl ?_
  refine g_aload_n (j := 0) X dX0_start_2 rfl rfl ?_
  obtain ⟨x1, ex1, h2⟩ := g_bd h0; clear h0
  refine g_fR (ci := 0) (k := 1) X rfl il0 (by decide) tw181 (by decide) (fun _ _ _ => rfl) ex1 dX0_start_3 ?_
  clear ex1
  refine g_iconst X dX0_start_6 (v := 0) (by decide) ?_
  refine g_bipush X dX0_start_7 (v := 32) (by decide) ?_
  obtain ⟨S3, eS3, h4⟩ := g_bd h2; clear h2
  refine g_cS (n := 5) (As := [va_rf v1, .int v2, va_rf x1, .int 0, .int 32]) X (c_X3_copy hl D eS3) tw280 tw227 tw52 tw228 (by decide +kernel) rfl rfl ⟨Nat.le_of_ble_eq_true rfl, Nat.le_of_ble_eq_true rfl⟩ rfl rfl (Nat.le_of_ble_eq_true rfl) dX0_start_9 ⟨(by decide), (by decide)⟩ ?_
  clear eS3
  refine g_aload_n (j := 1) X dX0_start_12 rfl rfl ?_
  refine g_iload_n (j := 2) X dX0_start_13 rfl rfl ?_
  refine g_aload_n (j := 0) X dX0_start_14 rfl rfl ?_
  obtain ⟨x5, ex5, h6⟩ := g_bd h4; clear h4
  refine g_fR (ci := 0) (k := 2) X rfl il0 (by decide) tw182 (by decide) (fun _ _ _ => rfl) ex5 dX0_start_15 ?_
  clear ex5
  refine g_iconst X dX0_start_18 (v := 0) (by decide) ?_
  refine g_bipush X dX0_start_19 (v := 32) (by decide) ?_
  obtain ⟨S7, eS7, h8⟩ := g_bd h6; clear h6
  refine g_cS (n := 5) (As := [va_rf v1, .int v2, va_rf x5, .int 0, .int 32]) X (c_X3_copy hl D eS7) tw280 tw227 tw52 tw228 (by decide +kernel) rfl rfl ⟨Nat.le_of_ble_eq_true rfl, Nat.le_of_ble_eq_true rfl⟩ rfl rfl (Nat.le_of_ble_eq_true rfl) dX0_start_21 ⟨(by decide), (by decide)⟩ ?_
  clear eS7
  cases h8
  exact g_vret X hr (by decide) (by decide) dX0_start_24
def f_X4_begin (S0 : gS) (a0 : Nat) : Option gS :=
  (fgR S0 4 0 (some a0)).bind fun x1 =>
  (fcS S0 x1).bind fun S3 =>
  (fpI S3 4 2 (some a0) 0).bind fun S5 =>
  (fpI S5 4 3 (some a0) 0).bind fun S7 =>
  some S7
set_option maxRecDepth 100000 in
set_option maxHeartbeats 4000000 in
theorem c_X4_begin {l : Launch} (hl : l.stackTraces = false) (D : gD)  {S0 S9 : gS} {a0 : Nat} (h0 : f_X4_begin S0 a0 = some S9) : Met l yX4_begin (gws yX4_begin cX4_begin 1 none) { frames := 1, cells := 0, slots := 0, locals := 40 } (gPc D S0 [.ref a0]) (gQ D none S9) (0) (0) (gF D) := by
  refine g_met (lv := [(0, va_rf (some a0))]) hl (by decide) (Nat.le_of_ble_eq_true rfl) rfl (fun p e s m args below meth c X hr hn => ?_)
  have X : gX D p l s m args meth c cX4_begin 1 RX4 := X
  unfold f_X4_begin at h0
  refine g_getS1 X tw294 dX4_begin_0 ?_
  refine g_iconst X dX4_begin_3 (v := 0) (by decide) ?_
  refine g_aload_n (j := 0) X dX4_begin_4 rfl rfl ?_
  obtain ⟨x1, ex1, h2⟩ := g_bd h0; clear h0
  refine g_fR (ci := 4) (k := 0) X rfl il4 (by decide) tw96 (by decide) (fun _ _ _ => rfl) ex1 dX4_begin_5 ?_
  clear ex1
  refine g_iconst X dX4_begin_8 (v := 0) (by decide) ?_
  refine g_bipush X dX4_begin_9 (v := 8) (by decide) ?_
  obtain ⟨S3, eS3, h4⟩ := g_bd h2; clear h2
  refine g_copyS X tw295 tw232 tw231 tw53 eS3 (by decide) (by decide) dX4_begin_11 ?_
  clear eS3
  refine g_aload_n (j := 0) X dX4_begin_14 rfl rfl ?_
  refine g_iconst X dX4_begin_15 (v := 0) (by decide) ?_
  obtain ⟨S5, eS5, h6⟩ := g_bd h4; clear h4
  refine g_pI (ci := 4) (k := 2) X rfl il4 tyX4 tyX4_ok nmX4 (by decide) tw98 rfl (by decide) (fun _ _ _ => rfl) rfl eS5 dX4_begin_16 ?_
  clear eS5
  refine g_aload_n (j := 0) X dX4_begin_19 rfl rfl ?_
  refine g_iconst X dX4_begin_20 (v := 0) (by decide) ?_
  obtain ⟨S7, eS7, h8⟩ := g_bd h6; clear h6
  refine g_pI (ci := 4) (k := 3) X rfl il4 tyX4 tyX4_ok nmX4 (by decide) tw99 rfl (by decide) (fun _ _ _ => rfl) rfl eS7 dX4_begin_21 ?_
  clear eS7
  cases h8
  exact g_vret X hr (by decide) (by decide) dX4_begin_24
def f_X4_put (S0 : gS) (a0 : Nat) (v1 : Int32) : Option gS :=
  (fgI S0 4 2 (some a0)).bind fun x1 =>
  gLet ((x1 >>> (2 &&& 31)) &&& 15) fun x3 =>
  (fgR S0 4 1 (some a0)).bind fun x5 =>
  (fgR S0 4 1 (some a0)).bind fun x7 =>
  (fI S0 10 x7 x3).bind fun x9 =>
  (faI S0 x5 x3 ((x9 <<< (8 &&& 31)) ||| (v1 &&& 255))).bind fun S11 =>
  (fgI S11 4 3 (some a0)).bind fun x13 =>
  (fpI S11 4 3 (some a0) (x13 + 1)).bind fun S15 =>
  (fgI S15 4 2 (some a0)).bind fun x17 =>
  (fpI S15 4 2 (some a0) (x17 + 1)).bind fun S19 =>
  some S19
set_option maxRecDepth 100000 in
set_option maxHeartbeats 4000000 in
theorem c_X4_put {l : Launch} (hl : l.stackTraces = false) (D : gD)  {S0 S9 : gS} {a0 : Nat} {v1 : Int32} (h0 : f_X4_put S0 a0 v1 = some S9) : Met l yX4_put (gws yX4_put cX4_put 3 none) { frames := 0, cells := 0, slots := 0, locals := 0 } (gPc D S0 [.ref a0, .int v1]) (gQ D none S9) (0) (0) (gF D) := by
  refine g_met (lv := [(0, va_rf (some a0)), (1, .int v1)]) hl (by decide) (Nat.le_of_ble_eq_true rfl) rfl (fun p e s m args below meth c X hr hn => ?_)
  have X : gX D p l s m args meth c cX4_put 3 RX4 := X
  unfold f_X4_put at h0
  refine g_aload_n (j := 0) X dX4_put_0 rfl rfl ?_
  obtain ⟨x1, ex1, h2⟩ := g_bd h0; clear h0
  refine g_fI (ci := 4) (k := 2) X rfl il4 (by decide) tw98 (by decide) (fun _ _ _ => rfl) ex1 dX4_put_1 ?_
  clear ex1
  refine g_iconst X dX4_put_4 (v := 2) (by decide) ?_
  refine g_ishr X dX4_put_5 ?_
  refine g_bipush X dX4_put_6 (v := 15) (by decide) ?_
  refine g_iand X dX4_put_8 ?_
  obtain ⟨x3, ex3, h4⟩ := g_let h2; clear h2; rw [← ex3]; clear ex3
  refine g_istore_n (i := 2) (lv' := [(2, .int x3), (0, va_rf (some a0)), (1, .int v1)]) X dX4_put_9 rfl (by decide) rfl ?_
  refine g_aload_n (j := 1) X dX4_put_10 rfl rfl ?_
  obtain ⟨x5, ex5, h6⟩ := g_bd h4; clear h4
  refine g_fR (ci := 4) (k := 1) X rfl il4 (by decide) tw97 (by decide) (fun _ _ _ => rfl) ex5 dX4_put_11 ?_
  clear ex5
  refine g_iload_n (j := 0) X dX4_put_14 rfl rfl ?_
  refine g_aload_n (j := 1) X dX4_put_15 rfl rfl ?_
  obtain ⟨x7, ex7, h8⟩ := g_bd h6; clear h6
  refine g_fR (ci := 4) (k := 1) X rfl il4 (by decide) tw97 (by decide) (fun _ _ _ => rfl) ex7 dX4_put_16 ?_
  clear ex7
  refine g_iload_n (j := 0) X dX4_put_19 rfl rfl ?_
  obtain ⟨x9, ex9, h10⟩ := g_bd h8; clear h8
  refine g_iald X ex9 dX4_put_20 ?_
  clear ex9
  refine g_bipush X dX4_put_21 (v := 8) (by decide) ?_
  refine g_ishl X dX4_put_23 ?_
  refine g_iload_n (j := 2) X dX4_put_24 rfl rfl ?_
  refine g_sipush X dX4_put_25 (v := 255) (by decide) ?_
  refine g_iand X dX4_put_28 ?_
  refine g_ior X dX4_put_29 ?_
  obtain ⟨S11, eS11, h12⟩ := g_bd h10; clear h10
  refine g_iast X eS11 dX4_put_30 ?_
  clear eS11
  refine g_aload_n (j := 1) X dX4_put_31 rfl rfl ?_
  refine g_dup X dX4_put_32 (g_rfc _) ?_
  obtain ⟨x13, ex13, h14⟩ := g_bd h12; clear h12
  refine g_fI (ci := 4) (k := 3) X rfl il4 (by decide) tw99 (by decide) (fun _ _ _ => rfl) ex13 dX4_put_33 ?_
  clear ex13
  refine g_iconst X dX4_put_36 (v := 1) (by decide) ?_
  refine g_iadd X dX4_put_37 ?_
  obtain ⟨S15, eS15, h16⟩ := g_bd h14; clear h14
  refine g_pI (ci := 4) (k := 3) X rfl il4 tyX4 tyX4_ok nmX4 (by decide) tw99 rfl (by decide) (fun _ _ _ => rfl) rfl eS15 dX4_put_38 ?_
  clear eS15
  refine g_aload_n (j := 1) X dX4_put_41 rfl rfl ?_
  refine g_dup X dX4_put_42 (g_rfc _) ?_
  obtain ⟨x17, ex17, h18⟩ := g_bd h16; clear h16
  refine g_fI (ci := 4) (k := 2) X rfl il4 (by decide) tw98 (by decide) (fun _ _ _ => rfl) ex17 dX4_put_43 ?_
  clear ex17
  refine g_iconst X dX4_put_46 (v := 1) (by decide) ?_
  refine g_iadd X dX4_put_47 ?_
  obtain ⟨S19, eS19, h20⟩ := g_bd h18; clear h18
  refine g_pI (ci := 4) (k := 2) X rfl il4 tyX4 tyX4_ok nmX4 (by decide) tw98 rfl (by decide) (fun _ _ _ => rfl) rfl eS19 dX4_put_48 ?_
  clear eS19
  cases h20
  exact g_vret X hr (by decide) (by decide) dX4_put_51
def f_X4_mix_L182 : Nat → gS → Nat → Int32 → Int32 → Int32 → Int32 → Int32 → Int32 → Int32 → Int32 → Int32 → Option gS
  | 0, _, _, _, _, _, _, _, _, _, _, _ => none
  | k + 1, S0, a0, v1, v2, v3, v4, v5, v6, v7, v8, v9 =>
    if 64 ≤ v9 then
      (fgR S0 4 0 (some a0)).bind fun x39 =>
      (fI S0 10 x39 0).bind fun x41 =>
      (faI S0 x39 0 (x41 + v1)).bind fun S43 =>
      (fgR S43 4 0 (some a0)).bind fun x45 =>
      (fI S43 10 x45 1).bind fun x47 =>
      (faI S43 x45 1 (x47 + v2)).bind fun S49 =>
      (fgR S49 4 0 (some a0)).bind fun x51 =>
      (fI S49 10 x51 2).bind fun x53 =>
      (faI S49 x51 2 (x53 + v3)).bind fun S55 =>
      (fgR S55 4 0 (some a0)).bind fun x57 =>
      (fI S55 10 x57 3).bind fun x59 =>
      (faI S55 x57 3 (x59 + v4)).bind fun S61 =>
      (fgR S61 4 0 (some a0)).bind fun x63 =>
      (fI S61 10 x63 4).bind fun x65 =>
      (faI S61 x63 4 (x65 + v5)).bind fun S67 =>
      (fgR S67 4 0 (some a0)).bind fun x69 =>
      (fI S67 10 x69 5).bind fun x71 =>
      (faI S67 x69 5 (x71 + v6)).bind fun S73 =>
      (fgR S73 4 0 (some a0)).bind fun x75 =>
      (fI S73 10 x75 6).bind fun x77 =>
      (faI S73 x75 6 (x77 + v7)).bind fun S79 =>
      (fgR S79 4 0 (some a0)).bind fun x81 =>
      (fI S79 10 x81 7).bind fun x83 =>
      (faI S79 x81 7 (x83 + v8)).bind fun S85 =>
      (fpI S85 4 2 (some a0) 0).bind fun S87 =>
      some S87
    else
      gLet ((((g_ushr v5 6) ||| (v5 <<< (26 &&& 31))) ^^^ ((g_ushr v5 11) ||| (v5 <<< (21 &&& 31)))) ^^^ ((g_ushr v5 25) ||| (v5 <<< (7 &&& 31)))) fun x89 =>
      gLet ((v5 &&& v6) ^^^ ((v5 ^^^ (-1)) &&& v7)) fun x91 =>
      (fT v9).bind fun x93 =>
      (fgR S0 4 1 (some a0)).bind fun x95 =>
      (fI S0 10 x95 v9).bind fun x97 =>
      gLet ((((v8 + x89) + x91) + x93) + x97) fun x99 =>
      gLet ((((g_ushr v1 2) ||| (v1 <<< (30 &&& 31))) ^^^ ((g_ushr v1 13) ||| (v1 <<< (19 &&& 31)))) ^^^ ((g_ushr v1 22) ||| (v1 <<< (10 &&& 31)))) fun x101 =>
      gLet (((v1 &&& v2) ^^^ (v1 &&& v3)) ^^^ (v2 &&& v3)) fun x103 =>
      gLet (v4 + x99) fun x105 =>
      gLet ((x99 + x101) + x103) fun x107 =>
      gLet (v9 + 1) fun x109 =>
      f_X4_mix_L182 k S0 a0 x107 v1 v2 v3 x105 v5 v6 v7 x109
set_option maxRecDepth 100000 in
set_option maxHeartbeats 4000000 in
theorem w_X4_mix_L182 {p : Program} {l : Launch} {e : Env} {s : State} {m : MethodId} {args : Array Value} {below : List Frame} {meth : Method} {c : Code} {D : gD} {S9 : gS}  (hl : l.stackTraces = false) (X : gX D p l s m args meth c cX4_mix 15 RX4) (hr : meth.sig.returnType = none) : ∀ (k : Nat) (S0 : gS) (a0 : Nat) (v1 : Int32) (v2 : Int32) (v3 : Int32) (v4 : Int32) (v5 : Int32) (v6 : Int32) (v7 : Int32) (v8 : Int32) (v9 : Int32), f_X4_mix_L182 k S0 a0 v1 v2 v3 v4 v5 v6 v7 v8 v9 = some S9 → gJ D p l e { frames := 0, cells := 0, slots := 0, locals := 0 } s m args below meth c (MQ below (gQ D none S9) args s (0) (0) (gF D)) 15 (0) (0) S0 182 [(0, va_rf (some a0)), (1, .int v1), (2, .int v2), (3, .int v3), (4, .int v4), (5, .int v5), (6, .int v6), (7, .int v7), (8, .int v8), (9, .int v9)] [] := by
  intro k
  induction k with
  | zero => intro S0 a0 v1 v2 v3 v4 v5 v6 v7 v8 v9 h0; cases h0
  | succ k ih =>
    intro S0 a0 v1 v2 v3 v4 v5 v6 v7 v8 v9 h0
    have h0 := h0
    unfold f_X4_mix_L182 at h0
    refine g_iload (j := 9) X dX4_mix_182 rfl ?_
    refine g_bipush X dX4_mix_184 (v := 64) (by decide) ?_
    refine g_icmp_ge (tgt := 350) X dX4_mix_186 (by decide) (fun c36 => ?_) (fun c36 => ?_)
    · have h37 := g_ip h0 c36; clear h0
      refine g_aload_n (j := 0) X dX4_mix_350 rfl rfl ?_
      obtain ⟨x39, ex39, h40⟩ := g_bd h37; clear h37
      refine g_fR (ci := 4) (k := 0) X rfl il4 (by decide) tw96 (by decide) (fun _ _ _ => rfl) ex39 dX4_mix_351 ?_
      clear ex39
      refine g_iconst X dX4_mix_354 (v := 0) (by decide) ?_
      refine g_dup2 X dX4_mix_355 rfl (g_rfc _) ?_
      obtain ⟨x41, ex41, h42⟩ := g_bd h40; clear h40
      refine g_iald X ex41 dX4_mix_356 ?_
      clear ex41
      refine g_iload_n (j := 1) X dX4_mix_357 rfl rfl ?_
      refine g_iadd X dX4_mix_358 ?_
      obtain ⟨S43, eS43, h44⟩ := g_bd h42; clear h42
      refine g_iast X eS43 dX4_mix_359 ?_
      clear eS43
      refine g_aload_n (j := 0) X dX4_mix_360 rfl rfl ?_
      obtain ⟨x45, ex45, h46⟩ := g_bd h44; clear h44
      refine g_fR (ci := 4) (k := 0) X rfl il4 (by decide) tw96 (by decide) (fun _ _ _ => rfl) ex45 dX4_mix_361 ?_
      clear ex45
      refine g_iconst X dX4_mix_364 (v := 1) (by decide) ?_
      refine g_dup2 X dX4_mix_365 rfl (g_rfc _) ?_
      obtain ⟨x47, ex47, h48⟩ := g_bd h46; clear h46
      refine g_iald X ex47 dX4_mix_366 ?_
      clear ex47
      refine g_iload_n (j := 2) X dX4_mix_367 rfl rfl ?_
      refine g_iadd X dX4_mix_368 ?_
      obtain ⟨S49, eS49, h50⟩ := g_bd h48; clear h48
      refine g_iast X eS49 dX4_mix_369 ?_
      clear eS49
      refine g_aload_n (j := 0) X dX4_mix_370 rfl rfl ?_
      obtain ⟨x51, ex51, h52⟩ := g_bd h50; clear h50
      refine g_fR (ci := 4) (k := 0) X rfl il4 (by decide) tw96 (by decide) (fun _ _ _ => rfl) ex51 dX4_mix_371 ?_
      clear ex51
      refine g_iconst X dX4_mix_374 (v := 2) (by decide) ?_
      refine g_dup2 X dX4_mix_375 rfl (g_rfc _) ?_
      obtain ⟨x53, ex53, h54⟩ := g_bd h52; clear h52
      refine g_iald X ex53 dX4_mix_376 ?_
      clear ex53
      refine g_iload_n (j := 3) X dX4_mix_377 rfl rfl ?_
      refine g_iadd X dX4_mix_378 ?_
      obtain ⟨S55, eS55, h56⟩ := g_bd h54; clear h54
      refine g_iast X eS55 dX4_mix_379 ?_
      clear eS55
      refine g_aload_n (j := 0) X dX4_mix_380 rfl rfl ?_
      obtain ⟨x57, ex57, h58⟩ := g_bd h56; clear h56
      refine g_fR (ci := 4) (k := 0) X rfl il4 (by decide) tw96 (by decide) (fun _ _ _ => rfl) ex57 dX4_mix_381 ?_
      clear ex57
      refine g_iconst X dX4_mix_384 (v := 3) (by decide) ?_
      refine g_dup2 X dX4_mix_385 rfl (g_rfc _) ?_
      obtain ⟨x59, ex59, h60⟩ := g_bd h58; clear h58
      refine g_iald X ex59 dX4_mix_386 ?_
      clear ex59
      refine g_iload (j := 4) X dX4_mix_387 rfl ?_
      refine g_iadd X dX4_mix_389 ?_
      obtain ⟨S61, eS61, h62⟩ := g_bd h60; clear h60
      refine g_iast X eS61 dX4_mix_390 ?_
      clear eS61
      refine g_aload_n (j := 0) X dX4_mix_391 rfl rfl ?_
      obtain ⟨x63, ex63, h64⟩ := g_bd h62; clear h62
      refine g_fR (ci := 4) (k := 0) X rfl il4 (by decide) tw96 (by decide) (fun _ _ _ => rfl) ex63 dX4_mix_392 ?_
      clear ex63
      refine g_iconst X dX4_mix_395 (v := 4) (by decide) ?_
      refine g_dup2 X dX4_mix_396 rfl (g_rfc _) ?_
      obtain ⟨x65, ex65, h66⟩ := g_bd h64; clear h64
      refine g_iald X ex65 dX4_mix_397 ?_
      clear ex65
      refine g_iload (j := 5) X dX4_mix_398 rfl ?_
      refine g_iadd X dX4_mix_400 ?_
      obtain ⟨S67, eS67, h68⟩ := g_bd h66; clear h66
      refine g_iast X eS67 dX4_mix_401 ?_
      clear eS67
      refine g_aload_n (j := 0) X dX4_mix_402 rfl rfl ?_
      obtain ⟨x69, ex69, h70⟩ := g_bd h68; clear h68
      refine g_fR (ci := 4) (k := 0) X rfl il4 (by decide) tw96 (by decide) (fun _ _ _ => rfl) ex69 dX4_mix_403 ?_
      clear ex69
      refine g_iconst X dX4_mix_406 (v := 5) (by decide) ?_
      refine g_dup2 X dX4_mix_407 rfl (g_rfc _) ?_
      obtain ⟨x71, ex71, h72⟩ := g_bd h70; clear h70
      refine g_iald X ex71 dX4_mix_408 ?_
      clear ex71
      refine g_iload (j := 6) X dX4_mix_409 rfl ?_
      refine g_iadd X dX4_mix_411 ?_
      obtain ⟨S73, eS73, h74⟩ := g_bd h72; clear h72
      refine g_iast X eS73 dX4_mix_412 ?_
      clear eS73
      refine g_aload_n (j := 0) X dX4_mix_413 rfl rfl ?_
      obtain ⟨x75, ex75, h76⟩ := g_bd h74; clear h74
      refine g_fR (ci := 4) (k := 0) X rfl il4 (by decide) tw96 (by decide) (fun _ _ _ => rfl) ex75 dX4_mix_414 ?_
      clear ex75
      refine g_bipush X dX4_mix_417 (v := 6) (by decide) ?_
      refine g_dup2 X dX4_mix_419 rfl (g_rfc _) ?_
      obtain ⟨x77, ex77, h78⟩ := g_bd h76; clear h76
      refine g_iald X ex77 dX4_mix_420 ?_
      clear ex77
      refine g_iload (j := 7) X dX4_mix_421 rfl ?_
      refine g_iadd X dX4_mix_423 ?_
      obtain ⟨S79, eS79, h80⟩ := g_bd h78; clear h78
      refine g_iast X eS79 dX4_mix_424 ?_
      clear eS79
      refine g_aload_n (j := 0) X dX4_mix_425 rfl rfl ?_
      obtain ⟨x81, ex81, h82⟩ := g_bd h80; clear h80
      refine g_fR (ci := 4) (k := 0) X rfl il4 (by decide) tw96 (by decide) (fun _ _ _ => rfl) ex81 dX4_mix_426 ?_
      clear ex81
      refine g_bipush X dX4_mix_429 (v := 7) (by decide) ?_
      refine g_dup2 X dX4_mix_431 rfl (g_rfc _) ?_
      obtain ⟨x83, ex83, h84⟩ := g_bd h82; clear h82
      refine g_iald X ex83 dX4_mix_432 ?_
      clear ex83
      refine g_iload (j := 8) X dX4_mix_433 rfl ?_
      refine g_iadd X dX4_mix_435 ?_
      obtain ⟨S85, eS85, h86⟩ := g_bd h84; clear h84
      refine g_iast X eS85 dX4_mix_436 ?_
      clear eS85
      refine g_aload_n (j := 0) X dX4_mix_437 rfl rfl ?_
      refine g_iconst X dX4_mix_438 (v := 0) (by decide) ?_
      obtain ⟨S87, eS87, h88⟩ := g_bd h86; clear h86
      refine g_pI (ci := 4) (k := 2) X rfl il4 tyX4 tyX4_ok nmX4 (by decide) tw98 rfl (by decide) (fun _ _ _ => rfl) rfl eS87 dX4_mix_439 ?_
      clear eS87
      cases h88
      exact g_vret X hr (by decide) (by decide) dX4_mix_442
    · have h38 := g_in h0 c36; clear h0
      refine g_iload (j := 5) X dX4_mix_189 rfl ?_
      refine g_bipush X dX4_mix_191 (v := 6) (by decide) ?_
      refine g_iushr X dX4_mix_193 ?_
      refine g_iload (j := 5) X dX4_mix_194 rfl ?_
      refine g_bipush X dX4_mix_196 (v := 26) (by decide) ?_
      refine g_ishl X dX4_mix_198 ?_
      refine g_ior X dX4_mix_199 ?_
      refine g_iload (j := 5) X dX4_mix_200 rfl ?_
      refine g_bipush X dX4_mix_202 (v := 11) (by decide) ?_
      refine g_iushr X dX4_mix_204 ?_
      refine g_iload (j := 5) X dX4_mix_205 rfl ?_
      refine g_bipush X dX4_mix_207 (v := 21) (by decide) ?_
      refine g_ishl X dX4_mix_209 ?_
      refine g_ior X dX4_mix_210 ?_
      refine g_ixor X dX4_mix_211 ?_
      refine g_iload (j := 5) X dX4_mix_212 rfl ?_
      refine g_bipush X dX4_mix_214 (v := 25) (by decide) ?_
      refine g_iushr X dX4_mix_216 ?_
      refine g_iload (j := 5) X dX4_mix_217 rfl ?_
      refine g_bipush X dX4_mix_219 (v := 7) (by decide) ?_
      refine g_ishl X dX4_mix_221 ?_
      refine g_ior X dX4_mix_222 ?_
      refine g_ixor X dX4_mix_223 ?_
      obtain ⟨x89, ex89, h90⟩ := g_let h38; clear h38; rw [← ex89]; clear ex89
      refine g_istore (i := 10) (lv' := [(10, .int x89), (0, va_rf (some a0)), (1, .int v1), (2, .int v2), (3, .int v3), (4, .int v4), (5, .int v5), (6, .int v6), (7, .int v7), (8, .int v8), (9, .int v9)]) X dX4_mix_224 (by decide) rfl ?_
      refine g_iload (j := 6) X dX4_mix_226 rfl ?_
      refine g_iload (j := 7) X dX4_mix_228 rfl ?_
      refine g_iand X dX4_mix_230 ?_
      refine g_iload (j := 6) X dX4_mix_231 rfl ?_
      refine g_iconst X dX4_mix_233 (v := (-1)) (by decide) ?_
      refine g_ixor X dX4_mix_234 ?_
      refine g_iload (j := 8) X dX4_mix_235 rfl ?_
      refine g_iand X dX4_mix_237 ?_
      refine g_ixor X dX4_mix_238 ?_
      obtain ⟨x91, ex91, h92⟩ := g_let h90; clear h90; rw [← ex91]; clear ex91
      refine g_istore (i := 11) (lv' := [(11, .int x91), (10, .int x89), (0, va_rf (some a0)), (1, .int v1), (2, .int v2), (3, .int v3), (4, .int v4), (5, .int v5), (6, .int v6), (7, .int v7), (8, .int v8), (9, .int v9)]) X dX4_mix_239 (by decide) rfl ?_
      refine g_iload (j := 10) X dX4_mix_241 rfl ?_
      refine g_iload (j := 1) X dX4_mix_243 rfl ?_
      refine g_iadd X dX4_mix_245 ?_
      refine g_iload (j := 0) X dX4_mix_246 rfl ?_
      refine g_iadd X dX4_mix_248 ?_
      refine g_getS2 X tw306 dX4_mix_249 ?_
      refine g_iload (j := 11) X dX4_mix_252 rfl ?_
      obtain ⟨x93, ex93, h94⟩ := g_bd h92; clear h92
      refine g_tald X ex93 dX4_mix_254 ?_
      clear ex93
      refine g_iadd X dX4_mix_255 ?_
      refine g_aload_n (j := 2) X dX4_mix_256 rfl rfl ?_
      obtain ⟨x95, ex95, h96⟩ := g_bd h94; clear h94
      refine g_fR (ci := 4) (k := 1) X rfl il4 (by decide) tw97 (by decide) (fun _ _ _ => rfl) ex95 dX4_mix_257 ?_
      clear ex95
      refine g_iload (j := 11) X dX4_mix_260 rfl ?_
      obtain ⟨x97, ex97, h98⟩ := g_bd h96; clear h96
      refine g_iald X ex97 dX4_mix_262 ?_
      clear ex97
      refine g_iadd X dX4_mix_263 ?_
      obtain ⟨x99, ex99, h100⟩ := g_let h98; clear h98; rw [← ex99]; clear ex99
      refine g_istore (i := 12) (lv' := [(12, .int x99), (11, .int x91), (10, .int x89), (0, va_rf (some a0)), (1, .int v1), (2, .int v2), (3, .int v3), (4, .int v4), (5, .int v5), (6, .int v6), (7, .int v7), (8, .int v8), (9, .int v9)]) X dX4_mix_264 (by decide) rfl ?_
      refine g_iload_n (j := 4) X dX4_mix_266 rfl rfl ?_
      refine g_iconst X dX4_mix_267 (v := 2) (by decide) ?_
      refine g_iushr X dX4_mix_268 ?_
      refine g_iload_n (j := 4) X dX4_mix_269 rfl rfl ?_
      refine g_bipush X dX4_mix_270 (v := 30) (by decide) ?_
      refine g_ishl X dX4_mix_272 ?_
      refine g_ior X dX4_mix_273 ?_
      refine g_iload_n (j := 4) X dX4_mix_274 rfl rfl ?_
      refine g_bipush X dX4_mix_275 (v := 13) (by decide) ?_
      refine g_iushr X dX4_mix_277 ?_
      refine g_iload_n (j := 4) X dX4_mix_278 rfl rfl ?_
      refine g_bipush X dX4_mix_279 (v := 19) (by decide) ?_
      refine g_ishl X dX4_mix_281 ?_
      refine g_ior X dX4_mix_282 ?_
      refine g_ixor X dX4_mix_283 ?_
      refine g_iload_n (j := 4) X dX4_mix_284 rfl rfl ?_
      refine g_bipush X dX4_mix_285 (v := 22) (by decide) ?_
      refine g_iushr X dX4_mix_287 ?_
      refine g_iload_n (j := 4) X dX4_mix_288 rfl rfl ?_
      refine g_bipush X dX4_mix_289 (v := 10) (by decide) ?_
      refine g_ishl X dX4_mix_291 ?_
      refine g_ior X dX4_mix_292 ?_
      refine g_ixor X dX4_mix_293 ?_
      obtain ⟨x101, ex101, h102⟩ := g_let h100; clear h100; rw [← ex101]; clear ex101
      refine g_istore (i := 13) (lv' := [(13, .int x101), (12, .int x99), (11, .int x91), (10, .int x89), (0, va_rf (some a0)), (1, .int v1), (2, .int v2), (3, .int v3), (4, .int v4), (5, .int v5), (6, .int v6), (7, .int v7), (8, .int v8), (9, .int v9)]) X dX4_mix_294 (by decide) rfl ?_
      refine g_iload_n (j := 5) X dX4_mix_296 rfl rfl ?_
      refine g_iload_n (j := 6) X dX4_mix_297 rfl rfl ?_
      refine g_iand X dX4_mix_298 ?_
      refine g_iload_n (j := 5) X dX4_mix_299 rfl rfl ?_
      refine g_iload_n (j := 7) X dX4_mix_300 rfl rfl ?_
      refine g_iand X dX4_mix_301 ?_
      refine g_ixor X dX4_mix_302 ?_
      refine g_iload_n (j := 6) X dX4_mix_303 rfl rfl ?_
      refine g_iload_n (j := 7) X dX4_mix_304 rfl rfl ?_
      refine g_iand X dX4_mix_305 ?_
      refine g_ixor X dX4_mix_306 ?_
      obtain ⟨x103, ex103, h104⟩ := g_let h102; clear h102; rw [← ex103]; clear ex103
      refine g_istore (i := 14) (lv' := [(14, .int x103), (13, .int x101), (12, .int x99), (11, .int x91), (10, .int x89), (0, va_rf (some a0)), (1, .int v1), (2, .int v2), (3, .int v3), (4, .int v4), (5, .int v5), (6, .int v6), (7, .int v7), (8, .int v8), (9, .int v9)]) X dX4_mix_307 (by decide) rfl ?_
      refine g_iload (j := 12) X dX4_mix_309 rfl ?_
      refine g_istore (i := 8) (lv' := [(8, .int v7), (14, .int x103), (13, .int x101), (12, .int x99), (11, .int x91), (10, .int x89), (0, va_rf (some a0)), (1, .int v1), (2, .int v2), (3, .int v3), (4, .int v4), (5, .int v5), (6, .int v6), (7, .int v7), (9, .int v9)]) X dX4_mix_311 (by decide) rfl ?_
      refine g_iload (j := 12) X dX4_mix_313 rfl ?_
      refine g_istore (i := 7) (lv' := [(7, .int v6), (8, .int v7), (14, .int x103), (13, .int x101), (12, .int x99), (11, .int x91), (10, .int x89), (0, va_rf (some a0)), (1, .int v1), (2, .int v2), (3, .int v3), (4, .int v4), (5, .int v5), (6, .int v6), (9, .int v9)]) X dX4_mix_315 (by decide) rfl ?_
      refine g_iload (j := 12) X dX4_mix_317 rfl ?_
      refine g_istore (i := 6) (lv' := [(6, .int v5), (7, .int v6), (8, .int v7), (14, .int x103), (13, .int x101), (12, .int x99), (11, .int x91), (10, .int x89), (0, va_rf (some a0)), (1, .int v1), (2, .int v2), (3, .int v3), (4, .int v4), (5, .int v5), (9, .int v9)]) X dX4_mix_319 (by decide) rfl ?_
      refine g_iload (j := 12) X dX4_mix_321 rfl ?_
      refine g_iload (j := 5) X dX4_mix_323 rfl ?_
      refine g_iadd X dX4_mix_325 ?_
      obtain ⟨x105, ex105, h106⟩ := g_let h104; clear h104; rw [← ex105]; clear ex105
      refine g_istore (i := 5) (lv' := [(5, .int x105), (6, .int v5), (7, .int v6), (8, .int v7), (14, .int x103), (13, .int x101), (12, .int x99), (11, .int x91), (10, .int x89), (0, va_rf (some a0)), (1, .int v1), (2, .int v2), (3, .int v3), (4, .int v4), (9, .int v9)]) X dX4_mix_326 (by decide) rfl ?_
      refine g_iload_n (j := 12) X dX4_mix_328 rfl rfl ?_
      refine g_istore (i := 4) (lv' := [(4, .int v3), (5, .int x105), (6, .int v5), (7, .int v6), (8, .int v7), (14, .int x103), (13, .int x101), (12, .int x99), (11, .int x91), (10, .int x89), (0, va_rf (some a0)), (1, .int v1), (2, .int v2), (3, .int v3), (9, .int v9)]) X dX4_mix_329 (by decide) rfl ?_
      refine g_iload_n (j := 12) X dX4_mix_331 rfl rfl ?_
      refine g_istore_n (i := 3) (lv' := [(3, .int v2), (4, .int v3), (5, .int x105), (6, .int v5), (7, .int v6), (8, .int v7), (14, .int x103), (13, .int x101), (12, .int x99), (11, .int x91), (10, .int x89), (0, va_rf (some a0)), (1, .int v1), (2, .int v2), (9, .int v9)]) X dX4_mix_332 rfl (by decide) rfl ?_
      refine g_iload_n (j := 12) X dX4_mix_333 rfl rfl ?_
      refine g_istore_n (i := 2) (lv' := [(2, .int v1), (3, .int v2), (4, .int v3), (5, .int x105), (6, .int v5), (7, .int v6), (8, .int v7), (14, .int x103), (13, .int x101), (12, .int x99), (11, .int x91), (10, .int x89), (0, va_rf (some a0)), (1, .int v1), (9, .int v9)]) X dX4_mix_334 rfl (by decide) rfl ?_
      refine g_iload (j := 9) X dX4_mix_335 rfl ?_
      refine g_iload (j := 8) X dX4_mix_337 rfl ?_
      refine g_iadd X dX4_mix_339 ?_
      refine g_iload (j := 7) X dX4_mix_340 rfl ?_
      refine g_iadd X dX4_mix_342 ?_
      obtain ⟨x107, ex107, h108⟩ := g_let h106; clear h106; rw [← ex107]; clear ex107
      refine g_istore_n (i := 1) (lv' := [(1, .int x107), (2, .int v1), (3, .int v2), (4, .int v3), (5, .int x105), (6, .int v5), (7, .int v6), (8, .int v7), (14, .int x103), (13, .int x101), (12, .int x99), (11, .int x91), (10, .int x89), (0, va_rf (some a0)), (9, .int v9)]) X dX4_mix_343 rfl (by decide) rfl ?_
      obtain ⟨x109, ex109, h110⟩ := g_let h108; clear h108
      refine g_iinc (j := 14) (v := x109) (lv' := [(9, .int x109), (1, .int x107), (2, .int v1), (3, .int v2), (4, .int v3), (5, .int x105), (6, .int v5), (7, .int v6), (8, .int v7), (14, .int x103), (13, .int x101), (12, .int x99), (11, .int x91), (10, .int x89), (0, va_rf (some a0))]) X dX4_mix_344 rfl (by rw [ex109]; rfl) (by decide) rfl ?_
      clear ex109
      refine g_goto (tgt := 182) X dX4_mix_347 (by decide) ?_
      refine g_sub [14, 1, 2, 3, 4, 5, 6, 7, 8, 0] rfl ?_
      exact ih S0 a0 x107 v1 v2 v3 x105 v5 v6 v7 x109 h110
def f_X4_mix_L3 : Nat → gS → Nat → Int32 → Option gS
  | 0, _, _, _ => none
  | k + 1, S0, a0, v1 =>
    if 64 ≤ v1 then
      (fgR S0 4 0 (some a0)).bind fun x4 =>
      (fI S0 10 x4 0).bind fun x6 =>
      (fgR S0 4 0 (some a0)).bind fun x8 =>
      (fI S0 10 x8 1).bind fun x10 =>
      (fgR S0 4 0 (some a0)).bind fun x12 =>
      (fI S0 10 x12 2).bind fun x14 =>
      (fgR S0 4 0 (some a0)).bind fun x16 =>
      (fI S0 10 x16 3).bind fun x18 =>
      (fgR S0 4 0 (some a0)).bind fun x20 =>
      (fI S0 10 x20 4).bind fun x22 =>
      (fgR S0 4 0 (some a0)).bind fun x24 =>
      (fI S0 10 x24 5).bind fun x26 =>
      (fgR S0 4 0 (some a0)).bind fun x28 =>
      (fI S0 10 x28 6).bind fun x30 =>
      (fgR S0 4 0 (some a0)).bind fun x32 =>
      (fI S0 10 x32 7).bind fun x34 =>
      f_X4_mix_L182 gFuel S0 a0 x6 x10 x14 x18 x22 x26 x30 x34 0
    else
      (fgR S0 4 1 (some a0)).bind fun x111 =>
      (fI S0 10 x111 (v1 - 15)).bind fun x113 =>
      (fgR S0 4 1 (some a0)).bind fun x115 =>
      (fI S0 10 x115 (v1 - 2)).bind fun x117 =>
      gLet ((((g_ushr x113 7) ||| (x113 <<< (25 &&& 31))) ^^^ ((g_ushr x113 18) ||| (x113 <<< (14 &&& 31)))) ^^^ (g_ushr x113 3)) fun x119 =>
      gLet ((((g_ushr x117 17) ||| (x117 <<< (15 &&& 31))) ^^^ ((g_ushr x117 19) ||| (x117 <<< (13 &&& 31)))) ^^^ (g_ushr x117 10)) fun x121 =>
      (fgR S0 4 1 (some a0)).bind fun x123 =>
      (fgR S0 4 1 (some a0)).bind fun x125 =>
      (fI S0 10 x125 (v1 - 16)).bind fun x127 =>
      (fgR S0 4 1 (some a0)).bind fun x129 =>
      (fI S0 10 x129 (v1 - 7)).bind fun x131 =>
      (faI S0 x123 v1 (((x127 + x119) + x131) + x121)).bind fun S133 =>
      gLet (v1 + 1) fun x135 =>
      f_X4_mix_L3 k S133 a0 x135
set_option maxRecDepth 100000 in
set_option maxHeartbeats 4000000 in
theorem w_X4_mix_L3 {p : Program} {l : Launch} {e : Env} {s : State} {m : MethodId} {args : Array Value} {below : List Frame} {meth : Method} {c : Code} {D : gD} {S9 : gS}  (hl : l.stackTraces = false) (X : gX D p l s m args meth c cX4_mix 15 RX4) (hr : meth.sig.returnType = none) : ∀ (k : Nat) (S0 : gS) (a0 : Nat) (v1 : Int32), f_X4_mix_L3 k S0 a0 v1 = some S9 → gJ D p l e { frames := 0, cells := 0, slots := 0, locals := 0 } s m args below meth c (MQ below (gQ D none S9) args s (0) (0) (gF D)) 15 (0) (0) S0 3 [(0, va_rf (some a0)), (1, .int v1)] [] := by
  intro k
  induction k with
  | zero => intro S0 a0 v1 h0; cases h0
  | succ k ih =>
    intro S0 a0 v1 h0
    have h0 := h0
    unfold f_X4_mix_L3 at h0
    refine g_iload_n (j := 1) X dX4_mix_3 rfl rfl ?_
    refine g_bipush X dX4_mix_4 (v := 64) (by decide) ?_
    refine g_icmp_ge (tgt := 116) X dX4_mix_6 (by decide) (fun c1 => ?_) (fun c1 => ?_)
    · have h2 := g_ip h0 c1; clear h0
      refine g_aload_n (j := 0) X dX4_mix_116 rfl rfl ?_
      obtain ⟨x4, ex4, h5⟩ := g_bd h2; clear h2
      refine g_fR (ci := 4) (k := 0) X rfl il4 (by decide) tw96 (by decide) (fun _ _ _ => rfl) ex4 dX4_mix_117 ?_
      clear ex4
      refine g_iconst X dX4_mix_120 (v := 0) (by decide) ?_
      obtain ⟨x6, ex6, h7⟩ := g_bd h5; clear h5
      refine g_iald X ex6 dX4_mix_121 ?_
      clear ex6
      refine g_istore_n (i := 1) (lv' := [(1, .int x6), (0, va_rf (some a0))]) X dX4_mix_122 rfl (by decide) rfl ?_
      refine g_aload_n (j := 1) X dX4_mix_123 rfl rfl ?_
      obtain ⟨x8, ex8, h9⟩ := g_bd h7; clear h7
      refine g_fR (ci := 4) (k := 0) X rfl il4 (by decide) tw96 (by decide) (fun _ _ _ => rfl) ex8 dX4_mix_124 ?_
      clear ex8
      refine g_iconst X dX4_mix_127 (v := 1) (by decide) ?_
      obtain ⟨x10, ex10, h11⟩ := g_bd h9; clear h9
      refine g_iald X ex10 dX4_mix_128 ?_
      clear ex10
      refine g_istore_n (i := 2) (lv' := [(2, .int x10), (1, .int x6), (0, va_rf (some a0))]) X dX4_mix_129 rfl (by decide) rfl ?_
      refine g_aload_n (j := 2) X dX4_mix_130 rfl rfl ?_
      obtain ⟨x12, ex12, h13⟩ := g_bd h11; clear h11
      refine g_fR (ci := 4) (k := 0) X rfl il4 (by decide) tw96 (by decide) (fun _ _ _ => rfl) ex12 dX4_mix_131 ?_
      clear ex12
      refine g_iconst X dX4_mix_134 (v := 2) (by decide) ?_
      obtain ⟨x14, ex14, h15⟩ := g_bd h13; clear h13
      refine g_iald X ex14 dX4_mix_135 ?_
      clear ex14
      refine g_istore_n (i := 3) (lv' := [(3, .int x14), (2, .int x10), (1, .int x6), (0, va_rf (some a0))]) X dX4_mix_136 rfl (by decide) rfl ?_
      refine g_aload_n (j := 3) X dX4_mix_137 rfl rfl ?_
      obtain ⟨x16, ex16, h17⟩ := g_bd h15; clear h15
      refine g_fR (ci := 4) (k := 0) X rfl il4 (by decide) tw96 (by decide) (fun _ _ _ => rfl) ex16 dX4_mix_138 ?_
      clear ex16
      refine g_iconst X dX4_mix_141 (v := 3) (by decide) ?_
      obtain ⟨x18, ex18, h19⟩ := g_bd h17; clear h17
      refine g_iald X ex18 dX4_mix_142 ?_
      clear ex18
      refine g_istore (i := 4) (lv' := [(4, .int x18), (3, .int x14), (2, .int x10), (1, .int x6), (0, va_rf (some a0))]) X dX4_mix_143 (by decide) rfl ?_
      refine g_aload_n (j := 4) X dX4_mix_145 rfl rfl ?_
      obtain ⟨x20, ex20, h21⟩ := g_bd h19; clear h19
      refine g_fR (ci := 4) (k := 0) X rfl il4 (by decide) tw96 (by decide) (fun _ _ _ => rfl) ex20 dX4_mix_146 ?_
      clear ex20
      refine g_iconst X dX4_mix_149 (v := 4) (by decide) ?_
      obtain ⟨x22, ex22, h23⟩ := g_bd h21; clear h21
      refine g_iald X ex22 dX4_mix_150 ?_
      clear ex22
      refine g_istore (i := 5) (lv' := [(5, .int x22), (4, .int x18), (3, .int x14), (2, .int x10), (1, .int x6), (0, va_rf (some a0))]) X dX4_mix_151 (by decide) rfl ?_
      refine g_aload_n (j := 5) X dX4_mix_153 rfl rfl ?_
      obtain ⟨x24, ex24, h25⟩ := g_bd h23; clear h23
      refine g_fR (ci := 4) (k := 0) X rfl il4 (by decide) tw96 (by decide) (fun _ _ _ => rfl) ex24 dX4_mix_154 ?_
      clear ex24
      refine g_iconst X dX4_mix_157 (v := 5) (by decide) ?_
      obtain ⟨x26, ex26, h27⟩ := g_bd h25; clear h25
      refine g_iald X ex26 dX4_mix_158 ?_
      clear ex26
      refine g_istore (i := 6) (lv' := [(6, .int x26), (5, .int x22), (4, .int x18), (3, .int x14), (2, .int x10), (1, .int x6), (0, va_rf (some a0))]) X dX4_mix_159 (by decide) rfl ?_
      refine g_aload_n (j := 6) X dX4_mix_161 rfl rfl ?_
      obtain ⟨x28, ex28, h29⟩ := g_bd h27; clear h27
      refine g_fR (ci := 4) (k := 0) X rfl il4 (by decide) tw96 (by decide) (fun _ _ _ => rfl) ex28 dX4_mix_162 ?_
      clear ex28
      refine g_bipush X dX4_mix_165 (v := 6) (by decide) ?_
      obtain ⟨x30, ex30, h31⟩ := g_bd h29; clear h29
      refine g_iald X ex30 dX4_mix_167 ?_
      clear ex30
      refine g_istore (i := 7) (lv' := [(7, .int x30), (6, .int x26), (5, .int x22), (4, .int x18), (3, .int x14), (2, .int x10), (1, .int x6), (0, va_rf (some a0))]) X dX4_mix_168 (by decide) rfl ?_
      refine g_aload_n (j := 7) X dX4_mix_170 rfl rfl ?_
      obtain ⟨x32, ex32, h33⟩ := g_bd h31; clear h31
      refine g_fR (ci := 4) (k := 0) X rfl il4 (by decide) tw96 (by decide) (fun _ _ _ => rfl) ex32 dX4_mix_171 ?_
      clear ex32
      refine g_bipush X dX4_mix_174 (v := 7) (by decide) ?_
      obtain ⟨x34, ex34, h35⟩ := g_bd h33; clear h33
      refine g_iald X ex34 dX4_mix_176 ?_
      clear ex34
      refine g_istore (i := 8) (lv' := [(8, .int x34), (7, .int x30), (6, .int x26), (5, .int x22), (4, .int x18), (3, .int x14), (2, .int x10), (1, .int x6), (0, va_rf (some a0))]) X dX4_mix_177 (by decide) rfl ?_
      refine g_iconst X dX4_mix_179 (v := 0) (by decide) ?_
      refine g_istore (i := 9) (lv' := [(9, .int 0), (8, .int x34), (7, .int x30), (6, .int x26), (5, .int x22), (4, .int x18), (3, .int x14), (2, .int x10), (1, .int x6), (0, va_rf (some a0))]) X dX4_mix_180 (by decide) rfl ?_
      refine g_sub [9, 8, 7, 6, 5, 4, 3, 2, 1, 0] rfl ?_
      exact w_X4_mix_L182 hl X hr gFuel S0 a0 x6 x10 x14 x18 x22 x26 x30 x34 0 h35
    · have h3 := g_in h0 c1; clear h0
      refine g_aload_n (j := 0) X dX4_mix_9 rfl rfl ?_
      obtain ⟨x111, ex111, h112⟩ := g_bd h3; clear h3
      refine g_fR (ci := 4) (k := 1) X rfl il4 (by decide) tw97 (by decide) (fun _ _ _ => rfl) ex111 dX4_mix_10 ?_
      clear ex111
      refine g_iload_n (j := 1) X dX4_mix_13 rfl rfl ?_
      refine g_bipush X dX4_mix_14 (v := 15) (by decide) ?_
      refine g_isub X dX4_mix_16 ?_
      obtain ⟨x113, ex113, h114⟩ := g_bd h112; clear h112
      refine g_iald X ex113 dX4_mix_17 ?_
      clear ex113
      refine g_istore_n (i := 2) (lv' := [(2, .int x113), (0, va_rf (some a0)), (1, .int v1)]) X dX4_mix_18 rfl (by decide) rfl ?_
      refine g_aload_n (j := 1) X dX4_mix_19 rfl rfl ?_
      obtain ⟨x115, ex115, h116⟩ := g_bd h114; clear h114
      refine g_fR (ci := 4) (k := 1) X rfl il4 (by decide) tw97 (by decide) (fun _ _ _ => rfl) ex115 dX4_mix_20 ?_
      clear ex115
      refine g_iload_n (j := 2) X dX4_mix_23 rfl rfl ?_
      refine g_iconst X dX4_mix_24 (v := 2) (by decide) ?_
      refine g_isub X dX4_mix_25 ?_
      obtain ⟨x117, ex117, h118⟩ := g_bd h116; clear h116
      refine g_iald X ex117 dX4_mix_26 ?_
      clear ex117
      refine g_istore_n (i := 3) (lv' := [(3, .int x117), (2, .int x113), (0, va_rf (some a0)), (1, .int v1)]) X dX4_mix_27 rfl (by decide) rfl ?_
      refine g_iload_n (j := 1) X dX4_mix_28 rfl rfl ?_
      refine g_bipush X dX4_mix_29 (v := 7) (by decide) ?_
      refine g_iushr X dX4_mix_31 ?_
      refine g_iload_n (j := 1) X dX4_mix_32 rfl rfl ?_
      refine g_bipush X dX4_mix_33 (v := 25) (by decide) ?_
      refine g_ishl X dX4_mix_35 ?_
      refine g_ior X dX4_mix_36 ?_
      refine g_iload_n (j := 1) X dX4_mix_37 rfl rfl ?_
      refine g_bipush X dX4_mix_38 (v := 18) (by decide) ?_
      refine g_iushr X dX4_mix_40 ?_
      refine g_iload_n (j := 1) X dX4_mix_41 rfl rfl ?_
      refine g_bipush X dX4_mix_42 (v := 14) (by decide) ?_
      refine g_ishl X dX4_mix_44 ?_
      refine g_ior X dX4_mix_45 ?_
      refine g_ixor X dX4_mix_46 ?_
      refine g_iload_n (j := 1) X dX4_mix_47 rfl rfl ?_
      refine g_iconst X dX4_mix_48 (v := 3) (by decide) ?_
      refine g_iushr X dX4_mix_49 ?_
      refine g_ixor X dX4_mix_50 ?_
      obtain ⟨x119, ex119, h120⟩ := g_let h118; clear h118; rw [← ex119]; clear ex119
      refine g_istore (i := 4) (lv' := [(4, .int x119), (3, .int x117), (2, .int x113), (0, va_rf (some a0)), (1, .int v1)]) X dX4_mix_51 (by decide) rfl ?_
      refine g_iload_n (j := 1) X dX4_mix_53 rfl rfl ?_
      refine g_bipush X dX4_mix_54 (v := 17) (by decide) ?_
      refine g_iushr X dX4_mix_56 ?_
      refine g_iload_n (j := 1) X dX4_mix_57 rfl rfl ?_
      refine g_bipush X dX4_mix_58 (v := 15) (by decide) ?_
      refine g_ishl X dX4_mix_60 ?_
      refine g_ior X dX4_mix_61 ?_
      refine g_iload_n (j := 1) X dX4_mix_62 rfl rfl ?_
      refine g_bipush X dX4_mix_63 (v := 19) (by decide) ?_
      refine g_iushr X dX4_mix_65 ?_
      refine g_iload_n (j := 1) X dX4_mix_66 rfl rfl ?_
      refine g_bipush X dX4_mix_67 (v := 13) (by decide) ?_
      refine g_ishl X dX4_mix_69 ?_
      refine g_ior X dX4_mix_70 ?_
      refine g_ixor X dX4_mix_71 ?_
      refine g_iload_n (j := 1) X dX4_mix_72 rfl rfl ?_
      refine g_bipush X dX4_mix_73 (v := 10) (by decide) ?_
      refine g_iushr X dX4_mix_75 ?_
      refine g_ixor X dX4_mix_76 ?_
      obtain ⟨x121, ex121, h122⟩ := g_let h120; clear h120; rw [← ex121]; clear ex121
      refine g_istore (i := 5) (lv' := [(5, .int x121), (4, .int x119), (3, .int x117), (2, .int x113), (0, va_rf (some a0)), (1, .int v1)]) X dX4_mix_77 (by decide) rfl ?_
      refine g_aload_n (j := 4) X dX4_mix_79 rfl rfl ?_
      obtain ⟨x123, ex123, h124⟩ := g_bd h122; clear h122
      refine g_fR (ci := 4) (k := 1) X rfl il4 (by decide) tw97 (by decide) (fun _ _ _ => rfl) ex123 dX4_mix_80 ?_
      clear ex123
      refine g_iload_n (j := 5) X dX4_mix_83 rfl rfl ?_
      refine g_aload_n (j := 4) X dX4_mix_84 rfl rfl ?_
      obtain ⟨x125, ex125, h126⟩ := g_bd h124; clear h124
      refine g_fR (ci := 4) (k := 1) X rfl il4 (by decide) tw97 (by decide) (fun _ _ _ => rfl) ex125 dX4_mix_85 ?_
      clear ex125
      refine g_iload_n (j := 5) X dX4_mix_88 rfl rfl ?_
      refine g_bipush X dX4_mix_89 (v := 16) (by decide) ?_
      refine g_isub X dX4_mix_91 ?_
      obtain ⟨x127, ex127, h128⟩ := g_bd h126; clear h126
      refine g_iald X ex127 dX4_mix_92 ?_
      clear ex127
      refine g_iload (j := 1) X dX4_mix_93 rfl ?_
      refine g_iadd X dX4_mix_95 ?_
      refine g_aload_n (j := 4) X dX4_mix_96 rfl rfl ?_
      obtain ⟨x129, ex129, h130⟩ := g_bd h128; clear h128
      refine g_fR (ci := 4) (k := 1) X rfl il4 (by decide) tw97 (by decide) (fun _ _ _ => rfl) ex129 dX4_mix_97 ?_
      clear ex129
      refine g_iload_n (j := 5) X dX4_mix_100 rfl rfl ?_
      refine g_bipush X dX4_mix_101 (v := 7) (by decide) ?_
      refine g_isub X dX4_mix_103 ?_
      obtain ⟨x131, ex131, h132⟩ := g_bd h130; clear h130
      refine g_iald X ex131 dX4_mix_104 ?_
      clear ex131
      refine g_iadd X dX4_mix_105 ?_
      refine g_iload (j := 0) X dX4_mix_106 rfl ?_
      refine g_iadd X dX4_mix_108 ?_
      obtain ⟨S133, eS133, h134⟩ := g_bd h132; clear h132
      refine g_iast X eS133 dX4_mix_109 ?_
      clear eS133
      obtain ⟨x135, ex135, h136⟩ := g_let h134; clear h134
      refine g_iinc (j := 5) (v := x135) (lv' := [(1, .int x135), (5, .int x121), (4, .int x119), (3, .int x117), (2, .int x113), (0, va_rf (some a0))]) X dX4_mix_110 rfl (by rw [ex135]; rfl) (by decide) rfl ?_
      clear ex135
      refine g_goto (tgt := 3) X dX4_mix_113 (by decide) ?_
      refine g_sub [5, 0] rfl ?_
      exact ih S133 a0 x135 h136
def f_X4_mix (S0 : gS) (a0 : Nat) : Option gS :=
  f_X4_mix_L3 gFuel S0 a0 16
set_option maxRecDepth 100000 in
set_option maxHeartbeats 4000000 in
theorem c_X4_mix {l : Launch} (hl : l.stackTraces = false) (D : gD)  {S0 S9 : gS} {a0 : Nat} (h0 : f_X4_mix S0 a0 = some S9) : Met l yX4_mix (gws yX4_mix cX4_mix 15 none) { frames := 0, cells := 0, slots := 0, locals := 0 } (gPc D S0 [.ref a0]) (gQ D none S9) (0) (0) (gF D) := by
  refine g_met (lv := [(0, va_rf (some a0))]) hl (by decide) (Nat.le_of_ble_eq_true rfl) rfl (fun p e s m args below meth c X hr hn => ?_)
  have X : gX D p l s m args meth c cX4_mix 15 RX4 := X
  unfold f_X4_mix at h0
  refine g_bipush X dX4_mix_0 (v := 16) (by decide) ?_
  refine g_istore_n (i := 1) (lv' := [(1, .int 16), (0, va_rf (some a0))]) X dX4_mix_2 rfl (by decide) rfl ?_
  refine g_sub [1, 0] rfl ?_
  exact w_X4_mix_L3 hl X hr gFuel S0 a0 16 h0
def f_X4_add (S0 : gS) (a0 : Nat) (v1 : Int32) : Option gS :=
  gDc S0 4 (some a0) fun a1 =>
  (f_X4_put S0 a1 v1).bind fun S3 =>
  (fgI S3 4 2 (some a0)).bind fun x5 =>
  if x5 < 64 then
    some S3
  else
    gDc S3 4 (some a0) fun a10 =>
    (f_X4_mix S3 a10).bind fun S12 =>
    some S12
set_option maxRecDepth 100000 in
set_option maxHeartbeats 4000000 in
theorem c_X4_add {l : Launch} (hl : l.stackTraces = false) (D : gD)  {S0 S9 : gS} {a0 : Nat} {v1 : Int32} (h0 : f_X4_add S0 a0 v1 = some S9) : Met l yX4_add (gws yX4_add cX4_add 2 none) { frames := 1, cells := 0, slots := 0, locals := 34 } (gPc D S0 [.ref a0, .int v1]) (gQ D none S9) (0) (0) (gF D) := by
  refine g_met (lv := [(0, va_rf (some a0)), (1, .int v1)]) hl (by decide) (Nat.le_of_ble_eq_true rfl) rfl (fun p e s m args below meth c X hr hn => ?_)
  have X : gX D p l s m args meth c cX4_add 2 RX4 := X
  unfold f_X4_add at h0
  refine g_aload_n (j := 0) X dX4_add_0 rfl rfl ?_
  refine g_iload_n (j := 1) X dX4_add_1 rfl rfl ?_
  obtain ⟨a1, ea1, ka1, h2⟩ := g_dc h0; clear h0
  obtain ⟨S3, eS3, h4⟩ := g_bd h2; clear h2
  refine g_cV (n := 1) (As := [.int v1]) X (c_X4_put hl D eS3) tw300 tw301 tw4 tw47 tw302 (by decide +kernel) rfl rfl ⟨Nat.le_of_ble_eq_true rfl, Nat.le_of_ble_eq_true rfl⟩ (ci := 4) rfl (by decide) ea1 ka1 rfl rfl (Nat.le_of_ble_eq_true rfl) dX4_add_2 ⟨(by decide), (by decide)⟩ ?_
  clear eS3 ea1 ka1
  refine g_aload_n (j := 0) X dX4_add_5 rfl rfl ?_
  obtain ⟨x5, ex5, h6⟩ := g_bd h4; clear h4
  refine g_fI (ci := 4) (k := 2) X rfl il4 (by decide) tw98 (by decide) (fun _ _ _ => rfl) ex5 dX4_add_6 ?_
  clear ex5
  refine g_bipush X dX4_add_9 (v := 64) (by decide) ?_
  refine g_icmp_lt (tgt := 18) X dX4_add_11 (by decide) (fun c7 => ?_) (fun c7 => ?_)
  · have h8 := g_ip h6 c7; clear h6
    cases h8
    exact g_vret X hr (by decide) (by decide) dX4_add_18
  · have h9 := g_in h6 c7; clear h6
    refine g_aload_n (j := 0) X dX4_add_14 rfl rfl ?_
    obtain ⟨a10, ea10, ka10, h11⟩ := g_dc h9; clear h9
    obtain ⟨S12, eS12, h13⟩ := g_bd h11; clear h11
    refine g_cV (n := 0) (As := []) X (c_X4_mix hl D eS12) tw303 tw304 tw5 tw47 tw305 (by decide +kernel) rfl rfl ⟨Nat.le_of_ble_eq_true rfl, Nat.le_of_ble_eq_true rfl⟩ (ci := 4) rfl (by decide) ea10 ka10 rfl rfl (Nat.le_of_ble_eq_true rfl) dX4_add_15 ⟨(by decide), (by decide)⟩ ?_
    clear eS12 ea10 ka10
    cases h13
    exact g_vret X hr (by decide) (by decide) dX4_add_18
