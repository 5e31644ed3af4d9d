def f_X7_seal (S0 : gS) (a0 : Nat) (v1 : Int32) : Option ((String ⊕ Int32) × gS) :=
  (fgR S0 7 0 (some a0)).bind fun x1 =>
  gDc S0 5 x1 fun a3 =>
  gBi (f_X5_useUp S0 a3) fun x7 S5 =>
  gDc S5 7 (some a0) fun a8 =>
  gBx (f_X7_logOf S5 a8 v1) (fun E13 S14 => some (.inl E13, S14)) fun x12 S10 =>
  if x7 = 48 then
    (fgR S10 7 1 (some a0)).bind fun x19 =>
    (fgR S10 7 0 (some a0)).bind fun x21 =>
    (fgR S10 5 0 x21).bind fun x23 =>
    gDc S10 5 x19 fun a25 =>
    (f_X5_become S10 a25 x23 48).bind fun S27 =>
    (fgR S27 7 1 (some a0)).bind fun x29 =>
    (fgR S27 7 0 (some a0)).bind fun x31 =>
    (fgR S27 5 0 x31).bind fun x33 =>
    gDc S27 1 x12 fun a35 =>
    gBi (f_X1_sealOf S27 a35 x33) fun x39 S37 =>
    gDc S37 5 x29 fun a40 =>
    (f_X5_addRow S37 a40 x39 0 32).bind fun S42 =>
    some (.inr 1, S42)
  else
    some (.inl "java/lang/IllegalArgumentException", gsZ S10 (gZ S10 + 1))
set_option maxRecDepth 100000 in
set_option maxHeartbeats 4000000 in
theorem c_X7_seal {l : Launch} (hl : l.stackTraces = false) (D : gD)  {S0 S9 : gS} {a0 : Nat} {v1 : Int32} {res : String ⊕ Int32} (h0 : f_X7_seal S0 a0 v1 = some (res, S9)) : vx_Met l yX7_seal (gws yX7_seal cX7_seal 4 (some .boolean)) { frames := 7, cells := 2, slots := 12, locals := 109 } (gPc D S0 [.ref a0, .int v1]) (gQX D (fun x : Int32 => Value.int x) res S9) (gXX D res S9) (2) (12) (gF D) := by
  refine g_xmet (lv := [(0, va_rf (some a0)), (1, .int v1)]) hl (by decide) (Nat.le_of_ble_eq_true rfl) rfl (fun p e s m args below meth c X hr ht => ?_)
  have X : gX D p l s m args meth c cX7_seal 4 RX7 := X
  unfold f_X7_seal at h0
  refine g_aload_n (j := 0) X dX7_seal_0 rfl rfl ?_
  obtain ⟨x1, ex1, h2⟩ := g_bd h0; clear h0
  refine g_fR (ci := 7) (k := 0) X rfl il7 (by decide) tw186 (by decide) (fun _ _ _ => rfl) ex1 dX7_seal_1 ?_
  clear ex1
  obtain ⟨a3, ea3, ka3, h4⟩ := g_dc h2; clear h2
  obtain ⟨x7, S5, eS5, h6⟩ := g_bi h4; clear h4
  refine g_cV (n := 0) (As := []) X (c_X5_useUp hl D eS5) tw249 tw250 tw251 tw45 tw252 (by decide +kernel) rfl rfl ⟨Nat.le_of_ble_eq_true rfl, Nat.le_of_ble_eq_true rfl⟩ (ci := 5) rfl (by decide) ea3 ka3 rfl rfl (Nat.le_of_ble_eq_true rfl) dX7_seal_4 ⟨(by decide), (by decide)⟩ ?_
  clear eS5 ea3 ka3
  refine g_istore_n (i := 2) (lv' := [(2, .int x7), (0, va_rf (some a0)), (1, .int v1)]) X dX7_seal_7 rfl (by decide) rfl ?_
  refine g_aload_n (j := 1) X dX7_seal_8 rfl rfl ?_
  refine g_iload_n (j := 2) X dX7_seal_9 rfl rfl ?_
  obtain ⟨a8, ea8, ka8, h9⟩ := g_dc h6; clear h6
  rcases g_bx h9 with ⟨x12, S10, eS10, h11⟩ | ⟨E13, S14, eS10, h15⟩
  · refine g_xV (n := 1) (As := [.int v1]) X (c_X7_logOf hl D eS10) tw348 tw349 tw7 tw44 tw350 (by decide +kernel) rfl rfl ⟨Nat.le_of_ble_eq_true rfl, Nat.le_of_ble_eq_true rfl⟩ (ci := 7) rfl (by decide) ea8 ka8 rfl rfl (Nat.le_of_ble_eq_true rfl) dX7_seal_10 ⟨(by decide), (by decide)⟩ (fun x' hx' => ?_) (fun _ hx' => by cases hx')
    cases hx'; clear h9 eS10 ea8 ka8
    refine g_astore_n (i := 3) (lv' := [(3, va_rf x12), (2, .int x7), (0, va_rf (some a0)), (1, .int v1)]) X dX7_seal_13 rfl (by decide) rfl ?_
    refine g_iload_n (j := 1) X dX7_seal_14 rfl rfl ?_
    refine g_bipush X dX7_seal_15 (v := 48) (by decide) ?_
    refine g_icmp_eq (tgt := 30) X dX7_seal_17 (by decide) (fun c16 => ?_) (fun c16 => ?_)
    · have h17 := g_ip h11 c16; clear h11
      refine g_aload_n (j := 2) X dX7_seal_30 rfl rfl ?_
      obtain ⟨x19, ex19, h20⟩ := g_bd h17; clear h17
      refine g_fR (ci := 7) (k := 1) X rfl il7 (by decide) tw187 (by decide) (fun _ _ _ => rfl) ex19 dX7_seal_31 ?_
      clear ex19
      refine g_aload_n (j := 2) X dX7_seal_34 rfl rfl ?_
      obtain ⟨x21, ex21, h22⟩ := g_bd h20; clear h20
      refine g_fR (ci := 7) (k := 0) X rfl il7 (by decide) tw186 (by decide) (fun _ _ _ => rfl) ex21 dX7_seal_35 ?_
      clear ex21
      obtain ⟨x23, ex23, h24⟩ := g_bd h22; clear h22
      refine g_fR (ci := 5) (k := 0) X rfl il5 (by decide) tw79 (by decide) (fun _ _ _ => rfl) ex23 dX7_seal_38 ?_
      clear ex23
      refine g_bipush X dX7_seal_41 (v := 48) (by decide) ?_
      obtain ⟨a25, ea25, ka25, h26⟩ := g_dc h24; clear h24
      obtain ⟨S27, eS27, h28⟩ := g_bd h26; clear h26
      refine g_cV (n := 2) (As := [va_rf x23, .int 48]) X (c_X5_become hl D eS27) tw501 tw502 tw503 tw45 tw504 (by decide +kernel) rfl rfl ⟨Nat.le_of_ble_eq_true rfl, Nat.le_of_ble_eq_true rfl⟩ (ci := 5) rfl (by decide) ea25 ka25 rfl rfl (Nat.le_of_ble_eq_true rfl) dX7_seal_43 ⟨(by decide), (by decide)⟩ ?_
      clear eS27 ea25 ka25
      refine g_aload_n (j := 2) X dX7_seal_46 rfl rfl ?_
      obtain ⟨x29, ex29, h30⟩ := g_bd h28; clear h28
      refine g_fR (ci := 7) (k := 1) X rfl il7 (by decide) tw187 (by decide) (fun _ _ _ => rfl) ex29 dX7_seal_47 ?_
      clear ex29
      refine g_aload_n (j := 0) X dX7_seal_50 rfl rfl ?_
      refine g_aload_n (j := 2) X dX7_seal_51 rfl rfl ?_
      obtain ⟨x31, ex31, h32⟩ := g_bd h30; clear h30
      refine g_fR (ci := 7) (k := 0) X rfl il7 (by decide) tw186 (by decide) (fun _ _ _ => rfl) ex31 dX7_seal_52 ?_
      clear ex31
      obtain ⟨x33, ex33, h34⟩ := g_bd h32; clear h32
      refine g_fR (ci := 5) (k := 0) X rfl il5 (by decide) tw79 (by decide) (fun _ _ _ => rfl) ex33 dX7_seal_55 ?_
      clear ex33
      obtain ⟨a35, ea35, ka35, h36⟩ := g_dc h34; clear h34
      obtain ⟨x39, S37, eS37, h38⟩ := g_bi h36; clear h36
      refine g_cV (n := 1) (As := [va_rf x33]) X (c_X1_sealOf hl D eS37) tw587 tw471 tw472 tw46 tw473 (by decide +kernel) rfl rfl ⟨Nat.le_of_ble_eq_true rfl, Nat.le_of_ble_eq_true rfl⟩ (ci := 1) rfl (by decide) ea35 ka35 rfl rfl (by simp [g_rfc, g_ci, g_cj, g_cr]) dX7_seal_58 ⟨(by decide), (by decide)⟩ ?_
      clear eS37 ea35 ka35
      refine g_iconst X dX7_seal_61 (v := 0) (by decide) ?_
      refine g_bipush X dX7_seal_62 (v := 32) (by decide) ?_
      obtain ⟨a40, ea40, ka40, h41⟩ := g_dc h38; clear h38
      obtain ⟨S42, eS42, h43⟩ := g_bd h41; clear h41
      refine g_cV (n := 3) (As := [va_rf x39, .int 0, .int 32]) X (c_X5_addRow hl D eS42) tw219 tw220 tw221 tw45 tw222 (by decide +kernel) rfl rfl ⟨Nat.le_of_ble_eq_true rfl, Nat.le_of_ble_eq_true rfl⟩ (ci := 5) rfl (by decide) ea40 ka40 rfl rfl (Nat.le_of_ble_eq_true rfl) dX7_seal_64 ⟨(by decide), (by decide)⟩ ?_
      clear eS42 ea40 ka40
      refine g_iconst X dX7_seal_67 (v := 1) (by decide) ?_
      obtain ⟨rfl, rfl⟩ := g_end h43
      exact g_xr (g_zret X hr (Or.inr rfl) (by decide) (by decide) dX7_seal_68)
    · have h18 := g_in h11 c16; clear h11
      obtain ⟨rfl, rfl⟩ := g_end h18
      exact g_throw (is := 212) (text := "TIME, SIZE and ROOT have 48 bytes") X ht rfl (by decide +kernel) tw373 tw58 (by decide +kernel) tx_84_1 tx_84_2 tx_84_80_3 dX7_seal_20 dX7_seal_23 dX7_seal_24 dX7_seal_26 dX7_seal_29 (by decide) (Nat.le_of_ble_eq_true rfl) (by decide) (by decide) (by decide) (by decide)
  · refine g_xV (n := 1) (As := [.int v1]) X (c_X7_logOf hl D eS10) tw348 tw349 tw7 tw44 tw350 (by decide +kernel) rfl rfl ⟨Nat.le_of_ble_eq_true rfl, Nat.le_of_ble_eq_true rfl⟩ (ci := 7) rfl (by decide) ea8 ka8 rfl rfl (Nat.le_of_ble_eq_true rfl) dX7_seal_10 ⟨(by decide), (by decide)⟩ (fun _ hx' => by cases hx') (fun E' hx' => ?_)
    cases hx'; obtain ⟨rfl, rfl⟩ := g_end h15; exact g_out X ht (by decide) (by decide)
def f_X7_viewOf (S0 : gS) (a0 : Nat) (v1 : Int32) (v2 : Int32) : Option ((String ⊕ Option Nat) × gS) :=
  if v1 < 0 then
    some (.inl "java/lang/IndexOutOfBoundsException", gsZ S0 (gZ S0 + 1))
  else
    if 4 ≤ v1 then
      some (.inl "java/lang/IndexOutOfBoundsException", gsZ S0 (gZ S0 + 1))
    else
      if v2 < 0 then
        some (.inl "java/lang/IndexOutOfBoundsException", gsZ S0 (gZ S0 + 1))
      else
        if v2 < 2 then
          (fgR S0 7 3 (some a0)).bind fun x13 =>
          (fR S0 15 x13 ((v1 * 2) + v2)).bind fun x15 =>
          some (.inr x15, S0)
        else
          some (.inl "java/lang/IndexOutOfBoundsException", gsZ S0 (gZ S0 + 1))
set_option maxRecDepth 100000 in
set_option maxHeartbeats 4000000 in
theorem c_X7_viewOf {l : Launch} (hl : l.stackTraces = false) (D : gD)  {S0 S9 : gS} {a0 : Nat} {v1 : Int32} {v2 : Int32} {res : String ⊕ Option Nat} (h0 : f_X7_viewOf S0 a0 v1 v2 = some (res, S9)) : vx_Met l yX7_viewOf (gws yX7_viewOf cX7_viewOf 3 (some (.object "LeafWitness$View"))) { frames := 6, cells := 1, slots := 6, locals := 84 } (gPc D S0 [.ref a0, .int v1, .int v2]) (gQX D (fun x : Option Nat => va_rf x) res S9) (gXX D res S9) (1) (6) (gF D) := by
  refine g_xmet (lv := [(0, va_rf (some a0)), (1, .int v1), (2, .int v2)]) hl (by decide) (Nat.le_of_ble_eq_true rfl) rfl (fun p e s m args below meth c X hr ht => ?_)
  have X : gX D p l s m args meth c cX7_viewOf 3 RX7 := X
  unfold f_X7_viewOf at h0
  refine g_iload_n (j := 1) X dX7_viewOf_0 rfl rfl ?_
  refine g_if_lt (tgt := 18) X dX7_viewOf_1 (by decide) (fun c1 => ?_) (fun c1 => ?_)
  · have h2 := g_ip h0 c1; clear h0
    obtain ⟨rfl, rfl⟩ := g_end h2
    exact g_throwW (is := 256) (text := "there is no such WITNESS or LOG") X ht rfl (by decide +kernel) tw351 tw57 (by decide +kernel) tx_255_1 tx_255_2 tx_255_251_3 dX7_viewOf_18 dX7_viewOf_21 dX7_viewOf_22 dX7_viewOf_25 dX7_viewOf_28 (by decide) (Nat.le_of_ble_eq_true rfl) (by decide) (by decide) (by decide) (by decide)
  · have h3 := g_in h0 c1; clear h0
    refine g_iload_n (j := 1) X dX7_viewOf_4 rfl rfl ?_
    refine g_iconst X dX7_viewOf_5 (v := 4) (by decide) ?_
    refine g_icmp_ge (tgt := 18) X dX7_viewOf_6 (by decide) (fun c4 => ?_) (fun c4 => ?_)
    · have h5 := g_ip h3 c4; clear h3
      obtain ⟨rfl, rfl⟩ := g_end h5
      exact g_throwW (is := 256) (text := "there is no such WITNESS or LOG") X ht rfl (by decide +kernel) tw351 tw57 (by decide +kernel) tx_255_1 tx_255_2 tx_255_251_3 dX7_viewOf_18 dX7_viewOf_21 dX7_viewOf_22 dX7_viewOf_25 dX7_viewOf_28 (by decide) (Nat.le_of_ble_eq_true rfl) (by decide) (by decide) (by decide) (by decide)
    · have h6 := g_in h3 c4; clear h3
      refine g_iload_n (j := 2) X dX7_viewOf_9 rfl rfl ?_
      refine g_if_lt (tgt := 18) X dX7_viewOf_10 (by decide) (fun c7 => ?_) (fun c7 => ?_)
      · have h8 := g_ip h6 c7; clear h6
        obtain ⟨rfl, rfl⟩ := g_end h8
        exact g_throwW (is := 256) (text := "there is no such WITNESS or LOG") X ht rfl (by decide +kernel) tw351 tw57 (by decide +kernel) tx_255_1 tx_255_2 tx_255_251_3 dX7_viewOf_18 dX7_viewOf_21 dX7_viewOf_22 dX7_viewOf_25 dX7_viewOf_28 (by decide) (Nat.le_of_ble_eq_true rfl) (by decide) (by decide) (by decide) (by decide)
      · have h9 := g_in h6 c7; clear h6
        refine g_iload_n (j := 2) X dX7_viewOf_13 rfl rfl ?_
        refine g_iconst X dX7_viewOf_14 (v := 2) (by decide) ?_
        refine g_icmp_lt (tgt := 29) X dX7_viewOf_15 (by decide) (fun c10 => ?_) (fun c10 => ?_)
        · have h11 := g_ip h9 c10; clear h9
          refine g_aload_n (j := 0) X dX7_viewOf_29 rfl rfl ?_
          obtain ⟨x13, ex13, h14⟩ := g_bd h11; clear h11
          refine g_fR (ci := 7) (k := 3) X rfl il7 (by decide) tw189 (by decide) (fun _ _ _ => rfl) ex13 dX7_viewOf_30 ?_
          clear ex13
          refine g_iload_n (j := 1) X dX7_viewOf_33 rfl rfl ?_
          refine g_iconst X dX7_viewOf_34 (v := 2) (by decide) ?_
          refine g_imul X dX7_viewOf_35 ?_
          refine g_iload_n (j := 2) X dX7_viewOf_36 rfl rfl ?_
          refine g_iadd X dX7_viewOf_37 ?_
          obtain ⟨x15, ex15, h16⟩ := g_bd h14; clear h14
          refine g_aald15 X ex15 dX7_viewOf_38 ?_
          clear ex15
          obtain ⟨rfl, rfl⟩ := g_end h16
          exact g_xr (g_aret X hr (Or.inl ⟨_, rfl⟩) (by decide) (by decide) dX7_viewOf_39)
        · have h12 := g_in h9 c10; clear h9
          obtain ⟨rfl, rfl⟩ := g_end h12
          exact g_throwW (is := 256) (text := "there is no such WITNESS or LOG") X ht rfl (by decide +kernel) tw351 tw57 (by decide +kernel) tx_255_1 tx_255_2 tx_255_251_3 dX7_viewOf_18 dX7_viewOf_21 dX7_viewOf_22 dX7_viewOf_25 dX7_viewOf_28 (by decide) (Nat.le_of_ble_eq_true rfl) (by decide) (by decide) (by decide) (by decide)
def f_X7_judge_B137 (S0 : gS) (v1 : Option Nat) (v3 : Int32) (v4 : Int64) : Option (Int32 × gS) :=
  if v3 = 0 then
    if (1 : Int32) = 0 then
      some (4, S0)
    else
      gDc S0 3 v1 fun a71 =>
      gBi (f_X3_longAt S0 a71 0) fun x75 S73 =>
      if 0 ≤ (lg_cmp v4 x75) then
        some (0, S73)
      else
        some (5, S73)
  else
    if (0 : Int32) = 0 then
      some (4, S0)
    else
      gDc S0 3 v1 fun a60 =>
      gBi (f_X3_longAt S0 a60 0) fun x64 S62 =>
      if 0 ≤ (lg_cmp v4 x64) then
        some (0, S62)
      else
        some (5, S62)
set_option maxRecDepth 100000 in
set_option maxHeartbeats 4000000 in
theorem w_X7_judge_B137 {p : Program} {l : Launch} {e : Env} {s : State} {m : MethodId} {args : Array Value} {below : List Frame} {meth : Method} {c : Code} {D : gD} {S9 : gS} {res : Int32}  (hl : l.stackTraces = false) (X : gX D p l s m args meth c cX7_judge 11 RX7) (hr : meth.sig.returnType = (some .int)) (S0 : gS) (v1 : Option Nat) (v3 : Int32) (v4 : Int64) (h0 : f_X7_judge_B137 S0 v1 v3 v4 = some (res, S9)) : gJ D p l e { frames := 5, cells := 0, slots := 0, locals := 140 } s m args below meth c (MQ below (gQ D (some (.int res)) S9) args s (0) (0) (gF D)) 11 (0) (0) S0 137 [(1, va_rf v1), (3, .int v3), (4, .long v4)] [] := by
  unfold f_X7_judge_B137 at h0
  refine g_iload_n (j := 1) X dX7_judge_137 rfl rfl ?_
  refine g_if_ne (tgt := 145) X dX7_judge_138 (by decide) (fun c54 => ?_) (fun c54 => ?_)
  · have h55 := g_in h0 c54; clear h0
    refine g_iconst X dX7_judge_145 (v := 0) (by decide) ?_
    refine g_goto (tgt := 168) X dX7_judge_146 (by decide) ?_
    refine g_istore (i := 10) (lv' := [(10, .int 0), (1, va_rf v1), (3, .int v3), (4, .long v4)]) X dX7_judge_168 (by decide) rfl ?_
    refine g_iload (j := 0) X dX7_judge_170 rfl ?_
    refine g_if_ne (tgt := 177) X dX7_judge_172 (by decide) (fun c57 => ?_) (fun c57 => ?_)
    · have h58 := g_in h55 c57; clear h55
      refine g_lload (j := 3) X dX7_judge_177 rfl ?_
      refine g_aload_n (j := 1) X dX7_judge_179 rfl rfl ?_
      refine g_iconst X dX7_judge_180 (v := 0) (by decide) ?_
      obtain ⟨a60, ea60, ka60, h61⟩ := g_dc h58; clear h58
      obtain ⟨x64, S62, eS62, h63⟩ := g_bi h61; clear h61
      refine g_cV (n := 1) (As := [.int 0]) X (c_X3_longAt hl D eS62) tw506 tw453 tw454 tw52 tw455 (by decide +kernel) rfl rfl ⟨Nat.le_of_ble_eq_true rfl, Nat.le_of_ble_eq_true rfl⟩ (ci := 3) rfl (by decide) ea60 ka60 rfl rfl (Nat.le_of_ble_eq_true rfl) dX7_judge_181 ⟨(by decide), (by decide)⟩ ?_
      clear eS62 ea60 ka60
      refine g_lcmp X dX7_judge_184 ?_
      refine g_if_ge (tgt := 192) X dX7_judge_185 (by decide) (fun c65 => ?_) (fun c65 => ?_)
      · have h66 := g_ip h63 c65; clear h63
        refine g_iconst X dX7_judge_192 (v := 0) (by decide) ?_
        obtain ⟨rfl, rfl⟩ := g_end h66
        exact g_iret X hr (by decide) (by decide) dX7_judge_193
      · have h67 := g_in h63 c65; clear h63
        refine g_iconst X dX7_judge_188 (v := 5) (by decide) ?_
        refine g_goto (tgt := 193) X dX7_judge_189 (by decide) ?_
        obtain ⟨rfl, rfl⟩ := g_end h67
        exact g_iret X hr (by decide) (by decide) dX7_judge_193
    · have h59 := g_ip h55 c57; clear h55
      refine g_iconst X dX7_judge_175 (v := 4) (by decide) ?_
      obtain ⟨rfl, rfl⟩ := g_end h59
      exact g_iret X hr (by decide) (by decide) dX7_judge_176
  · have h56 := g_ip h0 c54; clear h0
    refine g_iconst X dX7_judge_141 (v := 1) (by decide) ?_
    refine g_goto (tgt := 168) X dX7_judge_142 (by decide) ?_
    refine g_istore (i := 10) (lv' := [(10, .int 1), (1, va_rf v1), (3, .int v3), (4, .long v4)]) X dX7_judge_168 (by decide) rfl ?_
    refine g_iload (j := 0) X dX7_judge_170 rfl ?_
    refine g_if_ne (tgt := 177) X dX7_judge_172 (by decide) (fun c68 => ?_) (fun c68 => ?_)
    · have h69 := g_in h56 c68; clear h56
      refine g_lload (j := 3) X dX7_judge_177 rfl ?_
      refine g_aload_n (j := 1) X dX7_judge_179 rfl rfl ?_
      refine g_iconst X dX7_judge_180 (v := 0) (by decide) ?_
      obtain ⟨a71, ea71, ka71, h72⟩ := g_dc h69; clear h69
      obtain ⟨x75, S73, eS73, h74⟩ := g_bi h72; clear h72
      refine g_cV (n := 1) (As := [.int 0]) X (c_X3_longAt hl D eS73) tw506 tw453 tw454 tw52 tw455 (by decide +kernel) rfl rfl ⟨Nat.le_of_ble_eq_true rfl, Nat.le_of_ble_eq_true rfl⟩ (ci := 3) rfl (by decide) ea71 ka71 rfl rfl (Nat.le_of_ble_eq_true rfl) dX7_judge_181 ⟨(by decide), (by decide)⟩ ?_
      clear eS73 ea71 ka71
      refine g_lcmp X dX7_judge_184 ?_
      refine g_if_ge (tgt := 192) X dX7_judge_185 (by decide) (fun c76 => ?_) (fun c76 => ?_)
      · have h77 := g_ip h74 c76; clear h74
        refine g_iconst X dX7_judge_192 (v := 0) (by decide) ?_
        obtain ⟨rfl, rfl⟩ := g_end h77
        exact g_iret X hr (by decide) (by decide) dX7_judge_193
      · have h78 := g_in h74 c76; clear h74
        refine g_iconst X dX7_judge_188 (v := 5) (by decide) ?_
        refine g_goto (tgt := 193) X dX7_judge_189 (by decide) ?_
        obtain ⟨rfl, rfl⟩ := g_end h78
        exact g_iret X hr (by decide) (by decide) dX7_judge_193
    · have h70 := g_ip h56 c68; clear h56
      refine g_iconst X dX7_judge_175 (v := 4) (by decide) ?_
      obtain ⟨rfl, rfl⟩ := g_end h70
      exact g_iret X hr (by decide) (by decide) dX7_judge_176
def f_X7_judge_B122 (S0 : gS) (a0 : Nat) (v1 : Option Nat) (v3 : Int32) (v4 : Int64) (v6 : Int64) (v8 : Int64) : Option (Int32 × gS) :=
  if (lg_cmp v6 v8) = 0 then
    f_X7_judge_B137 S0 v1 v3 v4
  else
    if (lg_cmp v8 0) = 0 then
      f_X7_judge_B137 S0 v1 v3 v4
    else
      (fgR S0 3 0 v1).bind fun x82 =>
      gDc S0 7 (some a0) fun a84 =>
      gBi (f_X7_goesOn S0 a84 v8 v6 x82 16 16 v3 80) fun x88 S86 =>
      if x88 = 0 then
        some (4, S86)
      else
        gDc S86 3 v1 fun a92 =>
        gBi (f_X3_longAt S86 a92 0) fun x96 S94 =>
        if 0 ≤ (lg_cmp v4 x96) then
          some (0, S94)
        else
          some (5, S94)
set_option maxRecDepth 100000 in
set_option maxHeartbeats 4000000 in
theorem w_X7_judge_B122 {p : Program} {l : Launch} {e : Env} {s : State} {m : MethodId} {args : Array Value} {below : List Frame} {meth : Method} {c : Code} {D : gD} {S9 : gS} {res : Int32}  (hl : l.stackTraces = false) (X : gX D p l s m args meth c cX7_judge 11 RX7) (hr : meth.sig.returnType = (some .int)) (S0 : gS) (a0 : Nat) (v1 : Option Nat) (v3 : Int32) (v4 : Int64) (v6 : Int64) (v8 : Int64) (h0 : f_X7_judge_B122 S0 a0 v1 v3 v4 v6 v8 = some (res, S9)) : gJ D p l e { frames := 5, cells := 0, slots := 0, locals := 140 } s m args below meth c (MQ below (gQ D (some (.int res)) S9) args s (0) (0) (gF D)) 11 (0) (0) S0 122 [(0, va_rf (some a0)), (1, va_rf v1), (3, .int v3), (4, .long v4), (6, .long v6), (8, .long v8)] [] := by
  unfold f_X7_judge_B122 at h0
  refine g_lload (j := 4) X dX7_judge_122 rfl ?_
  refine g_lload (j := 5) X dX7_judge_124 rfl ?_
  refine g_lcmp X dX7_judge_126 ?_
  refine g_if_eq (tgt := 137) X dX7_judge_127 (by decide) (fun c51 => ?_) (fun c51 => ?_)
  · have h52 := g_ip h0 c51; clear h0
    refine g_sub [1, 2, 3] rfl ?_
    exact w_X7_judge_B137 hl X hr S0 v1 v3 v4 h52
  · have h53 := g_in h0 c51; clear h0
    refine g_lload (j := 5) X dX7_judge_130 rfl ?_
    refine g_lconst X dX7_judge_132 (v := 0) (by decide) ?_
    refine g_lcmp X dX7_judge_133 ?_
    refine g_if_ne (tgt := 149) X dX7_judge_134 (by decide) (fun c79 => ?_) (fun c79 => ?_)
    · have h80 := g_in h53 c79; clear h53
      refine g_aload_n (j := 0) X dX7_judge_149 rfl rfl ?_
      refine g_lload (j := 5) X dX7_judge_150 rfl ?_
      refine g_lload (j := 4) X dX7_judge_152 rfl ?_
      refine g_aload_n (j := 1) X dX7_judge_154 rfl rfl ?_
      obtain ⟨x82, ex82, h83⟩ := g_bd h80; clear h80
      refine g_fR (ci := 3) (k := 0) X rfl il3 (by decide) tw424 (by decide) (fun _ _ _ => rfl) ex82 dX7_judge_155 ?_
      clear ex82
      refine g_bipush X dX7_judge_158 (v := 16) (by decide) ?_
      refine g_bipush X dX7_judge_160 (v := 16) (by decide) ?_
      refine g_iload_n (j := 2) X dX7_judge_162 rfl rfl ?_
      refine g_bipush X dX7_judge_163 (v := 80) (by decide) ?_
      obtain ⟨a84, ea84, ka84, h85⟩ := g_dc h83; clear h83
      obtain ⟨x88, S86, eS86, h87⟩ := g_bi h85; clear h85
      refine g_cV (n := 7) (As := [.long v8, .long v6, va_rf x82, .int 16, .int 16, .int v3, .int 80]) X (c_X7_goesOn hl D eS86) tw327 tw328 tw6 tw44 tw329 (by decide +kernel) rfl rfl ⟨Nat.le_of_ble_eq_true rfl, Nat.le_of_ble_eq_true rfl⟩ (ci := 7) rfl (by decide) ea84 ka84 rfl rfl (Nat.le_of_ble_eq_true rfl) dX7_judge_165 ⟨(by decide), (by decide)⟩ ?_
      clear eS86 ea84 ka84
      refine g_istore (i := 10) (lv' := [(10, .int x88), (0, va_rf (some a0)), (1, va_rf v1), (3, .int v3), (4, .long v4), (6, .long v6), (8, .long v8)]) X dX7_judge_168 (by decide) rfl ?_
      refine g_iload (j := 0) X dX7_judge_170 rfl ?_
      refine g_if_ne (tgt := 177) X dX7_judge_172 (by decide) (fun c89 => ?_) (fun c89 => ?_)
      · have h90 := g_in h87 c89; clear h87
        refine g_lload (j := 4) X dX7_judge_177 rfl ?_
        refine g_aload_n (j := 2) X dX7_judge_179 rfl rfl ?_
        refine g_iconst X dX7_judge_180 (v := 0) (by decide) ?_
        obtain ⟨a92, ea92, ka92, h93⟩ := g_dc h90; clear h90
        obtain ⟨x96, S94, eS94, h95⟩ := g_bi h93; clear h93
        refine g_cV (n := 1) (As := [.int 0]) X (c_X3_longAt hl D eS94) tw506 tw453 tw454 tw52 tw455 (by decide +kernel) rfl rfl ⟨Nat.le_of_ble_eq_true rfl, Nat.le_of_ble_eq_true rfl⟩ (ci := 3) rfl (by decide) ea92 ka92 rfl rfl (Nat.le_of_ble_eq_true rfl) dX7_judge_181 ⟨(by decide), (by decide)⟩ ?_
        clear eS94 ea92 ka92
        refine g_lcmp X dX7_judge_184 ?_
        refine g_if_ge (tgt := 192) X dX7_judge_185 (by decide) (fun c97 => ?_) (fun c97 => ?_)
        · have h98 := g_ip h95 c97; clear h95
          refine g_iconst X dX7_judge_192 (v := 0) (by decide) ?_
          obtain ⟨rfl, rfl⟩ := g_end h98
          exact g_iret X hr (by decide) (by decide) dX7_judge_193
        · have h99 := g_in h95 c97; clear h95
          refine g_iconst X dX7_judge_188 (v := 5) (by decide) ?_
          refine g_goto (tgt := 193) X dX7_judge_189 (by decide) ?_
          obtain ⟨rfl, rfl⟩ := g_end h99
          exact g_iret X hr (by decide) (by decide) dX7_judge_193
      · have h91 := g_ip h87 c89; clear h87
        refine g_iconst X dX7_judge_175 (v := 4) (by decide) ?_
        obtain ⟨rfl, rfl⟩ := g_end h91
        exact g_iret X hr (by decide) (by decide) dX7_judge_176
    · have h81 := g_ip h53 c79; clear h53
      refine g_sub [1, 2, 3] rfl ?_
      exact w_X7_judge_B137 hl X hr S0 v1 v3 v4 h81
def f_X7_judge (S0 : gS) (a0 : Nat) (v1 : Option Nat) (v2 : Option Nat) (v3 : Int32) : Option (Int32 × gS) :=
  (fgR S0 7 0 (some a0)).bind fun x1 =>
  (fgR S0 5 0 x1).bind fun x3 =>
  gBi (f_X3_readLong S0 x3 0) fun x7 S5 =>
  (fgR S5 7 0 (some a0)).bind fun x8 =>
  (fgR S5 5 0 x8).bind fun x10 =>
  gBi (f_X3_readLong S5 x10 8) fun x14 S12 =>
  if (lg_cmp x7 0) < 0 then
    some (1, S12)
  else
    if (lg_cmp x14 0) < 0 then
      some (1, S12)
    else
      (fgR S12 7 0 (some a0)).bind fun x21 =>
      (fgR S12 5 0 x21).bind fun x23 =>
      gDc S12 1 v2 fun a25 =>
      gBi (f_X1_hasSealed S12 a25 x23) fun x29 S27 =>
      if x29 = 0 then
        some (1, S27)
      else
        gnl v1 (
          if v3 = 0 then
            some (0, S27)
          else
            some (4, S27)
        ) (
          gDc S27 3 v1 fun a40 =>
          gBi (f_X3_longAt S27 a40 8) fun x44 S42 =>
          if 0 ≤ (lg_cmp x14 x44) then
            if (lg_cmp x14 x44) = 0 then
              (fgR S42 3 0 v1).bind fun x100 =>
              (fgR S42 7 0 (some a0)).bind fun x102 =>
              (fgR S42 5 0 x102).bind fun x104 =>
              gBi (f_X3_same S42 x100 16 x104 16 32) fun x108 S106 =>
              if x108 = 0 then
                some (3, S106)
              else
                f_X7_judge_B122 S106 a0 v1 v3 x7 x14 x44
            else
              f_X7_judge_B122 S42 a0 v1 v3 x7 x14 x44
          else
            some (2, S42)
        )
set_option maxRecDepth 100000 in
set_option maxHeartbeats 4000000 in
theorem c_X7_judge {l : Launch} (hl : l.stackTraces = false) (D : gD)  {S0 S9 : gS} {a0 : Nat} {v1 : Option Nat} {v2 : Option Nat} {v3 : Int32} {res : Int32} (h0 : f_X7_judge S0 a0 v1 v2 v3 = some (res, S9)) : Met l yX7_judge (gws yX7_judge cX7_judge 11 (some .int)) { frames := 5, cells := 0, slots := 0, locals := 140 } (gPc D S0 [.ref a0, va_rf v1, va_rf v2, .int v3]) (gQ D (some (.int res)) S9) (0) (0) (gF D) := by
  refine g_met (lv := [(0, va_rf (some a0)), (1, va_rf v1), (2, va_rf v2), (3, .int v3)]) hl (by decide) (by simp [lg_sl, g_rfc, g_ci, g_cj, g_cr]) (by simp [lv_args, g_rfc, g_ci, g_cj, g_cr]; try rfl) (fun p e s m args below meth c X hr hn => ?_)
  have X : gX D p l s m args meth c cX7_judge 11 RX7 := X
  unfold f_X7_judge at h0
  refine g_aload_n (j := 0) X dX7_judge_0 rfl rfl ?_
  obtain ⟨x1, ex1, h2⟩ := g_bd h0; clear h0
  refine g_fR (ci := 7) (k := 0) X rfl il7 (by decide) tw186 (by decide) (fun _ _ _ => rfl) ex1 dX7_judge_1 ?_
  clear ex1
  obtain ⟨x3, ex3, h4⟩ := g_bd h2; clear h2
  refine g_fR (ci := 5) (k := 0) X rfl il5 (by decide) tw79 (by decide) (fun _ _ _ => rfl) ex3 dX7_judge_4 ?_
  clear ex3
  refine g_iconst X dX7_judge_7 (v := 0) (by decide) ?_
  obtain ⟨x7, S5, eS5, h6⟩ := g_bi h4; clear h4
  refine g_cS (n := 2) (As := [va_rf x3, .int 0]) X (c_X3_readLong hl D eS5) tw601 tw457 tw52 tw458 (by decide +kernel) rfl rfl ⟨Nat.le_of_ble_eq_true rfl, Nat.le_of_ble_eq_true rfl⟩ rfl rfl (Nat.le_of_ble_eq_true rfl) dX7_judge_8 ⟨(by decide), (by decide)⟩ ?_
  clear eS5
  refine g_lstore (i := 4) (lv' := [(4, .long x7), (0, va_rf (some a0)), (1, va_rf v1), (2, va_rf v2), (3, .int v3)]) X dX7_judge_11 (by decide) rfl ?_
  refine g_aload_n (j := 1) X dX7_judge_13 rfl rfl ?_
  obtain ⟨x8, ex8, h9⟩ := g_bd h6; clear h6
  refine g_fR (ci := 7) (k := 0) X rfl il7 (by decide) tw186 (by decide) (fun _ _ _ => rfl) ex8 dX7_judge_14 ?_
  clear ex8
  obtain ⟨x10, ex10, h11⟩ := g_bd h9; clear h9
  refine g_fR (ci := 5) (k := 0) X rfl il5 (by decide) tw79 (by decide) (fun _ _ _ => rfl) ex10 dX7_judge_17 ?_
  clear ex10
  refine g_bipush X dX7_judge_20 (v := 8) (by decide) ?_
  obtain ⟨x14, S12, eS12, h13⟩ := g_bi h11; clear h11
  refine g_cS (n := 2) (As := [va_rf x10, .int 8]) X (c_X3_readLong hl D eS12) tw601 tw457 tw52 tw458 (by decide +kernel) rfl rfl ⟨Nat.le_of_ble_eq_true rfl, Nat.le_of_ble_eq_true rfl⟩ rfl rfl (Nat.le_of_ble_eq_true rfl) dX7_judge_22 ⟨(by decide), (by decide)⟩ ?_
  clear eS12
  refine g_lstore (i := 6) (lv' := [(6, .long x14), (4, .long x7), (0, va_rf (some a0)), (1, va_rf v1), (2, va_rf v2), (3, .int v3)]) X dX7_judge_25 (by decide) rfl ?_
  refine g_lload (j := 1) X dX7_judge_27 rfl ?_
  refine g_lconst X dX7_judge_29 (v := 0) (by decide) ?_
  refine g_lcmp X dX7_judge_30 ?_
  refine g_if_lt (tgt := 55) X dX7_judge_31 (by decide) (fun c15 => ?_) (fun c15 => ?_)
  · have h16 := g_ip h13 c15; clear h13
    refine g_iconst X dX7_judge_55 (v := 1) (by decide) ?_
    obtain ⟨rfl, rfl⟩ := g_end h16
    exact g_iret X hr (by decide) (by decide) dX7_judge_56
  · have h17 := g_in h13 c15; clear h13
    refine g_lload (j := 0) X dX7_judge_34 rfl ?_
    refine g_lconst X dX7_judge_36 (v := 0) (by decide) ?_
    refine g_lcmp X dX7_judge_37 ?_
    refine g_if_lt (tgt := 55) X dX7_judge_38 (by decide) (fun c18 => ?_) (fun c18 => ?_)
    · have h19 := g_ip h17 c18; clear h17
      refine g_iconst X dX7_judge_55 (v := 1) (by decide) ?_
      obtain ⟨rfl, rfl⟩ := g_end h19
      exact g_iret X hr (by decide) (by decide) dX7_judge_56
    · have h20 := g_in h17 c18; clear h17
      refine g_aload_n (j := 4) X dX7_judge_41 rfl rfl ?_
      refine g_aload_n (j := 2) X dX7_judge_42 rfl rfl ?_
      obtain ⟨x21, ex21, h22⟩ := g_bd h20; clear h20
      refine g_fR (ci := 7) (k := 0) X rfl il7 (by decide) tw186 (by decide) (fun _ _ _ => rfl) ex21 dX7_judge_43 ?_
      clear ex21
      obtain ⟨x23, ex23, h24⟩ := g_bd h22; clear h22
      refine g_fR (ci := 5) (k := 0) X rfl il5 (by decide) tw79 (by decide) (fun _ _ _ => rfl) ex23 dX7_judge_46 ?_
      clear ex23
      obtain ⟨a25, ea25, ka25, h26⟩ := g_dc h24; clear h24
      obtain ⟨x29, S27, eS27, h28⟩ := g_bi h26; clear h26
      refine g_cV (n := 1) (As := [va_rf x23]) X (c_X1_hasSealed hl D eS27) tw576 tw577 tw578 tw46 tw579 (by decide +kernel) rfl rfl ⟨Nat.le_of_ble_eq_true rfl, Nat.le_of_ble_eq_true rfl⟩ (ci := 1) rfl (by decide) ea25 ka25 rfl rfl (Nat.le_of_ble_eq_true rfl) dX7_judge_49 ⟨(by decide), (by decide)⟩ ?_
      clear eS27 ea25 ka25
      refine g_if_ne (tgt := 57) X dX7_judge_52 (by decide) (fun c30 => ?_) (fun c30 => ?_)
      · have h31 := g_in h28 c30; clear h28
        refine g_aload_n (j := 3) X dX7_judge_57 rfl rfl ?_
        refine g_ifnonnull (tgt := 71) X dX7_judge_58 (by decide) (fun c35 => ?_) (fun q36 c35 => ?_)
        · have h33 := g_nln h31 c35; clear h31
          refine g_iload_n (j := 5) X dX7_judge_61 rfl rfl ?_
          refine g_if_ne (tgt := 69) X dX7_judge_62 (by decide) (fun c37 => ?_) (fun c37 => ?_)
          · have h38 := g_in h33 c37; clear h33
            refine g_iconst X dX7_judge_69 (v := 4) (by decide) ?_
            obtain ⟨rfl, rfl⟩ := g_end h38
            exact g_iret X hr (by decide) (by decide) dX7_judge_70
          · have h39 := g_ip h33 c37; clear h33
            refine g_iconst X dX7_judge_65 (v := 0) (by decide) ?_
            refine g_goto (tgt := 70) X dX7_judge_66 (by decide) ?_
            obtain ⟨rfl, rfl⟩ := g_end h39
            exact g_iret X hr (by decide) (by decide) dX7_judge_70
        · have h34 := g_nls h31 c35; clear h31
          refine g_aload_n (j := 3) X dX7_judge_71 rfl rfl ?_
          refine g_bipush X dX7_judge_72 (v := 8) (by decide) ?_
          obtain ⟨a40, ea40, ka40, h41⟩ := g_dc h34; clear h34
          obtain ⟨x44, S42, eS42, h43⟩ := g_bi h41; clear h41
          refine g_cV (n := 1) (As := [.int 8]) X (c_X3_longAt hl D eS42) tw506 tw453 tw454 tw52 tw455 (by decide +kernel) rfl rfl ⟨Nat.le_of_ble_eq_true rfl, Nat.le_of_ble_eq_true rfl⟩ (ci := 3) rfl (by decide) ea40 ka40 rfl rfl (Nat.le_of_ble_eq_true rfl) dX7_judge_74 ⟨(by decide), (by decide)⟩ ?_
          clear eS42 ea40 ka40
          refine g_lstore (i := 8) (lv' := [(8, .long x44), (6, .long x14), (4, .long x7), (0, va_rf (some a0)), (1, va_rf v1), (2, va_rf v2), (3, .int v3)]) X dX7_judge_77 (by decide) rfl ?_
          refine g_lload (j := 1) X dX7_judge_79 rfl ?_
          refine g_lload (j := 0) X dX7_judge_81 rfl ?_
          refine g_lcmp X dX7_judge_83 ?_
          refine g_if_ge (tgt := 89) X dX7_judge_84 (by decide) (fun c45 => ?_) (fun c45 => ?_)
          · have h46 := g_ip h43 c45; clear h43
            refine g_lload (j := 1) X dX7_judge_89 rfl ?_
            refine g_lload (j := 0) X dX7_judge_91 rfl ?_
            refine g_lcmp X dX7_judge_93 ?_
            refine g_if_ne (tgt := 122) X dX7_judge_94 (by decide) (fun c48 => ?_) (fun c48 => ?_)
            · have h49 := g_in h46 c48; clear h46
              refine g_sub [3, 4, 6, 2, 1, 0] rfl ?_
              exact w_X7_judge_B122 hl X hr S42 a0 v1 v3 x7 x14 x44 h49
            · have h50 := g_ip h46 c48; clear h46
              refine g_aload_n (j := 4) X dX7_judge_97 rfl rfl ?_
              obtain ⟨x100, ex100, h101⟩ := g_bd h50; clear h50
              refine g_fR (ci := 3) (k := 0) X rfl il3 (by decide) tw424 (by decide) (fun _ _ _ => rfl) ex100 dX7_judge_98 ?_
              clear ex100
              refine g_bipush X dX7_judge_101 (v := 16) (by decide) ?_
              refine g_aload_n (j := 3) X dX7_judge_103 rfl rfl ?_
              obtain ⟨x102, ex102, h103⟩ := g_bd h101; clear h101
              refine g_fR (ci := 7) (k := 0) X rfl il7 (by decide) tw186 (by decide) (fun _ _ _ => rfl) ex102 dX7_judge_104 ?_
              clear ex102
              obtain ⟨x104, ex104, h105⟩ := g_bd h103; clear h103
              refine g_fR (ci := 5) (k := 0) X rfl il5 (by decide) tw79 (by decide) (fun _ _ _ => rfl) ex104 dX7_judge_107 ?_
              clear ex104
              refine g_bipush X dX7_judge_110 (v := 16) (by decide) ?_
              refine g_bipush X dX7_judge_112 (v := 32) (by decide) ?_
              obtain ⟨x108, S106, eS106, h107⟩ := g_bi h105; clear h105
              refine g_cS (n := 5) (As := [va_rf x100, .int 16, va_rf x104, .int 16, .int 32]) X (c_X3_same hl D eS106) tw602 tw321 tw52 tw322 (by decide +kernel) rfl rfl ⟨Nat.le_of_ble_eq_true rfl, Nat.le_of_ble_eq_true rfl⟩ rfl rfl (Nat.le_of_ble_eq_true rfl) dX7_judge_114 ⟨(by decide), (by decide)⟩ ?_
              clear eS106
              refine g_if_ne (tgt := 122) X dX7_judge_117 (by decide) (fun c109 => ?_) (fun c109 => ?_)
              · have h110 := g_in h107 c109; clear h107
                refine g_sub [3, 4, 6, 2, 1, 0] rfl ?_
                exact w_X7_judge_B122 hl X hr S106 a0 v1 v3 x7 x14 x44 h110
              · have h111 := g_ip h107 c109; clear h107
                refine g_iconst X dX7_judge_120 (v := 3) (by decide) ?_
                obtain ⟨rfl, rfl⟩ := g_end h111
                exact g_iret X hr (by decide) (by decide) dX7_judge_121
          · have h47 := g_in h43 c45; clear h43
            refine g_iconst X dX7_judge_87 (v := 2) (by decide) ?_
            obtain ⟨rfl, rfl⟩ := g_end h47
            exact g_iret X hr (by decide) (by decide) dX7_judge_88
      · have h32 := g_ip h28 c30; clear h28
        refine g_iconst X dX7_judge_55 (v := 1) (by decide) ?_
        obtain ⟨rfl, rfl⟩ := g_end h32
        exact g_iret X hr (by decide) (by decide) dX7_judge_56
def f_X7_follow_B88 (S0 : gS) (a0 : Nat) (v4 : Option Nat) (v5 : Int32) : Option ((String ⊕ Int32) × gS) :=
  if v5 = 3 then
    gDc S0 6 v4 fun a43 =>
    gBi (f_X6_lacksEvidence S0 a43) fun x47 S45 =>
    if x47 = 0 then
      some (.inr v5, S45)
    else
      (fgR S45 6 0 v4).bind fun x51 =>
      gLet (gZ S45) fun z53 =>
      gLet (gnw S45 3 1) fun S54 =>
      (fgR S54 7 0 (some a0)).bind fun x57 =>
      (fgR S54 5 0 x57).bind fun x59 =>
      (f_X3_init S54 z53 x59 80).bind fun S61 =>
      gDc S61 6 v4 fun a63 =>
      (f_X6_keepEvidence S61 a63 x51 (some z53)).bind fun S65 =>
      some (.inr v5, S65)
  else
    some (.inr v5, S0)
set_option maxRecDepth 100000 in
set_option maxHeartbeats 4000000 in
theorem w_X7_follow_B88 {p : Program} {l : Launch} {e : Env} {s : State} {m : MethodId} {args : Array Value} {below : List Frame} {meth : Method} {c : Code} {D : gD} {S9 : gS} {res : String ⊕ Int32}  (hl : l.stackTraces = false) (X : gX D p l s m args meth c cX7_follow 6 RX7) (hr : meth.sig.returnType = (some .int)) (ht : ∀ x ∈ c.exceptionTable.toList, False) (S0 : gS) (a0 : Nat) (v4 : Option Nat) (v5 : Int32) (h0 : f_X7_follow_B88 S0 a0 v4 v5 = some (res, S9)) : gJ D p l e { frames := 7, cells := 6, slots := 254, locals := 170 } s m args below meth c (vx_MQ below (gQX D (fun x : Int32 => Value.int x) res S9) (gXX D res S9) args s (6) (254) (gF D)) 6 (4) (133) S0 88 [(0, va_rf (some a0)), (4, va_rf v4), (5, .int v5)] [] := by
  unfold f_X7_follow_B88 at h0
  refine g_iload (j := 2) X dX7_follow_88 rfl ?_
  refine g_iconst X dX7_follow_90 (v := 3) (by decide) ?_
  refine g_icmp_ne (tgt := 128) X dX7_follow_91 (by decide) (fun c40 => ?_) (fun c40 => ?_)
  · have h41 := g_in h0 c40; clear h0
    refine g_iload (j := 2) X dX7_follow_128 rfl ?_
    obtain ⟨rfl, rfl⟩ := g_end h41
    exact g_xr (g_iret X hr (by decide) (by decide) dX7_follow_130)
  · have h42 := g_ip h0 c40; clear h0
    refine g_aload (j := 1) X dX7_follow_94 rfl ?_
    obtain ⟨a43, ea43, ka43, h44⟩ := g_dc h42; clear h42
    obtain ⟨x47, S45, eS45, h46⟩ := g_bi h44; clear h44
    refine g_cV (n := 0) (As := []) X (c_X6_lacksEvidence hl D eS45) tw605 tw606 tw607 tw48 tw608 (by decide +kernel) rfl rfl ⟨Nat.le_of_ble_eq_true rfl, Nat.le_of_ble_eq_true rfl⟩ (ci := 6) rfl (by decide) ea43 ka43 rfl rfl (Nat.le_of_ble_eq_true rfl) dX7_follow_96 ⟨(by decide), (by decide)⟩ ?_
    clear eS45 ea43 ka43
    refine g_if_eq (tgt := 128) X dX7_follow_99 (by decide) (fun c48 => ?_) (fun c48 => ?_)
    · have h49 := g_ip h46 c48; clear h46
      refine g_iload (j := 2) X dX7_follow_128 rfl ?_
      obtain ⟨rfl, rfl⟩ := g_end h49
      exact g_xr (g_iret X hr (by decide) (by decide) dX7_follow_130)
    · have h50 := g_in h46 c48; clear h46
      refine g_aload (j := 1) X dX7_follow_102 rfl ?_
      refine g_aload (j := 1) X dX7_follow_104 rfl ?_
      obtain ⟨x51, ex51, h52⟩ := g_bd h50; clear h50
      refine g_fR (ci := 6) (k := 0) X rfl il6 (by decide) tw138 (by decide) (fun _ _ _ => rfl) ex51 dX7_follow_106 ?_
      clear ex51
      refine g_new (ci := 3) X rfl (by decide) il3 tyX3 tyX3_ok (by decide) tw603 tw416 tw52 (by decide) (by decide) dX7_follow_109 ?_
      obtain ⟨z53, ez53, h56⟩ := g_let h52; clear h52; rw [← ez53]; clear ez53
      obtain ⟨S54, eS54, h55⟩ := g_let h56; clear h56; rw [← eS54]; clear eS54
      refine g_dup X dX7_follow_112 (g_rfc _) ?_
      refine g_aload_n (j := 0) X dX7_follow_113 rfl rfl ?_
      obtain ⟨x57, ex57, h58⟩ := g_bd h55; clear h55
      refine g_fR (ci := 7) (k := 0) X rfl il7 (by decide) tw186 (by decide) (fun _ _ _ => rfl) ex57 dX7_follow_114 ?_
      clear ex57
      obtain ⟨x59, ex59, h60⟩ := g_bd h58; clear h58
      refine g_fR (ci := 5) (k := 0) X rfl il5 (by decide) tw79 (by decide) (fun _ _ _ => rfl) ex59 dX7_follow_117 ?_
      clear ex59
      refine g_bipush X dX7_follow_120 (v := 80) (by decide) ?_
      obtain ⟨S61, eS61, h62⟩ := g_bd h60; clear h60
      refine g_cI (n := 2) (As := [va_rf x59, .int 80]) X (c_X3_init hl D eS61) tw604 tw418 tw52 tw419 rfl (by decide +kernel) rfl rfl ⟨Nat.le_of_ble_eq_true rfl, Nat.le_of_ble_eq_true rfl⟩ rfl rfl rfl (by simp [g_rfc, g_ci, g_cj, g_cr]) dX7_follow_122 ⟨(by decide), (by decide)⟩ ?_
      clear eS61
      obtain ⟨a63, ea63, ka63, h64⟩ := g_dc h62; clear h62
      obtain ⟨S65, eS65, h66⟩ := g_bd h64; clear h64
      refine g_cV (n := 2) (As := [va_rf x51, va_rf (some z53)]) X (c_X6_keepEvidence hl D eS65) tw609 tw610 tw611 tw48 tw612 (by decide +kernel) rfl rfl ⟨Nat.le_of_ble_eq_true rfl, Nat.le_of_ble_eq_true rfl⟩ (ci := 6) rfl (by decide) ea63 ka63 rfl rfl (Nat.le_of_ble_eq_true rfl) dX7_follow_125 ⟨(by decide), (by decide)⟩ ?_
      clear eS65 ea63 ka63
      refine g_iload (j := 2) X dX7_follow_128 rfl ?_
      obtain ⟨rfl, rfl⟩ := g_end h66
      exact g_xr (g_iret X hr (by decide) (by decide) dX7_follow_130)
def f_X7_follow (S0 : gS) (a0 : Nat) (v1 : Int32) (v2 : Int32) : Option ((String ⊕ Int32) × gS) :=
  (fgR S0 7 0 (some a0)).bind fun x1 =>
  gDc S0 5 x1 fun a3 =>
  gBi (f_X5_useUp S0 a3) fun x7 S5 =>
  gDc S5 7 (some a0) fun a8 =>
  gBx (f_X7_viewOf S5 a8 v1 v2) (fun E13 S14 => some (.inl E13, S14)) fun x12 S10 =>
  if x7 < 80 then
    some (.inl "java/lang/IllegalArgumentException", gsZ S10 (gZ S10 + 1))
  else
    if ((x7 - 80) - (x7 - 80) / 32 * 32) = 0 then
      (fgR S10 6 0 x12).bind fun x22 =>
      gDc S10 7 (some a0) fun a24 =>
      gBx (f_X7_logOf S10 a24 v2) (fun E29 S30 => some (.inl E29, S30)) fun x28 S26 =>
      gDc S26 7 (some a0) fun a32 =>
      gBi (f_X7_judge S26 a32 x22 x28 (x7 - 80)) fun x36 S34 =>
      if x36 = 0 then
        gLet (gZ S34) fun z67 =>
        gLet (gnw S34 3 1) fun S68 =>
        (fgR S68 7 0 (some a0)).bind fun x71 =>
        (fgR S68 5 0 x71).bind fun x73 =>
        (f_X3_init S68 z67 x73 80).bind fun S75 =>
        (fpR S75 6 0 x12 (some z67)).bind fun S77 =>
        f_X7_follow_B88 S77 a0 x12 x36
      else
        f_X7_follow_B88 S34 a0 x12 x36
    else
      some (.inl "java/lang/IllegalArgumentException", gsZ S10 (gZ S10 + 1))
set_option maxRecDepth 100000 in
set_option maxHeartbeats 4000000 in
theorem c_X7_follow {l : Launch} (hl : l.stackTraces = false) (D : gD)  {S0 S9 : gS} {a0 : Nat} {v1 : Int32} {v2 : Int32} {res : String ⊕ Int32} (h0 : f_X7_follow S0 a0 v1 v2 = some (res, S9)) : vx_Met l yX7_follow (gws yX7_follow cX7_follow 6 (some .int)) { frames := 7, cells := 6, slots := 254, locals := 170 } (gPc D S0 [.ref a0, .int v1, .int v2]) (gQX D (fun x : Int32 => Value.int x) res S9) (gXX D res S9) (6) (254) (gF D) := by
  refine g_xmet (lv := [(0, va_rf (some a0)), (1, .int v1), (2, .int v2)]) hl (by decide) (Nat.le_of_ble_eq_true rfl) rfl (fun p e s m args below meth c X hr ht => ?_)
  have X : gX D p l s m args meth c cX7_follow 6 RX7 := X
  unfold f_X7_follow at h0
  refine g_aload_n (j := 0) X dX7_follow_0 rfl rfl ?_
  obtain ⟨x1, ex1, h2⟩ := g_bd h0; clear h0
  refine g_fR (ci := 7) (k := 0) X rfl il7 (by decide) tw186 (by decide) (fun _ _ _ => rfl) ex1 dX7_follow_1 ?_
  clear ex1
  obtain ⟨a3, ea3, ka3, h4⟩ := g_dc h2; clear h2
  obtain ⟨x7, S5, eS5, h6⟩ := g_bi h4; clear h4
  refine g_cV (n := 0) (As := []) X (c_X5_useUp hl D eS5) tw249 tw250 tw251 tw45 tw252 (by decide +kernel) rfl rfl ⟨Nat.le_of_ble_eq_true rfl, Nat.le_of_ble_eq_true rfl⟩ (ci := 5) rfl (by decide) ea3 ka3 rfl rfl (Nat.le_of_ble_eq_true rfl) dX7_follow_4 ⟨(by decide), (by decide)⟩ ?_
  clear eS5 ea3 ka3
  refine g_istore_n (i := 3) (lv' := [(3, .int x7), (0, va_rf (some a0)), (1, .int v1), (2, .int v2)]) X dX7_follow_7 rfl (by decide) rfl ?_
  refine g_aload_n (j := 1) X dX7_follow_8 rfl rfl ?_
  refine g_iload_n (j := 2) X dX7_follow_9 rfl rfl ?_
  refine g_iload_n (j := 3) X dX7_follow_10 rfl rfl ?_
  obtain ⟨a8, ea8, ka8, h9⟩ := g_dc h6; clear h6
  rcases g_bx h9 with ⟨x12, S10, eS10, h11⟩ | ⟨E13, S14, eS10, h15⟩
  · refine g_xV (n := 2) (As := [.int v1, .int v2]) X (c_X7_viewOf hl D eS10) tw595 tw596 tw12 tw44 tw597 (by decide +kernel) rfl rfl ⟨Nat.le_of_ble_eq_true rfl, Nat.le_of_ble_eq_true rfl⟩ (ci := 7) rfl (by decide) ea8 ka8 rfl rfl (Nat.le_of_ble_eq_true rfl) dX7_follow_11 ⟨(by decide), (by decide)⟩ (fun x' hx' => ?_) (fun _ hx' => by cases hx')
    cases hx'; clear h9 eS10 ea8 ka8
    refine g_astore (i := 4) (lv' := [(4, va_rf x12), (3, .int x7), (0, va_rf (some a0)), (1, .int v1), (2, .int v2)]) X dX7_follow_14 (by decide) rfl ?_
    refine g_iload_n (j := 1) X dX7_follow_16 rfl rfl ?_
    refine g_bipush X dX7_follow_17 (v := 80) (by decide) ?_
    refine g_icmp_lt (tgt := 32) X dX7_follow_19 (by decide) (fun c16 => ?_) (fun c16 => ?_)
    · have h17 := g_ip h11 c16; clear h11
      obtain ⟨rfl, rfl⟩ := g_end h17
      exact g_throw (is := 222) (text := "a HEAD and whole digests are wanted") X ht rfl (by decide +kernel) tw373 tw58 (by decide +kernel) tx_84_1 tx_84_2 tx_84_80_3 dX7_follow_32 dX7_follow_35 dX7_follow_36 dX7_follow_38 dX7_follow_41 (by decide) (Nat.le_of_ble_eq_true rfl) (by decide) (by decide) (by decide) (by decide)
    · have h18 := g_in h11 c16; clear h11
      refine g_iload_n (j := 1) X dX7_follow_22 rfl rfl ?_
      refine g_bipush X dX7_follow_23 (v := 80) (by decide) ?_
      refine g_isub X dX7_follow_25 ?_
      refine g_bipush X dX7_follow_26 (v := 32) (by decide) ?_
      refine g_irem X dX7_follow_28 (by decide) ?_
      refine g_if_eq (tgt := 42) X dX7_follow_29 (by decide) (fun c19 => ?_) (fun c19 => ?_)
      · have h20 := g_ip h18 c19; clear h18
        refine g_aload_n (j := 2) X dX7_follow_42 rfl rfl ?_
        refine g_aload (j := 0) X dX7_follow_43 rfl ?_
        obtain ⟨x22, ex22, h23⟩ := g_bd h20; clear h20
        refine g_fR (ci := 6) (k := 0) X rfl il6 (by decide) tw138 (by decide) (fun _ _ _ => rfl) ex22 dX7_follow_45 ?_
        clear ex22
        refine g_aload_n (j := 2) X dX7_follow_48 rfl rfl ?_
        refine g_iload_n (j := 4) X dX7_follow_49 rfl rfl ?_
        obtain ⟨a24, ea24, ka24, h25⟩ := g_dc h23; clear h23
        rcases g_bx h25 with ⟨x28, S26, eS26, h27⟩ | ⟨E29, S30, eS26, h31⟩
        · refine g_xV (n := 1) (As := [.int v2]) X (c_X7_logOf hl D eS26) tw348 tw349 tw7 tw44 tw350 (by decide +kernel) rfl rfl ⟨Nat.le_of_ble_eq_true rfl, Nat.le_of_ble_eq_true rfl⟩ (ci := 7) rfl (by decide) ea24 ka24 rfl rfl (by simp [g_rfc, g_ci, g_cj, g_cr]) dX7_follow_50 ⟨(by decide), (by decide)⟩ (fun x' hx' => ?_) (fun _ hx' => by cases hx')
          cases hx'; clear h25 eS26 ea24 ka24
          refine g_iload_n (j := 1) X dX7_follow_53 rfl rfl ?_
          refine g_bipush X dX7_follow_54 (v := 80) (by decide) ?_
          refine g_isub X dX7_follow_56 ?_
          obtain ⟨a32, ea32, ka32, h33⟩ := g_dc h27; clear h27
          obtain ⟨x36, S34, eS34, h35⟩ := g_bi h33; clear h33
          refine g_cV (n := 3) (As := [va_rf x22, va_rf x28, .int (x7 - 80)]) X (c_X7_judge hl D eS34) tw598 tw599 tw13 tw44 tw600 (by decide +kernel) rfl rfl ⟨Nat.le_of_ble_eq_true rfl, Nat.le_of_ble_eq_true rfl⟩ (ci := 7) rfl (by decide) ea32 ka32 rfl rfl (Nat.le_of_ble_eq_true rfl) dX7_follow_57 ⟨(by decide), (by decide)⟩ ?_
          clear eS34 ea32 ka32
          refine g_istore (i := 5) (lv' := [(5, .int x36), (4, va_rf x12), (3, .int x7), (0, va_rf (some a0)), (1, .int v1), (2, .int v2)]) X dX7_follow_60 (by decide) (by simp [g_rfc, g_ci, g_cj, g_cr]) ?_
          refine g_iload (j := 0) X dX7_follow_62 rfl ?_
          refine g_if_ne (tgt := 88) X dX7_follow_64 (by decide) (fun c37 => ?_) (fun c37 => ?_)
          · have h38 := g_in h35 c37; clear h35
            refine g_sub [3, 1, 0] rfl ?_
            refine g_wid (k := 4) (n := 133) (by decide) (by decide) ?_
            exact w_X7_follow_B88 hl X hr ht S34 a0 x12 x36 h38
          · have h39 := g_ip h35 c37; clear h35
            refine g_aload (j := 1) X dX7_follow_67 rfl ?_
            refine g_new (ci := 3) X rfl (by decide) il3 tyX3 tyX3_ok (by decide) tw603 tw416 tw52 (by decide) (by decide) dX7_follow_69 ?_
            obtain ⟨z67, ez67, h70⟩ := g_let h39; clear h39; rw [← ez67]; clear ez67
            obtain ⟨S68, eS68, h69⟩ := g_let h70; clear h70; rw [← eS68]; clear eS68
            refine g_dup X dX7_follow_72 (g_rfc _) ?_
            refine g_aload_n (j := 3) X dX7_follow_73 rfl rfl ?_
            obtain ⟨x71, ex71, h72⟩ := g_bd h69; clear h69
            refine g_fR (ci := 7) (k := 0) X rfl il7 (by decide) tw186 (by decide) (fun _ _ _ => rfl) ex71 dX7_follow_74 ?_
            clear ex71
            obtain ⟨x73, ex73, h74⟩ := g_bd h72; clear h72
            refine g_fR (ci := 5) (k := 0) X rfl il5 (by decide) tw79 (by decide) (fun _ _ _ => rfl) ex73 dX7_follow_77 ?_
            clear ex73
            refine g_bipush X dX7_follow_80 (v := 80) (by decide) ?_
            obtain ⟨S75, eS75, h76⟩ := g_bd h74; clear h74
            refine g_cI (n := 2) (As := [va_rf x73, .int 80]) X (c_X3_init hl D eS75) tw604 tw418 tw52 tw419 rfl (by decide +kernel) rfl rfl ⟨Nat.le_of_ble_eq_true rfl, Nat.le_of_ble_eq_true rfl⟩ rfl rfl rfl (by simp [g_rfc, g_ci, g_cj, g_cr]) dX7_follow_82 ⟨(by decide), (by decide)⟩ ?_
            clear eS75
            obtain ⟨S77, eS77, h78⟩ := g_bd h76; clear h76
            refine g_pR (ci := 6) (k := 0) X rfl il6 tyX6 tyX6_ok nmX6 (by decide) tw138 rfl (by decide) (fun _ _ _ => rfl) rfl eS77 dX7_follow_85 ?_
            clear eS77
            refine g_sub [3, 1, 0] rfl ?_
            exact w_X7_follow_B88 hl X hr ht S77 a0 x12 x36 h78
        · refine g_xV (n := 1) (As := [.int v2]) X (c_X7_logOf hl D eS26) tw348 tw349 tw7 tw44 tw350 (by decide +kernel) rfl rfl ⟨Nat.le_of_ble_eq_true rfl, Nat.le_of_ble_eq_true rfl⟩ (ci := 7) rfl (by decide) ea24 ka24 rfl rfl (by simp [g_rfc, g_ci, g_cj, g_cr]) dX7_follow_50 ⟨(by decide), (by decide)⟩ (fun _ hx' => by cases hx') (fun E' hx' => ?_)
          cases hx'; obtain ⟨rfl, rfl⟩ := g_end h31; exact g_out X ht (by decide) (by decide)
      · have h21 := g_in h18 c19; clear h18
        obtain ⟨rfl, rfl⟩ := g_end h21
        exact g_throw (is := 222) (text := "a HEAD and whole digests are wanted") X ht rfl (by decide +kernel) tw373 tw58 (by decide +kernel) tx_84_1 tx_84_2 tx_84_80_3 dX7_follow_32 dX7_follow_35 dX7_follow_36 dX7_follow_38 dX7_follow_41 (by decide) (Nat.le_of_ble_eq_true rfl) (by decide) (by decide) (by decide) (by decide)
  · refine g_xV (n := 2) (As := [.int v1, .int v2]) X (c_X7_viewOf hl D eS10) tw595 tw596 tw12 tw44 tw597 (by decide +kernel) rfl rfl ⟨Nat.le_of_ble_eq_true rfl, Nat.le_of_ble_eq_true rfl⟩ (ci := 7) rfl (by decide) ea8 ka8 rfl rfl (Nat.le_of_ble_eq_true rfl) dX7_follow_11 ⟨(by decide), (by decide)⟩ (fun _ hx' => by cases hx') (fun E' hx' => ?_)
    cases hx'; obtain ⟨rfl, rfl⟩ := g_end h15; exact g_out X ht (by decide) (by decide)
