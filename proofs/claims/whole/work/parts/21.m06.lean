def f_X7_feed (S0 : gS) (a0 : Nat) (v1 : Int32) (v2 : Int32) (v3 : Int32) (v4 : Int32) (v5 : Int32) : Option (Int32 × gS) :=
  (fgR S0 7 0 (some a0)).bind fun x1 =>
  gDc S0 5 x1 fun a3 =>
  gBi (f_X5_free S0 a3) fun x7 S5 =>
  if 20 ≤ x7 then
    (fgR S5 7 0 (some a0)).bind fun x11 =>
    gDc S5 5 x11 fun a13 =>
    (f_X5_addInt S5 a13 v1).bind fun S15 =>
    (fgR S15 7 0 (some a0)).bind fun x17 =>
    gDc S15 5 x17 fun a19 =>
    (f_X5_addInt S15 a19 v2).bind fun S21 =>
    (fgR S21 7 0 (some a0)).bind fun x23 =>
    gDc S21 5 x23 fun a25 =>
    (f_X5_addInt S21 a25 v3).bind fun S27 =>
    (fgR S27 7 0 (some a0)).bind fun x29 =>
    gDc S27 5 x29 fun a31 =>
    (f_X5_addInt S27 a31 v4).bind fun S33 =>
    (fgR S33 7 0 (some a0)).bind fun x35 =>
    gDc S33 5 x35 fun a37 =>
    (f_X5_addInt S33 a37 v5).bind fun S39 =>
    (fgR S39 7 0 (some a0)).bind fun x41 =>
    (fgI S39 5 1 x41).bind fun x43 =>
    some (x43, S39)
  else
    some ((-1), S5)
set_option maxRecDepth 100000 in
set_option maxHeartbeats 4000000 in
theorem c_X7_feed {l : Launch} (hl : l.stackTraces = false) (D : gD)  {S0 S9 : gS} {a0 : Nat} {v1 : Int32} {v2 : Int32} {v3 : Int32} {v4 : Int32} {v5 : Int32} {res : Int32} (h0 : f_X7_feed S0 a0 v1 v2 v3 v4 v5 = some (res, S9)) : Met l yX7_feed (gws yX7_feed cX7_feed 6 (some .int)) { frames := 2, cells := 0, slots := 0, locals := 42 } (gPc D S0 [.ref a0, .int v1, .int v2, .int v3, .int v4, .int v5]) (gQ D (some (.int res)) S9) (0) (0) (gF D) := by
  refine g_met (lv := [(0, va_rf (some a0)), (1, .int v1), (2, .int v2), (3, .int v3), (4, .int v4), (5, .int v5)]) hl (by decide) (Nat.le_of_ble_eq_true rfl) rfl (fun p e s m args below meth c X hr hn => ?_)
  have X : gX D p l s m args meth c cX7_feed 6 RX7 := X
  unfold f_X7_feed at h0
  refine g_aload_n (j := 0) X dX7_feed_0 rfl rfl ?_
  obtain ⟨x1, ex1, h2⟩ := g_bd h0; clear h0
  refine g_fR (ci := 7) (k := 0) X rfl il7 (by decide) tw186 (by decide) (fun _ _ _ => rfl) ex1 dX7_feed_1 ?_
  clear ex1
  obtain ⟨a3, ea3, ka3, h4⟩ := g_dc h2; clear h2
  obtain ⟨x7, S5, eS5, h6⟩ := g_bi h4; clear h4
  refine g_cV (n := 0) (As := []) X (c_X5_free hl D eS5) tw202 tw203 tw204 tw45 tw205 (by decide +kernel) rfl rfl ⟨Nat.le_of_ble_eq_true rfl, Nat.le_of_ble_eq_true rfl⟩ (ci := 5) rfl (by decide) ea3 ka3 rfl rfl (Nat.le_of_ble_eq_true rfl) dX7_feed_4 ⟨(by decide), (by decide)⟩ ?_
  clear eS5 ea3 ka3
  refine g_bipush X dX7_feed_7 (v := 20) (by decide) ?_
  refine g_icmp_ge (tgt := 14) X dX7_feed_9 (by decide) (fun c8 => ?_) (fun c8 => ?_)
  · have h9 := g_ip h6 c8; clear h6
    refine g_aload_n (j := 0) X dX7_feed_14 rfl rfl ?_
    obtain ⟨x11, ex11, h12⟩ := g_bd h9; clear h9
    refine g_fR (ci := 7) (k := 0) X rfl il7 (by decide) tw186 (by decide) (fun _ _ _ => rfl) ex11 dX7_feed_15 ?_
    clear ex11
    refine g_iload_n (j := 1) X dX7_feed_18 rfl rfl ?_
    obtain ⟨a13, ea13, ka13, h14⟩ := g_dc h12; clear h12
    obtain ⟨S15, eS15, h16⟩ := g_bd h14; clear h14
    refine g_cV (n := 1) (As := [.int v1]) X (c_X5_addInt hl D eS15) tw206 tw207 tw208 tw45 tw209 (by decide +kernel) rfl rfl ⟨Nat.le_of_ble_eq_true rfl, Nat.le_of_ble_eq_true rfl⟩ (ci := 5) rfl (by decide) ea13 ka13 rfl rfl (Nat.le_of_ble_eq_true rfl) dX7_feed_19 ⟨(by decide), (by decide)⟩ ?_
    clear eS15 ea13 ka13
    refine g_aload_n (j := 0) X dX7_feed_22 rfl rfl ?_
    obtain ⟨x17, ex17, h18⟩ := g_bd h16; clear h16
    refine g_fR (ci := 7) (k := 0) X rfl il7 (by decide) tw186 (by decide) (fun _ _ _ => rfl) ex17 dX7_feed_23 ?_
    clear ex17
    refine g_iload_n (j := 2) X dX7_feed_26 rfl rfl ?_
    obtain ⟨a19, ea19, ka19, h20⟩ := g_dc h18; clear h18
    obtain ⟨S21, eS21, h22⟩ := g_bd h20; clear h20
    refine g_cV (n := 1) (As := [.int v2]) X (c_X5_addInt hl D eS21) tw206 tw207 tw208 tw45 tw209 (by decide +kernel) rfl rfl ⟨Nat.le_of_ble_eq_true rfl, Nat.le_of_ble_eq_true rfl⟩ (ci := 5) rfl (by decide) ea19 ka19 rfl rfl (Nat.le_of_ble_eq_true rfl) dX7_feed_27 ⟨(by decide), (by decide)⟩ ?_
    clear eS21 ea19 ka19
    refine g_aload_n (j := 0) X dX7_feed_30 rfl rfl ?_
    obtain ⟨x23, ex23, h24⟩ := g_bd h22; clear h22
    refine g_fR (ci := 7) (k := 0) X rfl il7 (by decide) tw186 (by decide) (fun _ _ _ => rfl) ex23 dX7_feed_31 ?_
    clear ex23
    refine g_iload_n (j := 3) X dX7_feed_34 rfl rfl ?_
    obtain ⟨a25, ea25, ka25, h26⟩ := g_dc h24; clear h24
    obtain ⟨S27, eS27, h28⟩ := g_bd h26; clear h26
    refine g_cV (n := 1) (As := [.int v3]) X (c_X5_addInt hl D eS27) tw206 tw207 tw208 tw45 tw209 (by decide +kernel) rfl rfl ⟨Nat.le_of_ble_eq_true rfl, Nat.le_of_ble_eq_true rfl⟩ (ci := 5) rfl (by decide) ea25 ka25 rfl rfl (Nat.le_of_ble_eq_true rfl) dX7_feed_35 ⟨(by decide), (by decide)⟩ ?_
    clear eS27 ea25 ka25
    refine g_aload_n (j := 0) X dX7_feed_38 rfl rfl ?_
    obtain ⟨x29, ex29, h30⟩ := g_bd h28; clear h28
    refine g_fR (ci := 7) (k := 0) X rfl il7 (by decide) tw186 (by decide) (fun _ _ _ => rfl) ex29 dX7_feed_39 ?_
    clear ex29
    refine g_iload (j := 4) X dX7_feed_42 rfl ?_
    obtain ⟨a31, ea31, ka31, h32⟩ := g_dc h30; clear h30
    obtain ⟨S33, eS33, h34⟩ := g_bd h32; clear h32
    refine g_cV (n := 1) (As := [.int v4]) X (c_X5_addInt hl D eS33) tw206 tw207 tw208 tw45 tw209 (by decide +kernel) rfl rfl ⟨Nat.le_of_ble_eq_true rfl, Nat.le_of_ble_eq_true rfl⟩ (ci := 5) rfl (by decide) ea31 ka31 rfl rfl (Nat.le_of_ble_eq_true rfl) dX7_feed_44 ⟨(by decide), (by decide)⟩ ?_
    clear eS33 ea31 ka31
    refine g_aload_n (j := 0) X dX7_feed_47 rfl rfl ?_
    obtain ⟨x35, ex35, h36⟩ := g_bd h34; clear h34
    refine g_fR (ci := 7) (k := 0) X rfl il7 (by decide) tw186 (by decide) (fun _ _ _ => rfl) ex35 dX7_feed_48 ?_
    clear ex35
    refine g_iload (j := 5) X dX7_feed_51 rfl ?_
    obtain ⟨a37, ea37, ka37, h38⟩ := g_dc h36; clear h36
    obtain ⟨S39, eS39, h40⟩ := g_bd h38; clear h38
    refine g_cV (n := 1) (As := [.int v5]) X (c_X5_addInt hl D eS39) tw206 tw207 tw208 tw45 tw209 (by decide +kernel) rfl rfl ⟨Nat.le_of_ble_eq_true rfl, Nat.le_of_ble_eq_true rfl⟩ (ci := 5) rfl (by decide) ea37 ka37 rfl rfl (Nat.le_of_ble_eq_true rfl) dX7_feed_53 ⟨(by decide), (by decide)⟩ ?_
    clear eS39 ea37 ka37
    refine g_aload_n (j := 0) X dX7_feed_56 rfl rfl ?_
    obtain ⟨x41, ex41, h42⟩ := g_bd h40; clear h40
    refine g_fR (ci := 7) (k := 0) X rfl il7 (by decide) tw186 (by decide) (fun _ _ _ => rfl) ex41 dX7_feed_57 ?_
    clear ex41
    obtain ⟨x43, ex43, h44⟩ := g_bd h42; clear h42
    refine g_fI (ci := 5) (k := 1) X rfl il5 (by decide) tw81 (by decide) (fun _ _ _ => rfl) ex43 dX7_feed_60 ?_
    clear ex43
    obtain ⟨rfl, rfl⟩ := g_end h44
    exact g_iret X hr (by decide) (by decide) dX7_feed_63
  · have h10 := g_in h6 c8; clear h6
    refine g_iconst X dX7_feed_12 (v := (-1)) (by decide) ?_
    obtain ⟨rfl, rfl⟩ := g_end h10
    exact g_iret X hr (by decide) (by decide) dX7_feed_13
def f_X7_end (S0 : gS) (a0 : Nat) (v1 : Int32) : Option (Int32 × gS) :=
  if v1 < 0 then
    some (0, S0)
  else
    (fgR S0 7 0 (some a0)).bind fun x4 =>
    (fgI S0 5 1 x4).bind fun x6 =>
    if v1 ≤ x6 then
      (fgR S0 7 0 (some a0)).bind fun x11 =>
      (fpI S0 5 1 x11 v1).bind fun S13 =>
      some (1, S13)
    else
      some (0, S0)
set_option maxRecDepth 100000 in
set_option maxHeartbeats 4000000 in
theorem c_X7_end {l : Launch} (hl : l.stackTraces = false) (D : gD)  {S0 S9 : gS} {a0 : Nat} {v1 : Int32} {res : Int32} (h0 : f_X7_end S0 a0 v1 = some (res, S9)) : Met l yX7_end (gws yX7_end cX7_end 2 (some .boolean)) { frames := 0, cells := 0, slots := 0, locals := 0 } (gPc D S0 [.ref a0, .int v1]) (gQ D (some (.int res)) S9) (0) (0) (gF D) := by
  refine g_met (lv := [(0, va_rf (some a0)), (1, .int v1)]) hl (by decide) (Nat.le_of_ble_eq_true rfl) rfl (fun p e s m args below meth c X hr hn => ?_)
  have X : gX D p l s m args meth c cX7_end 2 RX7 := X
  unfold f_X7_end at h0
  refine g_iload_n (j := 1) X dX7_end_0 rfl rfl ?_
  refine g_if_lt (tgt := 15) X dX7_end_1 (by decide) (fun c1 => ?_) (fun c1 => ?_)
  · have h2 := g_ip h0 c1; clear h0
    refine g_iconst X dX7_end_15 (v := 0) (by decide) ?_
    obtain ⟨rfl, rfl⟩ := g_end h2
    exact g_zret X hr (Or.inl rfl) (by decide) (by decide) dX7_end_16
  · have h3 := g_in h0 c1; clear h0
    refine g_iload_n (j := 1) X dX7_end_4 rfl rfl ?_
    refine g_aload_n (j := 0) X dX7_end_5 rfl rfl ?_
    obtain ⟨x4, ex4, h5⟩ := g_bd h3; clear h3
    refine g_fR (ci := 7) (k := 0) X rfl il7 (by decide) tw186 (by decide) (fun _ _ _ => rfl) ex4 dX7_end_6 ?_
    clear ex4
    obtain ⟨x6, ex6, h7⟩ := g_bd h5; clear h5
    refine g_fI (ci := 5) (k := 1) X rfl il5 (by decide) tw81 (by decide) (fun _ _ _ => rfl) ex6 dX7_end_9 ?_
    clear ex6
    refine g_icmp_le (tgt := 17) X dX7_end_12 (by decide) (fun c8 => ?_) (fun c8 => ?_)
    · have h9 := g_ip h7 c8; clear h7
      refine g_aload_n (j := 0) X dX7_end_17 rfl rfl ?_
      obtain ⟨x11, ex11, h12⟩ := g_bd h9; clear h9
      refine g_fR (ci := 7) (k := 0) X rfl il7 (by decide) tw186 (by decide) (fun _ _ _ => rfl) ex11 dX7_end_18 ?_
      clear ex11
      refine g_iload_n (j := 1) X dX7_end_21 rfl rfl ?_
      obtain ⟨S13, eS13, h14⟩ := g_bd h12; clear h12
      refine g_pI (ci := 5) (k := 1) X rfl il5 tyX5 tyX5_ok nmX5 (by decide) tw81 rfl (by decide) (fun _ _ _ => rfl) rfl eS13 dX7_end_22 ?_
      clear eS13
      refine g_iconst X dX7_end_25 (v := 1) (by decide) ?_
      obtain ⟨rfl, rfl⟩ := g_end h14
      exact g_zret X hr (Or.inr rfl) (by decide) (by decide) dX7_end_26
    · have h10 := g_in h7 c8; clear h7
      refine g_iconst X dX7_end_15 (v := 0) (by decide) ?_
      obtain ⟨rfl, rfl⟩ := g_end h10
      exact g_zret X hr (Or.inl rfl) (by decide) (by decide) dX7_end_16
def f_X7_again (S0 : gS) (a0 : Nat) : Option (Int32 × gS) :=
  (fgR S0 7 0 (some a0)).bind fun x1 =>
  gDc S0 5 x1 fun a3 =>
  gBi (f_X5_free S0 a3) fun x7 S5 =>
  (fgR S5 7 1 (some a0)).bind fun x8 =>
  (fgI S5 5 1 x8).bind fun x10 =>
  if x10 ≤ x7 then
    (fgR S5 7 0 (some a0)).bind fun x15 =>
    (fgR S5 7 1 (some a0)).bind fun x17 =>
    (fgR S5 5 0 x17).bind fun x19 =>
    (fgR S5 7 1 (some a0)).bind fun x21 =>
    (fgI S5 5 1 x21).bind fun x23 =>
    gDc S5 5 x15 fun a25 =>
    (f_X5_addRow S5 a25 x19 0 x23).bind fun S27 =>
    (fgR S27 7 0 (some a0)).bind fun x29 =>
    (fgI S27 5 1 x29).bind fun x31 =>
    some (x31, S27)
  else
    some ((-1), S5)
set_option maxRecDepth 100000 in
set_option maxHeartbeats 4000000 in
theorem c_X7_again {l : Launch} (hl : l.stackTraces = false) (D : gD)  {S0 S9 : gS} {a0 : Nat} {res : Int32} (h0 : f_X7_again S0 a0 = some (res, S9)) : Met l yX7_again (gws yX7_again cX7_again 1 (some .int)) { frames := 3, cells := 0, slots := 0, locals := 87 } (gPc D S0 [.ref a0]) (gQ D (some (.int res)) S9) (0) (0) (gF D) := by
  refine g_met (lv := [(0, va_rf (some a0))]) hl (by decide) (Nat.le_of_ble_eq_true rfl) rfl (fun p e s m args below meth c X hr hn => ?_)
  have X : gX D p l s m args meth c cX7_again 1 RX7 := X
  unfold f_X7_again at h0
  refine g_aload_n (j := 0) X dX7_again_0 rfl rfl ?_
  obtain ⟨x1, ex1, h2⟩ := g_bd h0; clear h0
  refine g_fR (ci := 7) (k := 0) X rfl il7 (by decide) tw186 (by decide) (fun _ _ _ => rfl) ex1 dX7_again_1 ?_
  clear ex1
  obtain ⟨a3, ea3, ka3, h4⟩ := g_dc h2; clear h2
  obtain ⟨x7, S5, eS5, h6⟩ := g_bi h4; clear h4
  refine g_cV (n := 0) (As := []) X (c_X5_free hl D eS5) tw202 tw203 tw204 tw45 tw205 (by decide +kernel) rfl rfl ⟨Nat.le_of_ble_eq_true rfl, Nat.le_of_ble_eq_true rfl⟩ (ci := 5) rfl (by decide) ea3 ka3 rfl rfl (Nat.le_of_ble_eq_true rfl) dX7_again_4 ⟨(by decide), (by decide)⟩ ?_
  clear eS5 ea3 ka3
  refine g_aload_n (j := 0) X dX7_again_7 rfl rfl ?_
  obtain ⟨x8, ex8, h9⟩ := g_bd h6; clear h6
  refine g_fR (ci := 7) (k := 1) X rfl il7 (by decide) tw187 (by decide) (fun _ _ _ => rfl) ex8 dX7_again_8 ?_
  clear ex8
  obtain ⟨x10, ex10, h11⟩ := g_bd h9; clear h9
  refine g_fI (ci := 5) (k := 1) X rfl il5 (by decide) tw81 (by decide) (fun _ _ _ => rfl) ex10 dX7_again_11 ?_
  clear ex10
  refine g_icmp_ge (tgt := 19) X dX7_again_14 (by decide) (fun c12 => ?_) (fun c12 => ?_)
  · have h13 := g_ip h11 c12; clear h11
    refine g_aload_n (j := 0) X dX7_again_19 rfl rfl ?_
    obtain ⟨x15, ex15, h16⟩ := g_bd h13; clear h13
    refine g_fR (ci := 7) (k := 0) X rfl il7 (by decide) tw186 (by decide) (fun _ _ _ => rfl) ex15 dX7_again_20 ?_
    clear ex15
    refine g_aload_n (j := 0) X dX7_again_23 rfl rfl ?_
    obtain ⟨x17, ex17, h18⟩ := g_bd h16; clear h16
    refine g_fR (ci := 7) (k := 1) X rfl il7 (by decide) tw187 (by decide) (fun _ _ _ => rfl) ex17 dX7_again_24 ?_
    clear ex17
    obtain ⟨x19, ex19, h20⟩ := g_bd h18; clear h18
    refine g_fR (ci := 5) (k := 0) X rfl il5 (by decide) tw79 (by decide) (fun _ _ _ => rfl) ex19 dX7_again_27 ?_
    clear ex19
    refine g_iconst X dX7_again_30 (v := 0) (by decide) ?_
    refine g_aload_n (j := 0) X dX7_again_31 rfl rfl ?_
    obtain ⟨x21, ex21, h22⟩ := g_bd h20; clear h20
    refine g_fR (ci := 7) (k := 1) X rfl il7 (by decide) tw187 (by decide) (fun _ _ _ => rfl) ex21 dX7_again_32 ?_
    clear ex21
    obtain ⟨x23, ex23, h24⟩ := g_bd h22; clear h22
    refine g_fI (ci := 5) (k := 1) X rfl il5 (by decide) tw81 (by decide) (fun _ _ _ => rfl) ex23 dX7_again_35 ?_
    clear ex23
    obtain ⟨a25, ea25, ka25, h26⟩ := g_dc h24; clear h24
    obtain ⟨S27, eS27, h28⟩ := g_bd h26; clear h26
    refine g_cV (n := 3) (As := [va_rf x19, .int 0, .int x23]) X (c_X5_addRow hl D eS27) tw219 tw220 tw221 tw45 tw222 (by decide +kernel) rfl rfl ⟨Nat.le_of_ble_eq_true rfl, Nat.le_of_ble_eq_true rfl⟩ (ci := 5) rfl (by decide) ea25 ka25 rfl rfl (Nat.le_of_ble_eq_true rfl) dX7_again_38 ⟨(by decide), (by decide)⟩ ?_
    clear eS27 ea25 ka25
    refine g_aload_n (j := 0) X dX7_again_41 rfl rfl ?_
    obtain ⟨x29, ex29, h30⟩ := g_bd h28; clear h28
    refine g_fR (ci := 7) (k := 0) X rfl il7 (by decide) tw186 (by decide) (fun _ _ _ => rfl) ex29 dX7_again_42 ?_
    clear ex29
    obtain ⟨x31, ex31, h32⟩ := g_bd h30; clear h30
    refine g_fI (ci := 5) (k := 1) X rfl il5 (by decide) tw81 (by decide) (fun _ _ _ => rfl) ex31 dX7_again_45 ?_
    clear ex31
    obtain ⟨rfl, rfl⟩ := g_end h32
    exact g_iret X hr (by decide) (by decide) dX7_again_48
  · have h14 := g_in h11 c12; clear h11
    refine g_iconst X dX7_again_17 (v := (-1)) (by decide) ?_
    obtain ⟨rfl, rfl⟩ := g_end h14
    exact g_iret X hr (by decide) (by decide) dX7_again_18
def f_X7_out (S0 : gS) (a0 : Nat) (v1 : Int32) : Option (Int32 × gS) :=
  (fgR S0 7 1 (some a0)).bind fun x1 =>
  gDc S0 5 x1 fun a3 =>
  gBi (f_X5_byteAt S0 a3 v1) fun x7 S5 =>
  some (x7, S5)
set_option maxRecDepth 100000 in
set_option maxHeartbeats 4000000 in
theorem c_X7_out {l : Launch} (hl : l.stackTraces = false) (D : gD)  {S0 S9 : gS} {a0 : Nat} {v1 : Int32} {res : Int32} (h0 : f_X7_out S0 a0 v1 = some (res, S9)) : Met l yX7_out (gws yX7_out cX7_out 2 (some .int)) { frames := 1, cells := 0, slots := 0, locals := 21 } (gPc D S0 [.ref a0, .int v1]) (gQ D (some (.int res)) S9) (0) (0) (gF D) := by
  refine g_met (lv := [(0, va_rf (some a0)), (1, .int v1)]) hl (by decide) (Nat.le_of_ble_eq_true rfl) rfl (fun p e s m args below meth c X hr hn => ?_)
  have X : gX D p l s m args meth c cX7_out 2 RX7 := X
  unfold f_X7_out at h0
  refine g_aload_n (j := 0) X dX7_out_0 rfl rfl ?_
  obtain ⟨x1, ex1, h2⟩ := g_bd h0; clear h0
  refine g_fR (ci := 7) (k := 1) X rfl il7 (by decide) tw187 (by decide) (fun _ _ _ => rfl) ex1 dX7_out_1 ?_
  clear ex1
  refine g_iload_n (j := 1) X dX7_out_4 rfl rfl ?_
  obtain ⟨a3, ea3, ka3, h4⟩ := g_dc h2; clear h2
  obtain ⟨x7, S5, eS5, h6⟩ := g_bi h4; clear h4
  refine g_cV (n := 1) (As := [.int v1]) X (c_X5_byteAt hl D eS5) tw237 tw238 tw239 tw45 tw240 (by decide +kernel) rfl rfl ⟨Nat.le_of_ble_eq_true rfl, Nat.le_of_ble_eq_true rfl⟩ (ci := 5) rfl (by decide) ea3 ka3 rfl rfl (Nat.le_of_ble_eq_true rfl) dX7_out_5 ⟨(by decide), (by decide)⟩ ?_
  clear eS5 ea3 ka3
  obtain ⟨rfl, rfl⟩ := g_end h6
  exact g_iret X hr (by decide) (by decide) dX7_out_8
def f_X7_outs (S0 : gS) (a0 : Nat) : Option (Int32 × gS) :=
  (fgR S0 7 1 (some a0)).bind fun x1 =>
  (fgI S0 5 1 x1).bind fun x3 =>
  some (x3, S0)
set_option maxRecDepth 100000 in
set_option maxHeartbeats 4000000 in
theorem c_X7_outs {l : Launch} (hl : l.stackTraces = false) (D : gD)  {S0 S9 : gS} {a0 : Nat} {res : Int32} (h0 : f_X7_outs S0 a0 = some (res, S9)) : Met l yX7_outs (gws yX7_outs cX7_outs 1 (some .int)) { frames := 0, cells := 0, slots := 0, locals := 0 } (gPc D S0 [.ref a0]) (gQ D (some (.int res)) S9) (0) (0) (gF D) := by
  refine g_met (lv := [(0, va_rf (some a0))]) hl (by decide) (Nat.le_of_ble_eq_true rfl) rfl (fun p e s m args below meth c X hr hn => ?_)
  have X : gX D p l s m args meth c cX7_outs 1 RX7 := X
  unfold f_X7_outs at h0
  refine g_aload_n (j := 0) X dX7_outs_0 rfl rfl ?_
  obtain ⟨x1, ex1, h2⟩ := g_bd h0; clear h0
  refine g_fR (ci := 7) (k := 1) X rfl il7 (by decide) tw187 (by decide) (fun _ _ _ => rfl) ex1 dX7_outs_1 ?_
  clear ex1
  obtain ⟨x3, ex3, h4⟩ := g_bd h2; clear h2
  refine g_fI (ci := 5) (k := 1) X rfl il5 (by decide) tw81 (by decide) (fun _ _ _ => rfl) ex3 dX7_outs_4 ?_
  clear ex3
  obtain ⟨rfl, rfl⟩ := g_end h4
  exact g_iret X hr (by decide) (by decide) dX7_outs_7
def f_X7_logOf (S0 : gS) (a0 : Nat) (v1 : Int32) : Option ((String ⊕ Option Nat) × gS) :=
  if v1 < 0 then
    some (.inl "java/lang/IndexOutOfBoundsException", gsZ S0 (gZ S0 + 1))
  else
    if v1 < 2 then
      (fgR S0 7 2 (some a0)).bind fun x7 =>
      (fR S0 13 x7 v1).bind fun x9 =>
      some (.inr x9, S0)
    else
      some (.inl "java/lang/IndexOutOfBoundsException", gsZ S0 (gZ S0 + 1))
set_option maxRecDepth 100000 in
set_option maxHeartbeats 4000000 in
theorem c_X7_logOf {l : Launch} (hl : l.stackTraces = false) (D : gD)  {S0 S9 : gS} {a0 : Nat} {v1 : Int32} {res : String ⊕ Option Nat} (h0 : f_X7_logOf S0 a0 v1 = some (res, S9)) : vx_Met l yX7_logOf (gws yX7_logOf cX7_logOf 2 (some (.object "LeafWitness$Log"))) { frames := 6, cells := 1, slots := 6, locals := 84 } (gPc D S0 [.ref a0, .int v1]) (gQX D (fun x : Option Nat => va_rf x) res S9) (gXX D res S9) (1) (6) (gF D) := by
  refine g_xmet (lv := [(0, va_rf (some a0)), (1, .int v1)]) hl (by decide) (Nat.le_of_ble_eq_true rfl) rfl (fun p e s m args below meth c X hr ht => ?_)
  have X : gX D p l s m args meth c cX7_logOf 2 RX7 := X
  unfold f_X7_logOf at h0
  refine g_iload_n (j := 1) X dX7_logOf_0 rfl rfl ?_
  refine g_if_lt (tgt := 9) X dX7_logOf_1 (by decide) (fun c1 => ?_) (fun c1 => ?_)
  · have h2 := g_ip h0 c1; clear h0
    obtain ⟨rfl, rfl⟩ := g_end h2
    exact g_throw (is := 253) (text := "there is no such LOG") X ht rfl (by decide +kernel) tw351 tw57 (by decide +kernel) tx_255_1 tx_255_2 tx_255_251_3 dX7_logOf_9 dX7_logOf_12 dX7_logOf_13 dX7_logOf_15 dX7_logOf_18 (by decide) (Nat.le_of_ble_eq_true rfl) (by decide) (by decide) (by decide) (by decide)
  · have h3 := g_in h0 c1; clear h0
    refine g_iload_n (j := 1) X dX7_logOf_4 rfl rfl ?_
    refine g_iconst X dX7_logOf_5 (v := 2) (by decide) ?_
    refine g_icmp_lt (tgt := 19) X dX7_logOf_6 (by decide) (fun c4 => ?_) (fun c4 => ?_)
    · have h5 := g_ip h3 c4; clear h3
      refine g_aload_n (j := 0) X dX7_logOf_19 rfl rfl ?_
      obtain ⟨x7, ex7, h8⟩ := g_bd h5; clear h5
      refine g_fR (ci := 7) (k := 2) X rfl il7 (by decide) tw188 (by decide) (fun _ _ _ => rfl) ex7 dX7_logOf_20 ?_
      clear ex7
      refine g_iload_n (j := 1) X dX7_logOf_23 rfl rfl ?_
      obtain ⟨x9, ex9, h10⟩ := g_bd h8; clear h8
      refine g_aald13 X ex9 dX7_logOf_24 ?_
      clear ex9
      obtain ⟨rfl, rfl⟩ := g_end h10
      exact g_xr (g_aret X hr (Or.inl ⟨_, rfl⟩) (by decide) (by decide) dX7_logOf_25)
    · have h6 := g_in h3 c4; clear h3
      obtain ⟨rfl, rfl⟩ := g_end h6
      exact g_throw (is := 253) (text := "there is no such LOG") X ht rfl (by decide +kernel) tw351 tw57 (by decide +kernel) tx_255_1 tx_255_2 tx_255_251_3 dX7_logOf_9 dX7_logOf_12 dX7_logOf_13 dX7_logOf_15 dX7_logOf_18 (by decide) (Nat.le_of_ble_eq_true rfl) (by decide) (by decide) (by decide) (by decide)
def f_X7_key (S0 : gS) (a0 : Nat) (v1 : Int32) : Option ((String ⊕ Int32) × gS) :=
  (fgR S0 7 0 (some a0)).bind fun x1 =>
  gDc S0 5 x1 fun a3 =>
  gBi (f_X5_useUp S0 a3) fun x7 S5 =>
  gDc S5 7 (some a0) fun a8 =>
  gBx (f_X7_logOf S5 a8 v1) (fun E13 S14 => some (.inl E13, S14)) fun x12 S10 =>
  if x7 ≤ 100 then
    (fgI S10 1 8 x12).bind fun x19 =>
    if x19 ≤ 0 then
      (fgR S10 7 0 (some a0)).bind fun x24 =>
      (fgR S10 5 0 x24).bind fun x26 =>
      gDc S10 1 x12 fun a28 =>
      (f_X1_takeKey S10 a28 x26 x7).bind fun S30 =>
      some (.inr x7, S30)
    else
      some (.inl "java/lang/IllegalStateException", gsZ S10 (gZ S10 + 1))
  else
    some (.inl "java/lang/IllegalArgumentException", gsZ S10 (gZ S10 + 1))
set_option maxRecDepth 100000 in
set_option maxHeartbeats 4000000 in
theorem c_X7_key {l : Launch} (hl : l.stackTraces = false) (D : gD)  {S0 S9 : gS} {a0 : Nat} {v1 : Int32} {res : String ⊕ Int32} (h0 : f_X7_key S0 a0 v1 = some (res, S9)) : vx_Met l yX7_key (gws yX7_key cX7_key 4 (some .int)) { frames := 7, cells := 2, slots := 12, locals := 105 } (gPc D S0 [.ref a0, .int v1]) (gQX D (fun x : Int32 => Value.int x) res S9) (gXX D res S9) (2) (12) (gF D) := by
  refine g_xmet (lv := [(0, va_rf (some a0)), (1, .int v1)]) hl (by decide) (Nat.le_of_ble_eq_true rfl) rfl (fun p e s m args below meth c X hr ht => ?_)
  have X : gX D p l s m args meth c cX7_key 4 RX7 := X
  unfold f_X7_key at h0
  refine g_aload_n (j := 0) X dX7_key_0 rfl rfl ?_
  obtain ⟨x1, ex1, h2⟩ := g_bd h0; clear h0
  refine g_fR (ci := 7) (k := 0) X rfl il7 (by decide) tw186 (by decide) (fun _ _ _ => rfl) ex1 dX7_key_1 ?_
  clear ex1
  obtain ⟨a3, ea3, ka3, h4⟩ := g_dc h2; clear h2
  obtain ⟨x7, S5, eS5, h6⟩ := g_bi h4; clear h4
  refine g_cV (n := 0) (As := []) X (c_X5_useUp hl D eS5) tw249 tw250 tw251 tw45 tw252 (by decide +kernel) rfl rfl ⟨Nat.le_of_ble_eq_true rfl, Nat.le_of_ble_eq_true rfl⟩ (ci := 5) rfl (by decide) ea3 ka3 rfl rfl (Nat.le_of_ble_eq_true rfl) dX7_key_4 ⟨(by decide), (by decide)⟩ ?_
  clear eS5 ea3 ka3
  refine g_istore_n (i := 2) (lv' := [(2, .int x7), (0, va_rf (some a0)), (1, .int v1)]) X dX7_key_7 rfl (by decide) rfl ?_
  refine g_aload_n (j := 1) X dX7_key_8 rfl rfl ?_
  refine g_iload_n (j := 2) X dX7_key_9 rfl rfl ?_
  obtain ⟨a8, ea8, ka8, h9⟩ := g_dc h6; clear h6
  rcases g_bx h9 with ⟨x12, S10, eS10, h11⟩ | ⟨E13, S14, eS10, h15⟩
  · refine g_xV (n := 1) (As := [.int v1]) X (c_X7_logOf hl D eS10) tw348 tw349 tw7 tw44 tw350 (by decide +kernel) rfl rfl ⟨Nat.le_of_ble_eq_true rfl, Nat.le_of_ble_eq_true rfl⟩ (ci := 7) rfl (by decide) ea8 ka8 rfl rfl (Nat.le_of_ble_eq_true rfl) dX7_key_10 ⟨(by decide), (by decide)⟩ (fun x' hx' => ?_) (fun _ hx' => by cases hx')
    cases hx'; clear h9 eS10 ea8 ka8
    refine g_astore_n (i := 3) (lv' := [(3, va_rf x12), (2, .int x7), (0, va_rf (some a0)), (1, .int v1)]) X dX7_key_13 rfl (by decide) rfl ?_
    refine g_iload_n (j := 1) X dX7_key_14 rfl rfl ?_
    refine g_bipush X dX7_key_15 (v := 100) (by decide) ?_
    refine g_icmp_le (tgt := 30) X dX7_key_17 (by decide) (fun c16 => ?_) (fun c16 => ?_)
    · have h17 := g_ip h11 c16; clear h11
      refine g_aload_n (j := 0) X dX7_key_30 rfl rfl ?_
      obtain ⟨x19, ex19, h20⟩ := g_bd h17; clear h17
      refine g_fI (ci := 1) (k := 8) X rfl il1 (by decide) tw117 (by decide) (fun _ _ _ => rfl) ex19 dX7_key_31 ?_
      clear ex19
      refine g_if_le (tgt := 47) X dX7_key_34 (by decide) (fun c21 => ?_) (fun c21 => ?_)
      · have h22 := g_ip h20 c21; clear h20
        refine g_aload_n (j := 0) X dX7_key_47 rfl rfl ?_
        refine g_aload_n (j := 2) X dX7_key_48 rfl rfl ?_
        obtain ⟨x24, ex24, h25⟩ := g_bd h22; clear h22
        refine g_fR (ci := 7) (k := 0) X rfl il7 (by decide) tw186 (by decide) (fun _ _ _ => rfl) ex24 dX7_key_49 ?_
        clear ex24
        obtain ⟨x26, ex26, h27⟩ := g_bd h25; clear h25
        refine g_fR (ci := 5) (k := 0) X rfl il5 (by decide) tw79 (by decide) (fun _ _ _ => rfl) ex26 dX7_key_52 ?_
        clear ex26
        refine g_iload_n (j := 1) X dX7_key_55 rfl rfl ?_
        obtain ⟨a28, ea28, ka28, h29⟩ := g_dc h27; clear h27
        obtain ⟨S30, eS30, h31⟩ := g_bd h29; clear h29
        refine g_cV (n := 2) (As := [va_rf x26, .int x7]) X (c_X1_takeKey hl D eS30) tw389 tw390 tw391 tw46 tw392 (by decide +kernel) rfl rfl ⟨Nat.le_of_ble_eq_true rfl, Nat.le_of_ble_eq_true rfl⟩ (ci := 1) rfl (by decide) ea28 ka28 rfl rfl (Nat.le_of_ble_eq_true rfl) dX7_key_56 ⟨(by decide), (by decide)⟩ ?_
        clear eS30 ea28 ka28
        refine g_iload_n (j := 1) X dX7_key_59 rfl rfl ?_
        obtain ⟨rfl, rfl⟩ := g_end h31
        exact g_xr (g_iret X hr (by decide) (by decide) dX7_key_60)
      · have h23 := g_in h20 c21; clear h20
        obtain ⟨rfl, rfl⟩ := g_end h23
        exact g_throw (is := 92) (text := "the LOG has a HEAD") X ht rfl (by decide +kernel) tw381 tw59 (by decide +kernel) tx_94_1 tx_94_2 tx_94_90_3 dX7_key_37 dX7_key_40 dX7_key_41 dX7_key_43 dX7_key_46 (by decide) (Nat.le_of_ble_eq_true rfl) (by decide) (by decide) (by decide) (by decide)
    · have h18 := g_in h11 c16; clear h11
      obtain ⟨rfl, rfl⟩ := g_end h18
      exact g_throw (is := 82) (text := "a KEY has at most 100 bytes") X ht rfl (by decide +kernel) tw373 tw58 (by decide +kernel) tx_84_1 tx_84_2 tx_84_80_3 dX7_key_20 dX7_key_23 dX7_key_24 dX7_key_26 dX7_key_29 (by decide) (Nat.le_of_ble_eq_true rfl) (by decide) (by decide) (by decide) (by decide)
  · refine g_xV (n := 1) (As := [.int v1]) X (c_X7_logOf hl D eS10) tw348 tw349 tw7 tw44 tw350 (by decide +kernel) rfl rfl ⟨Nat.le_of_ble_eq_true rfl, Nat.le_of_ble_eq_true rfl⟩ (ci := 7) rfl (by decide) ea8 ka8 rfl rfl (Nat.le_of_ble_eq_true rfl) dX7_key_10 ⟨(by decide), (by decide)⟩ (fun _ hx' => by cases hx') (fun E' hx' => ?_)
    cases hx'; obtain ⟨rfl, rfl⟩ := g_end h15; exact g_out X ht (by decide) (by decide)
def f_X7_submit (S0 : gS) (a0 : Nat) (v1 : Int32) : Option ((String ⊕ Int32) × gS) :=
  (fgR S0 7 0 (some a0)).bind fun x1 =>
  gDc S0 5 x1 fun a3 =>
  gBi (f_X5_useUp S0 a3) fun x7 S5 =>
  gDc S5 7 (some a0) fun a8 =>
  gBx (f_X7_logOf S5 a8 v1) (fun E13 S14 => some (.inl E13, S14)) fun x12 S10 =>
  if x7 ≤ 120 then
    (fgR S10 7 0 (some a0)).bind fun x19 =>
    (fgR S10 5 0 x19).bind fun x21 =>
    gDc S10 1 x12 fun a23 =>
    gBi (f_X1_numberOf S10 a23 x21 x7) fun x27 S25 =>
    if x27 = (-1) then
      (fgI S25 1 4 x12).bind fun x31 =>
      if x31 < 200 then
        (fgR S25 7 0 (some a0)).bind fun x36 =>
        (fgR S25 5 0 x36).bind fun x38 =>
        gDc S25 1 x12 fun a40 =>
        gBi (f_X1_addEntry S25 a40 x38 x7) fun x44 S42 =>
        some (.inr x44, S42)
      else
        some (.inl "java/lang/IllegalStateException", gsZ S25 (gZ S25 + 1))
    else
      some (.inr x27, S25)
  else
    some (.inl "java/lang/IllegalArgumentException", gsZ S10 (gZ S10 + 1))
set_option maxRecDepth 100000 in
set_option maxHeartbeats 4000000 in
theorem c_X7_submit {l : Launch} (hl : l.stackTraces = false) (D : gD)  {S0 S9 : gS} {a0 : Nat} {v1 : Int32} {res : String ⊕ Int32} (h0 : f_X7_submit S0 a0 v1 = some (res, S9)) : vx_Met l yX7_submit (gws yX7_submit cX7_submit 5 (some .int)) { frames := 7, cells := 21, slots := 1216, locals := 157 } (gPc D S0 [.ref a0, .int v1]) (gQX D (fun x : Int32 => Value.int x) res S9) (gXX D res S9) (21) (1216) (gF D) := by
  refine g_xmet (lv := [(0, va_rf (some a0)), (1, .int v1)]) hl (by decide) (Nat.le_of_ble_eq_true rfl) rfl (fun p e s m args below meth c X hr ht => ?_)
  have X : gX D p l s m args meth c cX7_submit 5 RX7 := X
  unfold f_X7_submit at h0
  refine g_aload_n (j := 0) X dX7_submit_0 rfl rfl ?_
  obtain ⟨x1, ex1, h2⟩ := g_bd h0; clear h0
  refine g_fR (ci := 7) (k := 0) X rfl il7 (by decide) tw186 (by decide) (fun _ _ _ => rfl) ex1 dX7_submit_1 ?_
  clear ex1
  obtain ⟨a3, ea3, ka3, h4⟩ := g_dc h2; clear h2
  obtain ⟨x7, S5, eS5, h6⟩ := g_bi h4; clear h4
  refine g_cV (n := 0) (As := []) X (c_X5_useUp hl D eS5) tw249 tw250 tw251 tw45 tw252 (by decide +kernel) rfl rfl ⟨Nat.le_of_ble_eq_true rfl, Nat.le_of_ble_eq_true rfl⟩ (ci := 5) rfl (by decide) ea3 ka3 rfl rfl (Nat.le_of_ble_eq_true rfl) dX7_submit_4 ⟨(by decide), (by decide)⟩ ?_
  clear eS5 ea3 ka3
  refine g_istore_n (i := 2) (lv' := [(2, .int x7), (0, va_rf (some a0)), (1, .int v1)]) X dX7_submit_7 rfl (by decide) rfl ?_
  refine g_aload_n (j := 1) X dX7_submit_8 rfl rfl ?_
  refine g_iload_n (j := 2) X dX7_submit_9 rfl rfl ?_
  obtain ⟨a8, ea8, ka8, h9⟩ := g_dc h6; clear h6
  rcases g_bx h9 with ⟨x12, S10, eS10, h11⟩ | ⟨E13, S14, eS10, h15⟩
  · refine g_xV (n := 1) (As := [.int v1]) X (c_X7_logOf hl D eS10) tw348 tw349 tw7 tw44 tw350 (by decide +kernel) rfl rfl ⟨Nat.le_of_ble_eq_true rfl, Nat.le_of_ble_eq_true rfl⟩ (ci := 7) rfl (by decide) ea8 ka8 rfl rfl (Nat.le_of_ble_eq_true rfl) dX7_submit_10 ⟨(by decide), (by decide)⟩ (fun x' hx' => ?_) (fun _ hx' => by cases hx')
    cases hx'; clear h9 eS10 ea8 ka8
    refine g_astore_n (i := 3) (lv' := [(3, va_rf x12), (2, .int x7), (0, va_rf (some a0)), (1, .int v1)]) X dX7_submit_13 rfl (by decide) rfl ?_
    refine g_iload_n (j := 1) X dX7_submit_14 rfl rfl ?_
    refine g_bipush X dX7_submit_15 (v := 120) (by decide) ?_
    refine g_icmp_le (tgt := 30) X dX7_submit_17 (by decide) (fun c16 => ?_) (fun c16 => ?_)
    · have h17 := g_ip h11 c16; clear h11
      refine g_aload_n (j := 0) X dX7_submit_30 rfl rfl ?_
      refine g_aload_n (j := 2) X dX7_submit_31 rfl rfl ?_
      obtain ⟨x19, ex19, h20⟩ := g_bd h17; clear h17
      refine g_fR (ci := 7) (k := 0) X rfl il7 (by decide) tw186 (by decide) (fun _ _ _ => rfl) ex19 dX7_submit_32 ?_
      clear ex19
      obtain ⟨x21, ex21, h22⟩ := g_bd h20; clear h20
      refine g_fR (ci := 5) (k := 0) X rfl il5 (by decide) tw79 (by decide) (fun _ _ _ => rfl) ex21 dX7_submit_35 ?_
      clear ex21
      refine g_iload_n (j := 1) X dX7_submit_38 rfl rfl ?_
      obtain ⟨a23, ea23, ka23, h24⟩ := g_dc h22; clear h22
      obtain ⟨x27, S25, eS25, h26⟩ := g_bi h24; clear h24
      refine g_cV (n := 2) (As := [va_rf x21, .int x7]) X (c_X1_numberOf hl D eS25) tw407 tw408 tw409 tw46 tw410 (by decide +kernel) rfl rfl ⟨Nat.le_of_ble_eq_true rfl, Nat.le_of_ble_eq_true rfl⟩ (ci := 1) rfl (by decide) ea23 ka23 rfl rfl (Nat.le_of_ble_eq_true rfl) dX7_submit_39 ⟨(by decide), (by decide)⟩ ?_
      clear eS25 ea23 ka23
      refine g_istore (i := 4) (lv' := [(4, .int x27), (3, va_rf x12), (2, .int x7), (0, va_rf (some a0)), (1, .int v1)]) X dX7_submit_42 (by decide) (by simp [g_rfc, g_ci, g_cj, g_cr]) ?_
      refine g_iload (j := 0) X dX7_submit_44 rfl ?_
      refine g_iconst X dX7_submit_46 (v := (-1)) (by decide) ?_
      refine g_icmp_eq (tgt := 53) X dX7_submit_47 (by decide) (fun c28 => ?_) (fun c28 => ?_)
      · have h29 := g_ip h26 c28; clear h26
        refine g_aload_n (j := 1) X dX7_submit_53 rfl rfl ?_
        obtain ⟨x31, ex31, h32⟩ := g_bd h29; clear h29
        refine g_fI (ci := 1) (k := 4) X rfl il1 (by decide) tw112 (by decide) (fun _ _ _ => rfl) ex31 dX7_submit_54 ?_
        clear ex31
        refine g_sipush X dX7_submit_57 (v := 200) (by decide) ?_
        refine g_icmp_lt (tgt := 73) X dX7_submit_60 (by decide) (fun c33 => ?_) (fun c33 => ?_)
        · have h34 := g_ip h32 c33; clear h32
          refine g_aload_n (j := 1) X dX7_submit_73 rfl rfl ?_
          refine g_aload_n (j := 3) X dX7_submit_74 rfl rfl ?_
          obtain ⟨x36, ex36, h37⟩ := g_bd h34; clear h34
          refine g_fR (ci := 7) (k := 0) X rfl il7 (by decide) tw186 (by decide) (fun _ _ _ => rfl) ex36 dX7_submit_75 ?_
          clear ex36
          obtain ⟨x38, ex38, h39⟩ := g_bd h37; clear h37
          refine g_fR (ci := 5) (k := 0) X rfl il5 (by decide) tw79 (by decide) (fun _ _ _ => rfl) ex38 dX7_submit_78 ?_
          clear ex38
          refine g_iload_n (j := 2) X dX7_submit_81 rfl rfl ?_
          obtain ⟨a40, ea40, ka40, h41⟩ := g_dc h39; clear h39
          obtain ⟨x44, S42, eS42, h43⟩ := g_bi h41; clear h41
          refine g_cV (n := 2) (As := [va_rf x38, .int x7]) X (c_X1_addEntry hl D eS42) tw412 tw413 tw414 tw46 tw415 (by decide +kernel) rfl rfl ⟨Nat.le_of_ble_eq_true rfl, Nat.le_of_ble_eq_true rfl⟩ (ci := 1) rfl (by decide) ea40 ka40 rfl rfl (Nat.le_of_ble_eq_true rfl) dX7_submit_82 ⟨(by decide), (by decide)⟩ ?_
          clear eS42 ea40 ka40
          obtain ⟨rfl, rfl⟩ := g_end h43
          exact g_xr (g_iret X hr (by decide) (by decide) dX7_submit_85)
        · have h35 := g_in h32 c33; clear h32
          obtain ⟨rfl, rfl⟩ := g_end h35
          exact g_throw (is := 108) (text := "the LOG has 200 ENTRIES") X ht rfl (by decide +kernel) tw381 tw59 (by decide +kernel) tx_94_1 tx_94_2 tx_94_90_3 dX7_submit_63 dX7_submit_66 dX7_submit_67 dX7_submit_69 dX7_submit_72 (by decide) (Nat.le_of_ble_eq_true rfl) (by decide) (by decide) (by decide) (by decide)
      · have h30 := g_in h26 c28; clear h26
        refine g_iload (j := 0) X dX7_submit_50 rfl ?_
        obtain ⟨rfl, rfl⟩ := g_end h30
        exact g_xr (g_iret X hr (by decide) (by decide) dX7_submit_52)
    · have h18 := g_in h11 c16; clear h11
      obtain ⟨rfl, rfl⟩ := g_end h18
      exact g_throw (is := 99) (text := "an ENTRY has at most 120 bytes") X ht rfl (by decide +kernel) tw373 tw58 (by decide +kernel) tx_84_1 tx_84_2 tx_84_80_3 dX7_submit_20 dX7_submit_23 dX7_submit_24 dX7_submit_26 dX7_submit_29 (by decide) (Nat.le_of_ble_eq_true rfl) (by decide) (by decide) (by decide) (by decide)
  · refine g_xV (n := 1) (As := [.int v1]) X (c_X7_logOf hl D eS10) tw348 tw349 tw7 tw44 tw350 (by decide +kernel) rfl rfl ⟨Nat.le_of_ble_eq_true rfl, Nat.le_of_ble_eq_true rfl⟩ (ci := 7) rfl (by decide) ea8 ka8 rfl rfl (Nat.le_of_ble_eq_true rfl) dX7_submit_10 ⟨(by decide), (by decide)⟩ (fun _ hx' => by cases hx') (fun E' hx' => ?_)
    cases hx'; obtain ⟨rfl, rfl⟩ := g_end h15; exact g_out X ht (by decide) (by decide)
def f_X7_cut (S0 : gS) (a0 : Nat) (v1 : Int32) (v2 : Int64) : Option ((String ⊕ Int32) × gS) :=
  gDc S0 7 (some a0) fun a1 =>
  gBx (f_X7_logOf S0 a1 v1) (fun E6 S7 => some (.inl E6, S7)) fun x5 S3 =>
  if (lg_cmp v2 0) < 0 then
    some (.inl "java/lang/IllegalArgumentException", gsZ S3 (gZ S3 + 1))
  else
    gDc S3 1 x5 fun a12 =>
    gBi (f_X1_latestTime S3 a12) fun x16 S14 =>
    if 0 ≤ (lg_cmp v2 x16) then
      (fgI S14 1 8 x5).bind fun x20 =>
      if x20 < 40 then
        gDc S14 1 x5 fun a25 =>
        gBi (f_X1_addHead S14 a25 v2) fun x29 S27 =>
        some (.inr x29, S27)
      else
        some (.inl "java/lang/IllegalStateException", gsZ S14 (gZ S14 + 1))
    else
      some (.inl "java/lang/IllegalArgumentException", gsZ S14 (gZ S14 + 1))
set_option maxRecDepth 100000 in
set_option maxHeartbeats 4000000 in
theorem c_X7_cut {l : Launch} (hl : l.stackTraces = false) (D : gD)  {S0 S9 : gS} {a0 : Nat} {v1 : Int32} {v2 : Int64} {res : String ⊕ Int32} (h0 : f_X7_cut S0 a0 v1 v2 = some (res, S9)) : vx_Met l yX7_cut (gws yX7_cut cX7_cut 5 (some .int)) { frames := 7, cells := 3, slots := 127, locals := 132 } (gPc D S0 [.ref a0, .int v1, .long v2]) (gQX D (fun x : Int32 => Value.int x) res S9) (gXX D res S9) (3) (127) (gF D) := by
  refine g_xmet (lv := [(0, va_rf (some a0)), (1, .int v1), (2, .long v2)]) hl (by decide) (Nat.le_of_ble_eq_true rfl) rfl (fun p e s m args below meth c X hr ht => ?_)
  have X : gX D p l s m args meth c cX7_cut 5 RX7 := X
  unfold f_X7_cut at h0
  refine g_aload_n (j := 0) X dX7_cut_0 rfl rfl ?_
  refine g_iload_n (j := 1) X dX7_cut_1 rfl rfl ?_
  obtain ⟨a1, ea1, ka1, h2⟩ := g_dc h0; clear h0
  rcases g_bx h2 with ⟨x5, S3, eS3, h4⟩ | ⟨E6, S7, eS3, h8⟩
  · refine g_xV (n := 1) (As := [.int v1]) X (c_X7_logOf hl D eS3) tw348 tw349 tw7 tw44 tw350 (by decide +kernel) rfl rfl ⟨Nat.le_of_ble_eq_true rfl, Nat.le_of_ble_eq_true rfl⟩ (ci := 7) rfl (by decide) ea1 ka1 rfl rfl (Nat.le_of_ble_eq_true rfl) dX7_cut_2 ⟨(by decide), (by decide)⟩ (fun x' hx' => ?_) (fun _ hx' => by cases hx')
    cases hx'; clear h2 eS3 ea1 ka1
    refine g_astore (i := 4) (lv' := [(4, va_rf x5), (0, va_rf (some a0)), (1, .int v1), (2, .long v2)]) X dX7_cut_5 (by decide) rfl ?_
    refine g_lload_n (j := 3) X dX7_cut_7 rfl rfl ?_
    refine g_lconst X dX7_cut_8 (v := 0) (by decide) ?_
    refine g_lcmp X dX7_cut_9 ?_
    refine g_if_lt (tgt := 23) X dX7_cut_10 (by decide) (fun c9 => ?_) (fun c9 => ?_)
    · have h10 := g_ip h4 c9; clear h4
      obtain ⟨rfl, rfl⟩ := g_end h10
      exact g_throw (is := 117) (text := "TIME is below 0 or below the latest HEAD's") X ht rfl (by decide +kernel) tw373 tw58 (by decide +kernel) tx_84_1 tx_84_2 tx_84_80_3 dX7_cut_23 dX7_cut_26 dX7_cut_27 dX7_cut_29 dX7_cut_32 (by decide) (Nat.le_of_ble_eq_true rfl) (by decide) (by decide) (by decide) (by decide)
    · have h11 := g_in h4 c9; clear h4
      refine g_lload_n (j := 3) X dX7_cut_13 rfl rfl ?_
      refine g_aload (j := 0) X dX7_cut_14 rfl ?_
      obtain ⟨a12, ea12, ka12, h13⟩ := g_dc h11; clear h11
      obtain ⟨x16, S14, eS14, h15⟩ := g_bi h13; clear h13
      refine g_cV (n := 0) (As := []) X (c_X1_latestTime hl D eS14) tw444 tw445 tw446 tw46 tw447 (by decide +kernel) rfl rfl ⟨Nat.le_of_ble_eq_true rfl, Nat.le_of_ble_eq_true rfl⟩ (ci := 1) rfl (by decide) ea12 ka12 rfl rfl (Nat.le_of_ble_eq_true rfl) dX7_cut_16 ⟨(by decide), (by decide)⟩ ?_
      clear eS14 ea12 ka12
      refine g_lcmp X dX7_cut_19 ?_
      refine g_if_ge (tgt := 33) X dX7_cut_20 (by decide) (fun c17 => ?_) (fun c17 => ?_)
      · have h18 := g_ip h15 c17; clear h15
        refine g_aload (j := 0) X dX7_cut_33 rfl ?_
        obtain ⟨x20, ex20, h21⟩ := g_bd h18; clear h18
        refine g_fI (ci := 1) (k := 8) X rfl il1 (by decide) tw117 (by decide) (fun _ _ _ => rfl) ex20 dX7_cut_35 ?_
        clear ex20
        refine g_bipush X dX7_cut_38 (v := 40) (by decide) ?_
        refine g_icmp_lt (tgt := 53) X dX7_cut_40 (by decide) (fun c22 => ?_) (fun c22 => ?_)
        · have h23 := g_ip h21 c22; clear h21
          refine g_aload (j := 0) X dX7_cut_53 rfl ?_
          refine g_lload_n (j := 3) X dX7_cut_55 rfl rfl ?_
          obtain ⟨a25, ea25, ka25, h26⟩ := g_dc h23; clear h23
          obtain ⟨x29, S27, eS27, h28⟩ := g_bi h26; clear h26
          refine g_cV (n := 1) (As := [.long v2]) X (c_X1_addHead hl D eS27) tw459 tw460 tw461 tw46 tw462 (by decide +kernel) rfl rfl ⟨Nat.le_of_ble_eq_true rfl, Nat.le_of_ble_eq_true rfl⟩ (ci := 1) rfl (by decide) ea25 ka25 rfl rfl (Nat.le_of_ble_eq_true rfl) dX7_cut_56 ⟨(by decide), (by decide)⟩ ?_
          clear eS27 ea25 ka25
          obtain ⟨rfl, rfl⟩ := g_end h28
          exact g_xr (g_iret X hr (by decide) (by decide) dX7_cut_59)
        · have h24 := g_in h21 c22; clear h21
          obtain ⟨rfl, rfl⟩ := g_end h24
          exact g_throw (is := 119) (text := "the LOG has 40 HEADS") X ht rfl (by decide +kernel) tw381 tw59 (by decide +kernel) tx_94_1 tx_94_2 tx_94_90_3 dX7_cut_43 dX7_cut_46 dX7_cut_47 dX7_cut_49 dX7_cut_52 (by decide) (Nat.le_of_ble_eq_true rfl) (by decide) (by decide) (by decide) (by decide)
      · have h19 := g_in h15 c17; clear h15
        obtain ⟨rfl, rfl⟩ := g_end h19
        exact g_throw (is := 117) (text := "TIME is below 0 or below the latest HEAD's") X ht rfl (by decide +kernel) tw373 tw58 (by decide +kernel) tx_84_1 tx_84_2 tx_84_80_3 dX7_cut_23 dX7_cut_26 dX7_cut_27 dX7_cut_29 dX7_cut_32 (by decide) (Nat.le_of_ble_eq_true rfl) (by decide) (by decide) (by decide) (by decide)
  · refine g_xV (n := 1) (As := [.int v1]) X (c_X7_logOf hl D eS3) tw348 tw349 tw7 tw44 tw350 (by decide +kernel) rfl rfl ⟨Nat.le_of_ble_eq_true rfl, Nat.le_of_ble_eq_true rfl⟩ (ci := 7) rfl (by decide) ea1 ka1 rfl rfl (Nat.le_of_ble_eq_true rfl) dX7_cut_2 ⟨(by decide), (by decide)⟩ (fun _ hx' => by cases hx') (fun E' hx' => ?_)
    cases hx'; obtain ⟨rfl, rfl⟩ := g_end h8; exact g_out X ht (by decide) (by decide)
def f_X7_size (S0 : gS) (a0 : Nat) (v1 : Int32) (v2 : Int32) : Option ((String ⊕ Int32) × gS) :=
  gDc S0 7 (some a0) fun a1 =>
  gBx (f_X7_logOf S0 a1 v1) (fun E6 S7 => some (.inl E6, S7)) fun x5 S3 =>
  gLet v2 fun x9 =>
  if x9 = 0 then
    (fgI S3 1 4 x5).bind fun x14 =>
    some (.inr x14, S3)
  else
  if x9 = 1 then
    (fgI S3 1 6 x5).bind fun x19 =>
    some (.inr x19, S3)
  else
  if x9 = 2 then
    (fgI S3 1 8 x5).bind fun x24 =>
    some (.inr x24, S3)
  else
  if x9 = 3 then
    (fgI S3 1 2 x5).bind fun x29 =>
    some (.inr x29, S3)
  else
  if x9.toInt < 0 ∨ 3 < x9.toInt then
    some (.inl "java/util/NoSuchElementException", gsZ S3 (gZ S3 + 1))
  else none
set_option maxRecDepth 100000 in
set_option maxHeartbeats 4000000 in
theorem c_X7_size {l : Launch} (hl : l.stackTraces = false) (D : gD)  {S0 S9 : gS} {a0 : Nat} {v1 : Int32} {v2 : Int32} {res : String ⊕ Int32} (h0 : f_X7_size S0 a0 v1 v2 = some (res, S9)) : vx_Met l yX7_size (gws yX7_size cX7_size 4 (some .int)) { frames := 7, cells := 2, slots := 12, locals := 105 } (gPc D S0 [.ref a0, .int v1, .int v2]) (gQX D (fun x : Int32 => Value.int x) res S9) (gXX D res S9) (2) (12) (gF D) := by
  refine g_xmet (lv := [(0, va_rf (some a0)), (1, .int v1), (2, .int v2)]) hl (by decide) (Nat.le_of_ble_eq_true rfl) rfl (fun p e s m args below meth c X hr ht => ?_)
  have X : gX D p l s m args meth c cX7_size 4 RX7 := X
  unfold f_X7_size at h0
  refine g_aload_n (j := 0) X dX7_size_0 rfl rfl ?_
  refine g_iload_n (j := 1) X dX7_size_1 rfl rfl ?_
  obtain ⟨a1, ea1, ka1, h2⟩ := g_dc h0; clear h0
  rcases g_bx h2 with ⟨x5, S3, eS3, h4⟩ | ⟨E6, S7, eS3, h8⟩
  · refine g_xV (n := 1) (As := [.int v1]) X (c_X7_logOf hl D eS3) tw348 tw349 tw7 tw44 tw350 (by decide +kernel) rfl rfl ⟨Nat.le_of_ble_eq_true rfl, Nat.le_of_ble_eq_true rfl⟩ (ci := 7) rfl (by decide) ea1 ka1 rfl rfl (Nat.le_of_ble_eq_true rfl) dX7_size_2 ⟨(by decide), (by decide)⟩ (fun x' hx' => ?_) (fun _ hx' => by cases hx')
    cases hx'; clear h2 eS3 ea1 ka1
    refine g_astore_n (i := 3) (lv' := [(3, va_rf x5), (0, va_rf (some a0)), (1, .int v1), (2, .int v2)]) X dX7_size_5 rfl (by decide) rfl ?_
    refine g_iload_n (j := 3) X dX7_size_6 rfl rfl ?_
    obtain ⟨x9, ex9, h10⟩ := g_let h4; clear h4; rw [← ex9]; clear ex9
    by_cases c11 : x9 = 0
    · have h12 := g_ip h10 c11; clear h10; subst c11
      refine g_tableIn (tgt := 36) X dX7_size_7 (by decide) (by decide) rfl (by decide) ?_
      refine g_aload_n (j := 0) X dX7_size_36 rfl rfl ?_
      obtain ⟨x14, ex14, h15⟩ := g_bd h12; clear h12
      refine g_fI (ci := 1) (k := 4) X rfl il1 (by decide) tw112 (by decide) (fun _ _ _ => rfl) ex14 dX7_size_37 ?_
      clear ex14
      obtain ⟨rfl, rfl⟩ := g_end h15
      exact g_xr (g_iret X hr (by decide) (by decide) dX7_size_40)
    have h13 := g_in h10 c11; clear h10
    by_cases c16 : x9 = 1
    · have h17 := g_ip h13 c16; clear h13; subst c16
      refine g_tableIn (tgt := 41) X dX7_size_7 (by decide) (by decide) rfl (by decide) ?_
      refine g_aload_n (j := 0) X dX7_size_41 rfl rfl ?_
      obtain ⟨x19, ex19, h20⟩ := g_bd h17; clear h17
      refine g_fI (ci := 1) (k := 6) X rfl il1 (by decide) tw115 (by decide) (fun _ _ _ => rfl) ex19 dX7_size_42 ?_
      clear ex19
      obtain ⟨rfl, rfl⟩ := g_end h20
      exact g_xr (g_iret X hr (by decide) (by decide) dX7_size_45)
    have h18 := g_in h13 c16; clear h13
    by_cases c21 : x9 = 2
    · have h22 := g_ip h18 c21; clear h18; subst c21
      refine g_tableIn (tgt := 46) X dX7_size_7 (by decide) (by decide) rfl (by decide) ?_
      refine g_aload_n (j := 0) X dX7_size_46 rfl rfl ?_
      obtain ⟨x24, ex24, h25⟩ := g_bd h22; clear h22
      refine g_fI (ci := 1) (k := 8) X rfl il1 (by decide) tw117 (by decide) (fun _ _ _ => rfl) ex24 dX7_size_47 ?_
      clear ex24
      obtain ⟨rfl, rfl⟩ := g_end h25
      exact g_xr (g_iret X hr (by decide) (by decide) dX7_size_50)
    have h23 := g_in h18 c21; clear h18
    by_cases c26 : x9 = 3
    · have h27 := g_ip h23 c26; clear h23; subst c26
      refine g_tableIn (tgt := 51) X dX7_size_7 (by decide) (by decide) rfl (by decide) ?_
      refine g_aload_n (j := 0) X dX7_size_51 rfl rfl ?_
      obtain ⟨x29, ex29, h30⟩ := g_bd h27; clear h27
      refine g_fI (ci := 1) (k := 2) X rfl il1 (by decide) tw109 (by decide) (fun _ _ _ => rfl) ex29 dX7_size_52 ?_
      clear ex29
      obtain ⟨rfl, rfl⟩ := g_end h30
      exact g_xr (g_iret X hr (by decide) (by decide) dX7_size_55)
    have h28 := g_in h23 c26; clear h23
    obtain ⟨c32, h31⟩ := g_if h28; clear h28
    refine g_tableOut (tgt := 56) X dX7_size_7 c32 (by decide) ?_
    obtain ⟨rfl, rfl⟩ := g_end h31
    exact g_throwN (is := 133) (text := "what is 0 to 3") X ht rfl tw485 tw62 (by decide +kernel) tx_135_1 tx_135_2 tx_135_131_3 dX7_size_56 dX7_size_59 dX7_size_60 dX7_size_62 dX7_size_65 (by decide) (Nat.le_of_ble_eq_true rfl) (by decide) (by decide) (by decide) (by decide)
  · refine g_xV (n := 1) (As := [.int v1]) X (c_X7_logOf hl D eS3) tw348 tw349 tw7 tw44 tw350 (by decide +kernel) rfl rfl ⟨Nat.le_of_ble_eq_true rfl, Nat.le_of_ble_eq_true rfl⟩ (ci := 7) rfl (by decide) ea1 ka1 rfl rfl (Nat.le_of_ble_eq_true rfl) dX7_size_2 ⟨(by decide), (by decide)⟩ (fun _ hx' => by cases hx') (fun E' hx' => ?_)
    cases hx'; obtain ⟨rfl, rfl⟩ := g_end h8; exact g_out X ht (by decide) (by decide)
def f_X7_head (S0 : gS) (a0 : Nat) (v1 : Int32) (v2 : Int32) : Option ((String ⊕ Int32) × gS) :=
  gDc S0 7 (some a0) fun a1 =>
  gBx (f_X7_logOf S0 a1 v1) (fun E6 S7 => some (.inl E6, S7)) fun x5 S3 =>
  gDc S3 1 x5 fun a9 =>
  gBi (f_X1_headAt S3 a9 v2) fun x13 S11 =>
  gnl x13 (
    some (.inl "java/util/NoSuchElementException", gsZ S11 (gZ S11 + 1))
  ) (
    (fgR S11 7 1 (some a0)).bind fun x18 =>
    (fgR S11 3 0 x13).bind fun x20 =>
    (fgR S11 3 0 x13).bind fun x22 =>
    (fN S11 x22).bind fun x24 =>
    gDc S11 5 x18 fun a26 =>
    (f_X5_become S11 a26 x20 x24).bind fun S28 =>
    gDc S28 3 x13 fun a30 =>
    gBi (f_X3_longAt S28 a30 8) fun x34 S32 =>
    some (.inr x34.toInt32, S32)
  )
set_option maxRecDepth 100000 in
set_option maxHeartbeats 4000000 in
theorem c_X7_head {l : Launch} (hl : l.stackTraces = false) (D : gD)  {S0 S9 : gS} {a0 : Nat} {v1 : Int32} {v2 : Int32} {res : String ⊕ Int32} (h0 : f_X7_head S0 a0 v1 v2 = some (res, S9)) : vx_Met l yX7_head (gws yX7_head cX7_head 4 (some .int)) { frames := 7, cells := 2, slots := 12, locals := 109 } (gPc D S0 [.ref a0, .int v1, .int v2]) (gQX D (fun x : Int32 => Value.int x) res S9) (gXX D res S9) (2) (12) (gF D) := by
  refine g_xmet (lv := [(0, va_rf (some a0)), (1, .int v1), (2, .int v2)]) hl (by decide) (Nat.le_of_ble_eq_true rfl) rfl (fun p e s m args below meth c X hr ht => ?_)
  have X : gX D p l s m args meth c cX7_head 4 RX7 := X
  unfold f_X7_head at h0
  refine g_aload_n (j := 0) X dX7_head_0 rfl rfl ?_
  refine g_iload_n (j := 1) X dX7_head_1 rfl rfl ?_
  obtain ⟨a1, ea1, ka1, h2⟩ := g_dc h0; clear h0
  rcases g_bx h2 with ⟨x5, S3, eS3, h4⟩ | ⟨E6, S7, eS3, h8⟩
  · refine g_xV (n := 1) (As := [.int v1]) X (c_X7_logOf hl D eS3) tw348 tw349 tw7 tw44 tw350 (by decide +kernel) rfl rfl ⟨Nat.le_of_ble_eq_true rfl, Nat.le_of_ble_eq_true rfl⟩ (ci := 7) rfl (by decide) ea1 ka1 rfl rfl (Nat.le_of_ble_eq_true rfl) dX7_head_2 ⟨(by decide), (by decide)⟩ (fun x' hx' => ?_) (fun _ hx' => by cases hx')
    cases hx'; clear h2 eS3 ea1 ka1
    refine g_iload_n (j := 2) X dX7_head_5 rfl rfl ?_
    obtain ⟨a9, ea9, ka9, h10⟩ := g_dc h4; clear h4
    obtain ⟨x13, S11, eS11, h12⟩ := g_bi h10; clear h10
    refine g_cV (n := 1) (As := [.int v2]) X (c_X1_headAt hl D eS11) tw500 tw449 tw450 tw46 tw451 (by decide +kernel) rfl rfl ⟨Nat.le_of_ble_eq_true rfl, Nat.le_of_ble_eq_true rfl⟩ (ci := 1) rfl (by decide) ea9 ka9 rfl rfl (Nat.le_of_ble_eq_true rfl) dX7_head_6 ⟨(by decide), (by decide)⟩ ?_
    clear eS11 ea9 ka9
    refine g_astore_n (i := 3) (lv' := [(3, va_rf x13), (0, va_rf (some a0)), (1, .int v1), (2, .int v2)]) X dX7_head_9 rfl (by decide) rfl ?_
    refine g_aload_n (j := 0) X dX7_head_10 rfl rfl ?_
    refine g_ifnonnull (tgt := 24) X dX7_head_11 (by decide) (fun c16 => ?_) (fun q17 c16 => ?_)
    · have h14 := g_nln h12 c16; clear h12
      obtain ⟨rfl, rfl⟩ := g_end h14
      exact g_throwN (is := 140) (text := "there is no such HEAD") X ht rfl tw485 tw62 (by decide +kernel) tx_135_1 tx_135_2 tx_135_131_3 dX7_head_14 dX7_head_17 dX7_head_18 dX7_head_20 dX7_head_23 (by decide) (Nat.le_of_ble_eq_true rfl) (by decide) (by decide) (by decide) (by decide)
    · have h15 := g_nls h12 c16; clear h12
      refine g_aload_n (j := 1) X dX7_head_24 rfl rfl ?_
      obtain ⟨x18, ex18, h19⟩ := g_bd h15; clear h15
      refine g_fR (ci := 7) (k := 1) X rfl il7 (by decide) tw187 (by decide) (fun _ _ _ => rfl) ex18 dX7_head_25 ?_
      clear ex18
      refine g_aload_n (j := 0) X dX7_head_28 rfl rfl ?_
      obtain ⟨x20, ex20, h21⟩ := g_bd h19; clear h19
      refine g_fR (ci := 3) (k := 0) X rfl il3 (by decide) tw424 (by decide) (fun _ _ _ => rfl) ex20 dX7_head_29 ?_
      clear ex20
      refine g_aload_n (j := 0) X dX7_head_32 rfl rfl ?_
      obtain ⟨x22, ex22, h23⟩ := g_bd h21; clear h21
      refine g_fR (ci := 3) (k := 0) X rfl il3 (by decide) tw424 (by decide) (fun _ _ _ => rfl) ex22 dX7_head_33 ?_
      clear ex22
      obtain ⟨x24, ex24, h25⟩ := g_bd h23; clear h23
      refine g_alen X ex24 dX7_head_36 ?_
      clear ex24
      obtain ⟨a26, ea26, ka26, h27⟩ := g_dc h25; clear h25
      obtain ⟨S28, eS28, h29⟩ := g_bd h27; clear h27
      refine g_cV (n := 2) (As := [va_rf x20, .int x24]) X (c_X5_become hl D eS28) tw501 tw502 tw503 tw45 tw504 (by decide +kernel) rfl rfl ⟨Nat.le_of_ble_eq_true rfl, Nat.le_of_ble_eq_true rfl⟩ (ci := 5) rfl (by decide) ea26 ka26 rfl rfl (Nat.le_of_ble_eq_true rfl) dX7_head_37 ⟨(by decide), (by decide)⟩ ?_
      clear eS28 ea26 ka26
      refine g_aload_n (j := 0) X dX7_head_40 rfl rfl ?_
      refine g_bipush X dX7_head_41 (v := 8) (by decide) ?_
      obtain ⟨a30, ea30, ka30, h31⟩ := g_dc h29; clear h29
      obtain ⟨x34, S32, eS32, h33⟩ := g_bi h31; clear h31
      refine g_cV (n := 1) (As := [.int 8]) X (c_X3_longAt hl D eS32) tw506 tw453 tw454 tw52 tw455 (by decide +kernel) rfl rfl ⟨Nat.le_of_ble_eq_true rfl, Nat.le_of_ble_eq_true rfl⟩ (ci := 3) rfl (by decide) ea30 ka30 rfl rfl (Nat.le_of_ble_eq_true rfl) dX7_head_43 ⟨(by decide), (by decide)⟩ ?_
      clear eS32 ea30 ka30
      refine g_l2i X dX7_head_46 ?_
      obtain ⟨rfl, rfl⟩ := g_end h33
      exact g_xr (g_iret X hr (by decide) (by decide) dX7_head_47)
  · refine g_xV (n := 1) (As := [.int v1]) X (c_X7_logOf hl D eS3) tw348 tw349 tw7 tw44 tw350 (by decide +kernel) rfl rfl ⟨Nat.le_of_ble_eq_true rfl, Nat.le_of_ble_eq_true rfl⟩ (ci := 7) rfl (by decide) ea1 ka1 rfl rfl (Nat.le_of_ble_eq_true rfl) dX7_head_2 ⟨(by decide), (by decide)⟩ (fun _ hx' => by cases hx') (fun E' hx' => ?_)
    cases hx'; obtain ⟨rfl, rfl⟩ := g_end h8; exact g_out X ht (by decide) (by decide)
def f_X7_entry (S0 : gS) (a0 : Nat) (v1 : Int32) (v2 : Int32) : Option ((String ⊕ Int32) × gS) :=
  gDc S0 7 (some a0) fun a1 =>
  gBx (f_X7_logOf S0 a1 v1) (fun E6 S7 => some (.inl E6, S7)) fun x5 S3 =>
  gDc S3 1 x5 fun a9 =>
  gBi (f_X1_entryAt S3 a9 v2) fun x13 S11 =>
  gnl x13 (
    some (.inl "java/util/NoSuchElementException", gsZ S11 (gZ S11 + 1))
  ) (
    (fgR S11 7 1 (some a0)).bind fun x18 =>
    (fgR S11 3 0 x13).bind fun x20 =>
    (fgR S11 3 0 x13).bind fun x22 =>
    (fN S11 x22).bind fun x24 =>
    gDc S11 5 x18 fun a26 =>
    (f_X5_become S11 a26 x20 x24).bind fun S28 =>
    (fgR S28 3 0 x13).bind fun x30 =>
    (fN S28 x30).bind fun x32 =>
    some (.inr x32, S28)
  )
set_option maxRecDepth 100000 in
set_option maxHeartbeats 4000000 in
theorem c_X7_entry {l : Launch} (hl : l.stackTraces = false) (D : gD)  {S0 S9 : gS} {a0 : Nat} {v1 : Int32} {v2 : Int32} {res : String ⊕ Int32} (h0 : f_X7_entry S0 a0 v1 v2 = some (res, S9)) : vx_Met l yX7_entry (gws yX7_entry cX7_entry 4 (some .int)) { frames := 7, cells := 2, slots := 12, locals := 109 } (gPc D S0 [.ref a0, .int v1, .int v2]) (gQX D (fun x : Int32 => Value.int x) res S9) (gXX D res S9) (2) (12) (gF D) := by
  refine g_xmet (lv := [(0, va_rf (some a0)), (1, .int v1), (2, .int v2)]) hl (by decide) (Nat.le_of_ble_eq_true rfl) rfl (fun p e s m args below meth c X hr ht => ?_)
  have X : gX D p l s m args meth c cX7_entry 4 RX7 := X
  unfold f_X7_entry at h0
  refine g_aload_n (j := 0) X dX7_entry_0 rfl rfl ?_
  refine g_iload_n (j := 1) X dX7_entry_1 rfl rfl ?_
  obtain ⟨a1, ea1, ka1, h2⟩ := g_dc h0; clear h0
  rcases g_bx h2 with ⟨x5, S3, eS3, h4⟩ | ⟨E6, S7, eS3, h8⟩
  · refine g_xV (n := 1) (As := [.int v1]) X (c_X7_logOf hl D eS3) tw348 tw349 tw7 tw44 tw350 (by decide +kernel) rfl rfl ⟨Nat.le_of_ble_eq_true rfl, Nat.le_of_ble_eq_true rfl⟩ (ci := 7) rfl (by decide) ea1 ka1 rfl rfl (Nat.le_of_ble_eq_true rfl) dX7_entry_2 ⟨(by decide), (by decide)⟩ (fun x' hx' => ?_) (fun _ hx' => by cases hx')
    cases hx'; clear h2 eS3 ea1 ka1
    refine g_iload_n (j := 2) X dX7_entry_5 rfl rfl ?_
    obtain ⟨a9, ea9, ka9, h10⟩ := g_dc h4; clear h4
    obtain ⟨x13, S11, eS11, h12⟩ := g_bi h10; clear h10
    refine g_cV (n := 1) (As := [.int v2]) X (c_X1_entryAt hl D eS11) tw514 tw515 tw516 tw46 tw517 (by decide +kernel) rfl rfl ⟨Nat.le_of_ble_eq_true rfl, Nat.le_of_ble_eq_true rfl⟩ (ci := 1) rfl (by decide) ea9 ka9 rfl rfl (Nat.le_of_ble_eq_true rfl) dX7_entry_6 ⟨(by decide), (by decide)⟩ ?_
    clear eS11 ea9 ka9
    refine g_astore_n (i := 3) (lv' := [(3, va_rf x13), (0, va_rf (some a0)), (1, .int v1), (2, .int v2)]) X dX7_entry_9 rfl (by decide) rfl ?_
    refine g_aload_n (j := 0) X dX7_entry_10 rfl rfl ?_
    refine g_ifnonnull (tgt := 24) X dX7_entry_11 (by decide) (fun c16 => ?_) (fun q17 c16 => ?_)
    · have h14 := g_nln h12 c16; clear h12
      obtain ⟨rfl, rfl⟩ := g_end h14
      exact g_throwN (is := 155) (text := "there is no such ENTRY") X ht rfl tw485 tw62 (by decide +kernel) tx_135_1 tx_135_2 tx_135_131_3 dX7_entry_14 dX7_entry_17 dX7_entry_18 dX7_entry_20 dX7_entry_23 (by decide) (Nat.le_of_ble_eq_true rfl) (by decide) (by decide) (by decide) (by decide)
    · have h15 := g_nls h12 c16; clear h12
      refine g_aload_n (j := 1) X dX7_entry_24 rfl rfl ?_
      obtain ⟨x18, ex18, h19⟩ := g_bd h15; clear h15
      refine g_fR (ci := 7) (k := 1) X rfl il7 (by decide) tw187 (by decide) (fun _ _ _ => rfl) ex18 dX7_entry_25 ?_
      clear ex18
      refine g_aload_n (j := 0) X dX7_entry_28 rfl rfl ?_
      obtain ⟨x20, ex20, h21⟩ := g_bd h19; clear h19
      refine g_fR (ci := 3) (k := 0) X rfl il3 (by decide) tw424 (by decide) (fun _ _ _ => rfl) ex20 dX7_entry_29 ?_
      clear ex20
      refine g_aload_n (j := 0) X dX7_entry_32 rfl rfl ?_
      obtain ⟨x22, ex22, h23⟩ := g_bd h21; clear h21
      refine g_fR (ci := 3) (k := 0) X rfl il3 (by decide) tw424 (by decide) (fun _ _ _ => rfl) ex22 dX7_entry_33 ?_
      clear ex22
      obtain ⟨x24, ex24, h25⟩ := g_bd h23; clear h23
      refine g_alen X ex24 dX7_entry_36 ?_
      clear ex24
      obtain ⟨a26, ea26, ka26, h27⟩ := g_dc h25; clear h25
      obtain ⟨S28, eS28, h29⟩ := g_bd h27; clear h27
      refine g_cV (n := 2) (As := [va_rf x20, .int x24]) X (c_X5_become hl D eS28) tw501 tw502 tw503 tw45 tw504 (by decide +kernel) rfl rfl ⟨Nat.le_of_ble_eq_true rfl, Nat.le_of_ble_eq_true rfl⟩ (ci := 5) rfl (by decide) ea26 ka26 rfl rfl (Nat.le_of_ble_eq_true rfl) dX7_entry_37 ⟨(by decide), (by decide)⟩ ?_
      clear eS28 ea26 ka26
      refine g_aload_n (j := 0) X dX7_entry_40 rfl rfl ?_
      obtain ⟨x30, ex30, h31⟩ := g_bd h29; clear h29
      refine g_fR (ci := 3) (k := 0) X rfl il3 (by decide) tw424 (by decide) (fun _ _ _ => rfl) ex30 dX7_entry_41 ?_
      clear ex30
      obtain ⟨x32, ex32, h33⟩ := g_bd h31; clear h31
      refine g_alen X ex32 dX7_entry_44 ?_
      clear ex32
      obtain ⟨rfl, rfl⟩ := g_end h33
      exact g_xr (g_iret X hr (by decide) (by decide) dX7_entry_45)
  · refine g_xV (n := 1) (As := [.int v1]) X (c_X7_logOf hl D eS3) tw348 tw349 tw7 tw44 tw350 (by decide +kernel) rfl rfl ⟨Nat.le_of_ble_eq_true rfl, Nat.le_of_ble_eq_true rfl⟩ (ci := 7) rfl (by decide) ea1 ka1 rfl rfl (Nat.le_of_ble_eq_true rfl) dX7_entry_2 ⟨(by decide), (by decide)⟩ (fun _ hx' => by cases hx') (fun E' hx' => ?_)
    cases hx'; obtain ⟨rfl, rfl⟩ := g_end h8; exact g_out X ht (by decide) (by decide)
