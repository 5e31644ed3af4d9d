def f_X8_four_L2 : Nat → gS → Nat → Int32 → Int32 → Option gS
  | 0, _, _, _, _ => none
  | k + 1, S0, a0, v1, v2 =>
    if 4 ≤ v2 then
      (fgI S0 8 2 (some a0)).bind fun x4 =>
      (fpI S0 8 2 (some a0) (x4 + 4)).bind fun S6 =>
      some S6
    else
      (fgR S0 8 1 (some a0)).bind fun x8 =>
      (fgI S0 8 2 (some a0)).bind fun x10 =>
      (faI S0 x8 (x10 + v2) ((v1 >>> ((24 - (8 * v2)) &&& 31)) &&& 255)).bind fun S12 =>
      gLet (v2 + 1) fun x14 =>
      f_X8_four_L2 k S12 a0 v1 x14
set_option maxRecDepth 100000 in
set_option maxHeartbeats 4000000 in
theorem w_X8_four_L2 {p : Program} {l : Launch} {e : Env} {s : State} {m : MethodId} {args : Array Value} {below : List Frame} {meth : Method} {c : Code} {D : gD} {S9 : gS}  (hl : l.stackTraces = false) (X : gX D p l s m args meth c cX8_four 3 RX8) (hr : meth.sig.returnType = none) : ∀ (k : Nat) (S0 : gS) (a0 : Nat) (v1 : Int32) (v2 : Int32), f_X8_four_L2 k S0 a0 v1 v2 = some S9 → gJ D p l e { frames := 0, cells := 0, slots := 0, locals := 0 } s m args below meth c (MQ below (gQ D none S9) args s (0) (0) (gF D)) 3 (0) (0) S0 2 [(0, va_rf (some a0)), (1, .int v1), (2, .int v2)] [] := by
  intro k
  induction k with
  | zero => intro S0 a0 v1 v2 h0; cases h0
  | succ k ih =>
    intro S0 a0 v1 v2 h0
    have h0 := h0
    unfold f_X8_four_L2 at h0
    refine g_iload_n (j := 2) X dX8_four_2 rfl rfl ?_
    refine g_iconst X dX8_four_3 (v := 4) (by decide) ?_
    refine g_icmp_ge (tgt := 37) X dX8_four_4 (by decide) (fun c1 => ?_) (fun c1 => ?_)
    · have h2 := g_ip h0 c1; clear h0
      refine g_aload_n (j := 0) X dX8_four_37 rfl rfl ?_
      refine g_dup X dX8_four_38 (g_rfc _) ?_
      obtain ⟨x4, ex4, h5⟩ := g_bd h2; clear h2
      refine g_fI (ci := 8) (k := 2) X rfl il8 (by decide) tw705 (by decide) (fun _ _ _ => rfl) ex4 dX8_four_39 ?_
      clear ex4
      refine g_iconst X dX8_four_42 (v := 4) (by decide) ?_
      refine g_iadd X dX8_four_43 ?_
      obtain ⟨S6, eS6, h7⟩ := g_bd h5; clear h5
      refine g_pI (ci := 8) (k := 2) X rfl il8 tyX8 tyX8_ok nmX8 (by decide) tw705 rfl (by decide) (fun _ _ _ => rfl) rfl eS6 dX8_four_44 ?_
      clear eS6
      cases h7
      exact g_vret X hr (by decide) (by decide) dX8_four_47
    · have h3 := g_in h0 c1; clear h0
      refine g_aload_n (j := 0) X dX8_four_7 rfl rfl ?_
      obtain ⟨x8, ex8, h9⟩ := g_bd h3; clear h3
      refine g_fR (ci := 8) (k := 1) X rfl il8 (by decide) tw704 (by decide) (fun _ _ _ => rfl) ex8 dX8_four_8 ?_
      clear ex8
      refine g_aload_n (j := 0) X dX8_four_11 rfl rfl ?_
      obtain ⟨x10, ex10, h11⟩ := g_bd h9; clear h9
      refine g_fI (ci := 8) (k := 2) X rfl il8 (by decide) tw705 (by decide) (fun _ _ _ => rfl) ex10 dX8_four_12 ?_
      clear ex10
      refine g_iload_n (j := 2) X dX8_four_15 rfl rfl ?_
      refine g_iadd X dX8_four_16 ?_
      refine g_iload_n (j := 1) X dX8_four_17 rfl rfl ?_
      refine g_bipush X dX8_four_18 (v := 24) (by decide) ?_
      refine g_bipush X dX8_four_20 (v := 8) (by decide) ?_
      refine g_iload_n (j := 2) X dX8_four_22 rfl rfl ?_
      refine g_imul X dX8_four_23 ?_
      refine g_isub X dX8_four_24 ?_
      refine g_ishr X dX8_four_25 ?_
      refine g_sipush X dX8_four_26 (v := 255) (by decide) ?_
      refine g_iand X dX8_four_29 ?_
      obtain ⟨S12, eS12, h13⟩ := g_bd h11; clear h11
      refine g_iast X eS12 dX8_four_30 ?_
      clear eS12
      obtain ⟨x14, ex14, h15⟩ := g_let h13; clear h13
      refine g_iinc (j := 2) (v := x14) (lv' := [(2, .int x14), (0, va_rf (some a0)), (1, .int v1)]) X dX8_four_31 rfl (by rw [ex14]; rfl) (by decide) rfl ?_
      clear ex14
      refine g_goto (tgt := 2) X dX8_four_34 (by decide) ?_
      refine g_sub [1, 2, 0] rfl ?_
      exact ih S12 a0 v1 x14 h15
def f_X8_four (S0 : gS) (a0 : Nat) (v1 : Int32) : Option gS :=
  f_X8_four_L2 gFuel S0 a0 v1 0
set_option maxRecDepth 100000 in
set_option maxHeartbeats 4000000 in
theorem c_X8_four {l : Launch} (hl : l.stackTraces = false) (D : gD)  {S0 S9 : gS} {a0 : Nat} {v1 : Int32} (h0 : f_X8_four S0 a0 v1 = some S9) : Met l yX8_four (gws yX8_four cX8_four 3 none) { frames := 0, cells := 0, slots := 0, locals := 0 } (gPc D S0 [.ref a0, .int v1]) (gQ D none S9) (0) (0) (gF D) := by
  refine g_met (lv := [(0, va_rf (some a0)), (1, .int v1)]) hl (by decide) (Nat.le_of_ble_eq_true rfl) rfl (fun p e s m args below meth c X hr hn => ?_)
  have X : gX D p l s m args meth c cX8_four 3 RX8 := X
  unfold f_X8_four at h0
  refine g_iconst X dX8_four_0 (v := 0) (by decide) ?_
  refine g_istore_n (i := 2) (lv' := [(2, .int 0), (0, va_rf (some a0)), (1, .int v1)]) X dX8_four_1 rfl (by decide) rfl ?_
  refine g_sub [1, 2, 0] rfl ?_
  exact w_X8_four_L2 hl X hr gFuel S0 a0 v1 0 h0
def f_X8_feed (S0 : gS) (a0 : Nat) (v1 : Int32) (v2 : Int32) (v3 : Int32) (v4 : Int32) (v5 : Int32) : Option (Int32 × gS) :=
  (fpI S0 8 0 (some a0) 0).bind fun S1 =>
  (fgI S1 8 2 (some a0)).bind fun x3 =>
  if (x3 + 20) ≤ 2200 then
    gDc S1 8 (some a0) fun a8 =>
    (f_X8_four S1 a8 v1).bind fun S10 =>
    gDc S10 8 (some a0) fun a12 =>
    (f_X8_four S10 a12 v2).bind fun S14 =>
    gDc S14 8 (some a0) fun a16 =>
    (f_X8_four S14 a16 v3).bind fun S18 =>
    gDc S18 8 (some a0) fun a20 =>
    (f_X8_four S18 a20 v4).bind fun S22 =>
    gDc S22 8 (some a0) fun a24 =>
    (f_X8_four S22 a24 v5).bind fun S26 =>
    (fgI S26 8 2 (some a0)).bind fun x28 =>
    some (x28, S26)
  else
    some ((-1), S1)
set_option maxRecDepth 100000 in
set_option maxHeartbeats 4000000 in
theorem c_X8_feed {l : Launch} (hl : l.stackTraces = false) (D : gD)  {S0 S9 : gS} {a0 : Nat} {v1 : Int32} {v2 : Int32} {v3 : Int32} {v4 : Int32} {v5 : Int32} {res : Int32} (h0 : f_X8_feed S0 a0 v1 v2 v3 v4 v5 = some (res, S9)) : Met l yX8_feed (gws yX8_feed cX8_feed 6 (some .int)) { frames := 1, cells := 0, slots := 0, locals := 22 } (gPc D S0 [.ref a0, .int v1, .int v2, .int v3, .int v4, .int v5]) (gQ D (some (.int res)) S9) (0) (0) (gF D) := by
  refine g_met (lv := [(0, va_rf (some a0)), (1, .int v1), (2, .int v2), (3, .int v3), (4, .int v4), (5, .int v5)]) hl (by decide) (Nat.le_of_ble_eq_true rfl) rfl (fun p e s m args below meth c X hr hn => ?_)
  have X : gX D p l s m args meth c cX8_feed 6 RX8 := X
  unfold f_X8_feed at h0
  refine g_aload_n (j := 0) X dX8_feed_0 rfl rfl ?_
  refine g_iconst X dX8_feed_1 (v := 0) (by decide) ?_
  obtain ⟨S1, eS1, h2⟩ := g_bd h0; clear h0
  refine g_pI (ci := 8) (k := 0) X rfl il8 tyX8 tyX8_ok nmX8 (by decide) tw703 rfl (by decide) (fun _ _ _ => rfl) rfl eS1 dX8_feed_2 ?_
  clear eS1
  refine g_aload_n (j := 0) X dX8_feed_5 rfl rfl ?_
  obtain ⟨x3, ex3, h4⟩ := g_bd h2; clear h2
  refine g_fI (ci := 8) (k := 2) X rfl il8 (by decide) tw705 (by decide) (fun _ _ _ => rfl) ex3 dX8_feed_6 ?_
  clear ex3
  refine g_bipush X dX8_feed_9 (v := 20) (by decide) ?_
  refine g_iadd X dX8_feed_11 ?_
  refine g_sipush X dX8_feed_12 (v := 2200) (by decide) ?_
  refine g_icmp_le (tgt := 20) X dX8_feed_15 (by decide) (fun c5 => ?_) (fun c5 => ?_)
  · have h6 := g_ip h4 c5; clear h4
    refine g_aload_n (j := 0) X dX8_feed_20 rfl rfl ?_
    refine g_iload_n (j := 1) X dX8_feed_21 rfl rfl ?_
    obtain ⟨a8, ea8, ka8, h9⟩ := g_dc h6; clear h6
    obtain ⟨S10, eS10, h11⟩ := g_bd h9; clear h9
    refine g_cV (n := 1) (As := [.int v1]) X (c_X8_four hl D eS10) tw761 tw762 tw14 tw51 tw763 (by decide +kernel) rfl rfl ⟨Nat.le_of_ble_eq_true rfl, Nat.le_of_ble_eq_true rfl⟩ (ci := 8) rfl (by decide) ea8 ka8 rfl rfl (Nat.le_of_ble_eq_true rfl) dX8_feed_22 ⟨(by decide), (by decide)⟩ ?_
    clear eS10 ea8 ka8
    refine g_aload_n (j := 0) X dX8_feed_25 rfl rfl ?_
    refine g_iload_n (j := 2) X dX8_feed_26 rfl rfl ?_
    obtain ⟨a12, ea12, ka12, h13⟩ := g_dc h11; clear h11
    obtain ⟨S14, eS14, h15⟩ := g_bd h13; clear h13
    refine g_cV (n := 1) (As := [.int v2]) X (c_X8_four hl D eS14) tw761 tw762 tw14 tw51 tw763 (by decide +kernel) rfl rfl ⟨Nat.le_of_ble_eq_true rfl, Nat.le_of_ble_eq_true rfl⟩ (ci := 8) rfl (by decide) ea12 ka12 rfl rfl (Nat.le_of_ble_eq_true rfl) dX8_feed_27 ⟨(by decide), (by decide)⟩ ?_
    clear eS14 ea12 ka12
    refine g_aload_n (j := 0) X dX8_feed_30 rfl rfl ?_
    refine g_iload_n (j := 3) X dX8_feed_31 rfl rfl ?_
    obtain ⟨a16, ea16, ka16, h17⟩ := g_dc h15; clear h15
    obtain ⟨S18, eS18, h19⟩ := g_bd h17; clear h17
    refine g_cV (n := 1) (As := [.int v3]) X (c_X8_four hl D eS18) tw761 tw762 tw14 tw51 tw763 (by decide +kernel) rfl rfl ⟨Nat.le_of_ble_eq_true rfl, Nat.le_of_ble_eq_true rfl⟩ (ci := 8) rfl (by decide) ea16 ka16 rfl rfl (Nat.le_of_ble_eq_true rfl) dX8_feed_32 ⟨(by decide), (by decide)⟩ ?_
    clear eS18 ea16 ka16
    refine g_aload_n (j := 0) X dX8_feed_35 rfl rfl ?_
    refine g_iload (j := 4) X dX8_feed_36 rfl ?_
    obtain ⟨a20, ea20, ka20, h21⟩ := g_dc h19; clear h19
    obtain ⟨S22, eS22, h23⟩ := g_bd h21; clear h21
    refine g_cV (n := 1) (As := [.int v4]) X (c_X8_four hl D eS22) tw761 tw762 tw14 tw51 tw763 (by decide +kernel) rfl rfl ⟨Nat.le_of_ble_eq_true rfl, Nat.le_of_ble_eq_true rfl⟩ (ci := 8) rfl (by decide) ea20 ka20 rfl rfl (Nat.le_of_ble_eq_true rfl) dX8_feed_38 ⟨(by decide), (by decide)⟩ ?_
    clear eS22 ea20 ka20
    refine g_aload_n (j := 0) X dX8_feed_41 rfl rfl ?_
    refine g_iload (j := 5) X dX8_feed_42 rfl ?_
    obtain ⟨a24, ea24, ka24, h25⟩ := g_dc h23; clear h23
    obtain ⟨S26, eS26, h27⟩ := g_bd h25; clear h25
    refine g_cV (n := 1) (As := [.int v5]) X (c_X8_four hl D eS26) tw761 tw762 tw14 tw51 tw763 (by decide +kernel) rfl rfl ⟨Nat.le_of_ble_eq_true rfl, Nat.le_of_ble_eq_true rfl⟩ (ci := 8) rfl (by decide) ea24 ka24 rfl rfl (Nat.le_of_ble_eq_true rfl) dX8_feed_44 ⟨(by decide), (by decide)⟩ ?_
    clear eS26 ea24 ka24
    refine g_aload_n (j := 0) X dX8_feed_47 rfl rfl ?_
    obtain ⟨x28, ex28, h29⟩ := g_bd h27; clear h27
    refine g_fI (ci := 8) (k := 2) X rfl il8 (by decide) tw705 (by decide) (fun _ _ _ => rfl) ex28 dX8_feed_48 ?_
    clear ex28
    obtain ⟨rfl, rfl⟩ := g_end h29
    exact g_iret X hr (by decide) (by decide) dX8_feed_51
  · have h7 := g_in h4 c5; clear h4
    refine g_iconst X dX8_feed_18 (v := (-1)) (by decide) ?_
    obtain ⟨rfl, rfl⟩ := g_end h7
    exact g_iret X hr (by decide) (by decide) dX8_feed_19
def f_X8_end (S0 : gS) (a0 : Nat) (v1 : Int32) : Option (Int32 × gS) :=
  (fpI S0 8 0 (some a0) 0).bind fun S1 =>
  if v1 < 0 then
    some (0, S1)
  else
    (fgI S1 8 2 (some a0)).bind fun x6 =>
    if v1 ≤ x6 then
      (fpI S1 8 2 (some a0) v1).bind fun S11 =>
      some (1, S11)
    else
      some (0, S1)
set_option maxRecDepth 100000 in
set_option maxHeartbeats 4000000 in
theorem c_X8_end {l : Launch} (hl : l.stackTraces = false) (D : gD)  {S0 S9 : gS} {a0 : Nat} {v1 : Int32} {res : Int32} (h0 : f_X8_end S0 a0 v1 = some (res, S9)) : Met l yX8_end (gws yX8_end cX8_end 2 (some .boolean)) { frames := 0, cells := 0, slots := 0, locals := 0 } (gPc D S0 [.ref a0, .int v1]) (gQ D (some (.int res)) S9) (0) (0) (gF D) := by
  refine g_met (lv := [(0, va_rf (some a0)), (1, .int v1)]) hl (by decide) (Nat.le_of_ble_eq_true rfl) rfl (fun p e s m args below meth c X hr hn => ?_)
  have X : gX D p l s m args meth c cX8_end 2 RX8 := X
  unfold f_X8_end at h0
  refine g_aload_n (j := 0) X dX8_end_0 rfl rfl ?_
  refine g_iconst X dX8_end_1 (v := 0) (by decide) ?_
  obtain ⟨S1, eS1, h2⟩ := g_bd h0; clear h0
  refine g_pI (ci := 8) (k := 0) X rfl il8 tyX8 tyX8_ok nmX8 (by decide) tw703 rfl (by decide) (fun _ _ _ => rfl) rfl eS1 dX8_end_2 ?_
  clear eS1
  refine g_iload_n (j := 1) X dX8_end_5 rfl rfl ?_
  refine g_if_lt (tgt := 17) X dX8_end_6 (by decide) (fun c3 => ?_) (fun c3 => ?_)
  · have h4 := g_ip h2 c3; clear h2
    refine g_iconst X dX8_end_17 (v := 0) (by decide) ?_
    obtain ⟨rfl, rfl⟩ := g_end h4
    exact g_zret X hr (Or.inl rfl) (by decide) (by decide) dX8_end_18
  · have h5 := g_in h2 c3; clear h2
    refine g_iload_n (j := 1) X dX8_end_9 rfl rfl ?_
    refine g_aload_n (j := 0) X dX8_end_10 rfl rfl ?_
    obtain ⟨x6, ex6, h7⟩ := g_bd h5; clear h5
    refine g_fI (ci := 8) (k := 2) X rfl il8 (by decide) tw705 (by decide) (fun _ _ _ => rfl) ex6 dX8_end_11 ?_
    clear ex6
    refine g_icmp_le (tgt := 19) X dX8_end_14 (by decide) (fun c8 => ?_) (fun c8 => ?_)
    · have h9 := g_ip h7 c8; clear h7
      refine g_aload_n (j := 0) X dX8_end_19 rfl rfl ?_
      refine g_iload_n (j := 1) X dX8_end_20 rfl rfl ?_
      obtain ⟨S11, eS11, h12⟩ := g_bd h9; clear h9
      refine g_pI (ci := 8) (k := 2) X rfl il8 tyX8 tyX8_ok nmX8 (by decide) tw705 rfl (by decide) (fun _ _ _ => rfl) rfl eS11 dX8_end_21 ?_
      clear eS11
      refine g_iconst X dX8_end_24 (v := 1) (by decide) ?_
      obtain ⟨rfl, rfl⟩ := g_end h12
      exact g_zret X hr (Or.inr rfl) (by decide) (by decide) dX8_end_25
    · have h10 := g_in h7 c8; clear h7
      refine g_iconst X dX8_end_17 (v := 0) (by decide) ?_
      obtain ⟨rfl, rfl⟩ := g_end h10
      exact g_zret X hr (Or.inl rfl) (by decide) (by decide) dX8_end_18
def f_X8_again_L24 : Nat → gS → Nat → Int32 → Option (Int32 × gS)
  | 0, _, _, _ => none
  | k + 1, S0, a0, v1 =>
    (fgI S0 8 4 (some a0)).bind fun x10 =>
    if x10 ≤ v1 then
      (fgI S0 8 2 (some a0)).bind fun x15 =>
      (fgI S0 8 4 (some a0)).bind fun x17 =>
      (fpI S0 8 2 (some a0) (x15 + x17)).bind fun S19 =>
      (fgI S19 8 2 (some a0)).bind fun x21 =>
      some (x21, S19)
    else
      (fgR S0 8 1 (some a0)).bind fun x23 =>
      (fgI S0 8 2 (some a0)).bind fun x25 =>
      (fgR S0 8 3 (some a0)).bind fun x27 =>
      (fI S0 10 x27 v1).bind fun x29 =>
      (faI S0 x23 (x25 + v1) x29).bind fun S31 =>
      gLet (v1 + 1) fun x33 =>
      f_X8_again_L24 k S31 a0 x33
set_option maxRecDepth 100000 in
set_option maxHeartbeats 4000000 in
theorem w_X8_again_L24 {p : Program} {l : Launch} {e : Env} {s : State} {m : MethodId} {args : Array Value} {below : List Frame} {meth : Method} {c : Code} {D : gD} {S9 : gS} {res : Int32}  (hl : l.stackTraces = false) (X : gX D p l s m args meth c cX8_again 2 RX8) (hr : meth.sig.returnType = (some .int)) : ∀ (k : Nat) (S0 : gS) (a0 : Nat) (v1 : Int32), f_X8_again_L24 k S0 a0 v1 = some (res, S9) → gJ D p l e { frames := 0, cells := 0, slots := 0, locals := 0 } s m args below meth c (MQ below (gQ D (some (.int res)) S9) args s (0) (0) (gF D)) 2 (0) (0) S0 24 [(0, va_rf (some a0)), (1, .int v1)] [] := by
  intro k
  induction k with
  | zero => intro S0 a0 v1 h0; cases h0
  | succ k ih =>
    intro S0 a0 v1 h0
    have h0 := h0
    unfold f_X8_again_L24 at h0
    refine g_iload_n (j := 1) X dX8_again_24 rfl rfl ?_
    refine g_aload_n (j := 0) X dX8_again_25 rfl rfl ?_
    obtain ⟨x10, ex10, h11⟩ := g_bd h0; clear h0
    refine g_fI (ci := 8) (k := 4) X rfl il8 (by decide) tw707 (by decide) (fun _ _ _ => rfl) ex10 dX8_again_26 ?_
    clear ex10
    refine g_icmp_ge (tgt := 55) X dX8_again_29 (by decide) (fun c12 => ?_) (fun c12 => ?_)
    · have h13 := g_ip h11 c12; clear h11
      refine g_aload_n (j := 0) X dX8_again_55 rfl rfl ?_
      refine g_dup X dX8_again_56 (g_rfc _) ?_
      obtain ⟨x15, ex15, h16⟩ := g_bd h13; clear h13
      refine g_fI (ci := 8) (k := 2) X rfl il8 (by decide) tw705 (by decide) (fun _ _ _ => rfl) ex15 dX8_again_57 ?_
      clear ex15
      refine g_aload_n (j := 0) X dX8_again_60 rfl rfl ?_
      obtain ⟨x17, ex17, h18⟩ := g_bd h16; clear h16
      refine g_fI (ci := 8) (k := 4) X rfl il8 (by decide) tw707 (by decide) (fun _ _ _ => rfl) ex17 dX8_again_61 ?_
      clear ex17
      refine g_iadd X dX8_again_64 ?_
      obtain ⟨S19, eS19, h20⟩ := g_bd h18; clear h18
      refine g_pI (ci := 8) (k := 2) X rfl il8 tyX8 tyX8_ok nmX8 (by decide) tw705 rfl (by decide) (fun _ _ _ => rfl) rfl eS19 dX8_again_65 ?_
      clear eS19
      refine g_aload_n (j := 0) X dX8_again_68 rfl rfl ?_
      obtain ⟨x21, ex21, h22⟩ := g_bd h20; clear h20
      refine g_fI (ci := 8) (k := 2) X rfl il8 (by decide) tw705 (by decide) (fun _ _ _ => rfl) ex21 dX8_again_69 ?_
      clear ex21
      obtain ⟨rfl, rfl⟩ := g_end h22
      exact g_iret X hr (by decide) (by decide) dX8_again_72
    · have h14 := g_in h11 c12; clear h11
      refine g_aload_n (j := 0) X dX8_again_32 rfl rfl ?_
      obtain ⟨x23, ex23, h24⟩ := g_bd h14; clear h14
      refine g_fR (ci := 8) (k := 1) X rfl il8 (by decide) tw704 (by decide) (fun _ _ _ => rfl) ex23 dX8_again_33 ?_
      clear ex23
      refine g_aload_n (j := 0) X dX8_again_36 rfl rfl ?_
      obtain ⟨x25, ex25, h26⟩ := g_bd h24; clear h24
      refine g_fI (ci := 8) (k := 2) X rfl il8 (by decide) tw705 (by decide) (fun _ _ _ => rfl) ex25 dX8_again_37 ?_
      clear ex25
      refine g_iload_n (j := 1) X dX8_again_40 rfl rfl ?_
      refine g_iadd X dX8_again_41 ?_
      refine g_aload_n (j := 0) X dX8_again_42 rfl rfl ?_
      obtain ⟨x27, ex27, h28⟩ := g_bd h26; clear h26
      refine g_fR (ci := 8) (k := 3) X rfl il8 (by decide) tw706 (by decide) (fun _ _ _ => rfl) ex27 dX8_again_43 ?_
      clear ex27
      refine g_iload_n (j := 1) X dX8_again_46 rfl rfl ?_
      obtain ⟨x29, ex29, h30⟩ := g_bd h28; clear h28
      refine g_iald X ex29 dX8_again_47 ?_
      clear ex29
      obtain ⟨S31, eS31, h32⟩ := g_bd h30; clear h30
      refine g_iast X eS31 dX8_again_48 ?_
      clear eS31
      obtain ⟨x33, ex33, h34⟩ := g_let h32; clear h32
      refine g_iinc (j := 1) (v := x33) (lv' := [(1, .int x33), (0, va_rf (some a0))]) X dX8_again_49 rfl (by rw [ex33]; rfl) (by decide) rfl ?_
      clear ex33
      refine g_goto (tgt := 24) X dX8_again_52 (by decide) ?_
      refine g_sub [1, 0] rfl ?_
      exact ih S31 a0 x33 h34
def f_X8_again (S0 : gS) (a0 : Nat) : Option (Int32 × gS) :=
  (fpI S0 8 0 (some a0) 0).bind fun S1 =>
  (fgI S1 8 2 (some a0)).bind fun x3 =>
  (fgI S1 8 4 (some a0)).bind fun x5 =>
  if (x3 + x5) ≤ 2200 then
    f_X8_again_L24 gFuel S1 a0 0
  else
    some ((-1), S1)
set_option maxRecDepth 100000 in
set_option maxHeartbeats 4000000 in
theorem c_X8_again {l : Launch} (hl : l.stackTraces = false) (D : gD)  {S0 S9 : gS} {a0 : Nat} {res : Int32} (h0 : f_X8_again S0 a0 = some (res, S9)) : Met l yX8_again (gws yX8_again cX8_again 2 (some .int)) { frames := 0, cells := 0, slots := 0, locals := 0 } (gPc D S0 [.ref a0]) (gQ D (some (.int res)) S9) (0) (0) (gF D) := by
  refine g_met (lv := [(0, va_rf (some a0))]) hl (by decide) (Nat.le_of_ble_eq_true rfl) rfl (fun p e s m args below meth c X hr hn => ?_)
  have X : gX D p l s m args meth c cX8_again 2 RX8 := X
  unfold f_X8_again at h0
  refine g_aload_n (j := 0) X dX8_again_0 rfl rfl ?_
  refine g_iconst X dX8_again_1 (v := 0) (by decide) ?_
  obtain ⟨S1, eS1, h2⟩ := g_bd h0; clear h0
  refine g_pI (ci := 8) (k := 0) X rfl il8 tyX8 tyX8_ok nmX8 (by decide) tw703 rfl (by decide) (fun _ _ _ => rfl) rfl eS1 dX8_again_2 ?_
  clear eS1
  refine g_aload_n (j := 0) X dX8_again_5 rfl rfl ?_
  obtain ⟨x3, ex3, h4⟩ := g_bd h2; clear h2
  refine g_fI (ci := 8) (k := 2) X rfl il8 (by decide) tw705 (by decide) (fun _ _ _ => rfl) ex3 dX8_again_6 ?_
  clear ex3
  refine g_aload_n (j := 0) X dX8_again_9 rfl rfl ?_
  obtain ⟨x5, ex5, h6⟩ := g_bd h4; clear h4
  refine g_fI (ci := 8) (k := 4) X rfl il8 (by decide) tw707 (by decide) (fun _ _ _ => rfl) ex5 dX8_again_10 ?_
  clear ex5
  refine g_iadd X dX8_again_13 ?_
  refine g_sipush X dX8_again_14 (v := 2200) (by decide) ?_
  refine g_icmp_le (tgt := 22) X dX8_again_17 (by decide) (fun c7 => ?_) (fun c7 => ?_)
  · have h8 := g_ip h6 c7; clear h6
    refine g_iconst X dX8_again_22 (v := 0) (by decide) ?_
    refine g_istore_n (i := 1) (lv' := [(1, .int 0), (0, va_rf (some a0))]) X dX8_again_23 rfl (by decide) rfl ?_
    refine g_sub [1, 0] rfl ?_
    exact w_X8_again_L24 hl X hr gFuel S1 a0 0 h8
  · have h9 := g_in h6 c7; clear h6
    refine g_iconst X dX8_again_20 (v := (-1)) (by decide) ?_
    obtain ⟨rfl, rfl⟩ := g_end h9
    exact g_iret X hr (by decide) (by decide) dX8_again_21
def f_X8_out (S0 : gS) (a0 : Nat) (v1 : Int32) : Option (Int32 × gS) :=
  (fpI S0 8 0 (some a0) 0).bind fun S1 =>
  if v1 < 0 then
    some ((-1), S1)
  else
    (fgI S1 8 4 (some a0)).bind fun x6 =>
    if v1 < x6 then
      (fgR S1 8 3 (some a0)).bind fun x11 =>
      (fI S1 10 x11 v1).bind fun x13 =>
      some (x13, S1)
    else
      some ((-1), S1)
set_option maxRecDepth 100000 in
set_option maxHeartbeats 4000000 in
theorem c_X8_out {l : Launch} (hl : l.stackTraces = false) (D : gD)  {S0 S9 : gS} {a0 : Nat} {v1 : Int32} {res : Int32} (h0 : f_X8_out S0 a0 v1 = some (res, S9)) : Met l yX8_out (gws yX8_out cX8_out 2 (some .int)) { frames := 0, cells := 0, slots := 0, locals := 0 } (gPc D S0 [.ref a0, .int v1]) (gQ D (some (.int res)) S9) (0) (0) (gF D) := by
  refine g_met (lv := [(0, va_rf (some a0)), (1, .int v1)]) hl (by decide) (Nat.le_of_ble_eq_true rfl) rfl (fun p e s m args below meth c X hr hn => ?_)
  have X : gX D p l s m args meth c cX8_out 2 RX8 := X
  unfold f_X8_out at h0
  refine g_aload_n (j := 0) X dX8_out_0 rfl rfl ?_
  refine g_iconst X dX8_out_1 (v := 0) (by decide) ?_
  obtain ⟨S1, eS1, h2⟩ := g_bd h0; clear h0
  refine g_pI (ci := 8) (k := 0) X rfl il8 tyX8 tyX8_ok nmX8 (by decide) tw703 rfl (by decide) (fun _ _ _ => rfl) rfl eS1 dX8_out_2 ?_
  clear eS1
  refine g_iload_n (j := 1) X dX8_out_5 rfl rfl ?_
  refine g_if_lt (tgt := 17) X dX8_out_6 (by decide) (fun c3 => ?_) (fun c3 => ?_)
  · have h4 := g_ip h2 c3; clear h2
    refine g_iconst X dX8_out_17 (v := (-1)) (by decide) ?_
    refine g_goto (tgt := 27) X dX8_out_18 (by decide) ?_
    obtain ⟨rfl, rfl⟩ := g_end h4
    exact g_iret X hr (by decide) (by decide) dX8_out_27
  · have h5 := g_in h2 c3; clear h2
    refine g_iload_n (j := 1) X dX8_out_9 rfl rfl ?_
    refine g_aload_n (j := 0) X dX8_out_10 rfl rfl ?_
    obtain ⟨x6, ex6, h7⟩ := g_bd h5; clear h5
    refine g_fI (ci := 8) (k := 4) X rfl il8 (by decide) tw707 (by decide) (fun _ _ _ => rfl) ex6 dX8_out_11 ?_
    clear ex6
    refine g_icmp_lt (tgt := 21) X dX8_out_14 (by decide) (fun c8 => ?_) (fun c8 => ?_)
    · have h9 := g_ip h7 c8; clear h7
      refine g_aload_n (j := 0) X dX8_out_21 rfl rfl ?_
      obtain ⟨x11, ex11, h12⟩ := g_bd h9; clear h9
      refine g_fR (ci := 8) (k := 3) X rfl il8 (by decide) tw706 (by decide) (fun _ _ _ => rfl) ex11 dX8_out_22 ?_
      clear ex11
      refine g_iload_n (j := 1) X dX8_out_25 rfl rfl ?_
      obtain ⟨x13, ex13, h14⟩ := g_bd h12; clear h12
      refine g_iald X ex13 dX8_out_26 ?_
      clear ex13
      obtain ⟨rfl, rfl⟩ := g_end h14
      exact g_iret X hr (by decide) (by decide) dX8_out_27
    · have h10 := g_in h7 c8; clear h7
      refine g_iconst X dX8_out_17 (v := (-1)) (by decide) ?_
      refine g_goto (tgt := 27) X dX8_out_18 (by decide) ?_
      obtain ⟨rfl, rfl⟩ := g_end h10
      exact g_iret X hr (by decide) (by decide) dX8_out_27
def f_X8_outs (S0 : gS) (a0 : Nat) : Option (Int32 × gS) :=
  (fpI S0 8 0 (some a0) 0).bind fun S1 =>
  (fgI S1 8 4 (some a0)).bind fun x3 =>
  some (x3, S1)
set_option maxRecDepth 100000 in
set_option maxHeartbeats 4000000 in
theorem c_X8_outs {l : Launch} (hl : l.stackTraces = false) (D : gD)  {S0 S9 : gS} {a0 : Nat} {res : Int32} (h0 : f_X8_outs S0 a0 = some (res, S9)) : Met l yX8_outs (gws yX8_outs cX8_outs 1 (some .int)) { frames := 0, cells := 0, slots := 0, locals := 0 } (gPc D S0 [.ref a0]) (gQ D (some (.int res)) S9) (0) (0) (gF D) := by
  refine g_met (lv := [(0, va_rf (some a0))]) hl (by decide) (Nat.le_of_ble_eq_true rfl) rfl (fun p e s m args below meth c X hr hn => ?_)
  have X : gX D p l s m args meth c cX8_outs 1 RX8 := X
  unfold f_X8_outs at h0
  refine g_aload_n (j := 0) X dX8_outs_0 rfl rfl ?_
  refine g_iconst X dX8_outs_1 (v := 0) (by decide) ?_
  obtain ⟨S1, eS1, h2⟩ := g_bd h0; clear h0
  refine g_pI (ci := 8) (k := 0) X rfl il8 tyX8 tyX8_ok nmX8 (by decide) tw703 rfl (by decide) (fun _ _ _ => rfl) rfl eS1 dX8_outs_2 ?_
  clear eS1
  refine g_aload_n (j := 0) X dX8_outs_5 rfl rfl ?_
  obtain ⟨x3, ex3, h4⟩ := g_bd h2; clear h2
  refine g_fI (ci := 8) (k := 4) X rfl il8 (by decide) tw707 (by decide) (fun _ _ _ => rfl) ex3 dX8_outs_6 ?_
  clear ex3
  obtain ⟨rfl, rfl⟩ := g_end h4
  exact g_iret X hr (by decide) (by decide) dX8_outs_9
def f_X8_use (S0 : gS) (a0 : Nat) : Option (Int32 × gS) :=
  (fgI S0 8 2 (some a0)).bind fun x1 =>
  (fpI S0 8 2 (some a0) 0).bind fun S3 =>
  some (x1, S3)
set_option maxRecDepth 100000 in
set_option maxHeartbeats 4000000 in
theorem c_X8_use {l : Launch} (hl : l.stackTraces = false) (D : gD)  {S0 S9 : gS} {a0 : Nat} {res : Int32} (h0 : f_X8_use S0 a0 = some (res, S9)) : Met l yX8_use (gws yX8_use cX8_use 2 (some .int)) { frames := 0, cells := 0, slots := 0, locals := 0 } (gPc D S0 [.ref a0]) (gQ D (some (.int res)) S9) (0) (0) (gF D) := by
  refine g_met (lv := [(0, va_rf (some a0))]) hl (by decide) (Nat.le_of_ble_eq_true rfl) rfl (fun p e s m args below meth c X hr hn => ?_)
  have X : gX D p l s m args meth c cX8_use 2 RX8 := X
  unfold f_X8_use at h0
  refine g_aload_n (j := 0) X dX8_use_0 rfl rfl ?_
  obtain ⟨x1, ex1, h2⟩ := g_bd h0; clear h0
  refine g_fI (ci := 8) (k := 2) X rfl il8 (by decide) tw705 (by decide) (fun _ _ _ => rfl) ex1 dX8_use_1 ?_
  clear ex1
  refine g_istore_n (i := 1) (lv' := [(1, .int x1), (0, va_rf (some a0))]) X dX8_use_4 rfl (by decide) rfl ?_
  refine g_aload_n (j := 1) X dX8_use_5 rfl rfl ?_
  refine g_iconst X dX8_use_6 (v := 0) (by decide) ?_
  obtain ⟨S3, eS3, h4⟩ := g_bd h2; clear h2
  refine g_pI (ci := 8) (k := 2) X rfl il8 tyX8 tyX8_ok nmX8 (by decide) tw705 rfl (by decide) (fun _ _ _ => rfl) rfl eS3 dX8_use_7 ?_
  clear eS3
  refine g_iload_n (j := 0) X dX8_use_10 rfl rfl ?_
  obtain ⟨rfl, rfl⟩ := g_end h4
  exact g_iret X hr (by decide) (by decide) dX8_use_11
def f_X8_isLog (S0 : gS) (v0 : Int32) : Option (Int32 × gS) :=
  if v0 = 0 then
    some (1, S0)
  else
    if v0 = 1 then
      some (1, S0)
    else
      some (0, S0)
set_option maxRecDepth 100000 in
set_option maxHeartbeats 4000000 in
theorem c_X8_isLog {l : Launch} (hl : l.stackTraces = false) (D : gD)  {S0 S9 : gS} {v0 : Int32} {res : Int32} (h0 : f_X8_isLog S0 v0 = some (res, S9)) : Met l yX8_isLog (gws yX8_isLog cX8_isLog 1 (some .boolean)) { frames := 0, cells := 0, slots := 0, locals := 0 } (gPc D S0 [.int v0]) (gQ D (some (.int res)) S9) (0) (0) (gF D) := by
  refine g_met (lv := [(0, .int v0)]) hl (by decide) (Nat.le_of_ble_eq_true rfl) rfl (fun p e s m args below meth c X hr hn => ?_)
  have X : gX D p l s m args meth c cX8_isLog 1 RX8 := X
  unfold f_X8_isLog at h0
  refine g_iload_n (j := 0) X dX8_isLog_0 rfl rfl ?_
  refine g_if_eq (tgt := 9) X dX8_isLog_1 (by decide) (fun c1 => ?_) (fun c1 => ?_)
  · have h2 := g_ip h0 c1; clear h0
    refine g_iconst X dX8_isLog_9 (v := 1) (by decide) ?_
    refine g_goto (tgt := 14) X dX8_isLog_10 (by decide) ?_
    obtain ⟨rfl, rfl⟩ := g_end h2
    exact g_zret X hr (Or.inr rfl) (by decide) (by decide) dX8_isLog_14
  · have h3 := g_in h0 c1; clear h0
    refine g_iload_n (j := 0) X dX8_isLog_4 rfl rfl ?_
    refine g_iconst X dX8_isLog_5 (v := 1) (by decide) ?_
    refine g_icmp_ne (tgt := 13) X dX8_isLog_6 (by decide) (fun c4 => ?_) (fun c4 => ?_)
    · have h5 := g_in h3 c4; clear h3
      refine g_iconst X dX8_isLog_13 (v := 0) (by decide) ?_
      obtain ⟨rfl, rfl⟩ := g_end h5
      exact g_zret X hr (Or.inl rfl) (by decide) (by decide) dX8_isLog_14
    · have h6 := g_ip h3 c4; clear h3
      refine g_iconst X dX8_isLog_9 (v := 1) (by decide) ?_
      refine g_goto (tgt := 14) X dX8_isLog_10 (by decide) ?_
      obtain ⟨rfl, rfl⟩ := g_end h6
      exact g_zret X hr (Or.inr rfl) (by decide) (by decide) dX8_isLog_14
def f_X8_tapeLong_L5 : Nat → gS → Nat → Int32 → Int64 → Int32 → Option (Int64 × gS)
  | 0, _, _, _, _, _ => none
  | k + 1, S0, a0, v1, v2, v4 =>
    if 8 ≤ v4 then
      some (v2, S0)
    else
      (fgR S0 8 1 (some a0)).bind fun x4 =>
      (fI S0 10 x4 (v1 + v4)).bind fun x6 =>
      gLet ((v2 <<< ((8 : Int32).toInt64 &&& 63)) ||| x6.toInt64) fun x8 =>
      gLet (v4 + 1) fun x10 =>
      f_X8_tapeLong_L5 k S0 a0 v1 x8 x10
set_option maxRecDepth 100000 in
set_option maxHeartbeats 4000000 in
theorem w_X8_tapeLong_L5 {p : Program} {l : Launch} {e : Env} {s : State} {m : MethodId} {args : Array Value} {below : List Frame} {meth : Method} {c : Code} {D : gD} {S9 : gS} {res : Int64}  (hl : l.stackTraces = false) (X : gX D p l s m args meth c cX8_tapeLong 5 RX8) (hr : meth.sig.returnType = (some .long)) : ∀ (k : Nat) (S0 : gS) (a0 : Nat) (v1 : Int32) (v2 : Int64) (v4 : Int32), f_X8_tapeLong_L5 k S0 a0 v1 v2 v4 = some (res, S9) → gJ D p l e { frames := 0, cells := 0, slots := 0, locals := 0 } s m args below meth c (MQ below (gQ D (some (.long res)) S9) args s (0) (0) (gF D)) 5 (0) (0) S0 5 [(0, va_rf (some a0)), (1, .int v1), (2, .long v2), (4, .int v4)] [] := by
  intro k
  induction k with
  | zero => intro S0 a0 v1 v2 v4 h0; cases h0
  | succ k ih =>
    intro S0 a0 v1 v2 v4 h0
    have h0 := h0
    unfold f_X8_tapeLong_L5 at h0
    refine g_iload (j := 3) X dX8_tapeLong_5 rfl ?_
    refine g_bipush X dX8_tapeLong_7 (v := 8) (by decide) ?_
    refine g_icmp_ge (tgt := 34) X dX8_tapeLong_9 (by decide) (fun c1 => ?_) (fun c1 => ?_)
    · have h2 := g_ip h0 c1; clear h0
      refine g_lload_n (j := 2) X dX8_tapeLong_34 rfl rfl ?_
      obtain ⟨rfl, rfl⟩ := g_end h2
      exact g_lret X hr (by decide) (by decide) dX8_tapeLong_35
    · have h3 := g_in h0 c1; clear h0
      refine g_lload_n (j := 2) X dX8_tapeLong_12 rfl rfl ?_
      refine g_bipush X dX8_tapeLong_13 (v := 8) (by decide) ?_
      refine g_lshl X dX8_tapeLong_15 ?_
      refine g_aload_n (j := 0) X dX8_tapeLong_16 rfl rfl ?_
      obtain ⟨x4, ex4, h5⟩ := g_bd h3; clear h3
      refine g_fR (ci := 8) (k := 1) X rfl il8 (by decide) tw704 (by decide) (fun _ _ _ => rfl) ex4 dX8_tapeLong_17 ?_
      clear ex4
      refine g_iload_n (j := 1) X dX8_tapeLong_20 rfl rfl ?_
      refine g_iload (j := 3) X dX8_tapeLong_21 rfl ?_
      refine g_iadd X dX8_tapeLong_23 ?_
      obtain ⟨x6, ex6, h7⟩ := g_bd h5; clear h5
      refine g_iald X ex6 dX8_tapeLong_24 ?_
      clear ex6
      refine g_i2l X dX8_tapeLong_25 ?_
      refine g_lor X dX8_tapeLong_26 ?_
      obtain ⟨x8, ex8, h9⟩ := g_let h7; clear h7; rw [← ex8]; clear ex8
      refine g_lstore_n (i := 2) (lv' := [(2, .long x8), (0, va_rf (some a0)), (1, .int v1), (4, .int v4)]) X dX8_tapeLong_27 rfl (by decide) rfl ?_
      obtain ⟨x10, ex10, h11⟩ := g_let h9; clear h9
      refine g_iinc (j := 3) (v := x10) (lv' := [(4, .int x10), (2, .long x8), (0, va_rf (some a0)), (1, .int v1)]) X dX8_tapeLong_28 rfl (by rw [ex10]; rfl) (by decide) rfl ?_
      clear ex10
      refine g_goto (tgt := 5) X dX8_tapeLong_31 (by decide) ?_
      refine g_sub [2, 3, 1, 0] rfl ?_
      exact ih S0 a0 v1 x8 x10 h11
def f_X8_tapeLong (S0 : gS) (a0 : Nat) (v1 : Int32) : Option (Int64 × gS) :=
  f_X8_tapeLong_L5 gFuel S0 a0 v1 0 0
set_option maxRecDepth 100000 in
set_option maxHeartbeats 4000000 in
theorem c_X8_tapeLong {l : Launch} (hl : l.stackTraces = false) (D : gD)  {S0 S9 : gS} {a0 : Nat} {v1 : Int32} {res : Int64} (h0 : f_X8_tapeLong S0 a0 v1 = some (res, S9)) : Met l yX8_tapeLong (gws yX8_tapeLong cX8_tapeLong 5 (some .long)) { frames := 0, cells := 0, slots := 0, locals := 0 } (gPc D S0 [.ref a0, .int v1]) (gQ D (some (.long res)) S9) (0) (0) (gF D) := by
  refine g_met (lv := [(0, va_rf (some a0)), (1, .int v1)]) hl (by decide) (Nat.le_of_ble_eq_true rfl) rfl (fun p e s m args below meth c X hr hn => ?_)
  have X : gX D p l s m args meth c cX8_tapeLong 5 RX8 := X
  unfold f_X8_tapeLong at h0
  refine g_lconst X dX8_tapeLong_0 (v := 0) (by decide) ?_
  refine g_lstore_n (i := 2) (lv' := [(2, .long 0), (0, va_rf (some a0)), (1, .int v1)]) X dX8_tapeLong_1 rfl (by decide) rfl ?_
  refine g_iconst X dX8_tapeLong_2 (v := 0) (by decide) ?_
  refine g_istore (i := 4) (lv' := [(4, .int 0), (2, .long 0), (0, va_rf (some a0)), (1, .int v1)]) X dX8_tapeLong_3 (by decide) rfl ?_
  refine g_sub [2, 3, 1, 0] rfl ?_
  exact w_X8_tapeLong_L5 hl X hr gFuel S0 a0 v1 0 0 h0
def f_X8_say (S0 : gS) (a0 : Nat) (v1 : Int32) : Option gS :=
  (fgR S0 8 16 (some a0)).bind fun x1 =>
  (fgI S0 8 17 (some a0)).bind fun x3 =>
  (faI S0 x1 x3 (v1 &&& 255)).bind fun S5 =>
  (fgI S5 8 17 (some a0)).bind fun x7 =>
  (fpI S5 8 17 (some a0) (x7 + 1)).bind fun S9 =>
  some S9
set_option maxRecDepth 100000 in
set_option maxHeartbeats 4000000 in
theorem c_X8_say {l : Launch} (hl : l.stackTraces = false) (D : gD)  {S0 S9 : gS} {a0 : Nat} {v1 : Int32} (h0 : f_X8_say S0 a0 v1 = some S9) : Met l yX8_say (gws yX8_say cX8_say 2 none) { frames := 0, cells := 0, slots := 0, locals := 0 } (gPc D S0 [.ref a0, .int v1]) (gQ D none S9) (0) (0) (gF D) := by
  refine g_met (lv := [(0, va_rf (some a0)), (1, .int v1)]) hl (by decide) (Nat.le_of_ble_eq_true rfl) rfl (fun p e s m args below meth c X hr hn => ?_)
  have X : gX D p l s m args meth c cX8_say 2 RX8 := X
  unfold f_X8_say at h0
  refine g_aload_n (j := 0) X dX8_say_0 rfl rfl ?_
  obtain ⟨x1, ex1, h2⟩ := g_bd h0; clear h0
  refine g_fR (ci := 8) (k := 16) X rfl il8 (by decide) tw719 (by decide) (fun _ _ _ => rfl) ex1 dX8_say_1 ?_
  clear ex1
  refine g_aload_n (j := 0) X dX8_say_4 rfl rfl ?_
  obtain ⟨x3, ex3, h4⟩ := g_bd h2; clear h2
  refine g_fI (ci := 8) (k := 17) X rfl il8 (by decide) tw720 (by decide) (fun _ _ _ => rfl) ex3 dX8_say_5 ?_
  clear ex3
  refine g_iload_n (j := 1) X dX8_say_8 rfl rfl ?_
  refine g_sipush X dX8_say_9 (v := 255) (by decide) ?_
  refine g_iand X dX8_say_12 ?_
  obtain ⟨S5, eS5, h6⟩ := g_bd h4; clear h4
  refine g_iast X eS5 dX8_say_13 ?_
  clear eS5
  refine g_aload_n (j := 0) X dX8_say_14 rfl rfl ?_
  refine g_dup X dX8_say_15 (g_rfc _) ?_
  obtain ⟨x7, ex7, h8⟩ := g_bd h6; clear h6
  refine g_fI (ci := 8) (k := 17) X rfl il8 (by decide) tw720 (by decide) (fun _ _ _ => rfl) ex7 dX8_say_16 ?_
  clear ex7
  refine g_iconst X dX8_say_19 (v := 1) (by decide) ?_
  refine g_iadd X dX8_say_20 ?_
  obtain ⟨S9, eS9, h10⟩ := g_bd h8; clear h8
  refine g_pI (ci := 8) (k := 17) X rfl il8 tyX8 tyX8_ok nmX8 (by decide) tw720 rfl (by decide) (fun _ _ _ => rfl) rfl eS9 dX8_say_21 ?_
  clear eS9
  cases h10
  exact g_vret X hr (by decide) (by decide) dX8_say_24
def f_X8_sayLong_L3 : Nat → gS → Nat → Int64 → Int32 → Option gS
  | 0, _, _, _, _ => none
  | k + 1, S0, a0, v1, v3 =>
    if v3 < 0 then
      some S0
    else
      gDc S0 8 (some a0) fun a4 =>
      (f_X8_say S0 a4 ((v1 >>> (v3.toInt64 &&& 63)).toInt32)).bind fun S6 =>
      gLet (v3 + (-8)) fun x8 =>
      f_X8_sayLong_L3 k S6 a0 v1 x8
set_option maxRecDepth 100000 in
set_option maxHeartbeats 4000000 in
theorem w_X8_sayLong_L3 {p : Program} {l : Launch} {e : Env} {s : State} {m : MethodId} {args : Array Value} {below : List Frame} {meth : Method} {c : Code} {D : gD} {S9 : gS}  (hl : l.stackTraces = false) (X : gX D p l s m args meth c cX8_sayLong 4 RX8) (hr : meth.sig.returnType = none) : ∀ (k : Nat) (S0 : gS) (a0 : Nat) (v1 : Int64) (v3 : Int32), f_X8_sayLong_L3 k S0 a0 v1 v3 = some S9 → gJ D p l e { frames := 1, cells := 0, slots := 0, locals := 21 } s m args below meth c (MQ below (gQ D none S9) args s (0) (0) (gF D)) 4 (0) (0) S0 3 [(0, va_rf (some a0)), (1, .long v1), (3, .int v3)] [] := by
  intro k
  induction k with
  | zero => intro S0 a0 v1 v3 h0; cases h0
  | succ k ih =>
    intro S0 a0 v1 v3 h0
    have h0 := h0
    unfold f_X8_sayLong_L3 at h0
    refine g_iload_n (j := 2) X dX8_sayLong_3 rfl rfl ?_
    refine g_if_lt (tgt := 21) X dX8_sayLong_4 (by decide) (fun c1 => ?_) (fun c1 => ?_)
    · have h2 := g_ip h0 c1; clear h0
      cases h2
      exact g_vret X hr (by decide) (by decide) dX8_sayLong_21
    · have h3 := g_in h0 c1; clear h0
      refine g_aload_n (j := 0) X dX8_sayLong_7 rfl rfl ?_
      refine g_lload_n (j := 1) X dX8_sayLong_8 rfl rfl ?_
      refine g_iload_n (j := 2) X dX8_sayLong_9 rfl rfl ?_
      refine g_lshr X dX8_sayLong_10 ?_
      refine g_l2i X dX8_sayLong_11 ?_
      obtain ⟨a4, ea4, ka4, h5⟩ := g_dc h3; clear h3
      obtain ⟨S6, eS6, h7⟩ := g_bd h5; clear h5
      refine g_cV (n := 1) (As := [.int ((v1 >>> (v3.toInt64 &&& 63)).toInt32)]) X (c_X8_say hl D eS6) tw807 tw808 tw18 tw51 tw809 (by decide +kernel) rfl rfl ⟨Nat.le_of_ble_eq_true rfl, Nat.le_of_ble_eq_true rfl⟩ (ci := 8) rfl (by decide) ea4 ka4 rfl rfl (Nat.le_of_ble_eq_true rfl) dX8_sayLong_12 ⟨(by decide), (by decide)⟩ ?_
      clear eS6 ea4 ka4
      obtain ⟨x8, ex8, h9⟩ := g_let h7; clear h7
      refine g_iinc (j := 2) (v := x8) (lv' := [(3, .int x8), (0, va_rf (some a0)), (1, .long v1)]) X dX8_sayLong_15 rfl (by rw [ex8]; rfl) (by decide) rfl ?_
      clear ex8
      refine g_goto (tgt := 3) X dX8_sayLong_18 (by decide) ?_
      refine g_sub [1, 2, 0] rfl ?_
      exact ih S6 a0 v1 x8 h9
def f_X8_sayLong (S0 : gS) (a0 : Nat) (v1 : Int64) : Option gS :=
  f_X8_sayLong_L3 gFuel S0 a0 v1 56
set_option maxRecDepth 100000 in
set_option maxHeartbeats 4000000 in
theorem c_X8_sayLong {l : Launch} (hl : l.stackTraces = false) (D : gD)  {S0 S9 : gS} {a0 : Nat} {v1 : Int64} (h0 : f_X8_sayLong S0 a0 v1 = some S9) : Met l yX8_sayLong (gws yX8_sayLong cX8_sayLong 4 none) { frames := 1, cells := 0, slots := 0, locals := 21 } (gPc D S0 [.ref a0, .long v1]) (gQ D none S9) (0) (0) (gF D) := by
  refine g_met (lv := [(0, va_rf (some a0)), (1, .long v1)]) hl (by decide) (Nat.le_of_ble_eq_true rfl) rfl (fun p e s m args below meth c X hr hn => ?_)
  have X : gX D p l s m args meth c cX8_sayLong 4 RX8 := X
  unfold f_X8_sayLong at h0
  refine g_bipush X dX8_sayLong_0 (v := 56) (by decide) ?_
  refine g_istore_n (i := 3) (lv' := [(3, .int 56), (0, va_rf (some a0)), (1, .long v1)]) X dX8_sayLong_2 rfl (by decide) rfl ?_
  refine g_sub [1, 2, 0] rfl ?_
  exact w_X8_sayLong_L3 hl X hr gFuel S0 a0 v1 56 h0
def f_X8_saySlot_L2 : Nat → gS → Nat → Int32 → Int32 → Option gS
  | 0, _, _, _, _ => none
  | k + 1, S0, a0, v1, v2 =>
    if 32 ≤ v2 then
      some S0
    else
      (fgR S0 8 21 (some a0)).bind fun x4 =>
      (fI S0 10 x4 ((8 * v1) + (v2 / 4))).bind fun x6 =>
      gDc S0 8 (some a0) fun a8 =>
      (f_X8_say S0 a8 (x6 >>> ((24 - (8 * (v2 - v2 / 4 * 4))) &&& 31))).bind fun S10 =>
      gLet (v2 + 1) fun x12 =>
      f_X8_saySlot_L2 k S10 a0 v1 x12
set_option maxRecDepth 100000 in
set_option maxHeartbeats 4000000 in
theorem w_X8_saySlot_L2 {p : Program} {l : Launch} {e : Env} {s : State} {m : MethodId} {args : Array Value} {below : List Frame} {meth : Method} {c : Code} {D : gD} {S9 : gS}  (hl : l.stackTraces = false) (X : gX D p l s m args meth c cX8_saySlot 3 RX8) (hr : meth.sig.returnType = none) : ∀ (k : Nat) (S0 : gS) (a0 : Nat) (v1 : Int32) (v2 : Int32), f_X8_saySlot_L2 k S0 a0 v1 v2 = some S9 → gJ D p l e { frames := 1, cells := 0, slots := 0, locals := 21 } s m args below meth c (MQ below (gQ D none S9) args s (0) (0) (gF D)) 3 (0) (0) S0 2 [(0, va_rf (some a0)), (1, .int v1), (2, .int v2)] [] := by
  intro k
  induction k with
  | zero => intro S0 a0 v1 v2 h0; cases h0
  | succ k ih =>
    intro S0 a0 v1 v2 h0
    have h0 := h0
    unfold f_X8_saySlot_L2 at h0
    refine g_iload_n (j := 2) X dX8_saySlot_2 rfl rfl ?_
    refine g_bipush X dX8_saySlot_3 (v := 32) (by decide) ?_
    refine g_icmp_ge (tgt := 41) X dX8_saySlot_5 (by decide) (fun c1 => ?_) (fun c1 => ?_)
    · have h2 := g_ip h0 c1; clear h0
      cases h2
      exact g_vret X hr (by decide) (by decide) dX8_saySlot_41
    · have h3 := g_in h0 c1; clear h0
      refine g_aload_n (j := 0) X dX8_saySlot_8 rfl rfl ?_
      refine g_aload_n (j := 0) X dX8_saySlot_9 rfl rfl ?_
      obtain ⟨x4, ex4, h5⟩ := g_bd h3; clear h3
      refine g_fR (ci := 8) (k := 21) X rfl il8 (by decide) tw724 (by decide) (fun _ _ _ => rfl) ex4 dX8_saySlot_10 ?_
      clear ex4
      refine g_bipush X dX8_saySlot_13 (v := 8) (by decide) ?_
      refine g_iload_n (j := 1) X dX8_saySlot_15 rfl rfl ?_
      refine g_imul X dX8_saySlot_16 ?_
      refine g_iload_n (j := 2) X dX8_saySlot_17 rfl rfl ?_
      refine g_iconst X dX8_saySlot_18 (v := 4) (by decide) ?_
      refine g_idiv X dX8_saySlot_19 (by decide) ?_
      refine g_iadd X dX8_saySlot_20 ?_
      obtain ⟨x6, ex6, h7⟩ := g_bd h5; clear h5
      refine g_iald X ex6 dX8_saySlot_21 ?_
      clear ex6
      refine g_bipush X dX8_saySlot_22 (v := 24) (by decide) ?_
      refine g_bipush X dX8_saySlot_24 (v := 8) (by decide) ?_
      refine g_iload_n (j := 2) X dX8_saySlot_26 rfl rfl ?_
      refine g_iconst X dX8_saySlot_27 (v := 4) (by decide) ?_
      refine g_irem X dX8_saySlot_28 (by decide) ?_
      refine g_imul X dX8_saySlot_29 ?_
      refine g_isub X dX8_saySlot_30 ?_
      refine g_ishr X dX8_saySlot_31 ?_
      obtain ⟨a8, ea8, ka8, h9⟩ := g_dc h7; clear h7
      obtain ⟨S10, eS10, h11⟩ := g_bd h9; clear h9
      refine g_cV (n := 1) (As := [.int (x6 >>> ((24 - (8 * (v2 - v2 / 4 * 4))) &&& 31))]) X (c_X8_say hl D eS10) tw807 tw808 tw18 tw51 tw809 (by decide +kernel) rfl rfl ⟨Nat.le_of_ble_eq_true rfl, Nat.le_of_ble_eq_true rfl⟩ (ci := 8) rfl (by decide) ea8 ka8 rfl rfl (Nat.le_of_ble_eq_true rfl) dX8_saySlot_32 ⟨(by decide), (by decide)⟩ ?_
      clear eS10 ea8 ka8
      obtain ⟨x12, ex12, h13⟩ := g_let h11; clear h11
      refine g_iinc (j := 2) (v := x12) (lv' := [(2, .int x12), (0, va_rf (some a0)), (1, .int v1)]) X dX8_saySlot_35 rfl (by rw [ex12]; rfl) (by decide) rfl ?_
      clear ex12
      refine g_goto (tgt := 2) X dX8_saySlot_38 (by decide) ?_
      refine g_sub [1, 2, 0] rfl ?_
      exact ih S10 a0 v1 x12 h13
def f_X8_saySlot (S0 : gS) (a0 : Nat) (v1 : Int32) : Option gS :=
  f_X8_saySlot_L2 gFuel S0 a0 v1 0
set_option maxRecDepth 100000 in
set_option maxHeartbeats 4000000 in
theorem c_X8_saySlot {l : Launch} (hl : l.stackTraces = false) (D : gD)  {S0 S9 : gS} {a0 : Nat} {v1 : Int32} (h0 : f_X8_saySlot S0 a0 v1 = some S9) : Met l yX8_saySlot (gws yX8_saySlot cX8_saySlot 3 none) { frames := 1, cells := 0, slots := 0, locals := 21 } (gPc D S0 [.ref a0, .int v1]) (gQ D none S9) (0) (0) (gF D) := by
  refine g_met (lv := [(0, va_rf (some a0)), (1, .int v1)]) hl (by decide) (Nat.le_of_ble_eq_true rfl) rfl (fun p e s m args below meth c X hr hn => ?_)
  have X : gX D p l s m args meth c cX8_saySlot 3 RX8 := X
  unfold f_X8_saySlot at h0
  refine g_iconst X dX8_saySlot_0 (v := 0) (by decide) ?_
  refine g_istore_n (i := 2) (lv' := [(2, .int 0), (0, va_rf (some a0)), (1, .int v1)]) X dX8_saySlot_1 rfl (by decide) rfl ?_
  refine g_sub [1, 2, 0] rfl ?_
  exact w_X8_saySlot_L2 hl X hr gFuel S0 a0 v1 0 h0
def f_X8_turn (S0 : gS) (v0 : Int32) (v1 : Int32) : Option (Int32 × gS) :=
  some ((g_ushr v0 v1) ||| (v0 <<< ((32 - v1) &&& 31)), S0)
set_option maxRecDepth 100000 in
set_option maxHeartbeats 4000000 in
theorem c_X8_turn {l : Launch} (hl : l.stackTraces = false) (D : gD)  {S0 S9 : gS} {v0 : Int32} {v1 : Int32} {res : Int32} (h0 : f_X8_turn S0 v0 v1 = some (res, S9)) : Met l yX8_turn (gws yX8_turn cX8_turn 2 (some .int)) { frames := 0, cells := 0, slots := 0, locals := 0 } (gPc D S0 [.int v0, .int v1]) (gQ D (some (.int res)) S9) (0) (0) (gF D) := by
  refine g_met (lv := [(0, .int v0), (1, .int v1)]) hl (by decide) (Nat.le_of_ble_eq_true rfl) rfl (fun p e s m args below meth c X hr hn => ?_)
  have X : gX D p l s m args meth c cX8_turn 2 RX8 := X
  unfold f_X8_turn at h0
  refine g_iload_n (j := 0) X dX8_turn_0 rfl rfl ?_
  refine g_iload_n (j := 1) X dX8_turn_1 rfl rfl ?_
  refine g_iushr X dX8_turn_2 ?_
  refine g_iload_n (j := 0) X dX8_turn_3 rfl rfl ?_
  refine g_bipush X dX8_turn_4 (v := 32) (by decide) ?_
  refine g_iload_n (j := 1) X dX8_turn_6 rfl rfl ?_
  refine g_isub X dX8_turn_7 ?_
  refine g_ishl X dX8_turn_8 ?_
  refine g_ior X dX8_turn_9 ?_
  obtain ⟨rfl, rfl⟩ := g_end h0
  exact g_iret X hr (by decide) (by decide) dX8_turn_10
