def f_X8_leafOf_L17 : Nat → gS → Nat → Int32 → Int32 → Int32 → Option gS
  | 0, _, _, _, _, _ => none
  | k + 1, S0, a0, v3, v4, v5 =>
    (fgR S0 8 8 (some a0)).bind fun x7 =>
    (fI S0 10 x7 v4).bind fun x9 =>
    if x9 ≤ v5 then
      gDc S0 8 (some a0) fun a14 =>
      (f_X8_digest S0 a14 v3).bind fun S16 =>
      some S16
    else
      (fgR S0 8 7 (some a0)).bind fun x18 =>
      (fI S0 10 x18 ((120 * v4) + v5)).bind fun x20 =>
      gDc S0 8 (some a0) fun a22 =>
      (f_X8_say S0 a22 x20).bind fun S24 =>
      gLet (v5 + 1) fun x26 =>
      f_X8_leafOf_L17 k S24 a0 v3 v4 x26
set_option maxRecDepth 100000 in
set_option maxHeartbeats 4000000 in
theorem w_X8_leafOf_L17 {p : Program} {l : Launch} {e : Env} {s : State} {m : MethodId} {args : Array Value} {below : List Frame} {meth : Method} {c : Code} {D : gD} {S9 : gS}  (hl : l.stackTraces = false) (X : gX D p l s m args meth c cX8_leafOf 6 RX8) (hr : meth.sig.returnType = none) : ∀ (k : Nat) (S0 : gS) (a0 : Nat) (v3 : Int32) (v4 : Int32) (v5 : Int32), f_X8_leafOf_L17 k S0 a0 v3 v4 v5 = some S9 → gJ D p l e { frames := 3, cells := 1, slots := 8, locals := 77 } s m args below meth c (MQ below (gQ D none S9) args s (1) (8) (gF D)) 6 (0) (0) S0 17 [(0, va_rf (some a0)), (3, .int v3), (4, .int v4), (5, .int v5)] [] := by
  intro k
  induction k with
  | zero => intro S0 a0 v3 v4 v5 h0; cases h0
  | succ k ih =>
    intro S0 a0 v3 v4 v5 h0
    have h0 := h0
    unfold f_X8_leafOf_L17 at h0
    refine g_iload (j := 3) X dX8_leafOf_17 rfl ?_
    refine g_aload_n (j := 0) X dX8_leafOf_19 rfl rfl ?_
    obtain ⟨x7, ex7, h8⟩ := g_bd h0; clear h0
    refine g_fR (ci := 8) (k := 8) X rfl il8 (by decide) tw711 (by decide) (fun _ _ _ => rfl) ex7 dX8_leafOf_20 ?_
    clear ex7
    refine g_iload (j := 2) X dX8_leafOf_23 rfl ?_
    obtain ⟨x9, ex9, h10⟩ := g_bd h8; clear h8
    refine g_iald X ex9 dX8_leafOf_25 ?_
    clear ex9
    refine g_icmp_ge (tgt := 52) X dX8_leafOf_26 (by decide) (fun c11 => ?_) (fun c11 => ?_)
    · have h12 := g_ip h10 c11; clear h10
      refine g_aload_n (j := 0) X dX8_leafOf_52 rfl rfl ?_
      refine g_iload_n (j := 1) X dX8_leafOf_53 rfl rfl ?_
      obtain ⟨a14, ea14, ka14, h15⟩ := g_dc h12; clear h12
      obtain ⟨S16, eS16, h17⟩ := g_bd h15; clear h15
      refine g_cV (n := 1) (As := [.int v3]) X (c_X8_digest hl D eS16) tw804 tw805 tw17 tw51 tw806 (by decide +kernel) rfl rfl ⟨Nat.le_of_ble_eq_true rfl, Nat.le_of_ble_eq_true rfl⟩ (ci := 8) rfl (by decide) ea14 ka14 rfl rfl (Nat.le_of_ble_eq_true rfl) dX8_leafOf_54 ⟨(by decide), (by decide)⟩ ?_
      clear eS16 ea14 ka14
      cases h17
      exact g_vret X hr (by decide) (by decide) dX8_leafOf_57
    · have h13 := g_in h10 c11; clear h10
      refine g_aload_n (j := 0) X dX8_leafOf_29 rfl rfl ?_
      refine g_aload_n (j := 0) X dX8_leafOf_30 rfl rfl ?_
      obtain ⟨x18, ex18, h19⟩ := g_bd h13; clear h13
      refine g_fR (ci := 8) (k := 7) X rfl il8 (by decide) tw710 (by decide) (fun _ _ _ => rfl) ex18 dX8_leafOf_31 ?_
      clear ex18
      refine g_bipush X dX8_leafOf_34 (v := 120) (by decide) ?_
      refine g_iload (j := 2) X dX8_leafOf_36 rfl ?_
      refine g_imul X dX8_leafOf_38 ?_
      refine g_iload (j := 3) X dX8_leafOf_39 rfl ?_
      refine g_iadd X dX8_leafOf_41 ?_
      obtain ⟨x20, ex20, h21⟩ := g_bd h19; clear h19
      refine g_iald X ex20 dX8_leafOf_42 ?_
      clear ex20
      obtain ⟨a22, ea22, ka22, h23⟩ := g_dc h21; clear h21
      obtain ⟨S24, eS24, h25⟩ := g_bd h23; clear h23
      refine g_cV (n := 1) (As := [.int x20]) X (c_X8_say hl D eS24) tw807 tw808 tw18 tw51 tw809 (by decide +kernel) rfl rfl ⟨Nat.le_of_ble_eq_true rfl, Nat.le_of_ble_eq_true rfl⟩ (ci := 8) rfl (by decide) ea22 ka22 rfl rfl (Nat.le_of_ble_eq_true rfl) dX8_leafOf_43 ⟨(by decide), (by decide)⟩ ?_
      clear eS24 ea22 ka22
      obtain ⟨x26, ex26, h27⟩ := g_let h25; clear h25
      refine g_iinc (j := 3) (v := x26) (lv' := [(5, .int x26), (0, va_rf (some a0)), (3, .int v3), (4, .int v4)]) X dX8_leafOf_46 rfl (by rw [ex26]; rfl) (by decide) rfl ?_
      clear ex26
      refine g_goto (tgt := 17) X dX8_leafOf_49 (by decide) ?_
      refine g_sub [1, 2, 3, 0] rfl ?_
      exact ih S24 a0 v3 v4 x26 h27
def f_X8_leafOf (S0 : gS) (a0 : Nat) (v1 : Int32) (v2 : Int32) (v3 : Int32) : Option gS :=
  gDc S0 8 (some a0) fun a1 =>
  (f_X8_say S0 a1 0).bind fun S3 =>
  gLet ((200 * v1) + v2) fun x5 =>
  f_X8_leafOf_L17 gFuel S3 a0 v3 x5 0
set_option maxRecDepth 100000 in
set_option maxHeartbeats 4000000 in
theorem c_X8_leafOf {l : Launch} (hl : l.stackTraces = false) (D : gD)  {S0 S9 : gS} {a0 : Nat} {v1 : Int32} {v2 : Int32} {v3 : Int32} (h0 : f_X8_leafOf S0 a0 v1 v2 v3 = some S9) : Met l yX8_leafOf (gws yX8_leafOf cX8_leafOf 6 none) { frames := 3, cells := 1, slots := 8, locals := 77 } (gPc D S0 [.ref a0, .int v1, .int v2, .int v3]) (gQ D none S9) (1) (8) (gF D) := by
  refine g_met (lv := [(0, va_rf (some a0)), (1, .int v1), (2, .int v2), (3, .int v3)]) hl (by decide) (Nat.le_of_ble_eq_true rfl) rfl (fun p e s m args below meth c X hr hn => ?_)
  have X : gX D p l s m args meth c cX8_leafOf 6 RX8 := X
  unfold f_X8_leafOf at h0
  refine g_aload_n (j := 0) X dX8_leafOf_0 rfl rfl ?_
  refine g_iconst X dX8_leafOf_1 (v := 0) (by decide) ?_
  obtain ⟨a1, ea1, ka1, h2⟩ := g_dc h0; clear h0
  obtain ⟨S3, eS3, h4⟩ := g_bd h2; clear h2
  refine g_cV (n := 1) (As := [.int 0]) X (c_X8_say hl D eS3) tw807 tw808 tw18 tw51 tw809 (by decide +kernel) rfl rfl ⟨Nat.le_of_ble_eq_true rfl, Nat.le_of_ble_eq_true rfl⟩ (ci := 8) rfl (by decide) ea1 ka1 rfl rfl (Nat.le_of_ble_eq_true rfl) dX8_leafOf_2 ⟨(by decide), (by decide)⟩ ?_
  clear eS3 ea1 ka1
  refine g_sipush X dX8_leafOf_5 (v := 200) (by decide) ?_
  refine g_iload_n (j := 1) X dX8_leafOf_8 rfl rfl ?_
  refine g_imul X dX8_leafOf_9 ?_
  refine g_iload_n (j := 2) X dX8_leafOf_10 rfl rfl ?_
  refine g_iadd X dX8_leafOf_11 ?_
  obtain ⟨x5, ex5, h6⟩ := g_let h4; clear h4; rw [← ex5]; clear ex5
  refine g_istore (i := 4) (lv' := [(4, .int x5), (0, va_rf (some a0)), (1, .int v1), (2, .int v2), (3, .int v3)]) X dX8_leafOf_12 (by decide) rfl ?_
  refine g_iconst X dX8_leafOf_14 (v := 0) (by decide) ?_
  refine g_istore (i := 5) (lv' := [(5, .int 0), (4, .int x5), (0, va_rf (some a0)), (1, .int v1), (2, .int v2), (3, .int v3)]) X dX8_leafOf_15 (by decide) rfl ?_
  refine g_sub [2, 5, 1, 0] rfl ?_
  exact w_X8_leafOf_L17 hl X hr gFuel S3 a0 v3 x5 0 h6
def f_X8_node (S0 : gS) (a0 : Nat) (v1 : Int32) (v2 : Int32) (v3 : Int32) : Option gS :=
  gDc S0 8 (some a0) fun a1 =>
  (f_X8_say S0 a1 1).bind fun S3 =>
  gDc S3 8 (some a0) fun a5 =>
  (f_X8_saySlot S3 a5 v1).bind fun S7 =>
  gDc S7 8 (some a0) fun a9 =>
  (f_X8_saySlot S7 a9 v2).bind fun S11 =>
  gDc S11 8 (some a0) fun a13 =>
  (f_X8_digest S11 a13 v3).bind fun S15 =>
  some S15
set_option maxRecDepth 100000 in
set_option maxHeartbeats 4000000 in
theorem c_X8_node {l : Launch} (hl : l.stackTraces = false) (D : gD)  {S0 S9 : gS} {a0 : Nat} {v1 : Int32} {v2 : Int32} {v3 : Int32} (h0 : f_X8_node S0 a0 v1 v2 v3 = some S9) : Met l yX8_node (gws yX8_node cX8_node 4 none) { frames := 3, cells := 1, slots := 8, locals := 77 } (gPc D S0 [.ref a0, .int v1, .int v2, .int v3]) (gQ D none S9) (1) (8) (gF D) := by
  refine g_met (lv := [(0, va_rf (some a0)), (1, .int v1), (2, .int v2), (3, .int v3)]) hl (by decide) (Nat.le_of_ble_eq_true rfl) rfl (fun p e s m args below meth c X hr hn => ?_)
  have X : gX D p l s m args meth c cX8_node 4 RX8 := X
  unfold f_X8_node at h0
  refine g_aload_n (j := 0) X dX8_node_0 rfl rfl ?_
  refine g_iconst X dX8_node_1 (v := 1) (by decide) ?_
  obtain ⟨a1, ea1, ka1, h2⟩ := g_dc h0; clear h0
  obtain ⟨S3, eS3, h4⟩ := g_bd h2; clear h2
  refine g_cV (n := 1) (As := [.int 1]) X (c_X8_say hl D eS3) tw807 tw808 tw18 tw51 tw809 (by decide +kernel) rfl rfl ⟨Nat.le_of_ble_eq_true rfl, Nat.le_of_ble_eq_true rfl⟩ (ci := 8) rfl (by decide) ea1 ka1 rfl rfl (Nat.le_of_ble_eq_true rfl) dX8_node_2 ⟨(by decide), (by decide)⟩ ?_
  clear eS3 ea1 ka1
  refine g_aload_n (j := 0) X dX8_node_5 rfl rfl ?_
  refine g_iload_n (j := 1) X dX8_node_6 rfl rfl ?_
  obtain ⟨a5, ea5, ka5, h6⟩ := g_dc h4; clear h4
  obtain ⟨S7, eS7, h8⟩ := g_bd h6; clear h6
  refine g_cV (n := 1) (As := [.int v1]) X (c_X8_saySlot hl D eS7) tw841 tw842 tw23 tw51 tw843 (by decide +kernel) rfl rfl ⟨Nat.le_of_ble_eq_true rfl, Nat.le_of_ble_eq_true rfl⟩ (ci := 8) rfl (by decide) ea5 ka5 rfl rfl (Nat.le_of_ble_eq_true rfl) dX8_node_7 ⟨(by decide), (by decide)⟩ ?_
  clear eS7 ea5 ka5
  refine g_aload_n (j := 0) X dX8_node_10 rfl rfl ?_
  refine g_iload_n (j := 2) X dX8_node_11 rfl rfl ?_
  obtain ⟨a9, ea9, ka9, h10⟩ := g_dc h8; clear h8
  obtain ⟨S11, eS11, h12⟩ := g_bd h10; clear h10
  refine g_cV (n := 1) (As := [.int v2]) X (c_X8_saySlot hl D eS11) tw841 tw842 tw23 tw51 tw843 (by decide +kernel) rfl rfl ⟨Nat.le_of_ble_eq_true rfl, Nat.le_of_ble_eq_true rfl⟩ (ci := 8) rfl (by decide) ea9 ka9 rfl rfl (Nat.le_of_ble_eq_true rfl) dX8_node_12 ⟨(by decide), (by decide)⟩ ?_
  clear eS11 ea9 ka9
  refine g_aload_n (j := 0) X dX8_node_15 rfl rfl ?_
  refine g_iload_n (j := 3) X dX8_node_16 rfl rfl ?_
  obtain ⟨a13, ea13, ka13, h14⟩ := g_dc h12; clear h12
  obtain ⟨S15, eS15, h16⟩ := g_bd h14; clear h14
  refine g_cV (n := 1) (As := [.int v3]) X (c_X8_digest hl D eS15) tw804 tw805 tw17 tw51 tw806 (by decide +kernel) rfl rfl ⟨Nat.le_of_ble_eq_true rfl, Nat.le_of_ble_eq_true rfl⟩ (ci := 8) rfl (by decide) ea13 ka13 rfl rfl (Nat.le_of_ble_eq_true rfl) dX8_node_17 ⟨(by decide), (by decide)⟩ ?_
  clear eS15 ea13 ka13
  cases h16
  exact g_vret X hr (by decide) (by decide) dX8_node_20
def f_X8_isSame_L5 : Nat → gS → Nat → Int32 → Int32 → Int32 → Int32 → Option (Int32 × gS)
  | 0, _, _, _, _, _, _ => none
  | k + 1, S0, a0, v1, v2, v3, v4 =>
    if 8 ≤ v4 then
      if v3 = 0 ∨ v3 = 1 then
        some (v3, S0)
      else none
    else
      if v3 = 0 then
        gLet (v4 + 1) fun x9 =>
        f_X8_isSame_L5 k S0 a0 v1 v2 0 x9
      else
        (fgR S0 8 21 (some a0)).bind fun x11 =>
        (fI S0 10 x11 ((8 * v1) + v4)).bind fun x13 =>
        (fgR S0 8 21 (some a0)).bind fun x15 =>
        (fI S0 10 x15 ((8 * v2) + v4)).bind fun x17 =>
        if x13 = x17 then
          gLet (v4 + 1) fun x24 =>
          f_X8_isSame_L5 k S0 a0 v1 v2 1 x24
        else
          gLet (v4 + 1) fun x22 =>
          f_X8_isSame_L5 k S0 a0 v1 v2 0 x22
set_option maxRecDepth 100000 in
set_option maxHeartbeats 4000000 in
theorem w_X8_isSame_L5 {p : Program} {l : Launch} {e : Env} {s : State} {m : MethodId} {args : Array Value} {below : List Frame} {meth : Method} {c : Code} {D : gD} {S9 : gS} {res : Int32}  (hl : l.stackTraces = false) (X : gX D p l s m args meth c cX8_isSame 5 RX8) (hr : meth.sig.returnType = (some .boolean)) : ∀ (k : Nat) (S0 : gS) (a0 : Nat) (v1 : Int32) (v2 : Int32) (v3 : Int32) (v4 : Int32), f_X8_isSame_L5 k S0 a0 v1 v2 v3 v4 = some (res, S9) → gJ D p l e { frames := 0, cells := 0, slots := 0, locals := 0 } s m args below meth c (MQ below (gQ D (some (.int res)) S9) args s (0) (0) (gF D)) 5 (0) (0) S0 5 [(0, va_rf (some a0)), (1, .int v1), (2, .int v2), (3, .int v3), (4, .int v4)] [] := by
  intro k
  induction k with
  | zero => intro S0 a0 v1 v2 v3 v4 h0; cases h0
  | succ k ih =>
    intro S0 a0 v1 v2 v3 v4 h0
    have h0 := h0
    unfold f_X8_isSame_L5 at h0
    refine g_iload (j := 4) X dX8_isSame_5 rfl ?_
    refine g_bipush X dX8_isSame_7 (v := 8) (by decide) ?_
    refine g_icmp_ge (tgt := 55) X dX8_isSame_9 (by decide) (fun c1 => ?_) (fun c1 => ?_)
    · have h2 := g_ip h0 c1; clear h0
      refine g_iload_n (j := 3) X dX8_isSame_55 rfl rfl ?_
      obtain ⟨c4, h5⟩ := g_if h2; clear h2
      obtain ⟨rfl, rfl⟩ := g_end h5
      exact g_zret X hr c4 (by decide) (by decide) dX8_isSame_56
    · have h3 := g_in h0 c1; clear h0
      refine g_iload_n (j := 3) X dX8_isSame_12 rfl rfl ?_
      refine g_if_eq (tgt := 47) X dX8_isSame_13 (by decide) (fun c6 => ?_) (fun c6 => ?_)
      · have h7 := g_ip h3 c6; clear h3
        refine g_iconst X dX8_isSame_47 (v := 0) (by decide) ?_
        refine g_istore_n (i := 3) (lv' := [(3, .int 0), (0, va_rf (some a0)), (1, .int v1), (2, .int v2), (4, .int v4)]) X dX8_isSame_48 rfl (by decide) rfl ?_
        obtain ⟨x9, ex9, h10⟩ := g_let h7; clear h7
        refine g_iinc (j := 4) (v := x9) (lv' := [(4, .int x9), (3, .int 0), (0, va_rf (some a0)), (1, .int v1), (2, .int v2)]) X dX8_isSame_49 rfl (by rw [ex9]; rfl) (by decide) rfl ?_
        clear ex9
        refine g_goto (tgt := 5) X dX8_isSame_52 (by decide) ?_
        refine g_sub [2, 3, 4, 1, 0] rfl ?_
        exact ih S0 a0 v1 v2 0 x9 h10
      · have h8 := g_in h3 c6; clear h3
        refine g_aload_n (j := 0) X dX8_isSame_16 rfl rfl ?_
        obtain ⟨x11, ex11, h12⟩ := g_bd h8; clear h8
        refine g_fR (ci := 8) (k := 21) X rfl il8 (by decide) tw724 (by decide) (fun _ _ _ => rfl) ex11 dX8_isSame_17 ?_
        clear ex11
        refine g_bipush X dX8_isSame_20 (v := 8) (by decide) ?_
        refine g_iload_n (j := 1) X dX8_isSame_22 rfl rfl ?_
        refine g_imul X dX8_isSame_23 ?_
        refine g_iload (j := 4) X dX8_isSame_24 rfl ?_
        refine g_iadd X dX8_isSame_26 ?_
        obtain ⟨x13, ex13, h14⟩ := g_bd h12; clear h12
        refine g_iald X ex13 dX8_isSame_27 ?_
        clear ex13
        refine g_aload_n (j := 0) X dX8_isSame_28 rfl rfl ?_
        obtain ⟨x15, ex15, h16⟩ := g_bd h14; clear h14
        refine g_fR (ci := 8) (k := 21) X rfl il8 (by decide) tw724 (by decide) (fun _ _ _ => rfl) ex15 dX8_isSame_29 ?_
        clear ex15
        refine g_bipush X dX8_isSame_32 (v := 8) (by decide) ?_
        refine g_iload_n (j := 2) X dX8_isSame_34 rfl rfl ?_
        refine g_imul X dX8_isSame_35 ?_
        refine g_iload (j := 4) X dX8_isSame_36 rfl ?_
        refine g_iadd X dX8_isSame_38 ?_
        obtain ⟨x17, ex17, h18⟩ := g_bd h16; clear h16
        refine g_iald X ex17 dX8_isSame_39 ?_
        clear ex17
        refine g_icmp_ne (tgt := 47) X dX8_isSame_40 (by decide) (fun c19 => ?_) (fun c19 => ?_)
        · have h20 := g_in h18 c19; clear h18
          refine g_iconst X dX8_isSame_47 (v := 0) (by decide) ?_
          refine g_istore_n (i := 3) (lv' := [(3, .int 0), (0, va_rf (some a0)), (1, .int v1), (2, .int v2), (4, .int v4)]) X dX8_isSame_48 rfl (by decide) rfl ?_
          obtain ⟨x22, ex22, h23⟩ := g_let h20; clear h20
          refine g_iinc (j := 4) (v := x22) (lv' := [(4, .int x22), (3, .int 0), (0, va_rf (some a0)), (1, .int v1), (2, .int v2)]) X dX8_isSame_49 rfl (by rw [ex22]; rfl) (by decide) rfl ?_
          clear ex22
          refine g_goto (tgt := 5) X dX8_isSame_52 (by decide) ?_
          refine g_sub [2, 3, 4, 1, 0] rfl ?_
          exact ih S0 a0 v1 v2 0 x22 h23
        · have h21 := g_ip h18 c19; clear h18
          refine g_iconst X dX8_isSame_43 (v := 1) (by decide) ?_
          refine g_goto (tgt := 48) X dX8_isSame_44 (by decide) ?_
          refine g_istore_n (i := 3) (lv' := [(3, .int 1), (0, va_rf (some a0)), (1, .int v1), (2, .int v2), (4, .int v4)]) X dX8_isSame_48 rfl (by decide) rfl ?_
          obtain ⟨x24, ex24, h25⟩ := g_let h21; clear h21
          refine g_iinc (j := 4) (v := x24) (lv' := [(4, .int x24), (3, .int 1), (0, va_rf (some a0)), (1, .int v1), (2, .int v2)]) X dX8_isSame_49 rfl (by rw [ex24]; rfl) (by decide) rfl ?_
          clear ex24
          refine g_goto (tgt := 5) X dX8_isSame_52 (by decide) ?_
          refine g_sub [2, 3, 4, 1, 0] rfl ?_
          exact ih S0 a0 v1 v2 1 x24 h25
def f_X8_isSame (S0 : gS) (a0 : Nat) (v1 : Int32) (v2 : Int32) : Option (Int32 × gS) :=
  f_X8_isSame_L5 gFuel S0 a0 v1 v2 1 0
set_option maxRecDepth 100000 in
set_option maxHeartbeats 4000000 in
theorem c_X8_isSame {l : Launch} (hl : l.stackTraces = false) (D : gD)  {S0 S9 : gS} {a0 : Nat} {v1 : Int32} {v2 : Int32} {res : Int32} (h0 : f_X8_isSame S0 a0 v1 v2 = some (res, S9)) : Met l yX8_isSame (gws yX8_isSame cX8_isSame 5 (some .boolean)) { frames := 0, cells := 0, slots := 0, locals := 0 } (gPc D S0 [.ref a0, .int v1, .int v2]) (gQ D (some (.int res)) S9) (0) (0) (gF D) := by
  refine g_met (lv := [(0, va_rf (some a0)), (1, .int v1), (2, .int v2)]) hl (by decide) (Nat.le_of_ble_eq_true rfl) rfl (fun p e s m args below meth c X hr hn => ?_)
  have X : gX D p l s m args meth c cX8_isSame 5 RX8 := X
  unfold f_X8_isSame at h0
  refine g_iconst X dX8_isSame_0 (v := 1) (by decide) ?_
  refine g_istore_n (i := 3) (lv' := [(3, .int 1), (0, va_rf (some a0)), (1, .int v1), (2, .int v2)]) X dX8_isSame_1 rfl (by decide) rfl ?_
  refine g_iconst X dX8_isSame_2 (v := 0) (by decide) ?_
  refine g_istore (i := 4) (lv' := [(4, .int 0), (3, .int 1), (0, va_rf (some a0)), (1, .int v1), (2, .int v2)]) X dX8_isSame_3 (by decide) rfl ?_
  refine g_sub [2, 3, 4, 1, 0] rfl ?_
  exact w_X8_isSame_L5 hl X hr gFuel S0 a0 v1 v2 1 0 h0
def f_X8_copy_L2 : Nat → gS → Nat → Int32 → Int32 → Int32 → Option gS
  | 0, _, _, _, _, _ => none
  | k + 1, S0, a0, v1, v2, v3 =>
    if 8 ≤ v3 then
      some S0
    else
      (fgR S0 8 21 (some a0)).bind fun x4 =>
      (fgR S0 8 21 (some a0)).bind fun x6 =>
      (fI S0 10 x6 ((8 * v1) + v3)).bind fun x8 =>
      (faI S0 x4 ((8 * v2) + v3) x8).bind fun S10 =>
      gLet (v3 + 1) fun x12 =>
      f_X8_copy_L2 k S10 a0 v1 v2 x12
set_option maxRecDepth 100000 in
set_option maxHeartbeats 4000000 in
theorem w_X8_copy_L2 {p : Program} {l : Launch} {e : Env} {s : State} {m : MethodId} {args : Array Value} {below : List Frame} {meth : Method} {c : Code} {D : gD} {S9 : gS}  (hl : l.stackTraces = false) (X : gX D p l s m args meth c cX8_copy 4 RX8) (hr : meth.sig.returnType = none) : ∀ (k : Nat) (S0 : gS) (a0 : Nat) (v1 : Int32) (v2 : Int32) (v3 : Int32), f_X8_copy_L2 k S0 a0 v1 v2 v3 = some S9 → gJ D p l e { frames := 0, cells := 0, slots := 0, locals := 0 } s m args below meth c (MQ below (gQ D none S9) args s (0) (0) (gF D)) 4 (0) (0) S0 2 [(0, va_rf (some a0)), (1, .int v1), (2, .int v2), (3, .int v3)] [] := by
  intro k
  induction k with
  | zero => intro S0 a0 v1 v2 v3 h0; cases h0
  | succ k ih =>
    intro S0 a0 v1 v2 v3 h0
    have h0 := h0
    unfold f_X8_copy_L2 at h0
    refine g_iload_n (j := 3) X dX8_copy_2 rfl rfl ?_
    refine g_bipush X dX8_copy_3 (v := 8) (by decide) ?_
    refine g_icmp_ge (tgt := 36) X dX8_copy_5 (by decide) (fun c1 => ?_) (fun c1 => ?_)
    · have h2 := g_ip h0 c1; clear h0
      cases h2
      exact g_vret X hr (by decide) (by decide) dX8_copy_36
    · have h3 := g_in h0 c1; clear h0
      refine g_aload_n (j := 0) X dX8_copy_8 rfl rfl ?_
      obtain ⟨x4, ex4, h5⟩ := g_bd h3; clear h3
      refine g_fR (ci := 8) (k := 21) X rfl il8 (by decide) tw724 (by decide) (fun _ _ _ => rfl) ex4 dX8_copy_9 ?_
      clear ex4
      refine g_bipush X dX8_copy_12 (v := 8) (by decide) ?_
      refine g_iload_n (j := 2) X dX8_copy_14 rfl rfl ?_
      refine g_imul X dX8_copy_15 ?_
      refine g_iload_n (j := 3) X dX8_copy_16 rfl rfl ?_
      refine g_iadd X dX8_copy_17 ?_
      refine g_aload_n (j := 0) X dX8_copy_18 rfl rfl ?_
      obtain ⟨x6, ex6, h7⟩ := g_bd h5; clear h5
      refine g_fR (ci := 8) (k := 21) X rfl il8 (by decide) tw724 (by decide) (fun _ _ _ => rfl) ex6 dX8_copy_19 ?_
      clear ex6
      refine g_bipush X dX8_copy_22 (v := 8) (by decide) ?_
      refine g_iload_n (j := 1) X dX8_copy_24 rfl rfl ?_
      refine g_imul X dX8_copy_25 ?_
      refine g_iload_n (j := 3) X dX8_copy_26 rfl rfl ?_
      refine g_iadd X dX8_copy_27 ?_
      obtain ⟨x8, ex8, h9⟩ := g_bd h7; clear h7
      refine g_iald X ex8 dX8_copy_28 ?_
      clear ex8
      obtain ⟨S10, eS10, h11⟩ := g_bd h9; clear h9
      refine g_iast X eS10 dX8_copy_29 ?_
      clear eS10
      obtain ⟨x12, ex12, h13⟩ := g_let h11; clear h11
      refine g_iinc (j := 3) (v := x12) (lv' := [(3, .int x12), (0, va_rf (some a0)), (1, .int v1), (2, .int v2)]) X dX8_copy_30 rfl (by rw [ex12]; rfl) (by decide) rfl ?_
      clear ex12
      refine g_goto (tgt := 2) X dX8_copy_33 (by decide) ?_
      refine g_sub [1, 2, 3, 0] rfl ?_
      exact ih S10 a0 v1 v2 x12 h13
def f_X8_copy (S0 : gS) (a0 : Nat) (v1 : Int32) (v2 : Int32) : Option gS :=
  f_X8_copy_L2 gFuel S0 a0 v1 v2 0
set_option maxRecDepth 100000 in
set_option maxHeartbeats 4000000 in
theorem c_X8_copy {l : Launch} (hl : l.stackTraces = false) (D : gD)  {S0 S9 : gS} {a0 : Nat} {v1 : Int32} {v2 : Int32} (h0 : f_X8_copy S0 a0 v1 v2 = some S9) : Met l yX8_copy (gws yX8_copy cX8_copy 4 none) { frames := 0, cells := 0, slots := 0, locals := 0 } (gPc D S0 [.ref a0, .int v1, .int v2]) (gQ D none S9) (0) (0) (gF D) := by
  refine g_met (lv := [(0, va_rf (some a0)), (1, .int v1), (2, .int v2)]) hl (by decide) (Nat.le_of_ble_eq_true rfl) rfl (fun p e s m args below meth c X hr hn => ?_)
  have X : gX D p l s m args meth c cX8_copy 4 RX8 := X
  unfold f_X8_copy at h0
  refine g_iconst X dX8_copy_0 (v := 0) (by decide) ?_
  refine g_istore_n (i := 3) (lv' := [(3, .int 0), (0, va_rf (some a0)), (1, .int v1), (2, .int v2)]) X dX8_copy_1 rfl (by decide) rfl ?_
  refine g_sub [1, 2, 3, 0] rfl ?_
  exact w_X8_copy_L2 hl X hr gFuel S0 a0 v1 v2 0 h0
def f_J6_numberOfLeadingZeros_0f7a4_B48 (S0 : gS) (v0 : Int32) (v1 : Int32) : Option (Int32 × gS) :=
  if v0 < 16 then
    if v0 < 4 then
      some (v1 - (g_ushr v0 1), S0)
    else
      gLet (v1 + (-2)) fun x16 =>
      gLet (g_ushr v0 2) fun x18 =>
      some (x16 - (g_ushr x18 1), S0)
  else
    gLet (v1 + (-4)) fun x20 =>
    gLet (g_ushr v0 4) fun x22 =>
    if x22 < 4 then
      some (x20 - (g_ushr x22 1), S0)
    else
      gLet (x20 + (-2)) fun x27 =>
      gLet (g_ushr x22 2) fun x29 =>
      some (x27 - (g_ushr x29 1), S0)
set_option maxRecDepth 100000 in
set_option maxHeartbeats 4000000 in
theorem w_J6_numberOfLeadingZeros_0f7a4_B48 {p : Program} {l : Launch} {e : Env} {s : State} {m : MethodId} {args : Array Value} {below : List Frame} {meth : Method} {c : Code} {D : gD} {S9 : gS} {res : Int32}  (hl : l.stackTraces = false) (X : gX D p l s m args meth c cJ6_numberOfLeadingZeros_0f7a4 2 RJ6) (hr : meth.sig.returnType = (some .int)) (S0 : gS) (v0 : Int32) (v1 : Int32) (h0 : f_J6_numberOfLeadingZeros_0f7a4_B48 S0 v0 v1 = some (res, S9)) : gJ D p l e { frames := 0, cells := 0, slots := 0, locals := 0 } s m args below meth c (MQ below (gQ D (some (.int res)) S9) args s (0) (0) (gF D)) 2 (0) (0) S0 48 [(0, .int v0), (1, .int v1)] [] := by
  unfold f_J6_numberOfLeadingZeros_0f7a4_B48 at h0
  refine g_iload_n (j := 0) X dJ6_numberOfLeadingZeros_0f7a4_48 rfl rfl ?_
  refine g_bipush X dJ6_numberOfLeadingZeros_0f7a4_49 (v := 16) (by decide) ?_
  refine g_icmp_lt (tgt := 61) X dJ6_numberOfLeadingZeros_0f7a4_51 (by decide) (fun c10 => ?_) (fun c10 => ?_)
  · have h11 := g_ip h0 c10; clear h0
    refine g_iload_n (j := 0) X dJ6_numberOfLeadingZeros_0f7a4_61 rfl rfl ?_
    refine g_iconst X dJ6_numberOfLeadingZeros_0f7a4_62 (v := 4) (by decide) ?_
    refine g_icmp_lt (tgt := 73) X dJ6_numberOfLeadingZeros_0f7a4_63 (by decide) (fun c13 => ?_) (fun c13 => ?_)
    · have h14 := g_ip h11 c13; clear h11
      refine g_iload_n (j := 1) X dJ6_numberOfLeadingZeros_0f7a4_73 rfl rfl ?_
      refine g_iload_n (j := 0) X dJ6_numberOfLeadingZeros_0f7a4_74 rfl rfl ?_
      refine g_iconst X dJ6_numberOfLeadingZeros_0f7a4_75 (v := 1) (by decide) ?_
      refine g_iushr X dJ6_numberOfLeadingZeros_0f7a4_76 ?_
      refine g_isub X dJ6_numberOfLeadingZeros_0f7a4_77 ?_
      obtain ⟨rfl, rfl⟩ := g_end h14
      exact g_iret X hr (by decide) (by decide) dJ6_numberOfLeadingZeros_0f7a4_78
    · have h15 := g_in h11 c13; clear h11
      obtain ⟨x16, ex16, h17⟩ := g_let h15; clear h15
      refine g_iinc (j := 1) (v := x16) (lv' := [(1, .int x16), (0, .int v0)]) X dJ6_numberOfLeadingZeros_0f7a4_66 rfl (by rw [ex16]; rfl) (by decide) rfl ?_
      clear ex16
      refine g_iload_n (j := 1) X dJ6_numberOfLeadingZeros_0f7a4_69 rfl rfl ?_
      refine g_iconst X dJ6_numberOfLeadingZeros_0f7a4_70 (v := 2) (by decide) ?_
      refine g_iushr X dJ6_numberOfLeadingZeros_0f7a4_71 ?_
      obtain ⟨x18, ex18, h19⟩ := g_let h17; clear h17; rw [← ex18]; clear ex18
      refine g_istore_n (i := 0) (lv' := [(0, .int x18), (1, .int x16)]) X dJ6_numberOfLeadingZeros_0f7a4_72 rfl (by decide) rfl ?_
      refine g_iload_n (j := 1) X dJ6_numberOfLeadingZeros_0f7a4_73 rfl rfl ?_
      refine g_iload_n (j := 0) X dJ6_numberOfLeadingZeros_0f7a4_74 rfl rfl ?_
      refine g_iconst X dJ6_numberOfLeadingZeros_0f7a4_75 (v := 1) (by decide) ?_
      refine g_iushr X dJ6_numberOfLeadingZeros_0f7a4_76 ?_
      refine g_isub X dJ6_numberOfLeadingZeros_0f7a4_77 ?_
      obtain ⟨rfl, rfl⟩ := g_end h19
      exact g_iret X hr (by decide) (by decide) dJ6_numberOfLeadingZeros_0f7a4_78
  · have h12 := g_in h0 c10; clear h0
    obtain ⟨x20, ex20, h21⟩ := g_let h12; clear h12
    refine g_iinc (j := 1) (v := x20) (lv' := [(1, .int x20), (0, .int v0)]) X dJ6_numberOfLeadingZeros_0f7a4_54 rfl (by rw [ex20]; rfl) (by decide) rfl ?_
    clear ex20
    refine g_iload_n (j := 1) X dJ6_numberOfLeadingZeros_0f7a4_57 rfl rfl ?_
    refine g_iconst X dJ6_numberOfLeadingZeros_0f7a4_58 (v := 4) (by decide) ?_
    refine g_iushr X dJ6_numberOfLeadingZeros_0f7a4_59 ?_
    obtain ⟨x22, ex22, h23⟩ := g_let h21; clear h21; rw [← ex22]; clear ex22
    refine g_istore_n (i := 0) (lv' := [(0, .int x22), (1, .int x20)]) X dJ6_numberOfLeadingZeros_0f7a4_60 rfl (by decide) rfl ?_
    refine g_iload_n (j := 0) X dJ6_numberOfLeadingZeros_0f7a4_61 rfl rfl ?_
    refine g_iconst X dJ6_numberOfLeadingZeros_0f7a4_62 (v := 4) (by decide) ?_
    refine g_icmp_lt (tgt := 73) X dJ6_numberOfLeadingZeros_0f7a4_63 (by decide) (fun c24 => ?_) (fun c24 => ?_)
    · have h25 := g_ip h23 c24; clear h23
      refine g_iload_n (j := 1) X dJ6_numberOfLeadingZeros_0f7a4_73 rfl rfl ?_
      refine g_iload_n (j := 0) X dJ6_numberOfLeadingZeros_0f7a4_74 rfl rfl ?_
      refine g_iconst X dJ6_numberOfLeadingZeros_0f7a4_75 (v := 1) (by decide) ?_
      refine g_iushr X dJ6_numberOfLeadingZeros_0f7a4_76 ?_
      refine g_isub X dJ6_numberOfLeadingZeros_0f7a4_77 ?_
      obtain ⟨rfl, rfl⟩ := g_end h25
      exact g_iret X hr (by decide) (by decide) dJ6_numberOfLeadingZeros_0f7a4_78
    · have h26 := g_in h23 c24; clear h23
      obtain ⟨x27, ex27, h28⟩ := g_let h26; clear h26
      refine g_iinc (j := 1) (v := x27) (lv' := [(1, .int x27), (0, .int x22)]) X dJ6_numberOfLeadingZeros_0f7a4_66 rfl (by rw [ex27]; rfl) (by decide) rfl ?_
      clear ex27
      refine g_iload_n (j := 1) X dJ6_numberOfLeadingZeros_0f7a4_69 rfl rfl ?_
      refine g_iconst X dJ6_numberOfLeadingZeros_0f7a4_70 (v := 2) (by decide) ?_
      refine g_iushr X dJ6_numberOfLeadingZeros_0f7a4_71 ?_
      obtain ⟨x29, ex29, h30⟩ := g_let h28; clear h28; rw [← ex29]; clear ex29
      refine g_istore_n (i := 0) (lv' := [(0, .int x29), (1, .int x27)]) X dJ6_numberOfLeadingZeros_0f7a4_72 rfl (by decide) rfl ?_
      refine g_iload_n (j := 1) X dJ6_numberOfLeadingZeros_0f7a4_73 rfl rfl ?_
      refine g_iload_n (j := 0) X dJ6_numberOfLeadingZeros_0f7a4_74 rfl rfl ?_
      refine g_iconst X dJ6_numberOfLeadingZeros_0f7a4_75 (v := 1) (by decide) ?_
      refine g_iushr X dJ6_numberOfLeadingZeros_0f7a4_76 ?_
      refine g_isub X dJ6_numberOfLeadingZeros_0f7a4_77 ?_
      obtain ⟨rfl, rfl⟩ := g_end h30
      exact g_iret X hr (by decide) (by decide) dJ6_numberOfLeadingZeros_0f7a4_78
def f_J6_numberOfLeadingZeros_0f7a4_B33 (S0 : gS) (v0 : Int32) (v1 : Int32) : Option (Int32 × gS) :=
  if v0 < 256 then
    f_J6_numberOfLeadingZeros_0f7a4_B48 S0 v0 v1
  else
    gLet (v1 + (-8)) fun x31 =>
    gLet (g_ushr v0 8) fun x33 =>
    f_J6_numberOfLeadingZeros_0f7a4_B48 S0 x33 x31
set_option maxRecDepth 100000 in
set_option maxHeartbeats 4000000 in
theorem w_J6_numberOfLeadingZeros_0f7a4_B33 {p : Program} {l : Launch} {e : Env} {s : State} {m : MethodId} {args : Array Value} {below : List Frame} {meth : Method} {c : Code} {D : gD} {S9 : gS} {res : Int32}  (hl : l.stackTraces = false) (X : gX D p l s m args meth c cJ6_numberOfLeadingZeros_0f7a4 2 RJ6) (hr : meth.sig.returnType = (some .int)) (S0 : gS) (v0 : Int32) (v1 : Int32) (h0 : f_J6_numberOfLeadingZeros_0f7a4_B33 S0 v0 v1 = some (res, S9)) : gJ D p l e { frames := 0, cells := 0, slots := 0, locals := 0 } s m args below meth c (MQ below (gQ D (some (.int res)) S9) args s (0) (0) (gF D)) 2 (0) (0) S0 33 [(0, .int v0), (1, .int v1)] [] := by
  unfold f_J6_numberOfLeadingZeros_0f7a4_B33 at h0
  refine g_iload_n (j := 0) X dJ6_numberOfLeadingZeros_0f7a4_33 rfl rfl ?_
  refine g_sipush X dJ6_numberOfLeadingZeros_0f7a4_34 (v := 256) (by decide) ?_
  refine g_icmp_lt (tgt := 48) X dJ6_numberOfLeadingZeros_0f7a4_37 (by decide) (fun c7 => ?_) (fun c7 => ?_)
  · have h8 := g_ip h0 c7; clear h0
    refine g_sub [0, 1] rfl ?_
    exact w_J6_numberOfLeadingZeros_0f7a4_B48 hl X hr S0 v0 v1 h8
  · have h9 := g_in h0 c7; clear h0
    obtain ⟨x31, ex31, h32⟩ := g_let h9; clear h9
    refine g_iinc (j := 1) (v := x31) (lv' := [(1, .int x31), (0, .int v0)]) X dJ6_numberOfLeadingZeros_0f7a4_40 rfl (by rw [ex31]; rfl) (by decide) rfl ?_
    clear ex31
    refine g_iload_n (j := 1) X dJ6_numberOfLeadingZeros_0f7a4_43 rfl rfl ?_
    refine g_bipush X dJ6_numberOfLeadingZeros_0f7a4_44 (v := 8) (by decide) ?_
    refine g_iushr X dJ6_numberOfLeadingZeros_0f7a4_46 ?_
    obtain ⟨x33, ex33, h34⟩ := g_let h32; clear h32; rw [← ex33]; clear ex33
    refine g_istore_n (i := 0) (lv' := [(0, .int x33), (1, .int x31)]) X dJ6_numberOfLeadingZeros_0f7a4_47 rfl (by decide) rfl ?_
    refine g_sub [0, 1] rfl ?_
    exact w_J6_numberOfLeadingZeros_0f7a4_B48 hl X hr S0 x33 x31 h34
def f_J6_numberOfLeadingZeros_0f7a4 (S0 : gS) (v0 : Int32) : Option (Int32 × gS) :=
  if 0 < v0 then
    if v0 < 65536 then
      f_J6_numberOfLeadingZeros_0f7a4_B33 S0 v0 31
    else
      gLet (31 + (-16)) fun x35 =>
      gLet (g_ushr v0 16) fun x37 =>
      f_J6_numberOfLeadingZeros_0f7a4_B33 S0 x37 x35
  else
    if v0 = 0 then
      some (32, S0)
    else
      some (0, S0)
set_option maxRecDepth 100000 in
set_option maxHeartbeats 4000000 in
theorem c_J6_numberOfLeadingZeros_0f7a4 {l : Launch} (hl : l.stackTraces = false) (D : gD)  {S0 S9 : gS} {v0 : Int32} {res : Int32} (h0 : f_J6_numberOfLeadingZeros_0f7a4 S0 v0 = some (res, S9)) : Met l yJ6_numberOfLeadingZeros_0f7a4 (gws yJ6_numberOfLeadingZeros_0f7a4 cJ6_numberOfLeadingZeros_0f7a4 2 (some .int)) { frames := 0, cells := 0, slots := 0, locals := 0 } (gPc D S0 [.int v0]) (gQ D (some (.int res)) S9) (0) (0) (gF D) := by
  refine g_met (lv := [(0, .int v0)]) hl (by decide) (Nat.le_of_ble_eq_true rfl) rfl (fun p e s m args below meth c X hr hn => ?_)
  have X : gX D p l s m args meth c cJ6_numberOfLeadingZeros_0f7a4 2 RJ6 := X
  unfold f_J6_numberOfLeadingZeros_0f7a4 at h0
  refine g_iload_n (j := 0) X dJ6_numberOfLeadingZeros_0f7a4_0 rfl rfl ?_
  refine g_if_gt (tgt := 15) X dJ6_numberOfLeadingZeros_0f7a4_1 (by decide) (fun c1 => ?_) (fun c1 => ?_)
  · have h2 := g_ip h0 c1; clear h0
    refine g_bipush X dJ6_numberOfLeadingZeros_0f7a4_15 (v := 31) (by decide) ?_
    refine g_istore_n (i := 1) (lv' := [(1, .int 31), (0, .int v0)]) X dJ6_numberOfLeadingZeros_0f7a4_17 rfl (by decide) rfl ?_
    refine g_iload_n (j := 1) X dJ6_numberOfLeadingZeros_0f7a4_18 rfl rfl ?_
    refine g_ldcw X tw837 dJ6_numberOfLeadingZeros_0f7a4_19 ?_
    refine g_icmp_lt (tgt := 33) X dJ6_numberOfLeadingZeros_0f7a4_22 (by decide) (fun c4 => ?_) (fun c4 => ?_)
    · have h5 := g_ip h2 c4; clear h2
      refine g_sub [1, 0] rfl ?_
      exact w_J6_numberOfLeadingZeros_0f7a4_B33 hl X hr S0 v0 31 h5
    · have h6 := g_in h2 c4; clear h2
      obtain ⟨x35, ex35, h36⟩ := g_let h6; clear h6
      refine g_iinc (j := 0) (v := x35) (lv' := [(1, .int x35), (0, .int v0)]) X dJ6_numberOfLeadingZeros_0f7a4_25 rfl (by rw [ex35]; rfl) (by decide) rfl ?_
      clear ex35
      refine g_iload_n (j := 1) X dJ6_numberOfLeadingZeros_0f7a4_28 rfl rfl ?_
      refine g_bipush X dJ6_numberOfLeadingZeros_0f7a4_29 (v := 16) (by decide) ?_
      refine g_iushr X dJ6_numberOfLeadingZeros_0f7a4_31 ?_
      obtain ⟨x37, ex37, h38⟩ := g_let h36; clear h36; rw [← ex37]; clear ex37
      refine g_istore_n (i := 0) (lv' := [(0, .int x37), (1, .int x35)]) X dJ6_numberOfLeadingZeros_0f7a4_32 rfl (by decide) rfl ?_
      refine g_sub [0, 1] rfl ?_
      exact w_J6_numberOfLeadingZeros_0f7a4_B33 hl X hr S0 x37 x35 h38
  · have h3 := g_in h0 c1; clear h0
    refine g_iload_n (j := 0) X dJ6_numberOfLeadingZeros_0f7a4_4 rfl rfl ?_
    refine g_if_ne (tgt := 13) X dJ6_numberOfLeadingZeros_0f7a4_5 (by decide) (fun c39 => ?_) (fun c39 => ?_)
    · have h40 := g_in h3 c39; clear h3
      refine g_iconst X dJ6_numberOfLeadingZeros_0f7a4_13 (v := 0) (by decide) ?_
      obtain ⟨rfl, rfl⟩ := g_end h40
      exact g_iret X hr (by decide) (by decide) dJ6_numberOfLeadingZeros_0f7a4_14
    · have h41 := g_ip h3 c39; clear h3
      refine g_bipush X dJ6_numberOfLeadingZeros_0f7a4_8 (v := 32) (by decide) ?_
      refine g_goto (tgt := 14) X dJ6_numberOfLeadingZeros_0f7a4_10 (by decide) ?_
      obtain ⟨rfl, rfl⟩ := g_end h41
      exact g_iret X hr (by decide) (by decide) dJ6_numberOfLeadingZeros_0f7a4_14
def f_J6_highestOneBit_0f7a4 (S0 : gS) (v0 : Int32) : Option (Int32 × gS) :=
  gBi (f_J6_numberOfLeadingZeros_0f7a4 S0 v0) fun x3 S1 =>
  some (v0 &&& (g_ushr (-2147483648) x3), S1)
set_option maxRecDepth 100000 in
set_option maxHeartbeats 4000000 in
theorem c_J6_highestOneBit_0f7a4 {l : Launch} (hl : l.stackTraces = false) (D : gD)  {S0 S9 : gS} {v0 : Int32} {res : Int32} (h0 : f_J6_highestOneBit_0f7a4 S0 v0 = some (res, S9)) : Met l yJ6_highestOneBit_0f7a4 (gws yJ6_highestOneBit_0f7a4 cJ6_highestOneBit_0f7a4 1 (some .int)) { frames := 1, cells := 0, slots := 0, locals := 21 } (gPc D S0 [.int v0]) (gQ D (some (.int res)) S9) (0) (0) (gF D) := by
  refine g_met (lv := [(0, .int v0)]) hl (by decide) (Nat.le_of_ble_eq_true rfl) rfl (fun p e s m args below meth c X hr hn => ?_)
  have X : gX D p l s m args meth c cJ6_highestOneBit_0f7a4 1 RJ6 := X
  unfold f_J6_highestOneBit_0f7a4 at h0
  refine g_iload_n (j := 0) X dJ6_highestOneBit_0f7a4_0 rfl rfl ?_
  refine g_ldc X tw833 dJ6_highestOneBit_0f7a4_1 ?_
  refine g_iload_n (j := 0) X dJ6_highestOneBit_0f7a4_3 rfl rfl ?_
  obtain ⟨x3, S1, eS1, h2⟩ := g_bi h0; clear h0
  refine g_cS (n := 1) (As := [.int v0]) X (c_J6_numberOfLeadingZeros_0f7a4 hl D eS1) tw834 tw835 tw61 tw836 (by decide +kernel) rfl rfl ⟨Nat.le_of_ble_eq_true rfl, Nat.le_of_ble_eq_true rfl⟩ rfl rfl (Nat.le_of_ble_eq_true rfl) dJ6_highestOneBit_0f7a4_4 ⟨(by decide), (by decide)⟩ ?_
  clear eS1
  refine g_iushr X dJ6_highestOneBit_0f7a4_7 ?_
  refine g_iand X dJ6_highestOneBit_0f7a4_8 ?_
  obtain ⟨rfl, rfl⟩ := g_end h2
  exact g_iret X hr (by decide) (by decide) dJ6_highestOneBit_0f7a4_9
def f_X8_root : Nat → gS → Option Nat → Int32 → Int32 → Int32 → Int32 → Option gS
  | 0, _, _, _, _, _, _ => none
  | d + 1, S0, v0, v1, v2, v3, v4 =>
    if v3 = 0 then
      gDc S0 8 v0 fun a30 =>
      gGd (1 ≤ gRb v3 ∧ 8 ≤ 8 * gRb v3) <|
      (f_X8_digest S0 a30 v4).bind fun S34 =>
      some S34
    else
      if v3 = 1 then
        gDc S0 8 v0 fun a24 =>
        gGd (1 ≤ gRb v3 ∧ 8 ≤ 8 * gRb v3) <|
        (f_X8_leafOf S0 a24 v1 v2 v4).bind fun S28 =>
        some S28
      else
        gBi (f_J6_highestOneBit_0f7a4 S0 (v3 - 1)) fun x9 S7 =>
        gGd (0 + (gRb x9) ≤ gRb v3 ∧ 0 + (8 * gRb x9) ≤ 8 * gRb v3) <|
        (f_X8_root d S7 v0 v1 v2 x9 v4).bind fun S12 =>
        gGd (0 + (gRb x9) + (gRb (v3 - x9)) ≤ gRb v3 ∧ 0 + (8 * gRb x9) + (8 * gRb (v3 - x9)) ≤ 8 * gRb v3) <|
        (f_X8_root d S12 v0 v1 (v2 + x9) (v3 - x9) (v4 + 1)).bind fun S16 =>
        gDc S16 8 v0 fun a18 =>
        gGd (0 + (gRb x9) + (gRb (v3 - x9)) + 1 ≤ gRb v3 ∧ 0 + (8 * gRb x9) + (8 * gRb (v3 - x9)) + 8 ≤ 8 * gRb v3) <|
        (f_X8_node S16 a18 v4 (v4 + 1) v4).bind fun S22 =>
        some S22
set_option maxRecDepth 100000 in
set_option maxHeartbeats 4000000 in
theorem c_X8_root {l : Launch} (hl : l.stackTraces = false) (D : gD) : ∀ (d : Nat) {S0 S9 : gS} {v0 : Option Nat} {v1 : Int32} {v2 : Int32} {v3 : Int32} {v4 : Int32} (h0 : f_X8_root d S0 v0 v1 v2 v3 v4 = some S9), Met l yX8_root (gws yX8_root cX8_root 6 none) { frames := 8 + d, cells := gRb v3, slots := 8 * gRb v3, locals := 200 + 25 * d } (gPc D S0 [va_rf v0, .int v1, .int v2, .int v3, .int v4]) (gQ D none S9) (gRb v3) (8 * gRb v3) (gF D) := by
  intro d
  induction d with
  | zero => intro S0 S9 v0 v1 v2 v3 v4 h0; cases h0
  | succ d ih =>
    intro S0 S9 v0 v1 v2 v3 v4 h0
    refine g_met (lv := [(0, va_rf v0), (1, .int v1), (2, .int v2), (3, .int v3), (4, .int v4)]) hl (by decide) (by simp [lg_sl, g_rfc, g_ci, g_cj, g_cr]) (by simp [lv_args, g_rfc, g_ci, g_cj, g_cr]; try rfl) (fun p e s m args below meth c X hr hn => ?_)
    have X : gX D p l s m args meth c cX8_root 6 RX8 := X
    unfold f_X8_root at h0
    refine g_iload_n (j := 3) X dX8_root_0 rfl rfl ?_
    refine g_if_ne (tgt := 11) X dX8_root_1 (by decide) (fun c1 => ?_) (fun c1 => ?_)
    · have h2 := g_in h0 c1; clear h0
      refine g_iload_n (j := 3) X dX8_root_11 rfl rfl ?_
      refine g_iconst X dX8_root_12 (v := 1) (by decide) ?_
      refine g_icmp_ne (tgt := 25) X dX8_root_13 (by decide) (fun c4 => ?_) (fun c4 => ?_)
      · have h5 := g_in h2 c4; clear h2
        refine g_iload_n (j := 3) X dX8_root_25 rfl rfl ?_
        refine g_iconst X dX8_root_26 (v := 1) (by decide) ?_
        refine g_isub X dX8_root_27 ?_
        obtain ⟨x9, S7, eS7, h8⟩ := g_bi h5; clear h5
        refine g_cS (n := 1) (As := [.int (v3 - 1)]) X (c_J6_highestOneBit_0f7a4 hl D eS7) tw830 tw831 tw61 tw832 (by decide +kernel) rfl rfl ⟨by show 1 + 1 ≤ 8 + (d + 1); omega, by show 8 + (1 + 11) + (21) ≤ 200 + 25 * (d + 1); omega⟩ rfl rfl (Nat.le_of_ble_eq_true rfl) dX8_root_28 ⟨(Nat.zero_le _), (Nat.zero_le _)⟩ ?_
        clear eS7
        refine g_istore (i := 5) (lv' := [(5, .int x9), (0, va_rf v0), (1, .int v1), (2, .int v2), (3, .int v3), (4, .int v4)]) X dX8_root_31 (by decide) rfl ?_
        refine g_aload_n (j := 1) X dX8_root_33 rfl rfl ?_
        refine g_iload_n (j := 2) X dX8_root_34 rfl rfl ?_
        refine g_iload_n (j := 3) X dX8_root_35 rfl rfl ?_
        refine g_iload (j := 0) X dX8_root_36 rfl ?_
        refine g_iload (j := 5) X dX8_root_38 rfl ?_
        obtain ⟨g10, h11⟩ := g_gd h8; clear h8
        obtain ⟨S12, eS12, h13⟩ := g_bd h11; clear h11
        refine g_cS (n := 5) (As := [va_rf v0, .int v1, .int v2, .int x9, .int v4]) X (ih eS12) tw801 tw802 tw51 tw803 (by decide +kernel) rfl rfl ⟨by show 8 + d + 1 ≤ 8 + (d + 1); omega, by show 8 + (6 + 11) + (200 + 25 * d) ≤ 200 + 25 * (d + 1); omega⟩ rfl rfl (Nat.le_of_ble_eq_true rfl) dX8_root_40 ⟨g10.1, g10.2⟩ ?_
        clear eS12
        refine g_aload_n (j := 1) X dX8_root_43 rfl rfl ?_
        refine g_iload_n (j := 2) X dX8_root_44 rfl rfl ?_
        refine g_iload_n (j := 3) X dX8_root_45 rfl rfl ?_
        refine g_iload (j := 0) X dX8_root_46 rfl ?_
        refine g_iadd X dX8_root_48 ?_
        refine g_iload_n (j := 4) X dX8_root_49 rfl rfl ?_
        refine g_iload (j := 0) X dX8_root_50 rfl ?_
        refine g_isub X dX8_root_52 ?_
        refine g_iload (j := 5) X dX8_root_53 rfl ?_
        refine g_iconst X dX8_root_55 (v := 1) (by decide) ?_
        refine g_iadd X dX8_root_56 ?_
        obtain ⟨g14, h15⟩ := g_gd h13; clear h13
        obtain ⟨S16, eS16, h17⟩ := g_bd h15; clear h15
        refine g_cS (n := 5) (As := [va_rf v0, .int v1, .int (v2 + x9), .int (v3 - x9), .int (v4 + 1)]) X (ih eS16) tw801 tw802 tw51 tw803 (by decide +kernel) rfl rfl ⟨by show 8 + d + 1 ≤ 8 + (d + 1); omega, by show 8 + (6 + 11) + (200 + 25 * d) ≤ 200 + 25 * (d + 1); omega⟩ rfl rfl (Nat.le_of_ble_eq_true rfl) dX8_root_57 ⟨g14.1, g14.2⟩ ?_
        clear eS16
        refine g_aload_n (j := 1) X dX8_root_60 rfl rfl ?_
        refine g_iload (j := 5) X dX8_root_61 rfl ?_
        refine g_iload (j := 5) X dX8_root_63 rfl ?_
        refine g_iconst X dX8_root_65 (v := 1) (by decide) ?_
        refine g_iadd X dX8_root_66 ?_
        refine g_iload (j := 5) X dX8_root_67 rfl ?_
        obtain ⟨a18, ea18, ka18, h19⟩ := g_dc h17; clear h17
        obtain ⟨g20, h21⟩ := g_gd h19; clear h19
        obtain ⟨S22, eS22, h23⟩ := g_bd h21; clear h21
        refine g_cV (n := 3) (As := [.int v4, .int (v4 + 1), .int v4]) X (c_X8_node hl D eS22) tw838 tw839 tw22 tw51 tw840 (by decide +kernel) rfl rfl ⟨by show 3 + 1 ≤ 8 + (d + 1); omega, by show 8 + (4 + 11) + (77) ≤ 200 + 25 * (d + 1); omega⟩ (ci := 8) rfl (by decide) ea18 ka18 rfl rfl (Nat.le_of_ble_eq_true rfl) dX8_root_69 ⟨g20.1, g20.2⟩ ?_
        clear eS22 ea18 ka18
        cases h23
        exact g_vret X hr g20.1 g20.2 dX8_root_72
      · have h6 := g_ip h2 c4; clear h2
        refine g_aload_n (j := 0) X dX8_root_16 rfl rfl ?_
        refine g_iload_n (j := 1) X dX8_root_17 rfl rfl ?_
        refine g_iload_n (j := 2) X dX8_root_18 rfl rfl ?_
        refine g_iload (j := 4) X dX8_root_19 rfl ?_
        obtain ⟨a24, ea24, ka24, h25⟩ := g_dc h6; clear h6
        obtain ⟨g26, h27⟩ := g_gd h25; clear h25
        obtain ⟨S28, eS28, h29⟩ := g_bd h27; clear h27
        refine g_cV (n := 3) (As := [.int v1, .int v2, .int v4]) X (c_X8_leafOf hl D eS28) tw827 tw828 tw21 tw51 tw829 (by decide +kernel) rfl rfl ⟨by show 3 + 1 ≤ 8 + (d + 1); omega, by show 8 + (6 + 11) + (77) ≤ 200 + 25 * (d + 1); omega⟩ (ci := 8) rfl (by decide) ea24 ka24 rfl rfl (Nat.le_of_ble_eq_true rfl) dX8_root_21 ⟨g26.1, g26.2⟩ ?_
        clear eS28 ea24 ka24
        cases h29
        exact g_vret X hr g26.1 g26.2 dX8_root_24
    · have h3 := g_ip h0 c1; clear h0
      refine g_aload_n (j := 0) X dX8_root_4 rfl rfl ?_
      refine g_iload (j := 4) X dX8_root_5 rfl ?_
      obtain ⟨a30, ea30, ka30, h31⟩ := g_dc h3; clear h3
      obtain ⟨g32, h33⟩ := g_gd h31; clear h31
      obtain ⟨S34, eS34, h35⟩ := g_bd h33; clear h33
      refine g_cV (n := 1) (As := [.int v4]) X (c_X8_digest hl D eS34) tw804 tw805 tw17 tw51 tw806 (by decide +kernel) rfl rfl ⟨by show 2 + 1 ≤ 8 + (d + 1); omega, by show 8 + (5 + 11) + (53) ≤ 200 + 25 * (d + 1); omega⟩ (ci := 8) rfl (by decide) ea30 ka30 rfl rfl (Nat.le_of_ble_eq_true rfl) dX8_root_7 ⟨g32.1, g32.2⟩ ?_
      clear eS34 ea30 ka30
      cases h35
      exact g_vret X hr g32.1 g32.2 dX8_root_10
def f_X8_fromTape_L2 : Nat → gS → Nat → Int32 → Int32 → Int32 → Option gS
  | 0, _, _, _, _, _ => none
  | k + 1, S0, a0, v1, v2, v3 =>
    if 8 ≤ v3 then
      some S0
    else
      (fgR S0 8 21 (some a0)).bind fun x4 =>
      (fgR S0 8 1 (some a0)).bind fun x6 =>
      (fI S0 10 x6 (v1 + (4 * v3))).bind fun x8 =>
      (fgR S0 8 1 (some a0)).bind fun x10 =>
      (fI S0 10 x10 ((v1 + (4 * v3)) + 1)).bind fun x12 =>
      (fgR S0 8 1 (some a0)).bind fun x14 =>
      (fI S0 10 x14 ((v1 + (4 * v3)) + 2)).bind fun x16 =>
      (fgR S0 8 1 (some a0)).bind fun x18 =>
      (fI S0 10 x18 ((v1 + (4 * v3)) + 3)).bind fun x20 =>
      (faI S0 x4 ((8 * v2) + v3) ((((x8 <<< (24 &&& 31)) ||| (x12 <<< (16 &&& 31))) ||| (x16 <<< (8 &&& 31))) ||| x20)).bind fun S22 =>
      gLet (v3 + 1) fun x24 =>
      f_X8_fromTape_L2 k S22 a0 v1 v2 x24
set_option maxRecDepth 100000 in
set_option maxHeartbeats 4000000 in
theorem w_X8_fromTape_L2 {p : Program} {l : Launch} {e : Env} {s : State} {m : MethodId} {args : Array Value} {below : List Frame} {meth : Method} {c : Code} {D : gD} {S9 : gS}  (hl : l.stackTraces = false) (X : gX D p l s m args meth c cX8_fromTape 4 RX8) (hr : meth.sig.returnType = none) : ∀ (k : Nat) (S0 : gS) (a0 : Nat) (v1 : Int32) (v2 : Int32) (v3 : Int32), f_X8_fromTape_L2 k S0 a0 v1 v2 v3 = some S9 → gJ D p l e { frames := 0, cells := 0, slots := 0, locals := 0 } s m args below meth c (MQ below (gQ D none S9) args s (0) (0) (gF D)) 4 (0) (0) S0 2 [(0, va_rf (some a0)), (1, .int v1), (2, .int v2), (3, .int v3)] [] := by
  intro k
  induction k with
  | zero => intro S0 a0 v1 v2 v3 h0; cases h0
  | succ k ih =>
    intro S0 a0 v1 v2 v3 h0
    have h0 := h0
    unfold f_X8_fromTape_L2 at h0
    refine g_iload_n (j := 3) X dX8_fromTape_2 rfl rfl ?_
    refine g_bipush X dX8_fromTape_3 (v := 8) (by decide) ?_
    refine g_icmp_ge (tgt := 83) X dX8_fromTape_5 (by decide) (fun c1 => ?_) (fun c1 => ?_)
    · have h2 := g_ip h0 c1; clear h0
      cases h2
      exact g_vret X hr (by decide) (by decide) dX8_fromTape_83
    · have h3 := g_in h0 c1; clear h0
      refine g_aload_n (j := 0) X dX8_fromTape_8 rfl rfl ?_
      obtain ⟨x4, ex4, h5⟩ := g_bd h3; clear h3
      refine g_fR (ci := 8) (k := 21) X rfl il8 (by decide) tw724 (by decide) (fun _ _ _ => rfl) ex4 dX8_fromTape_9 ?_
      clear ex4
      refine g_bipush X dX8_fromTape_12 (v := 8) (by decide) ?_
      refine g_iload_n (j := 2) X dX8_fromTape_14 rfl rfl ?_
      refine g_imul X dX8_fromTape_15 ?_
      refine g_iload_n (j := 3) X dX8_fromTape_16 rfl rfl ?_
      refine g_iadd X dX8_fromTape_17 ?_
      refine g_aload_n (j := 0) X dX8_fromTape_18 rfl rfl ?_
      obtain ⟨x6, ex6, h7⟩ := g_bd h5; clear h5
      refine g_fR (ci := 8) (k := 1) X rfl il8 (by decide) tw704 (by decide) (fun _ _ _ => rfl) ex6 dX8_fromTape_19 ?_
      clear ex6
      refine g_iload_n (j := 1) X dX8_fromTape_22 rfl rfl ?_
      refine g_iconst X dX8_fromTape_23 (v := 4) (by decide) ?_
      refine g_iload_n (j := 3) X dX8_fromTape_24 rfl rfl ?_
      refine g_imul X dX8_fromTape_25 ?_
      refine g_iadd X dX8_fromTape_26 ?_
      obtain ⟨x8, ex8, h9⟩ := g_bd h7; clear h7
      refine g_iald X ex8 dX8_fromTape_27 ?_
      clear ex8
      refine g_bipush X dX8_fromTape_28 (v := 24) (by decide) ?_
      refine g_ishl X dX8_fromTape_30 ?_
      refine g_aload_n (j := 0) X dX8_fromTape_31 rfl rfl ?_
      obtain ⟨x10, ex10, h11⟩ := g_bd h9; clear h9
      refine g_fR (ci := 8) (k := 1) X rfl il8 (by decide) tw704 (by decide) (fun _ _ _ => rfl) ex10 dX8_fromTape_32 ?_
      clear ex10
      refine g_iload_n (j := 1) X dX8_fromTape_35 rfl rfl ?_
      refine g_iconst X dX8_fromTape_36 (v := 4) (by decide) ?_
      refine g_iload_n (j := 3) X dX8_fromTape_37 rfl rfl ?_
      refine g_imul X dX8_fromTape_38 ?_
      refine g_iadd X dX8_fromTape_39 ?_
      refine g_iconst X dX8_fromTape_40 (v := 1) (by decide) ?_
      refine g_iadd X dX8_fromTape_41 ?_
      obtain ⟨x12, ex12, h13⟩ := g_bd h11; clear h11
      refine g_iald X ex12 dX8_fromTape_42 ?_
      clear ex12
      refine g_bipush X dX8_fromTape_43 (v := 16) (by decide) ?_
      refine g_ishl X dX8_fromTape_45 ?_
      refine g_ior X dX8_fromTape_46 ?_
      refine g_aload_n (j := 0) X dX8_fromTape_47 rfl rfl ?_
      obtain ⟨x14, ex14, h15⟩ := g_bd h13; clear h13
      refine g_fR (ci := 8) (k := 1) X rfl il8 (by decide) tw704 (by decide) (fun _ _ _ => rfl) ex14 dX8_fromTape_48 ?_
      clear ex14
      refine g_iload_n (j := 1) X dX8_fromTape_51 rfl rfl ?_
      refine g_iconst X dX8_fromTape_52 (v := 4) (by decide) ?_
      refine g_iload_n (j := 3) X dX8_fromTape_53 rfl rfl ?_
      refine g_imul X dX8_fromTape_54 ?_
      refine g_iadd X dX8_fromTape_55 ?_
      refine g_iconst X dX8_fromTape_56 (v := 2) (by decide) ?_
      refine g_iadd X dX8_fromTape_57 ?_
      obtain ⟨x16, ex16, h17⟩ := g_bd h15; clear h15
      refine g_iald X ex16 dX8_fromTape_58 ?_
      clear ex16
      refine g_bipush X dX8_fromTape_59 (v := 8) (by decide) ?_
      refine g_ishl X dX8_fromTape_61 ?_
      refine g_ior X dX8_fromTape_62 ?_
      refine g_aload_n (j := 0) X dX8_fromTape_63 rfl rfl ?_
      obtain ⟨x18, ex18, h19⟩ := g_bd h17; clear h17
      refine g_fR (ci := 8) (k := 1) X rfl il8 (by decide) tw704 (by decide) (fun _ _ _ => rfl) ex18 dX8_fromTape_64 ?_
      clear ex18
      refine g_iload_n (j := 1) X dX8_fromTape_67 rfl rfl ?_
      refine g_iconst X dX8_fromTape_68 (v := 4) (by decide) ?_
      refine g_iload_n (j := 3) X dX8_fromTape_69 rfl rfl ?_
      refine g_imul X dX8_fromTape_70 ?_
      refine g_iadd X dX8_fromTape_71 ?_
      refine g_iconst X dX8_fromTape_72 (v := 3) (by decide) ?_
      refine g_iadd X dX8_fromTape_73 ?_
      obtain ⟨x20, ex20, h21⟩ := g_bd h19; clear h19
      refine g_iald X ex20 dX8_fromTape_74 ?_
      clear ex20
      refine g_ior X dX8_fromTape_75 ?_
      obtain ⟨S22, eS22, h23⟩ := g_bd h21; clear h21
      refine g_iast X eS22 dX8_fromTape_76 ?_
      clear eS22
      obtain ⟨x24, ex24, h25⟩ := g_let h23; clear h23
      refine g_iinc (j := 3) (v := x24) (lv' := [(3, .int x24), (0, va_rf (some a0)), (1, .int v1), (2, .int v2)]) X dX8_fromTape_77 rfl (by rw [ex24]; rfl) (by decide) rfl ?_
      clear ex24
      refine g_goto (tgt := 2) X dX8_fromTape_80 (by decide) ?_
      refine g_sub [1, 2, 3, 0] rfl ?_
      exact ih S22 a0 v1 v2 x24 h25
def f_X8_fromTape (S0 : gS) (a0 : Nat) (v1 : Int32) (v2 : Int32) : Option gS :=
  f_X8_fromTape_L2 gFuel S0 a0 v1 v2 0
set_option maxRecDepth 100000 in
set_option maxHeartbeats 4000000 in
theorem c_X8_fromTape {l : Launch} (hl : l.stackTraces = false) (D : gD)  {S0 S9 : gS} {a0 : Nat} {v1 : Int32} {v2 : Int32} (h0 : f_X8_fromTape S0 a0 v1 v2 = some S9) : Met l yX8_fromTape (gws yX8_fromTape cX8_fromTape 4 none) { frames := 0, cells := 0, slots := 0, locals := 0 } (gPc D S0 [.ref a0, .int v1, .int v2]) (gQ D none S9) (0) (0) (gF D) := by
  refine g_met (lv := [(0, va_rf (some a0)), (1, .int v1), (2, .int v2)]) hl (by decide) (Nat.le_of_ble_eq_true rfl) rfl (fun p e s m args below meth c X hr hn => ?_)
  have X : gX D p l s m args meth c cX8_fromTape 4 RX8 := X
  unfold f_X8_fromTape at h0
  refine g_iconst X dX8_fromTape_0 (v := 0) (by decide) ?_
  refine g_istore_n (i := 3) (lv' := [(3, .int 0), (0, va_rf (some a0)), (1, .int v1), (2, .int v2)]) X dX8_fromTape_1 rfl (by decide) rfl ?_
  refine g_sub [1, 2, 3, 0] rfl ?_
  exact w_X8_fromTape_L2 hl X hr gFuel S0 a0 v1 v2 0 h0
def f_X8_outSlot_L2 : Nat → gS → Nat → Int32 → Int32 → Option gS
  | 0, _, _, _, _ => none
  | k + 1, S0, a0, v1, v2 =>
    if 32 ≤ v2 then
      (fgI S0 8 4 (some a0)).bind fun x4 =>
      (fpI S0 8 4 (some a0) (x4 + 32)).bind fun S6 =>
      some S6
    else
      (fgR S0 8 3 (some a0)).bind fun x8 =>
      (fgI S0 8 4 (some a0)).bind fun x10 =>
      (fgR S0 8 21 (some a0)).bind fun x12 =>
      (fI S0 10 x12 ((8 * v1) + (v2 / 4))).bind fun x14 =>
      (faI S0 x8 (x10 + v2) ((x14 >>> ((24 - (8 * (v2 - v2 / 4 * 4))) &&& 31)) &&& 255)).bind fun S16 =>
      gLet (v2 + 1) fun x18 =>
      f_X8_outSlot_L2 k S16 a0 v1 x18
set_option maxRecDepth 100000 in
set_option maxHeartbeats 4000000 in
theorem w_X8_outSlot_L2 {p : Program} {l : Launch} {e : Env} {s : State} {m : MethodId} {args : Array Value} {below : List Frame} {meth : Method} {c : Code} {D : gD} {S9 : gS}  (hl : l.stackTraces = false) (X : gX D p l s m args meth c cX8_outSlot 3 RX8) (hr : meth.sig.returnType = none) : ∀ (k : Nat) (S0 : gS) (a0 : Nat) (v1 : Int32) (v2 : Int32), f_X8_outSlot_L2 k S0 a0 v1 v2 = some S9 → gJ D p l e { frames := 0, cells := 0, slots := 0, locals := 0 } s m args below meth c (MQ below (gQ D none S9) args s (0) (0) (gF D)) 3 (0) (0) S0 2 [(0, va_rf (some a0)), (1, .int v1), (2, .int v2)] [] := by
  intro k
  induction k with
  | zero => intro S0 a0 v1 v2 h0; cases h0
  | succ k ih =>
    intro S0 a0 v1 v2 h0
    have h0 := h0
    unfold f_X8_outSlot_L2 at h0
    refine g_iload_n (j := 2) X dX8_outSlot_2 rfl rfl ?_
    refine g_bipush X dX8_outSlot_3 (v := 32) (by decide) ?_
    refine g_icmp_ge (tgt := 52) X dX8_outSlot_5 (by decide) (fun c1 => ?_) (fun c1 => ?_)
    · have h2 := g_ip h0 c1; clear h0
      refine g_aload_n (j := 0) X dX8_outSlot_52 rfl rfl ?_
      refine g_dup X dX8_outSlot_53 (g_rfc _) ?_
      obtain ⟨x4, ex4, h5⟩ := g_bd h2; clear h2
      refine g_fI (ci := 8) (k := 4) X rfl il8 (by decide) tw707 (by decide) (fun _ _ _ => rfl) ex4 dX8_outSlot_54 ?_
      clear ex4
      refine g_bipush X dX8_outSlot_57 (v := 32) (by decide) ?_
      refine g_iadd X dX8_outSlot_59 ?_
      obtain ⟨S6, eS6, h7⟩ := g_bd h5; clear h5
      refine g_pI (ci := 8) (k := 4) X rfl il8 tyX8 tyX8_ok nmX8 (by decide) tw707 rfl (by decide) (fun _ _ _ => rfl) rfl eS6 dX8_outSlot_60 ?_
      clear eS6
      cases h7
      exact g_vret X hr (by decide) (by decide) dX8_outSlot_63
    · have h3 := g_in h0 c1; clear h0
      refine g_aload_n (j := 0) X dX8_outSlot_8 rfl rfl ?_
      obtain ⟨x8, ex8, h9⟩ := g_bd h3; clear h3
      refine g_fR (ci := 8) (k := 3) X rfl il8 (by decide) tw706 (by decide) (fun _ _ _ => rfl) ex8 dX8_outSlot_9 ?_
      clear ex8
      refine g_aload_n (j := 0) X dX8_outSlot_12 rfl rfl ?_
      obtain ⟨x10, ex10, h11⟩ := g_bd h9; clear h9
      refine g_fI (ci := 8) (k := 4) X rfl il8 (by decide) tw707 (by decide) (fun _ _ _ => rfl) ex10 dX8_outSlot_13 ?_
      clear ex10
      refine g_iload_n (j := 2) X dX8_outSlot_16 rfl rfl ?_
      refine g_iadd X dX8_outSlot_17 ?_
      refine g_aload_n (j := 0) X dX8_outSlot_18 rfl rfl ?_
      obtain ⟨x12, ex12, h13⟩ := g_bd h11; clear h11
      refine g_fR (ci := 8) (k := 21) X rfl il8 (by decide) tw724 (by decide) (fun _ _ _ => rfl) ex12 dX8_outSlot_19 ?_
      clear ex12
      refine g_bipush X dX8_outSlot_22 (v := 8) (by decide) ?_
      refine g_iload_n (j := 1) X dX8_outSlot_24 rfl rfl ?_
      refine g_imul X dX8_outSlot_25 ?_
      refine g_iload_n (j := 2) X dX8_outSlot_26 rfl rfl ?_
      refine g_iconst X dX8_outSlot_27 (v := 4) (by decide) ?_
      refine g_idiv X dX8_outSlot_28 (by decide) ?_
      refine g_iadd X dX8_outSlot_29 ?_
      obtain ⟨x14, ex14, h15⟩ := g_bd h13; clear h13
      refine g_iald X ex14 dX8_outSlot_30 ?_
      clear ex14
      refine g_bipush X dX8_outSlot_31 (v := 24) (by decide) ?_
      refine g_bipush X dX8_outSlot_33 (v := 8) (by decide) ?_
      refine g_iload_n (j := 2) X dX8_outSlot_35 rfl rfl ?_
      refine g_iconst X dX8_outSlot_36 (v := 4) (by decide) ?_
      refine g_irem X dX8_outSlot_37 (by decide) ?_
      refine g_imul X dX8_outSlot_38 ?_
      refine g_isub X dX8_outSlot_39 ?_
      refine g_ishr X dX8_outSlot_40 ?_
      refine g_sipush X dX8_outSlot_41 (v := 255) (by decide) ?_
      refine g_iand X dX8_outSlot_44 ?_
      obtain ⟨S16, eS16, h17⟩ := g_bd h15; clear h15
      refine g_iast X eS16 dX8_outSlot_45 ?_
      clear eS16
      obtain ⟨x18, ex18, h19⟩ := g_let h17; clear h17
      refine g_iinc (j := 2) (v := x18) (lv' := [(2, .int x18), (0, va_rf (some a0)), (1, .int v1)]) X dX8_outSlot_46 rfl (by rw [ex18]; rfl) (by decide) rfl ?_
      clear ex18
      refine g_goto (tgt := 2) X dX8_outSlot_49 (by decide) ?_
      refine g_sub [1, 2, 0] rfl ?_
      exact ih S16 a0 v1 x18 h19
def f_X8_outSlot (S0 : gS) (a0 : Nat) (v1 : Int32) : Option gS :=
  f_X8_outSlot_L2 gFuel S0 a0 v1 0
set_option maxRecDepth 100000 in
set_option maxHeartbeats 4000000 in
theorem c_X8_outSlot {l : Launch} (hl : l.stackTraces = false) (D : gD)  {S0 S9 : gS} {a0 : Nat} {v1 : Int32} (h0 : f_X8_outSlot S0 a0 v1 = some S9) : Met l yX8_outSlot (gws yX8_outSlot cX8_outSlot 3 none) { frames := 0, cells := 0, slots := 0, locals := 0 } (gPc D S0 [.ref a0, .int v1]) (gQ D none S9) (0) (0) (gF D) := by
  refine g_met (lv := [(0, va_rf (some a0)), (1, .int v1)]) hl (by decide) (Nat.le_of_ble_eq_true rfl) rfl (fun p e s m args below meth c X hr hn => ?_)
  have X : gX D p l s m args meth c cX8_outSlot 3 RX8 := X
  unfold f_X8_outSlot at h0
  refine g_iconst X dX8_outSlot_0 (v := 0) (by decide) ?_
  refine g_istore_n (i := 2) (lv' := [(2, .int 0), (0, va_rf (some a0)), (1, .int v1)]) X dX8_outSlot_1 rfl (by decide) rfl ?_
  refine g_sub [1, 2, 0] rfl ?_
  exact w_X8_outSlot_L2 hl X hr gFuel S0 a0 v1 0 h0
