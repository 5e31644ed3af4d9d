def f_X8_has_L70 : Nat → gS → Nat → Int32 → Int32 → Option (Int32 × gS)
  | 0, _, _, _, _ => none
  | k + 1, S0, a0, v4, v5 =>
    if 80 ≤ v5 then
      (fpI S0 8 4 (some a0) 80).bind fun S20 =>
      some (1, S20)
    else
      (fgR S0 8 3 (some a0)).bind fun x22 =>
      (fgR S0 8 14 (some a0)).bind fun x24 =>
      (fI S0 10 x24 ((80 * v4) + v5)).bind fun x26 =>
      (faI S0 x22 v5 x26).bind fun S28 =>
      gLet (v5 + 1) fun x30 =>
      f_X8_has_L70 k S28 a0 v4 x30
set_option maxRecDepth 100000 in
set_option maxHeartbeats 4000000 in
theorem w_X8_has_L70 {p : Program} {l : Launch} {e : Env} {s : State} {m : MethodId} {args : Array Value} {below : List Frame} {meth : Method} {c : Code} {D : gD} {S9 : gS} {res : Int32}  (hl : l.stackTraces = false) (X : gX D p l s m args meth c cX8_has 6 RX8) (hr : meth.sig.returnType = (some .boolean)) : ∀ (k : Nat) (S0 : gS) (a0 : Nat) (v4 : Int32) (v5 : Int32), f_X8_has_L70 k S0 a0 v4 v5 = some (res, S9) → gJ D p l e { frames := 1, cells := 0, slots := 0, locals := 22 } s m args below meth c (MQ below (gQ D (some (.int res)) S9) args s (0) (0) (gF D)) 6 (0) (0) S0 70 [(0, va_rf (some a0)), (4, .int v4), (5, .int v5)] [] := by
  intro k
  induction k with
  | zero => intro S0 a0 v4 v5 h0; cases h0
  | succ k ih =>
    intro S0 a0 v4 v5 h0
    have h0 := h0
    unfold f_X8_has_L70 at h0
    refine g_iload (j := 2) X dX8_has_70 rfl ?_
    refine g_bipush X dX8_has_72 (v := 80) (by decide) ?_
    refine g_icmp_ge (tgt := 103) X dX8_has_74 (by decide) (fun c17 => ?_) (fun c17 => ?_)
    · have h18 := g_ip h0 c17; clear h0
      refine g_aload_n (j := 0) X dX8_has_103 rfl rfl ?_
      refine g_bipush X dX8_has_104 (v := 80) (by decide) ?_
      obtain ⟨S20, eS20, h21⟩ := g_bd h18; clear h18
      refine g_pI (ci := 8) (k := 4) X rfl il8 tyX8 tyX8_ok nmX8 (by decide) tw713 rfl (by decide) (fun _ _ _ => rfl) rfl eS20 dX8_has_106 ?_
      clear eS20
      refine g_iconst X dX8_has_109 (v := 1) (by decide) ?_
      obtain ⟨rfl, rfl⟩ := g_end h21
      exact g_zret X hr (Or.inr rfl) (by decide) (by decide) dX8_has_110
    · have h19 := g_in h0 c17; clear h0
      refine g_aload_n (j := 0) X dX8_has_77 rfl rfl ?_
      obtain ⟨x22, ex22, h23⟩ := g_bd h19; clear h19
      refine g_fR (ci := 8) (k := 3) X rfl il8 (by decide) tw712 (by decide) (fun _ _ _ => rfl) ex22 dX8_has_78 ?_
      clear ex22
      refine g_iload (j := 2) X dX8_has_81 rfl ?_
      refine g_aload_n (j := 0) X dX8_has_83 rfl rfl ?_
      obtain ⟨x24, ex24, h25⟩ := g_bd h23; clear h23
      refine g_fR (ci := 8) (k := 14) X rfl il8 (by decide) tw723 (by decide) (fun _ _ _ => rfl) ex24 dX8_has_84 ?_
      clear ex24
      refine g_bipush X dX8_has_87 (v := 80) (by decide) ?_
      refine g_iload (j := 1) X dX8_has_89 rfl ?_
      refine g_imul X dX8_has_91 ?_
      refine g_iload (j := 2) X dX8_has_92 rfl ?_
      refine g_iadd X dX8_has_94 ?_
      obtain ⟨x26, ex26, h27⟩ := g_bd h25; clear h25
      refine g_iald X ex26 dX8_has_95 ?_
      clear ex26
      obtain ⟨S28, eS28, h29⟩ := g_bd h27; clear h27
      refine g_iast X eS28 dX8_has_96 ?_
      clear eS28
      obtain ⟨x30, ex30, h31⟩ := g_let h29; clear h29
      refine g_iinc (j := 2) (v := x30) (lv' := [(5, .int x30), (0, va_rf (some a0)), (4, .int v4)]) X dX8_has_97 rfl (by rw [ex30]; rfl) (by decide) rfl ?_
      clear ex30
      refine g_goto (tgt := 70) X dX8_has_100 (by decide) ?_
      refine g_sub [1, 2, 0] rfl ?_
      exact ih S28 a0 v4 x30 h31
def f_X8_has_B47 (S0 : gS) (a0 : Nat) (v1 : Int32) (v2 : Int32) (v3 : Int32) (t0 : Int32) (t1 : Option Nat) : Option (Int32 × gS) :=
  (fpI S0 8 0 t1 t0).bind fun S7 =>
  (fgI S7 8 0 (some a0)).bind fun x9 =>
  if x9 ≤ 0 then
    gBi (f_X8_placeOf S7 v1 v2 v3) fun x16 S14 =>
    f_X8_has_L70 gFuel S14 a0 x16 0
  else
    some (0, S7)
set_option maxRecDepth 100000 in
set_option maxHeartbeats 4000000 in
theorem w_X8_has_B47 {p : Program} {l : Launch} {e : Env} {s : State} {m : MethodId} {args : Array Value} {below : List Frame} {meth : Method} {c : Code} {D : gD} {S9 : gS} {res : Int32}  (hl : l.stackTraces = false) (X : gX D p l s m args meth c cX8_has 6 RX8) (hr : meth.sig.returnType = (some .boolean)) (S0 : gS) (a0 : Nat) (v1 : Int32) (v2 : Int32) (v3 : Int32) (t0 : Int32) (t1 : Option Nat) (h0 : f_X8_has_B47 S0 a0 v1 v2 v3 t0 t1 = some (res, S9)) : gJ D p l e { frames := 1, cells := 0, slots := 0, locals := 22 } s m args below meth c (MQ below (gQ D (some (.int res)) S9) args s (0) (0) (gF D)) 6 (0) (0) S0 47 [(0, va_rf (some a0)), (1, .int v1), (2, .int v2), (3, .int v3)] [.int t0, va_rf t1] := by
  unfold f_X8_has_B47 at h0
  obtain ⟨S7, eS7, h8⟩ := g_bd h0; clear h0
  refine g_pI (ci := 8) (k := 0) X rfl il8 tyX8 tyX8_ok nmX8 (by decide) tw709 rfl (by decide) (fun _ _ _ => rfl) rfl eS7 dX8_has_47 ?_
  clear eS7
  refine g_aload_n (j := 0) X dX8_has_50 rfl rfl ?_
  obtain ⟨x9, ex9, h10⟩ := g_bd h8; clear h8
  refine g_fI (ci := 8) (k := 0) X rfl il8 (by decide) tw709 (by decide) (fun _ _ _ => rfl) ex9 dX8_has_51 ?_
  clear ex9
  refine g_if_le (tgt := 59) X dX8_has_54 (by decide) (fun c11 => ?_) (fun c11 => ?_)
  · have h12 := g_ip h10 c11; clear h10
    refine g_iload_n (j := 1) X dX8_has_59 rfl rfl ?_
    refine g_iload_n (j := 2) X dX8_has_60 rfl rfl ?_
    refine g_iload_n (j := 3) X dX8_has_61 rfl rfl ?_
    obtain ⟨x16, S14, eS14, h15⟩ := g_bi h12; clear h12
    refine g_cS (n := 3) (As := [.int v1, .int v2, .int v3]) X (c_X8_placeOf hl D eS14) tw958 tw959 tw51 tw960 (by decide +kernel) rfl rfl ⟨by decide, by decide⟩ rfl rfl (Nat.le_of_ble_eq_true rfl) dX8_has_62 ⟨(by decide), (by decide)⟩ ?_
    clear eS14
    refine g_istore (i := 4) (lv' := [(4, .int x16), (0, va_rf (some a0)), (1, .int v1), (2, .int v2), (3, .int v3)]) X dX8_has_65 (by decide) rfl ?_
    refine g_iconst X dX8_has_67 (v := 0) (by decide) ?_
    refine g_istore (i := 5) (lv' := [(5, .int 0), (4, .int x16), (0, va_rf (some a0)), (1, .int v1), (2, .int v2), (3, .int v3)]) X dX8_has_68 (by decide) rfl ?_
    refine g_sub [2, 1, 0] rfl ?_
    exact w_X8_has_L70 hl X hr gFuel S14 a0 x16 0 h15
  · have h13 := g_in h10 c11; clear h10
    refine g_iconst X dX8_has_57 (v := 0) (by decide) ?_
    obtain ⟨rfl, rfl⟩ := g_end h13
    exact g_zret X hr (Or.inl rfl) (by decide) (by decide) dX8_has_58
def f_X8_has_B15 (S0 : gS) (a0 : Nat) (v1 : Int32) (v2 : Int32) (v3 : Int32) (t0 : Option Nat) : Option (Int32 × gS) :=
  f_X8_has_B47 S0 a0 v1 v2 v3 1 t0
set_option maxRecDepth 100000 in
set_option maxHeartbeats 4000000 in
theorem w_X8_has_B15 {p : Program} {l : Launch} {e : Env} {s : State} {m : MethodId} {args : Array Value} {below : List Frame} {meth : Method} {c : Code} {D : gD} {S9 : gS} {res : Int32}  (hl : l.stackTraces = false) (X : gX D p l s m args meth c cX8_has 6 RX8) (hr : meth.sig.returnType = (some .boolean)) (S0 : gS) (a0 : Nat) (v1 : Int32) (v2 : Int32) (v3 : Int32) (t0 : Option Nat) (h0 : f_X8_has_B15 S0 a0 v1 v2 v3 t0 = some (res, S9)) : gJ D p l e { frames := 1, cells := 0, slots := 0, locals := 22 } s m args below meth c (MQ below (gQ D (some (.int res)) S9) args s (0) (0) (gF D)) 6 (0) (0) S0 15 [(0, va_rf (some a0)), (1, .int v1), (2, .int v2), (3, .int v3)] [va_rf t0] := by
  unfold f_X8_has_B15 at h0
  refine g_iconst X dX8_has_15 (v := 1) (by decide) ?_
  refine g_goto (tgt := 47) X dX8_has_16 (by decide) ?_
  refine g_sub [0, 1, 2, 3] rfl ?_
  exact w_X8_has_B47 hl X hr S0 a0 v1 v2 v3 1 t0 h0
def f_X8_has_B42 (S0 : gS) (a0 : Nat) (v1 : Int32) (v2 : Int32) (v3 : Int32) (t0 : Option Nat) : Option (Int32 × gS) :=
  f_X8_has_B47 S0 a0 v1 v2 v3 2 t0
set_option maxRecDepth 100000 in
set_option maxHeartbeats 4000000 in
theorem w_X8_has_B42 {p : Program} {l : Launch} {e : Env} {s : State} {m : MethodId} {args : Array Value} {below : List Frame} {meth : Method} {c : Code} {D : gD} {S9 : gS} {res : Int32}  (hl : l.stackTraces = false) (X : gX D p l s m args meth c cX8_has 6 RX8) (hr : meth.sig.returnType = (some .boolean)) (S0 : gS) (a0 : Nat) (v1 : Int32) (v2 : Int32) (v3 : Int32) (t0 : Option Nat) (h0 : f_X8_has_B42 S0 a0 v1 v2 v3 t0 = some (res, S9)) : gJ D p l e { frames := 1, cells := 0, slots := 0, locals := 22 } s m args below meth c (MQ below (gQ D (some (.int res)) S9) args s (0) (0) (gF D)) 6 (0) (0) S0 42 [(0, va_rf (some a0)), (1, .int v1), (2, .int v2), (3, .int v3)] [va_rf t0] := by
  unfold f_X8_has_B42 at h0
  refine g_iconst X dX8_has_42 (v := 2) (by decide) ?_
  refine g_goto (tgt := 47) X dX8_has_43 (by decide) ?_
  refine g_sub [0, 1, 2, 3] rfl ?_
  exact w_X8_has_B47 hl X hr S0 a0 v1 v2 v3 2 t0 h0
def f_X8_has (S0 : gS) (a0 : Nat) (v1 : Int32) (v2 : Int32) (v3 : Int32) : Option (Int32 × gS) :=
  gBi (f_X8_isWitness S0 v1) fun x3 S1 =>
  if x3 = 0 then
    f_X8_has_B15 S1 a0 v1 v2 v3 (some a0)
  else
    gBi (f_X8_isLog S1 v2) fun x34 S32 =>
    if x34 = 0 then
      f_X8_has_B15 S32 a0 v1 v2 v3 (some a0)
    else
      if v3 < 0 then
        f_X8_has_B42 S32 a0 v1 v2 v3 (some a0)
      else
        if 2 < v3 then
          f_X8_has_B42 S32 a0 v1 v2 v3 (some a0)
        else
          (fgR S32 8 15 (some a0)).bind fun x44 =>
          gBi (f_X8_placeOf S32 v1 v2 v3) fun x48 S46 =>
          (fI S46 12 x44 x48).bind fun x49 =>
          if x49 = 0 then
            f_X8_has_B42 S46 a0 v1 v2 v3 (some a0)
          else
            f_X8_has_B47 S46 a0 v1 v2 v3 0 (some a0)
set_option maxRecDepth 100000 in
set_option maxHeartbeats 4000000 in
theorem c_X8_has {l : Launch} (hl : l.stackTraces = false) (D : gD)  {S0 S9 : gS} {a0 : Nat} {v1 : Int32} {v2 : Int32} {v3 : Int32} {res : Int32} (h0 : f_X8_has S0 a0 v1 v2 v3 = some (res, S9)) : Met l yX8_has (gws yX8_has cX8_has 6 (some .boolean)) { frames := 1, cells := 0, slots := 0, locals := 22 } (gPc D S0 [.ref a0, .int v1, .int v2, .int v3]) (gQ D (some (.int res)) S9) (0) (0) (gF D) := by
  refine g_met (lv := [(0, va_rf (some a0)), (1, .int v1), (2, .int v2), (3, .int v3)]) hl (by decide) (Nat.le_of_ble_eq_true rfl) rfl (fun p e s m args below meth c X hr hn => ?_)
  have X : gX D p l s m args meth c cX8_has 6 RX8 := X
  unfold f_X8_has at h0
  refine g_aload_n (j := 0) X dX8_has_0 rfl rfl ?_
  refine g_iload_n (j := 1) X dX8_has_1 rfl rfl ?_
  obtain ⟨x3, S1, eS1, h2⟩ := g_bi h0; clear h0
  refine g_cS (n := 1) (As := [.int v1]) X (c_X8_isWitness hl D eS1) tw955 tw956 tw51 tw957 (by decide +kernel) rfl rfl ⟨by decide, by decide⟩ rfl rfl (Nat.le_of_ble_eq_true rfl) dX8_has_2 ⟨(by decide), (by decide)⟩ ?_
  clear eS1
  refine g_if_eq (tgt := 15) X dX8_has_5 (by decide) (fun c4 => ?_) (fun c4 => ?_)
  · have h5 := g_ip h2 c4; clear h2
    refine g_sub [0, 1, 2, 3] rfl ?_
    exact w_X8_has_B15 hl X hr S1 a0 v1 v2 v3 (some a0) h5
  · have h6 := g_in h2 c4; clear h2
    refine g_iload_n (j := 2) X dX8_has_8 rfl rfl ?_
    obtain ⟨x34, S32, eS32, h33⟩ := g_bi h6; clear h6
    refine g_cS (n := 1) (As := [.int v2]) X (c_X8_isLog hl D eS32) tw793 tw794 tw51 tw795 (by decide +kernel) rfl rfl ⟨by decide, by decide⟩ rfl rfl (Nat.le_of_ble_eq_true rfl) dX8_has_9 ⟨(by decide), (by decide)⟩ ?_
    clear eS32
    refine g_if_ne (tgt := 19) X dX8_has_12 (by decide) (fun c35 => ?_) (fun c35 => ?_)
    · have h36 := g_in h33 c35; clear h33
      refine g_iload_n (j := 3) X dX8_has_19 rfl rfl ?_
      refine g_if_lt (tgt := 42) X dX8_has_20 (by decide) (fun c38 => ?_) (fun c38 => ?_)
      · have h39 := g_ip h36 c38; clear h36
        refine g_sub [0, 1, 2, 3] rfl ?_
        exact w_X8_has_B42 hl X hr S32 a0 v1 v2 v3 (some a0) h39
      · have h40 := g_in h36 c38; clear h36
        refine g_iload_n (j := 3) X dX8_has_23 rfl rfl ?_
        refine g_iconst X dX8_has_24 (v := 2) (by decide) ?_
        refine g_icmp_gt (tgt := 42) X dX8_has_25 (by decide) (fun c41 => ?_) (fun c41 => ?_)
        · have h42 := g_ip h40 c41; clear h40
          refine g_sub [0, 1, 2, 3] rfl ?_
          exact w_X8_has_B42 hl X hr S32 a0 v1 v2 v3 (some a0) h42
        · have h43 := g_in h40 c41; clear h40
          refine g_aload_n (j := 0) X dX8_has_28 rfl rfl ?_
          obtain ⟨x44, ex44, h45⟩ := g_bd h43; clear h43
          refine g_fR (ci := 8) (k := 15) X rfl il8 (by decide) tw724 (by decide) (fun _ _ _ => rfl) ex44 dX8_has_29 ?_
          clear ex44
          refine g_iload_n (j := 1) X dX8_has_32 rfl rfl ?_
          refine g_iload_n (j := 2) X dX8_has_33 rfl rfl ?_
          refine g_iload_n (j := 3) X dX8_has_34 rfl rfl ?_
          obtain ⟨x48, S46, eS46, h47⟩ := g_bi h45; clear h45
          refine g_cS (n := 3) (As := [.int v1, .int v2, .int v3]) X (c_X8_placeOf hl D eS46) tw958 tw959 tw51 tw960 (by decide +kernel) rfl rfl ⟨by decide, by decide⟩ rfl rfl (by simp [g_rfc, g_ci, g_cj, g_cr]) dX8_has_35 ⟨(by decide), (by decide)⟩ ?_
          clear eS46
          obtain ⟨x49, ex49, h50⟩ := g_bd h47; clear h47
          refine g_zald X ex49 dX8_has_38 ?_
          clear ex49
          refine g_if_ne (tgt := 46) X dX8_has_39 (by decide) (fun c51 => ?_) (fun c51 => ?_)
          · have h52 := g_in h50 c51; clear h50
            refine g_iconst X dX8_has_46 (v := 0) (by decide) ?_
            refine g_sub [0, 1, 2, 3] rfl ?_
            exact w_X8_has_B47 hl X hr S46 a0 v1 v2 v3 0 (some a0) h52
          · have h53 := g_ip h50 c51; clear h50
            refine g_sub [0, 1, 2, 3] rfl ?_
            exact w_X8_has_B42 hl X hr S46 a0 v1 v2 v3 (some a0) h53
    · have h37 := g_ip h33 c35; clear h33
      refine g_sub [0, 1, 2, 3] rfl ?_
      exact w_X8_has_B15 hl X hr S32 a0 v1 v2 v3 (some a0) h37
