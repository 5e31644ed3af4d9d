def f_X8_follow_B275 (S0 : gS) (a0 : Nat) (v4 : Int64) (v8 : Int32) (v9 : Int32) : Option (Int32 × gS) :=
  if v9 = 0 then
    gDc S0 8 (some a0) fun a84 =>
    (f_X8_keep S0 a84 v8).bind fun S86 =>
    some (0, S86)
  else
    gDc S0 8 (some a0) fun a88 =>
    gBi (f_X8_seenLong S0 a88 v8 0) fun x92 S90 =>
    if 0 ≤ (lg_cmp v4 x92) then
      gDc S90 8 (some a0) fun a96 =>
      (f_X8_keep S90 a96 v8).bind fun S98 =>
      some (0, S98)
    else
      some (5, S90)
set_option maxRecDepth 100000 in
set_option maxHeartbeats 4000000 in
theorem w_X8_follow_B275 {p : Program} {l : Launch} {e : Env} {s : State} {m : MethodId} {args : Array Value} {below : List Frame} {meth : Method} {c : Code} {D : gD} {S9 : gS} {res : Int32}  (hl : l.stackTraces = false) (X : gX D p l s m args meth c cX8_follow 13 RX8) (hr : meth.sig.returnType = (some .int)) (S0 : gS) (a0 : Nat) (v4 : Int64) (v8 : Int32) (v9 : Int32) (h0 : f_X8_follow_B275 S0 a0 v4 v8 v9 = some (res, S9)) : gJ D p l e { frames := 6, cells := 143, slots := 1144, locals := 144 } s m args below meth c (MQ below (gQ D (some (.int res)) S9) args s (143) (1144) (gF D)) 13 (143) (1144) S0 275 [(0, va_rf (some a0)), (4, .long v4), (8, .int v8), (9, .int v9)] [] := by
  unfold f_X8_follow_B275 at h0
  refine g_iload (j := 3) X dX8_follow_275 rfl ?_
  refine g_if_eq (tgt := 295) X dX8_follow_277 (by decide) (fun c81 => ?_) (fun c81 => ?_)
  · have h82 := g_ip h0 c81; clear h0
    refine g_aload_n (j := 0) X dX8_follow_295 rfl rfl ?_
    refine g_iload (j := 2) X dX8_follow_296 rfl ?_
    obtain ⟨a84, ea84, ka84, h85⟩ := g_dc h82; clear h82
    obtain ⟨S86, eS86, h87⟩ := g_bd h85; clear h85
    refine g_cV (n := 1) (As := [.int v8]) X (c_X8_keep hl D eS86) tw970 tw971 tw41 tw51 tw972 (by decide +kernel) rfl rfl ⟨by decide, by decide⟩ (ci := 8) rfl (by decide) ea84 ka84 rfl rfl (Nat.le_of_ble_eq_true rfl) dX8_follow_298 ⟨(by decide), (by decide)⟩ ?_
    clear eS86 ea84 ka84
    refine g_iconst X dX8_follow_301 (v := 0) (by decide) ?_
    obtain ⟨rfl, rfl⟩ := g_end h87
    exact g_iret X hr (by decide) (by decide) dX8_follow_302
  · have h83 := g_in h0 c81; clear h0
    refine g_lload (j := 1) X dX8_follow_280 rfl ?_
    refine g_aload_n (j := 0) X dX8_follow_282 rfl rfl ?_
    refine g_iload (j := 2) X dX8_follow_283 rfl ?_
    refine g_iconst X dX8_follow_285 (v := 0) (by decide) ?_
    obtain ⟨a88, ea88, ka88, h89⟩ := g_dc h83; clear h83
    obtain ⟨x92, S90, eS90, h91⟩ := g_bi h89; clear h89
    refine g_cV (n := 2) (As := [.int v8, .int 0]) X (c_X8_seenLong hl D eS90) tw961 tw962 tw38 tw51 tw963 (by decide +kernel) rfl rfl ⟨by decide, by decide⟩ (ci := 8) rfl (by decide) ea88 ka88 rfl rfl (Nat.le_of_ble_eq_true rfl) dX8_follow_286 ⟨(by decide), (by decide)⟩ ?_
    clear eS90 ea88 ka88
    refine g_lcmp X dX8_follow_289 ?_
    refine g_if_ge (tgt := 295) X dX8_follow_290 (by decide) (fun c93 => ?_) (fun c93 => ?_)
    · have h94 := g_ip h91 c93; clear h91
      refine g_aload_n (j := 0) X dX8_follow_295 rfl rfl ?_
      refine g_iload (j := 2) X dX8_follow_296 rfl ?_
      obtain ⟨a96, ea96, ka96, h97⟩ := g_dc h94; clear h94
      obtain ⟨S98, eS98, h99⟩ := g_bd h97; clear h97
      refine g_cV (n := 1) (As := [.int v8]) X (c_X8_keep hl D eS98) tw970 tw971 tw41 tw51 tw972 (by decide +kernel) rfl rfl ⟨by decide, by decide⟩ (ci := 8) rfl (by decide) ea96 ka96 rfl rfl (Nat.le_of_ble_eq_true rfl) dX8_follow_298 ⟨(by decide), (by decide)⟩ ?_
      clear eS98 ea96 ka96
      refine g_iconst X dX8_follow_301 (v := 0) (by decide) ?_
      obtain ⟨rfl, rfl⟩ := g_end h99
      exact g_iret X hr (by decide) (by decide) dX8_follow_302
    · have h95 := g_in h91 c93; clear h91
      refine g_iconst X dX8_follow_293 (v := 5) (by decide) ?_
      obtain ⟨rfl, rfl⟩ := g_end h95
      exact g_iret X hr (by decide) (by decide) dX8_follow_294
def f_X8_follow_B243 (S0 : gS) (a0 : Nat) (v3 : Int32) (v4 : Int64) (v6 : Int64) (v8 : Int32) (v9 : Int32) (v10 : Int64) (t0 : Int32) : Option (Int32 × gS) :=
  if t0 = 0 then
    gDc S0 8 (some a0) fun a73 =>
    gBi (f_X8_goesOn S0 a73 v10 v6 80 v3) fun x77 S75 =>
    if x77 = 0 then
      some (4, S75)
    else
      f_X8_follow_B275 S75 a0 v4 v8 v9
  else
    if v3 = 80 then
      f_X8_follow_B275 S0 a0 v4 v8 v9
    else
      some (4, S0)
set_option maxRecDepth 100000 in
set_option maxHeartbeats 4000000 in
theorem w_X8_follow_B243 {p : Program} {l : Launch} {e : Env} {s : State} {m : MethodId} {args : Array Value} {below : List Frame} {meth : Method} {c : Code} {D : gD} {S9 : gS} {res : Int32}  (hl : l.stackTraces = false) (X : gX D p l s m args meth c cX8_follow 13 RX8) (hr : meth.sig.returnType = (some .int)) (S0 : gS) (a0 : Nat) (v3 : Int32) (v4 : Int64) (v6 : Int64) (v8 : Int32) (v9 : Int32) (v10 : Int64) (t0 : Int32) (h0 : f_X8_follow_B243 S0 a0 v3 v4 v6 v8 v9 v10 t0 = some (res, S9)) : gJ D p l e { frames := 6, cells := 143, slots := 1144, locals := 144 } s m args below meth c (MQ below (gQ D (some (.int res)) S9) args s (143) (1144) (gF D)) 13 (3) (24) S0 243 [(0, va_rf (some a0)), (3, .int v3), (4, .long v4), (6, .long v6), (8, .int v8), (9, .int v9), (10, .long v10)] [.int t0] := by
  unfold f_X8_follow_B243 at h0
  refine g_istore (i := 12) (lv' := [(12, .int t0), (0, va_rf (some a0)), (3, .int v3), (4, .long v4), (6, .long v6), (8, .int v8), (9, .int v9), (10, .long v10)]) X dX8_follow_243 (by decide) rfl ?_
  refine g_iload (j := 0) X dX8_follow_245 rfl ?_
  refine g_if_eq (tgt := 259) X dX8_follow_247 (by decide) (fun c70 => ?_) (fun c70 => ?_)
  · have h71 := g_ip h0 c70; clear h0
    refine g_aload_n (j := 1) X dX8_follow_259 rfl rfl ?_
    refine g_lload (j := 7) X dX8_follow_260 rfl ?_
    refine g_lload (j := 4) X dX8_follow_262 rfl ?_
    refine g_bipush X dX8_follow_264 (v := 80) (by decide) ?_
    refine g_iload_n (j := 2) X dX8_follow_266 rfl rfl ?_
    obtain ⟨a73, ea73, ka73, h74⟩ := g_dc h71; clear h71
    obtain ⟨x77, S75, eS75, h76⟩ := g_bi h74; clear h74
    refine g_cV (n := 4) (As := [.long v10, .long v6, .int 80, .int v3]) X (c_X8_goesOn hl D eS75) tw934 tw935 tw35 tw51 tw936 (by decide +kernel) rfl rfl ⟨by decide, by decide⟩ (ci := 8) rfl (by decide) ea73 ka73 rfl rfl (Nat.le_of_ble_eq_true rfl) dX8_follow_267 ⟨(by decide), (by decide)⟩ ?_
    clear eS75 ea73 ka73
    refine g_if_ne (tgt := 275) X dX8_follow_270 (by decide) (fun c78 => ?_) (fun c78 => ?_)
    · have h79 := g_in h76 c78; clear h76
      refine g_sub [1, 3, 5, 6] rfl ?_
      exact w_X8_follow_B275 hl X hr S75 a0 v4 v8 v9 h79
    · have h80 := g_ip h76 c78; clear h76
      refine g_iconst X dX8_follow_273 (v := 4) (by decide) ?_
      obtain ⟨rfl, rfl⟩ := g_end h80
      exact g_iret X hr (by decide) (by decide) dX8_follow_274
  · have h72 := g_in h0 c70; clear h0
    refine g_iload_n (j := 2) X dX8_follow_250 rfl rfl ?_
    refine g_bipush X dX8_follow_251 (v := 80) (by decide) ?_
    refine g_icmp_eq (tgt := 275) X dX8_follow_253 (by decide) (fun c100 => ?_) (fun c100 => ?_)
    · have h101 := g_ip h72 c100; clear h72
      refine g_sub [1, 3, 5, 6] rfl ?_
      refine g_wid (k := 143) (n := 1144) (by decide) (by decide) ?_
      exact w_X8_follow_B275 hl X hr S0 a0 v4 v8 v9 h101
    · have h102 := g_in h72 c100; clear h72
      refine g_goto (tgt := 273) X dX8_follow_256 (by decide) ?_
      refine g_iconst X dX8_follow_273 (v := 4) (by decide) ?_
      obtain ⟨rfl, rfl⟩ := g_end h102
      exact g_iret X hr (by decide) (by decide) dX8_follow_274
def f_X8_follow_B238 (S0 : gS) (a0 : Nat) (v3 : Int32) (v4 : Int64) (v6 : Int64) (v8 : Int32) (v9 : Int32) (v10 : Int64) : Option (Int32 × gS) :=
  f_X8_follow_B243 S0 a0 v3 v4 v6 v8 v9 v10 1
set_option maxRecDepth 100000 in
set_option maxHeartbeats 4000000 in
theorem w_X8_follow_B238 {p : Program} {l : Launch} {e : Env} {s : State} {m : MethodId} {args : Array Value} {below : List Frame} {meth : Method} {c : Code} {D : gD} {S9 : gS} {res : Int32}  (hl : l.stackTraces = false) (X : gX D p l s m args meth c cX8_follow 13 RX8) (hr : meth.sig.returnType = (some .int)) (S0 : gS) (a0 : Nat) (v3 : Int32) (v4 : Int64) (v6 : Int64) (v8 : Int32) (v9 : Int32) (v10 : Int64) (h0 : f_X8_follow_B238 S0 a0 v3 v4 v6 v8 v9 v10 = some (res, S9)) : gJ D p l e { frames := 6, cells := 143, slots := 1144, locals := 144 } s m args below meth c (MQ below (gQ D (some (.int res)) S9) args s (143) (1144) (gF D)) 13 (3) (24) S0 238 [(0, va_rf (some a0)), (3, .int v3), (4, .long v4), (6, .long v6), (8, .int v8), (9, .int v9), (10, .long v10)] [] := by
  unfold f_X8_follow_B238 at h0
  refine g_iconst X dX8_follow_238 (v := 1) (by decide) ?_
  refine g_goto (tgt := 243) X dX8_follow_239 (by decide) ?_
  refine g_sub [0, 1, 2, 3, 4, 5, 6] rfl ?_
  exact w_X8_follow_B243 hl X hr S0 a0 v3 v4 v6 v8 v9 v10 1 h0
def f_X8_follow_B218 (S0 : gS) (a0 : Nat) (v3 : Int32) (v4 : Int64) (v6 : Int64) (v8 : Int32) (v9 : Int32) (v10 : Int64) : Option (Int32 × gS) :=
  if v9 = 0 then
    f_X8_follow_B238 S0 a0 v3 v4 v6 v8 v9 v10
  else
    if (lg_cmp v6 v10) = 0 then
      f_X8_follow_B238 S0 a0 v3 v4 v6 v8 v9 v10
    else
      if (lg_cmp v10 0) = 0 then
        f_X8_follow_B238 S0 a0 v3 v4 v6 v8 v9 v10
      else
        f_X8_follow_B243 S0 a0 v3 v4 v6 v8 v9 v10 0
set_option maxRecDepth 100000 in
set_option maxHeartbeats 4000000 in
theorem w_X8_follow_B218 {p : Program} {l : Launch} {e : Env} {s : State} {m : MethodId} {args : Array Value} {below : List Frame} {meth : Method} {c : Code} {D : gD} {S9 : gS} {res : Int32}  (hl : l.stackTraces = false) (X : gX D p l s m args meth c cX8_follow 13 RX8) (hr : meth.sig.returnType = (some .int)) (S0 : gS) (a0 : Nat) (v3 : Int32) (v4 : Int64) (v6 : Int64) (v8 : Int32) (v9 : Int32) (v10 : Int64) (h0 : f_X8_follow_B218 S0 a0 v3 v4 v6 v8 v9 v10 = some (res, S9)) : gJ D p l e { frames := 6, cells := 143, slots := 1144, locals := 144 } s m args below meth c (MQ below (gQ D (some (.int res)) S9) args s (143) (1144) (gF D)) 13 (3) (24) S0 218 [(0, va_rf (some a0)), (3, .int v3), (4, .long v4), (6, .long v6), (8, .int v8), (9, .int v9), (10, .long v10)] [] := by
  unfold f_X8_follow_B218 at h0
  refine g_iload (j := 5) X dX8_follow_218 rfl ?_
  refine g_if_eq (tgt := 238) X dX8_follow_220 (by decide) (fun c67 => ?_) (fun c67 => ?_)
  · have h68 := g_ip h0 c67; clear h0
    refine g_sub [0, 1, 2, 3, 4, 5, 6] rfl ?_
    exact w_X8_follow_B238 hl X hr S0 a0 v3 v4 v6 v8 v9 v10 h68
  · have h69 := g_in h0 c67; clear h0
    refine g_lload (j := 3) X dX8_follow_223 rfl ?_
    refine g_lload (j := 6) X dX8_follow_225 rfl ?_
    refine g_lcmp X dX8_follow_227 ?_
    refine g_if_eq (tgt := 238) X dX8_follow_228 (by decide) (fun c103 => ?_) (fun c103 => ?_)
    · have h104 := g_ip h69 c103; clear h69
      refine g_sub [0, 1, 2, 3, 4, 5, 6] rfl ?_
      exact w_X8_follow_B238 hl X hr S0 a0 v3 v4 v6 v8 v9 v10 h104
    · have h105 := g_in h69 c103; clear h69
      refine g_lload (j := 6) X dX8_follow_231 rfl ?_
      refine g_lconst X dX8_follow_233 (v := 0) (by decide) ?_
      refine g_lcmp X dX8_follow_234 ?_
      refine g_if_ne (tgt := 242) X dX8_follow_235 (by decide) (fun c106 => ?_) (fun c106 => ?_)
      · have h107 := g_in h105 c106; clear h105
        refine g_iconst X dX8_follow_242 (v := 0) (by decide) ?_
        refine g_sub [0, 1, 2, 3, 4, 5, 6] rfl ?_
        exact w_X8_follow_B243 hl X hr S0 a0 v3 v4 v6 v8 v9 v10 0 h107
      · have h108 := g_ip h105 c106; clear h105
        refine g_sub [0, 1, 2, 3, 4, 5, 6] rfl ?_
        exact w_X8_follow_B238 hl X hr S0 a0 v3 v4 v6 v8 v9 v10 h108
def f_X8_follow_B146 (S0 : gS) (a0 : Nat) (v3 : Int32) (v4 : Int64) (v6 : Int64) (v8 : Int32) (v9 : Int32) (v10 : Int64) : Option (Int32 × gS) :=
  gDc S0 8 (some a0) fun a56 =>
  (f_X8_seenSlot S0 a56 v8 10).bind fun S58 =>
  gDc S58 8 (some a0) fun a60 =>
  (f_X8_fromTape S58 a60 16 11).bind fun S62 =>
  if v9 = 0 then
    f_X8_follow_B218 S62 a0 v3 v4 v6 v8 v9 v10
  else
    if (lg_cmp v6 v10) = 0 then
      gDc S62 8 (some a0) fun a112 =>
      gBi (f_X8_isSame S62 a112 10 11) fun x116 S114 =>
      if x116 = 0 then
        (fgR S114 8 15 (some a0)).bind fun x120 =>
        (fI S114 12 x120 (v8 + 1)).bind fun x122 =>
        if x122 = 0 then
          gDc S114 8 (some a0) fun a127 =>
          (f_X8_copySeen S114 a127 v8 (v8 + 1)).bind fun S129 =>
          gDc S129 8 (some a0) fun a131 =>
          (f_X8_keep S129 a131 (v8 + 2)).bind fun S133 =>
          some (3, S133)
        else
          some (3, S114)
      else
        f_X8_follow_B218 S114 a0 v3 v4 v6 v8 v9 v10
    else
      f_X8_follow_B218 S62 a0 v3 v4 v6 v8 v9 v10
set_option maxRecDepth 100000 in
set_option maxHeartbeats 4000000 in
theorem w_X8_follow_B146 {p : Program} {l : Launch} {e : Env} {s : State} {m : MethodId} {args : Array Value} {below : List Frame} {meth : Method} {c : Code} {D : gD} {S9 : gS} {res : Int32}  (hl : l.stackTraces = false) (X : gX D p l s m args meth c cX8_follow 13 RX8) (hr : meth.sig.returnType = (some .int)) (S0 : gS) (a0 : Nat) (v3 : Int32) (v4 : Int64) (v6 : Int64) (v8 : Int32) (v9 : Int32) (v10 : Int64) (h0 : f_X8_follow_B146 S0 a0 v3 v4 v6 v8 v9 v10 = some (res, S9)) : gJ D p l e { frames := 6, cells := 143, slots := 1144, locals := 144 } s m args below meth c (MQ below (gQ D (some (.int res)) S9) args s (143) (1144) (gF D)) 13 (3) (24) S0 146 [(0, va_rf (some a0)), (3, .int v3), (4, .long v4), (6, .long v6), (8, .int v8), (9, .int v9), (10, .long v10)] [] := by
  unfold f_X8_follow_B146 at h0
  refine g_aload_n (j := 0) X dX8_follow_146 rfl rfl ?_
  refine g_iload (j := 4) X dX8_follow_147 rfl ?_
  refine g_bipush X dX8_follow_149 (v := 10) (by decide) ?_
  obtain ⟨a56, ea56, ka56, h57⟩ := g_dc h0; clear h0
  obtain ⟨S58, eS58, h59⟩ := g_bd h57; clear h57
  refine g_cV (n := 2) (As := [.int v8, .int 10]) X (c_X8_seenSlot hl D eS58) tw964 tw965 tw39 tw51 tw966 (by decide +kernel) rfl rfl ⟨by decide, by decide⟩ (ci := 8) rfl (by decide) ea56 ka56 rfl rfl (Nat.le_of_ble_eq_true rfl) dX8_follow_151 ⟨(by decide), (by decide)⟩ ?_
  clear eS58 ea56 ka56
  refine g_aload_n (j := 0) X dX8_follow_154 rfl rfl ?_
  refine g_bipush X dX8_follow_155 (v := 16) (by decide) ?_
  refine g_bipush X dX8_follow_157 (v := 11) (by decide) ?_
  obtain ⟨a60, ea60, ka60, h61⟩ := g_dc h59; clear h59
  obtain ⟨S62, eS62, h63⟩ := g_bd h61; clear h61
  refine g_cV (n := 2) (As := [.int 16, .int 11]) X (c_X8_fromTape hl D eS62) tw885 tw886 tw29 tw51 tw887 (by decide +kernel) rfl rfl ⟨by decide, by decide⟩ (ci := 8) rfl (by decide) ea60 ka60 rfl rfl (Nat.le_of_ble_eq_true rfl) dX8_follow_159 ⟨(by decide), (by decide)⟩ ?_
  clear eS62 ea60 ka60
  refine g_iload (j := 5) X dX8_follow_162 rfl ?_
  refine g_if_eq (tgt := 218) X dX8_follow_164 (by decide) (fun c64 => ?_) (fun c64 => ?_)
  · have h65 := g_ip h63 c64; clear h63
    refine g_sub [0, 1, 2, 3, 4, 5, 6] rfl ?_
    exact w_X8_follow_B218 hl X hr S62 a0 v3 v4 v6 v8 v9 v10 h65
  · have h66 := g_in h63 c64; clear h63
    refine g_lload (j := 3) X dX8_follow_167 rfl ?_
    refine g_lload (j := 6) X dX8_follow_169 rfl ?_
    refine g_lcmp X dX8_follow_171 ?_
    refine g_if_ne (tgt := 218) X dX8_follow_172 (by decide) (fun c109 => ?_) (fun c109 => ?_)
    · have h110 := g_in h66 c109; clear h66
      refine g_sub [0, 1, 2, 3, 4, 5, 6] rfl ?_
      exact w_X8_follow_B218 hl X hr S62 a0 v3 v4 v6 v8 v9 v10 h110
    · have h111 := g_ip h66 c109; clear h66
      refine g_aload_n (j := 0) X dX8_follow_175 rfl rfl ?_
      refine g_bipush X dX8_follow_176 (v := 10) (by decide) ?_
      refine g_bipush X dX8_follow_178 (v := 11) (by decide) ?_
      obtain ⟨a112, ea112, ka112, h113⟩ := g_dc h111; clear h111
      obtain ⟨x116, S114, eS114, h115⟩ := g_bi h113; clear h113
      refine g_cV (n := 2) (As := [.int 10, .int 11]) X (c_X8_isSame hl D eS114) tw888 tw889 tw30 tw51 tw890 (by decide +kernel) rfl rfl ⟨by decide, by decide⟩ (ci := 8) rfl (by decide) ea112 ka112 rfl rfl (Nat.le_of_ble_eq_true rfl) dX8_follow_180 ⟨(by decide), (by decide)⟩ ?_
      clear eS114 ea112 ka112
      refine g_if_ne (tgt := 218) X dX8_follow_183 (by decide) (fun c117 => ?_) (fun c117 => ?_)
      · have h118 := g_in h115 c117; clear h115
        refine g_sub [0, 1, 2, 3, 4, 5, 6] rfl ?_
        exact w_X8_follow_B218 hl X hr S114 a0 v3 v4 v6 v8 v9 v10 h118
      · have h119 := g_ip h115 c117; clear h115
        refine g_aload_n (j := 0) X dX8_follow_186 rfl rfl ?_
        obtain ⟨x120, ex120, h121⟩ := g_bd h119; clear h119
        refine g_fR (ci := 8) (k := 15) X rfl il8 (by decide) tw724 (by decide) (fun _ _ _ => rfl) ex120 dX8_follow_187 ?_
        clear ex120
        refine g_iload (j := 4) X dX8_follow_190 rfl ?_
        refine g_iconst X dX8_follow_192 (v := 1) (by decide) ?_
        refine g_iadd X dX8_follow_193 ?_
        obtain ⟨x122, ex122, h123⟩ := g_bd h121; clear h121
        refine g_zald X ex122 dX8_follow_194 ?_
        clear ex122
        refine g_if_ne (tgt := 216) X dX8_follow_195 (by decide) (fun c124 => ?_) (fun c124 => ?_)
        · have h125 := g_in h123 c124; clear h123
          refine g_iconst X dX8_follow_216 (v := 3) (by decide) ?_
          obtain ⟨rfl, rfl⟩ := g_end h125
          exact g_iret X hr (by decide) (by decide) dX8_follow_217
        · have h126 := g_ip h123 c124; clear h123
          refine g_aload_n (j := 0) X dX8_follow_198 rfl rfl ?_
          refine g_iload (j := 4) X dX8_follow_199 rfl ?_
          refine g_iload (j := 4) X dX8_follow_201 rfl ?_
          refine g_iconst X dX8_follow_203 (v := 1) (by decide) ?_
          refine g_iadd X dX8_follow_204 ?_
          obtain ⟨a127, ea127, ka127, h128⟩ := g_dc h126; clear h126
          obtain ⟨S129, eS129, h130⟩ := g_bd h128; clear h128
          refine g_cV (n := 2) (As := [.int v8, .int (v8 + 1)]) X (c_X8_copySeen hl D eS129) tw967 tw968 tw40 tw51 tw969 (by decide +kernel) rfl rfl ⟨by decide, by decide⟩ (ci := 8) rfl (by decide) ea127 ka127 rfl rfl (Nat.le_of_ble_eq_true rfl) dX8_follow_205 ⟨(by decide), (by decide)⟩ ?_
          clear eS129 ea127 ka127
          refine g_aload_n (j := 0) X dX8_follow_208 rfl rfl ?_
          refine g_iload (j := 4) X dX8_follow_209 rfl ?_
          refine g_iconst X dX8_follow_211 (v := 2) (by decide) ?_
          refine g_iadd X dX8_follow_212 ?_
          obtain ⟨a131, ea131, ka131, h132⟩ := g_dc h130; clear h130
          obtain ⟨S133, eS133, h134⟩ := g_bd h132; clear h132
          refine g_cV (n := 1) (As := [.int (v8 + 2)]) X (c_X8_keep hl D eS133) tw970 tw971 tw41 tw51 tw972 (by decide +kernel) rfl rfl ⟨by decide, by decide⟩ (ci := 8) rfl (by decide) ea131 ka131 rfl rfl (Nat.le_of_ble_eq_true rfl) dX8_follow_213 ⟨(by decide), (by decide)⟩ ?_
          clear eS133 ea131 ka131
          refine g_iconst X dX8_follow_216 (v := 3) (by decide) ?_
          obtain ⟨rfl, rfl⟩ := g_end h134
          exact g_iret X hr (by decide) (by decide) dX8_follow_217
def f_X8_follow_B129 (S0 : gS) (a0 : Nat) (v3 : Int32) (v4 : Int64) (v6 : Int64) (v8 : Int32) (v9 : Int32) (t0 : Int64) : Option (Int32 × gS) :=
  if v9 = 0 then
    f_X8_follow_B146 S0 a0 v3 v4 v6 v8 v9 t0
  else
    if 0 ≤ (lg_cmp v6 t0) then
      f_X8_follow_B146 S0 a0 v3 v4 v6 v8 v9 t0
    else
      some (2, S0)
set_option maxRecDepth 100000 in
set_option maxHeartbeats 4000000 in
theorem w_X8_follow_B129 {p : Program} {l : Launch} {e : Env} {s : State} {m : MethodId} {args : Array Value} {below : List Frame} {meth : Method} {c : Code} {D : gD} {S9 : gS} {res : Int32}  (hl : l.stackTraces = false) (X : gX D p l s m args meth c cX8_follow 13 RX8) (hr : meth.sig.returnType = (some .int)) (S0 : gS) (a0 : Nat) (v3 : Int32) (v4 : Int64) (v6 : Int64) (v8 : Int32) (v9 : Int32) (t0 : Int64) (h0 : f_X8_follow_B129 S0 a0 v3 v4 v6 v8 v9 t0 = some (res, S9)) : gJ D p l e { frames := 6, cells := 143, slots := 1144, locals := 144 } s m args below meth c (MQ below (gQ D (some (.int res)) S9) args s (143) (1144) (gF D)) 13 (3) (24) S0 129 [(0, va_rf (some a0)), (3, .int v3), (4, .long v4), (6, .long v6), (8, .int v8), (9, .int v9)] [.long t0] := by
  unfold f_X8_follow_B129 at h0
  refine g_lstore (i := 10) (lv' := [(10, .long t0), (0, va_rf (some a0)), (3, .int v3), (4, .long v4), (6, .long v6), (8, .int v8), (9, .int v9)]) X dX8_follow_129 (by decide) rfl ?_
  refine g_iload (j := 6) X dX8_follow_131 rfl ?_
  refine g_if_eq (tgt := 146) X dX8_follow_133 (by decide) (fun c53 => ?_) (fun c53 => ?_)
  · have h54 := g_ip h0 c53; clear h0
    refine g_sub [1, 2, 3, 4, 5, 6, 0] rfl ?_
    exact w_X8_follow_B146 hl X hr S0 a0 v3 v4 v6 v8 v9 t0 h54
  · have h55 := g_in h0 c53; clear h0
    refine g_lload (j := 4) X dX8_follow_136 rfl ?_
    refine g_lload (j := 0) X dX8_follow_138 rfl ?_
    refine g_lcmp X dX8_follow_140 ?_
    refine g_if_ge (tgt := 146) X dX8_follow_141 (by decide) (fun c135 => ?_) (fun c135 => ?_)
    · have h136 := g_ip h55 c135; clear h55
      refine g_sub [1, 2, 3, 4, 5, 6, 0] rfl ?_
      exact w_X8_follow_B146 hl X hr S0 a0 v3 v4 v6 v8 v9 t0 h136
    · have h137 := g_in h55 c135; clear h55
      refine g_iconst X dX8_follow_144 (v := 2) (by decide) ?_
      obtain ⟨rfl, rfl⟩ := g_end h137
      exact g_iret X hr (by decide) (by decide) dX8_follow_145
def f_X8_follow_B44 (S0 : gS) (a0 : Nat) (v1 : Int32) (v2 : Int32) (v3 : Int32) (t0 : Int32) (t1 : Option Nat) : Option (Int32 × gS) :=
  (fpI S0 8 0 t1 t0).bind fun S12 =>
  (fgI S12 8 0 (some a0)).bind fun x14 =>
  if x14 ≤ 0 then
    gDc S12 8 (some a0) fun a19 =>
    gBi (f_X8_tapeLong S12 a19 0) fun x23 S21 =>
    gDc S21 8 (some a0) fun a24 =>
    gBi (f_X8_tapeLong S21 a24 8) fun x28 S26 =>
    gDc S26 8 (some a0) fun a29 =>
    gBi (f_X8_sealed S26 a29 v2) fun x33 S31 =>
    if x33 = 0 then
      some (1, S31)
    else
      if (lg_cmp x23 0) < 0 then
        some (1, S31)
      else
        if 0 ≤ (lg_cmp x28 0) then
          gBi (f_X8_placeOf S31 v1 v2 0) fun x45 S43 =>
          (fgR S43 8 15 (some a0)).bind fun x46 =>
          (fI S43 12 x46 x45).bind fun x48 =>
          if x48 = 0 then
            f_X8_follow_B129 S43 a0 v3 x23 x28 x45 x48 0
          else
            gDc S43 8 (some a0) fun a138 =>
            gBi (f_X8_seenLong S43 a138 x45 8) fun x142 S140 =>
            f_X8_follow_B129 S140 a0 v3 x23 x28 x45 x48 x142
        else
          some (1, S31)
  else
    some (0, S12)
set_option maxRecDepth 100000 in
set_option maxHeartbeats 4000000 in
theorem w_X8_follow_B44 {p : Program} {l : Launch} {e : Env} {s : State} {m : MethodId} {args : Array Value} {below : List Frame} {meth : Method} {c : Code} {D : gD} {S9 : gS} {res : Int32}  (hl : l.stackTraces = false) (X : gX D p l s m args meth c cX8_follow 13 RX8) (hr : meth.sig.returnType = (some .int)) (S0 : gS) (a0 : Nat) (v1 : Int32) (v2 : Int32) (v3 : Int32) (t0 : Int32) (t1 : Option Nat) (h0 : f_X8_follow_B44 S0 a0 v1 v2 v3 t0 t1 = some (res, S9)) : gJ D p l e { frames := 6, cells := 143, slots := 1144, locals := 144 } s m args below meth c (MQ below (gQ D (some (.int res)) S9) args s (143) (1144) (gF D)) 13 (0) (0) S0 44 [(0, va_rf (some a0)), (1, .int v1), (2, .int v2), (3, .int v3)] [.int t0, va_rf t1] := by
  unfold f_X8_follow_B44 at h0
  obtain ⟨S12, eS12, h13⟩ := g_bd h0; clear h0
  refine g_pI (ci := 8) (k := 0) X rfl il8 tyX8 tyX8_ok nmX8 (by decide) tw709 rfl (by decide) (fun _ _ _ => rfl) rfl eS12 dX8_follow_44 ?_
  clear eS12
  refine g_aload_n (j := 0) X dX8_follow_47 rfl rfl ?_
  obtain ⟨x14, ex14, h15⟩ := g_bd h13; clear h13
  refine g_fI (ci := 8) (k := 0) X rfl il8 (by decide) tw709 (by decide) (fun _ _ _ => rfl) ex14 dX8_follow_48 ?_
  clear ex14
  refine g_if_le (tgt := 56) X dX8_follow_51 (by decide) (fun c16 => ?_) (fun c16 => ?_)
  · have h17 := g_ip h15 c16; clear h15
    refine g_aload_n (j := 0) X dX8_follow_56 rfl rfl ?_
    refine g_iconst X dX8_follow_57 (v := 0) (by decide) ?_
    obtain ⟨a19, ea19, ka19, h20⟩ := g_dc h17; clear h17
    obtain ⟨x23, S21, eS21, h22⟩ := g_bi h20; clear h20
    refine g_cV (n := 1) (As := [.int 0]) X (c_X8_tapeLong hl D eS21) tw944 tw945 tw37 tw51 tw946 (by decide +kernel) rfl rfl ⟨by decide, by decide⟩ (ci := 8) rfl (by decide) ea19 ka19 rfl rfl (Nat.le_of_ble_eq_true rfl) dX8_follow_58 ⟨(by decide), (by decide)⟩ ?_
    clear eS21 ea19 ka19
    refine g_lstore (i := 4) (lv' := [(4, .long x23), (0, va_rf (some a0)), (1, .int v1), (2, .int v2), (3, .int v3)]) X dX8_follow_61 (by decide) rfl ?_
    refine g_aload_n (j := 1) X dX8_follow_63 rfl rfl ?_
    refine g_bipush X dX8_follow_64 (v := 8) (by decide) ?_
    obtain ⟨a24, ea24, ka24, h25⟩ := g_dc h22; clear h22
    obtain ⟨x28, S26, eS26, h27⟩ := g_bi h25; clear h25
    refine g_cV (n := 1) (As := [.int 8]) X (c_X8_tapeLong hl D eS26) tw944 tw945 tw37 tw51 tw946 (by decide +kernel) rfl rfl ⟨by decide, by decide⟩ (ci := 8) rfl (by decide) ea24 ka24 rfl rfl (Nat.le_of_ble_eq_true rfl) dX8_follow_66 ⟨(by decide), (by decide)⟩ ?_
    clear eS26 ea24 ka24
    refine g_lstore (i := 6) (lv' := [(6, .long x28), (4, .long x23), (0, va_rf (some a0)), (1, .int v1), (2, .int v2), (3, .int v3)]) X dX8_follow_69 (by decide) rfl ?_
    refine g_aload_n (j := 2) X dX8_follow_71 rfl rfl ?_
    refine g_iload_n (j := 4) X dX8_follow_72 rfl rfl ?_
    obtain ⟨a29, ea29, ka29, h30⟩ := g_dc h27; clear h27
    obtain ⟨x33, S31, eS31, h32⟩ := g_bi h30; clear h30
    refine g_cV (n := 1) (As := [.int v2]) X (c_X8_sealed hl D eS31) tw941 tw942 tw36 tw51 tw943 (by decide +kernel) rfl rfl ⟨by decide, by decide⟩ (ci := 8) rfl (by decide) ea29 ka29 rfl rfl (Nat.le_of_ble_eq_true rfl) dX8_follow_73 ⟨(by decide), (by decide)⟩ ?_
    clear eS31 ea29 ka29
    refine g_if_eq (tgt := 93) X dX8_follow_76 (by decide) (fun c34 => ?_) (fun c34 => ?_)
    · have h35 := g_ip h32 c34; clear h32
      refine g_iconst X dX8_follow_93 (v := 1) (by decide) ?_
      obtain ⟨rfl, rfl⟩ := g_end h35
      exact g_iret X hr (by decide) (by decide) dX8_follow_94
    · have h36 := g_in h32 c34; clear h32
      refine g_lload (j := 1) X dX8_follow_79 rfl ?_
      refine g_lconst X dX8_follow_81 (v := 0) (by decide) ?_
      refine g_lcmp X dX8_follow_82 ?_
      refine g_if_lt (tgt := 93) X dX8_follow_83 (by decide) (fun c37 => ?_) (fun c37 => ?_)
      · have h38 := g_ip h36 c37; clear h36
        refine g_iconst X dX8_follow_93 (v := 1) (by decide) ?_
        obtain ⟨rfl, rfl⟩ := g_end h38
        exact g_iret X hr (by decide) (by decide) dX8_follow_94
      · have h39 := g_in h36 c37; clear h36
        refine g_lload (j := 0) X dX8_follow_86 rfl ?_
        refine g_lconst X dX8_follow_88 (v := 0) (by decide) ?_
        refine g_lcmp X dX8_follow_89 ?_
        refine g_if_ge (tgt := 95) X dX8_follow_90 (by decide) (fun c40 => ?_) (fun c40 => ?_)
        · have h41 := g_ip h39 c40; clear h39
          refine g_iload_n (j := 3) X dX8_follow_95 rfl rfl ?_
          refine g_iload_n (j := 4) X dX8_follow_96 rfl rfl ?_
          refine g_iconst X dX8_follow_97 (v := 0) (by decide) ?_
          obtain ⟨x45, S43, eS43, h44⟩ := g_bi h41; clear h41
          refine g_cS (n := 3) (As := [.int v1, .int v2, .int 0]) X (c_X8_placeOf hl D eS43) tw958 tw959 tw51 tw960 (by decide +kernel) rfl rfl ⟨by decide, by decide⟩ rfl rfl (Nat.le_of_ble_eq_true rfl) dX8_follow_98 ⟨(by decide), (by decide)⟩ ?_
          clear eS43
          refine g_istore (i := 8) (lv' := [(8, .int x45), (6, .long x28), (4, .long x23), (0, va_rf (some a0)), (1, .int v1), (2, .int v2), (3, .int v3)]) X dX8_follow_101 (by decide) rfl ?_
          refine g_aload_n (j := 3) X dX8_follow_103 rfl rfl ?_
          obtain ⟨x46, ex46, h47⟩ := g_bd h44; clear h44
          refine g_fR (ci := 8) (k := 15) X rfl il8 (by decide) tw724 (by decide) (fun _ _ _ => rfl) ex46 dX8_follow_104 ?_
          clear ex46
          refine g_iload (j := 0) X dX8_follow_107 rfl ?_
          obtain ⟨x48, ex48, h49⟩ := g_bd h47; clear h47
          refine g_zald X ex48 dX8_follow_109 ?_
          clear ex48
          refine g_istore (i := 9) (lv' := [(9, .int x48), (8, .int x45), (6, .long x28), (4, .long x23), (0, va_rf (some a0)), (1, .int v1), (2, .int v2), (3, .int v3)]) X dX8_follow_110 (by decide) rfl ?_
          refine g_iload (j := 0) X dX8_follow_112 rfl ?_
          refine g_if_eq (tgt := 128) X dX8_follow_114 (by decide) (fun c50 => ?_) (fun c50 => ?_)
          · have h51 := g_ip h49 c50; clear h49
            refine g_lconst X dX8_follow_128 (v := 0) (by decide) ?_
            refine g_sub [4, 7, 3, 2, 1, 0] rfl ?_
            exact w_X8_follow_B129 hl X hr S43 a0 v3 x23 x28 x45 x48 0 h51
          · have h52 := g_in h49 c50; clear h49
            refine g_aload_n (j := 4) X dX8_follow_117 rfl rfl ?_
            refine g_iload (j := 1) X dX8_follow_118 rfl ?_
            refine g_bipush X dX8_follow_120 (v := 8) (by decide) ?_
            obtain ⟨a138, ea138, ka138, h139⟩ := g_dc h52; clear h52
            obtain ⟨x142, S140, eS140, h141⟩ := g_bi h139; clear h139
            refine g_cV (n := 2) (As := [.int x45, .int 8]) X (c_X8_seenLong hl D eS140) tw961 tw962 tw38 tw51 tw963 (by decide +kernel) rfl rfl ⟨by decide, by decide⟩ (ci := 8) rfl (by decide) ea138 ka138 rfl rfl (Nat.le_of_ble_eq_true rfl) dX8_follow_122 ⟨(by decide), (by decide)⟩ ?_
            clear eS140 ea138 ka138
            refine g_goto (tgt := 129) X dX8_follow_125 (by decide) ?_
            refine g_sub [4, 7, 3, 2, 1, 0] rfl ?_
            exact w_X8_follow_B129 hl X hr S140 a0 v3 x23 x28 x45 x48 x142 h141
        · have h42 := g_in h39 c40; clear h39
          refine g_iconst X dX8_follow_93 (v := 1) (by decide) ?_
          obtain ⟨rfl, rfl⟩ := g_end h42
          exact g_iret X hr (by decide) (by decide) dX8_follow_94
  · have h18 := g_in h15 c16; clear h15
    refine g_iconst X dX8_follow_54 (v := 0) (by decide) ?_
    obtain ⟨rfl, rfl⟩ := g_end h18
    exact g_iret X hr (by decide) (by decide) dX8_follow_55
def f_X8_follow_B20 (S0 : gS) (a0 : Nat) (v1 : Int32) (v2 : Int32) (v3 : Int32) (t0 : Option Nat) : Option (Int32 × gS) :=
  f_X8_follow_B44 S0 a0 v1 v2 v3 1 t0
set_option maxRecDepth 100000 in
set_option maxHeartbeats 4000000 in
theorem w_X8_follow_B20 {p : Program} {l : Launch} {e : Env} {s : State} {m : MethodId} {args : Array Value} {below : List Frame} {meth : Method} {c : Code} {D : gD} {S9 : gS} {res : Int32}  (hl : l.stackTraces = false) (X : gX D p l s m args meth c cX8_follow 13 RX8) (hr : meth.sig.returnType = (some .int)) (S0 : gS) (a0 : Nat) (v1 : Int32) (v2 : Int32) (v3 : Int32) (t0 : Option Nat) (h0 : f_X8_follow_B20 S0 a0 v1 v2 v3 t0 = some (res, S9)) : gJ D p l e { frames := 6, cells := 143, slots := 1144, locals := 144 } s m args below meth c (MQ below (gQ D (some (.int res)) S9) args s (143) (1144) (gF D)) 13 (0) (0) S0 20 [(0, va_rf (some a0)), (1, .int v1), (2, .int v2), (3, .int v3)] [va_rf t0] := by
  unfold f_X8_follow_B20 at h0
  refine g_iconst X dX8_follow_20 (v := 1) (by decide) ?_
  refine g_goto (tgt := 44) X dX8_follow_21 (by decide) ?_
  refine g_sub [0, 1, 2, 3] rfl ?_
  exact w_X8_follow_B44 hl X hr S0 a0 v1 v2 v3 1 t0 h0
def f_X8_follow_B39 (S0 : gS) (a0 : Nat) (v1 : Int32) (v2 : Int32) (v3 : Int32) (t0 : Option Nat) : Option (Int32 × gS) :=
  f_X8_follow_B44 S0 a0 v1 v2 v3 2 t0
set_option maxRecDepth 100000 in
set_option maxHeartbeats 4000000 in
theorem w_X8_follow_B39 {p : Program} {l : Launch} {e : Env} {s : State} {m : MethodId} {args : Array Value} {below : List Frame} {meth : Method} {c : Code} {D : gD} {S9 : gS} {res : Int32}  (hl : l.stackTraces = false) (X : gX D p l s m args meth c cX8_follow 13 RX8) (hr : meth.sig.returnType = (some .int)) (S0 : gS) (a0 : Nat) (v1 : Int32) (v2 : Int32) (v3 : Int32) (t0 : Option Nat) (h0 : f_X8_follow_B39 S0 a0 v1 v2 v3 t0 = some (res, S9)) : gJ D p l e { frames := 6, cells := 143, slots := 1144, locals := 144 } s m args below meth c (MQ below (gQ D (some (.int res)) S9) args s (143) (1144) (gF D)) 13 (0) (0) S0 39 [(0, va_rf (some a0)), (1, .int v1), (2, .int v2), (3, .int v3)] [va_rf t0] := by
  unfold f_X8_follow_B39 at h0
  refine g_iconst X dX8_follow_39 (v := 2) (by decide) ?_
  refine g_goto (tgt := 44) X dX8_follow_40 (by decide) ?_
  refine g_sub [0, 1, 2, 3] rfl ?_
  exact w_X8_follow_B44 hl X hr S0 a0 v1 v2 v3 2 t0 h0
def f_X8_follow (S0 : gS) (a0 : Nat) (v1 : Int32) (v2 : Int32) : Option (Int32 × gS) :=
  gDc S0 8 (some a0) fun a1 =>
  gBi (f_X8_use S0 a1) fun x5 S3 =>
  gBi (f_X8_isWitness S3 v1) fun x8 S6 =>
  if x8 = 0 then
    f_X8_follow_B20 S6 a0 v1 v2 x5 (some a0)
  else
    gBi (f_X8_isLog S6 v2) fun x145 S143 =>
    if x145 = 0 then
      f_X8_follow_B20 S143 a0 v1 v2 x5 (some a0)
    else
      if x5 < 80 then
        f_X8_follow_B39 S143 a0 v1 v2 x5 (some a0)
      else
        if (x5 - x5 / 32 * 32) = 16 then
          f_X8_follow_B44 S143 a0 v1 v2 x5 0 (some a0)
        else
          f_X8_follow_B39 S143 a0 v1 v2 x5 (some a0)
set_option maxRecDepth 100000 in
set_option maxHeartbeats 4000000 in
theorem c_X8_follow {l : Launch} (hl : l.stackTraces = false) (D : gD)  {S0 S9 : gS} {a0 : Nat} {v1 : Int32} {v2 : Int32} {res : Int32} (h0 : f_X8_follow S0 a0 v1 v2 = some (res, S9)) : Met l yX8_follow (gws yX8_follow cX8_follow 13 (some .int)) { frames := 6, cells := 143, slots := 1144, locals := 144 } (gPc D S0 [.ref a0, .int v1, .int v2]) (gQ D (some (.int res)) S9) (143) (1144) (gF D) := by
  refine g_met (lv := [(0, va_rf (some a0)), (1, .int v1), (2, .int v2)]) hl (by decide) (Nat.le_of_ble_eq_true rfl) rfl (fun p e s m args below meth c X hr hn => ?_)
  have X : gX D p l s m args meth c cX8_follow 13 RX8 := X
  unfold f_X8_follow at h0
  refine g_aload_n (j := 0) X dX8_follow_0 rfl rfl ?_
  obtain ⟨a1, ea1, ka1, h2⟩ := g_dc h0; clear h0
  obtain ⟨x5, S3, eS3, h4⟩ := g_bi h2; clear h2
  refine g_cV (n := 0) (As := []) X (c_X8_use hl D eS3) tw790 tw791 tw15 tw51 tw792 (by decide +kernel) rfl rfl ⟨by decide, by decide⟩ (ci := 8) rfl (by decide) ea1 ka1 rfl rfl (Nat.le_of_ble_eq_true rfl) dX8_follow_1 ⟨(by decide), (by decide)⟩ ?_
  clear eS3 ea1 ka1
  refine g_istore_n (i := 3) (lv' := [(3, .int x5), (0, va_rf (some a0)), (1, .int v1), (2, .int v2)]) X dX8_follow_4 rfl (by decide) rfl ?_
  refine g_aload_n (j := 1) X dX8_follow_5 rfl rfl ?_
  refine g_iload_n (j := 2) X dX8_follow_6 rfl rfl ?_
  obtain ⟨x8, S6, eS6, h7⟩ := g_bi h4; clear h4
  refine g_cS (n := 1) (As := [.int v1]) X (c_X8_isWitness hl D eS6) tw955 tw956 tw51 tw957 (by decide +kernel) rfl rfl ⟨by decide, by decide⟩ rfl rfl (Nat.le_of_ble_eq_true rfl) dX8_follow_7 ⟨(by decide), (by decide)⟩ ?_
  clear eS6
  refine g_if_eq (tgt := 20) X dX8_follow_10 (by decide) (fun c9 => ?_) (fun c9 => ?_)
  · have h10 := g_ip h7 c9; clear h7
    refine g_sub [1, 2, 3, 0] rfl ?_
    exact w_X8_follow_B20 hl X hr S6 a0 v1 v2 x5 (some a0) h10
  · have h11 := g_in h7 c9; clear h7
    refine g_iload_n (j := 3) X dX8_follow_13 rfl rfl ?_
    obtain ⟨x145, S143, eS143, h144⟩ := g_bi h11; clear h11
    refine g_cS (n := 1) (As := [.int v2]) X (c_X8_isLog hl D eS143) tw793 tw794 tw51 tw795 (by decide +kernel) rfl rfl ⟨by decide, by decide⟩ rfl rfl (Nat.le_of_ble_eq_true rfl) dX8_follow_14 ⟨(by decide), (by decide)⟩ ?_
    clear eS143
    refine g_if_ne (tgt := 24) X dX8_follow_17 (by decide) (fun c146 => ?_) (fun c146 => ?_)
    · have h147 := g_in h144 c146; clear h144
      refine g_iload_n (j := 0) X dX8_follow_24 rfl rfl ?_
      refine g_bipush X dX8_follow_25 (v := 80) (by decide) ?_
      refine g_icmp_lt (tgt := 39) X dX8_follow_27 (by decide) (fun c149 => ?_) (fun c149 => ?_)
      · have h150 := g_ip h147 c149; clear h147
        refine g_sub [1, 2, 3, 0] rfl ?_
        exact w_X8_follow_B39 hl X hr S143 a0 v1 v2 x5 (some a0) h150
      · have h151 := g_in h147 c149; clear h147
        refine g_iload_n (j := 0) X dX8_follow_30 rfl rfl ?_
        refine g_bipush X dX8_follow_31 (v := 32) (by decide) ?_
        refine g_irem X dX8_follow_33 (by decide) ?_
        refine g_bipush X dX8_follow_34 (v := 16) (by decide) ?_
        refine g_icmp_eq (tgt := 43) X dX8_follow_36 (by decide) (fun c152 => ?_) (fun c152 => ?_)
        · have h153 := g_ip h151 c152; clear h151
          refine g_iconst X dX8_follow_43 (v := 0) (by decide) ?_
          refine g_sub [1, 2, 3, 0] rfl ?_
          exact w_X8_follow_B44 hl X hr S143 a0 v1 v2 x5 0 (some a0) h153
        · have h154 := g_in h151 c152; clear h151
          refine g_sub [1, 2, 3, 0] rfl ?_
          exact w_X8_follow_B39 hl X hr S143 a0 v1 v2 x5 (some a0) h154
    · have h148 := g_ip h144 c146; clear h144
      refine g_sub [1, 2, 3, 0] rfl ?_
      exact w_X8_follow_B20 hl X hr S143 a0 v1 v2 x5 (some a0) h148
def f_X8_told (S0 : gS) (a0 : Nat) (v1 : Int32) (v2 : Int32) (v3 : Int32) : Option gS :=
  (fgR S0 8 15 (some a0)).bind fun x1 =>
  (fI S0 12 x1 (v1 + 1)).bind fun x3 =>
  if x3 = 0 then
    gDc S0 8 (some a0) fun a8 =>
    (f_X8_copySeen S0 a8 v2 (v1 + 1)).bind fun S10 =>
    gDc S10 8 (some a0) fun a12 =>
    (f_X8_copySeen S10 a12 v3 (v1 + 2)).bind fun S14 =>
    some S14
  else
    some S0
set_option maxRecDepth 100000 in
set_option maxHeartbeats 4000000 in
theorem c_X8_told {l : Launch} (hl : l.stackTraces = false) (D : gD)  {S0 S9 : gS} {a0 : Nat} {v1 : Int32} {v2 : Int32} {v3 : Int32} (h0 : f_X8_told S0 a0 v1 v2 v3 = some S9) : Met l yX8_told (gws yX8_told cX8_told 4 none) { frames := 1, cells := 0, slots := 0, locals := 23 } (gPc D S0 [.ref a0, .int v1, .int v2, .int v3]) (gQ D none S9) (0) (0) (gF D) := by
  refine g_met (lv := [(0, va_rf (some a0)), (1, .int v1), (2, .int v2), (3, .int v3)]) hl (by decide) (Nat.le_of_ble_eq_true rfl) rfl (fun p e s m args below meth c X hr hn => ?_)
  have X : gX D p l s m args meth c cX8_told 4 RX8 := X
  unfold f_X8_told at h0
  refine g_aload_n (j := 0) X dX8_told_0 rfl rfl ?_
  obtain ⟨x1, ex1, h2⟩ := g_bd h0; clear h0
  refine g_fR (ci := 8) (k := 15) X rfl il8 (by decide) tw724 (by decide) (fun _ _ _ => rfl) ex1 dX8_told_1 ?_
  clear ex1
  refine g_iload_n (j := 1) X dX8_told_4 rfl rfl ?_
  refine g_iconst X dX8_told_5 (v := 1) (by decide) ?_
  refine g_iadd X dX8_told_6 ?_
  obtain ⟨x3, ex3, h4⟩ := g_bd h2; clear h2
  refine g_zald X ex3 dX8_told_7 ?_
  clear ex3
  refine g_if_eq (tgt := 12) X dX8_told_8 (by decide) (fun c5 => ?_) (fun c5 => ?_)
  · have h6 := g_ip h4 c5; clear h4
    refine g_aload_n (j := 0) X dX8_told_12 rfl rfl ?_
    refine g_iload_n (j := 2) X dX8_told_13 rfl rfl ?_
    refine g_iload_n (j := 1) X dX8_told_14 rfl rfl ?_
    refine g_iconst X dX8_told_15 (v := 1) (by decide) ?_
    refine g_iadd X dX8_told_16 ?_
    obtain ⟨a8, ea8, ka8, h9⟩ := g_dc h6; clear h6
    obtain ⟨S10, eS10, h11⟩ := g_bd h9; clear h9
    refine g_cV (n := 2) (As := [.int v2, .int (v1 + 1)]) X (c_X8_copySeen hl D eS10) tw967 tw968 tw40 tw51 tw969 (by decide +kernel) rfl rfl ⟨by decide, by decide⟩ (ci := 8) rfl (by decide) ea8 ka8 rfl rfl (Nat.le_of_ble_eq_true rfl) dX8_told_17 ⟨(by decide), (by decide)⟩ ?_
    clear eS10 ea8 ka8
    refine g_aload_n (j := 0) X dX8_told_20 rfl rfl ?_
    refine g_iload_n (j := 3) X dX8_told_21 rfl rfl ?_
    refine g_iload_n (j := 1) X dX8_told_22 rfl rfl ?_
    refine g_iconst X dX8_told_23 (v := 2) (by decide) ?_
    refine g_iadd X dX8_told_24 ?_
    obtain ⟨a12, ea12, ka12, h13⟩ := g_dc h11; clear h11
    obtain ⟨S14, eS14, h15⟩ := g_bd h13; clear h13
    refine g_cV (n := 2) (As := [.int v3, .int (v1 + 2)]) X (c_X8_copySeen hl D eS14) tw967 tw968 tw40 tw51 tw969 (by decide +kernel) rfl rfl ⟨by decide, by decide⟩ (ci := 8) rfl (by decide) ea12 ka12 rfl rfl (Nat.le_of_ble_eq_true rfl) dX8_told_25 ⟨(by decide), (by decide)⟩ ?_
    clear eS14 ea12 ka12
    cases h15
    exact g_vret X hr (by decide) (by decide) dX8_told_28
  · have h7 := g_in h4 c5; clear h4
    cases h7
    exact g_vret X hr (by decide) (by decide) dX8_told_11
def f_X8_gossip_B27 (S0 : gS) (a0 : Nat) (v1 : Int32) (v2 : Int32) (v3 : Int32) (t0 : Int32) (t1 : Option Nat) : Option (Int32 × gS) :=
  (fpI S0 8 0 t1 t0).bind fun S7 =>
  (fgI S7 8 0 (some a0)).bind fun x9 =>
  if x9 ≤ 0 then
    gBi (f_X8_placeOf S7 v1 v3 0) fun x16 S14 =>
    gBi (f_X8_placeOf S14 v2 v3 0) fun x19 S17 =>
    (fgR S17 8 15 (some a0)).bind fun x20 =>
    (fI S17 12 x20 x16).bind fun x22 =>
    if x22 = 0 then
      some (0, S17)
    else
      (fgR S17 8 15 (some a0)).bind fun x27 =>
      (fI S17 12 x27 x19).bind fun x29 =>
      if x29 = 0 then
        some (0, S17)
      else
        gDc S17 8 (some a0) fun a34 =>
        gBi (f_X8_seenLong S17 a34 x16 8) fun x38 S36 =>
        gDc S36 8 (some a0) fun a39 =>
        gBi (f_X8_seenLong S36 a39 x19 8) fun x43 S41 =>
        if (lg_cmp x38 x43) = 0 then
          gDc S41 8 (some a0) fun a47 =>
          (f_X8_seenSlot S41 a47 x16 10).bind fun S49 =>
          gDc S49 8 (some a0) fun a51 =>
          (f_X8_seenSlot S49 a51 x19 11).bind fun S53 =>
          gDc S53 8 (some a0) fun a55 =>
          gBi (f_X8_isSame S53 a55 10 11) fun x59 S57 =>
          if x59 = 0 then
            gDc S57 8 (some a0) fun a63 =>
            (f_X8_told S57 a63 x16 x16 x19).bind fun S65 =>
            gDc S65 8 (some a0) fun a67 =>
            (f_X8_told S65 a67 x19 x16 x19).bind fun S69 =>
            some (3, S69)
          else
            some (0, S57)
        else
          if (lg_cmp x38 x43) ≤ 0 then
            some (2, S41)
          else
            some (1, S41)
  else
    some (0, S7)
set_option maxRecDepth 100000 in
set_option maxHeartbeats 4000000 in
theorem w_X8_gossip_B27 {p : Program} {l : Launch} {e : Env} {s : State} {m : MethodId} {args : Array Value} {below : List Frame} {meth : Method} {c : Code} {D : gD} {S9 : gS} {res : Int32}  (hl : l.stackTraces = false) (X : gX D p l s m args meth c cX8_gossip 10 RX8) (hr : meth.sig.returnType = (some .int)) (S0 : gS) (a0 : Nat) (v1 : Int32) (v2 : Int32) (v3 : Int32) (t0 : Int32) (t1 : Option Nat) (h0 : f_X8_gossip_B27 S0 a0 v1 v2 v3 t0 t1 = some (res, S9)) : gJ D p l e { frames := 2, cells := 0, slots := 0, locals := 46 } s m args below meth c (MQ below (gQ D (some (.int res)) S9) args s (0) (0) (gF D)) 10 (0) (0) S0 27 [(0, va_rf (some a0)), (1, .int v1), (2, .int v2), (3, .int v3)] [.int t0, va_rf t1] := by
  unfold f_X8_gossip_B27 at h0
  obtain ⟨S7, eS7, h8⟩ := g_bd h0; clear h0
  refine g_pI (ci := 8) (k := 0) X rfl il8 tyX8 tyX8_ok nmX8 (by decide) tw709 rfl (by decide) (fun _ _ _ => rfl) rfl eS7 dX8_gossip_27 ?_
  clear eS7
  refine g_aload_n (j := 0) X dX8_gossip_30 rfl rfl ?_
  obtain ⟨x9, ex9, h10⟩ := g_bd h8; clear h8
  refine g_fI (ci := 8) (k := 0) X rfl il8 (by decide) tw709 (by decide) (fun _ _ _ => rfl) ex9 dX8_gossip_31 ?_
  clear ex9
  refine g_if_le (tgt := 39) X dX8_gossip_34 (by decide) (fun c11 => ?_) (fun c11 => ?_)
  · have h12 := g_ip h10 c11; clear h10
    refine g_iload_n (j := 1) X dX8_gossip_39 rfl rfl ?_
    refine g_iload_n (j := 3) X dX8_gossip_40 rfl rfl ?_
    refine g_iconst X dX8_gossip_41 (v := 0) (by decide) ?_
    obtain ⟨x16, S14, eS14, h15⟩ := g_bi h12; clear h12
    refine g_cS (n := 3) (As := [.int v1, .int v3, .int 0]) X (c_X8_placeOf hl D eS14) tw958 tw959 tw51 tw960 (by decide +kernel) rfl rfl ⟨by decide, by decide⟩ rfl rfl (Nat.le_of_ble_eq_true rfl) dX8_gossip_42 ⟨(by decide), (by decide)⟩ ?_
    clear eS14
    refine g_istore (i := 4) (lv' := [(4, .int x16), (0, va_rf (some a0)), (1, .int v1), (2, .int v2), (3, .int v3)]) X dX8_gossip_45 (by decide) rfl ?_
    refine g_iload_n (j := 3) X dX8_gossip_47 rfl rfl ?_
    refine g_iload_n (j := 4) X dX8_gossip_48 rfl rfl ?_
    refine g_iconst X dX8_gossip_49 (v := 0) (by decide) ?_
    obtain ⟨x19, S17, eS17, h18⟩ := g_bi h15; clear h15
    refine g_cS (n := 3) (As := [.int v2, .int v3, .int 0]) X (c_X8_placeOf hl D eS17) tw958 tw959 tw51 tw960 (by decide +kernel) rfl rfl ⟨by decide, by decide⟩ rfl rfl (Nat.le_of_ble_eq_true rfl) dX8_gossip_50 ⟨(by decide), (by decide)⟩ ?_
    clear eS17
    refine g_istore (i := 5) (lv' := [(5, .int x19), (4, .int x16), (0, va_rf (some a0)), (1, .int v1), (2, .int v2), (3, .int v3)]) X dX8_gossip_53 (by decide) rfl ?_
    refine g_aload_n (j := 2) X dX8_gossip_55 rfl rfl ?_
    obtain ⟨x20, ex20, h21⟩ := g_bd h18; clear h18
    refine g_fR (ci := 8) (k := 15) X rfl il8 (by decide) tw724 (by decide) (fun _ _ _ => rfl) ex20 dX8_gossip_56 ?_
    clear ex20
    refine g_iload (j := 1) X dX8_gossip_59 rfl ?_
    obtain ⟨x22, ex22, h23⟩ := g_bd h21; clear h21
    refine g_zald X ex22 dX8_gossip_61 ?_
    clear ex22
    refine g_if_eq (tgt := 75) X dX8_gossip_62 (by decide) (fun c24 => ?_) (fun c24 => ?_)
    · have h25 := g_ip h23 c24; clear h23
      refine g_iconst X dX8_gossip_75 (v := 0) (by decide) ?_
      obtain ⟨rfl, rfl⟩ := g_end h25
      exact g_iret X hr (by decide) (by decide) dX8_gossip_76
    · have h26 := g_in h23 c24; clear h23
      refine g_aload_n (j := 2) X dX8_gossip_65 rfl rfl ?_
      obtain ⟨x27, ex27, h28⟩ := g_bd h26; clear h26
      refine g_fR (ci := 8) (k := 15) X rfl il8 (by decide) tw724 (by decide) (fun _ _ _ => rfl) ex27 dX8_gossip_66 ?_
      clear ex27
      refine g_iload (j := 0) X dX8_gossip_69 rfl ?_
      obtain ⟨x29, ex29, h30⟩ := g_bd h28; clear h28
      refine g_zald X ex29 dX8_gossip_71 ?_
      clear ex29
      refine g_if_ne (tgt := 77) X dX8_gossip_72 (by decide) (fun c31 => ?_) (fun c31 => ?_)
      · have h32 := g_in h30 c31; clear h30
        refine g_aload_n (j := 2) X dX8_gossip_77 rfl rfl ?_
        refine g_iload (j := 1) X dX8_gossip_78 rfl ?_
        refine g_bipush X dX8_gossip_80 (v := 8) (by decide) ?_
        obtain ⟨a34, ea34, ka34, h35⟩ := g_dc h32; clear h32
        obtain ⟨x38, S36, eS36, h37⟩ := g_bi h35; clear h35
        refine g_cV (n := 2) (As := [.int x16, .int 8]) X (c_X8_seenLong hl D eS36) tw961 tw962 tw38 tw51 tw963 (by decide +kernel) rfl rfl ⟨by decide, by decide⟩ (ci := 8) rfl (by decide) ea34 ka34 rfl rfl (Nat.le_of_ble_eq_true rfl) dX8_gossip_82 ⟨(by decide), (by decide)⟩ ?_
        clear eS36 ea34 ka34
        refine g_lstore (i := 6) (lv' := [(6, .long x38), (5, .int x19), (4, .int x16), (0, va_rf (some a0)), (1, .int v1), (2, .int v2), (3, .int v3)]) X dX8_gossip_85 (by decide) rfl ?_
        refine g_aload_n (j := 3) X dX8_gossip_87 rfl rfl ?_
        refine g_iload (j := 1) X dX8_gossip_88 rfl ?_
        refine g_bipush X dX8_gossip_90 (v := 8) (by decide) ?_
        obtain ⟨a39, ea39, ka39, h40⟩ := g_dc h37; clear h37
        obtain ⟨x43, S41, eS41, h42⟩ := g_bi h40; clear h40
        refine g_cV (n := 2) (As := [.int x19, .int 8]) X (c_X8_seenLong hl D eS41) tw961 tw962 tw38 tw51 tw963 (by decide +kernel) rfl rfl ⟨by decide, by decide⟩ (ci := 8) rfl (by decide) ea39 ka39 rfl rfl (Nat.le_of_ble_eq_true rfl) dX8_gossip_92 ⟨(by decide), (by decide)⟩ ?_
        clear eS41 ea39 ka39
        refine g_lstore (i := 8) (lv' := [(8, .long x43), (6, .long x38), (5, .int x19), (4, .int x16), (0, va_rf (some a0)), (1, .int v1), (2, .int v2), (3, .int v3)]) X dX8_gossip_95 (by decide) rfl ?_
        refine g_lload (j := 1) X dX8_gossip_97 rfl ?_
        refine g_lload (j := 0) X dX8_gossip_99 rfl ?_
        refine g_lcmp X dX8_gossip_101 ?_
        refine g_if_eq (tgt := 119) X dX8_gossip_102 (by decide) (fun c44 => ?_) (fun c44 => ?_)
        · have h45 := g_ip h42 c44; clear h42
          refine g_aload_n (j := 4) X dX8_gossip_119 rfl rfl ?_
          refine g_iload (j := 3) X dX8_gossip_120 rfl ?_
          refine g_bipush X dX8_gossip_122 (v := 10) (by decide) ?_
          obtain ⟨a47, ea47, ka47, h48⟩ := g_dc h45; clear h45
          obtain ⟨S49, eS49, h50⟩ := g_bd h48; clear h48
          refine g_cV (n := 2) (As := [.int x16, .int 10]) X (c_X8_seenSlot hl D eS49) tw964 tw965 tw39 tw51 tw966 (by decide +kernel) rfl rfl ⟨by decide, by decide⟩ (ci := 8) rfl (by decide) ea47 ka47 rfl rfl (Nat.le_of_ble_eq_true rfl) dX8_gossip_124 ⟨(by decide), (by decide)⟩ ?_
          clear eS49 ea47 ka47
          refine g_aload_n (j := 4) X dX8_gossip_127 rfl rfl ?_
          refine g_iload (j := 2) X dX8_gossip_128 rfl ?_
          refine g_bipush X dX8_gossip_130 (v := 11) (by decide) ?_
          obtain ⟨a51, ea51, ka51, h52⟩ := g_dc h50; clear h50
          obtain ⟨S53, eS53, h54⟩ := g_bd h52; clear h52
          refine g_cV (n := 2) (As := [.int x19, .int 11]) X (c_X8_seenSlot hl D eS53) tw964 tw965 tw39 tw51 tw966 (by decide +kernel) rfl rfl ⟨by decide, by decide⟩ (ci := 8) rfl (by decide) ea51 ka51 rfl rfl (Nat.le_of_ble_eq_true rfl) dX8_gossip_132 ⟨(by decide), (by decide)⟩ ?_
          clear eS53 ea51 ka51
          refine g_aload_n (j := 4) X dX8_gossip_135 rfl rfl ?_
          refine g_bipush X dX8_gossip_136 (v := 10) (by decide) ?_
          refine g_bipush X dX8_gossip_138 (v := 11) (by decide) ?_
          obtain ⟨a55, ea55, ka55, h56⟩ := g_dc h54; clear h54
          obtain ⟨x59, S57, eS57, h58⟩ := g_bi h56; clear h56
          refine g_cV (n := 2) (As := [.int 10, .int 11]) X (c_X8_isSame hl D eS57) tw888 tw889 tw30 tw51 tw890 (by decide +kernel) rfl rfl ⟨by decide, by decide⟩ (ci := 8) rfl (by decide) ea55 ka55 rfl rfl (Nat.le_of_ble_eq_true rfl) dX8_gossip_140 ⟨(by decide), (by decide)⟩ ?_
          clear eS57 ea55 ka55
          refine g_if_eq (tgt := 148) X dX8_gossip_143 (by decide) (fun c60 => ?_) (fun c60 => ?_)
          · have h61 := g_ip h58 c60; clear h58
            refine g_aload_n (j := 4) X dX8_gossip_148 rfl rfl ?_
            refine g_iload (j := 3) X dX8_gossip_149 rfl ?_
            refine g_iload (j := 3) X dX8_gossip_151 rfl ?_
            refine g_iload (j := 2) X dX8_gossip_153 rfl ?_
            obtain ⟨a63, ea63, ka63, h64⟩ := g_dc h61; clear h61
            obtain ⟨S65, eS65, h66⟩ := g_bd h64; clear h64
            refine g_cV (n := 3) (As := [.int x16, .int x16, .int x19]) X (c_X8_told hl D eS65) tw977 tw978 tw42 tw51 tw979 (by decide +kernel) rfl rfl ⟨by decide, by decide⟩ (ci := 8) rfl (by decide) ea63 ka63 rfl rfl (Nat.le_of_ble_eq_true rfl) dX8_gossip_155 ⟨(by decide), (by decide)⟩ ?_
            clear eS65 ea63 ka63
            refine g_aload_n (j := 4) X dX8_gossip_158 rfl rfl ?_
            refine g_iload (j := 2) X dX8_gossip_159 rfl ?_
            refine g_iload (j := 3) X dX8_gossip_161 rfl ?_
            refine g_iload (j := 2) X dX8_gossip_163 rfl ?_
            obtain ⟨a67, ea67, ka67, h68⟩ := g_dc h66; clear h66
            obtain ⟨S69, eS69, h70⟩ := g_bd h68; clear h68
            refine g_cV (n := 3) (As := [.int x19, .int x16, .int x19]) X (c_X8_told hl D eS69) tw977 tw978 tw42 tw51 tw979 (by decide +kernel) rfl rfl ⟨by decide, by decide⟩ (ci := 8) rfl (by decide) ea67 ka67 rfl rfl (Nat.le_of_ble_eq_true rfl) dX8_gossip_165 ⟨(by decide), (by decide)⟩ ?_
            clear eS69 ea67 ka67
            refine g_iconst X dX8_gossip_168 (v := 3) (by decide) ?_
            obtain ⟨rfl, rfl⟩ := g_end h70
            exact g_iret X hr (by decide) (by decide) dX8_gossip_169
          · have h62 := g_in h58 c60; clear h58
            refine g_iconst X dX8_gossip_146 (v := 0) (by decide) ?_
            obtain ⟨rfl, rfl⟩ := g_end h62
            exact g_iret X hr (by decide) (by decide) dX8_gossip_147
        · have h46 := g_in h42 c44; clear h42
          refine g_lload (j := 1) X dX8_gossip_105 rfl ?_
          refine g_lload (j := 0) X dX8_gossip_107 rfl ?_
          refine g_lcmp X dX8_gossip_109 ?_
          refine g_if_le (tgt := 117) X dX8_gossip_110 (by decide) (fun c71 => ?_) (fun c71 => ?_)
          · have h72 := g_ip h46 c71; clear h46
            refine g_iconst X dX8_gossip_117 (v := 2) (by decide) ?_
            obtain ⟨rfl, rfl⟩ := g_end h72
            exact g_iret X hr (by decide) (by decide) dX8_gossip_118
          · have h73 := g_in h46 c71; clear h46
            refine g_iconst X dX8_gossip_113 (v := 1) (by decide) ?_
            refine g_goto (tgt := 118) X dX8_gossip_114 (by decide) ?_
            obtain ⟨rfl, rfl⟩ := g_end h73
            exact g_iret X hr (by decide) (by decide) dX8_gossip_118
      · have h33 := g_ip h30 c31; clear h30
        refine g_iconst X dX8_gossip_75 (v := 0) (by decide) ?_
        obtain ⟨rfl, rfl⟩ := g_end h33
        exact g_iret X hr (by decide) (by decide) dX8_gossip_76
  · have h13 := g_in h10 c11; clear h10
    refine g_iconst X dX8_gossip_37 (v := 0) (by decide) ?_
    obtain ⟨rfl, rfl⟩ := g_end h13
    exact g_iret X hr (by decide) (by decide) dX8_gossip_38
def f_X8_gossip_B22 (S0 : gS) (a0 : Nat) (v1 : Int32) (v2 : Int32) (v3 : Int32) (t0 : Option Nat) : Option (Int32 × gS) :=
  f_X8_gossip_B27 S0 a0 v1 v2 v3 1 t0
set_option maxRecDepth 100000 in
set_option maxHeartbeats 4000000 in
theorem w_X8_gossip_B22 {p : Program} {l : Launch} {e : Env} {s : State} {m : MethodId} {args : Array Value} {below : List Frame} {meth : Method} {c : Code} {D : gD} {S9 : gS} {res : Int32}  (hl : l.stackTraces = false) (X : gX D p l s m args meth c cX8_gossip 10 RX8) (hr : meth.sig.returnType = (some .int)) (S0 : gS) (a0 : Nat) (v1 : Int32) (v2 : Int32) (v3 : Int32) (t0 : Option Nat) (h0 : f_X8_gossip_B22 S0 a0 v1 v2 v3 t0 = some (res, S9)) : gJ D p l e { frames := 2, cells := 0, slots := 0, locals := 46 } s m args below meth c (MQ below (gQ D (some (.int res)) S9) args s (0) (0) (gF D)) 10 (0) (0) S0 22 [(0, va_rf (some a0)), (1, .int v1), (2, .int v2), (3, .int v3)] [va_rf t0] := by
  unfold f_X8_gossip_B22 at h0
  refine g_iconst X dX8_gossip_22 (v := 1) (by decide) ?_
  refine g_goto (tgt := 27) X dX8_gossip_23 (by decide) ?_
  refine g_sub [0, 1, 2, 3] rfl ?_
  exact w_X8_gossip_B27 hl X hr S0 a0 v1 v2 v3 1 t0 h0
def f_X8_gossip (S0 : gS) (a0 : Nat) (v1 : Int32) (v2 : Int32) (v3 : Int32) : Option (Int32 × gS) :=
  gBi (f_X8_isWitness S0 v1) fun x3 S1 =>
  if x3 = 0 then
    f_X8_gossip_B22 S1 a0 v1 v2 v3 (some a0)
  else
    gBi (f_X8_isWitness S1 v2) fun x76 S74 =>
    if x76 = 0 then
      f_X8_gossip_B22 S74 a0 v1 v2 v3 (some a0)
    else
      gBi (f_X8_isLog S74 v3) fun x82 S80 =>
      if x82 = 0 then
        f_X8_gossip_B22 S80 a0 v1 v2 v3 (some a0)
      else
        f_X8_gossip_B27 S80 a0 v1 v2 v3 0 (some a0)
set_option maxRecDepth 100000 in
set_option maxHeartbeats 4000000 in
theorem c_X8_gossip {l : Launch} (hl : l.stackTraces = false) (D : gD)  {S0 S9 : gS} {a0 : Nat} {v1 : Int32} {v2 : Int32} {v3 : Int32} {res : Int32} (h0 : f_X8_gossip S0 a0 v1 v2 v3 = some (res, S9)) : Met l yX8_gossip (gws yX8_gossip cX8_gossip 10 (some .int)) { frames := 2, cells := 0, slots := 0, locals := 46 } (gPc D S0 [.ref a0, .int v1, .int v2, .int v3]) (gQ D (some (.int res)) S9) (0) (0) (gF D) := by
  refine g_met (lv := [(0, va_rf (some a0)), (1, .int v1), (2, .int v2), (3, .int v3)]) hl (by decide) (Nat.le_of_ble_eq_true rfl) rfl (fun p e s m args below meth c X hr hn => ?_)
  have X : gX D p l s m args meth c cX8_gossip 10 RX8 := X
  unfold f_X8_gossip at h0
  refine g_aload_n (j := 0) X dX8_gossip_0 rfl rfl ?_
  refine g_iload_n (j := 1) X dX8_gossip_1 rfl rfl ?_
  obtain ⟨x3, S1, eS1, h2⟩ := g_bi h0; clear h0
  refine g_cS (n := 1) (As := [.int v1]) X (c_X8_isWitness hl D eS1) tw955 tw956 tw51 tw957 (by decide +kernel) rfl rfl ⟨by decide, by decide⟩ rfl rfl (Nat.le_of_ble_eq_true rfl) dX8_gossip_2 ⟨(by decide), (by decide)⟩ ?_
  clear eS1
  refine g_if_eq (tgt := 22) X dX8_gossip_5 (by decide) (fun c4 => ?_) (fun c4 => ?_)
  · have h5 := g_ip h2 c4; clear h2
    refine g_sub [0, 1, 2, 3] rfl ?_
    exact w_X8_gossip_B22 hl X hr S1 a0 v1 v2 v3 (some a0) h5
  · have h6 := g_in h2 c4; clear h2
    refine g_iload_n (j := 2) X dX8_gossip_8 rfl rfl ?_
    obtain ⟨x76, S74, eS74, h75⟩ := g_bi h6; clear h6
    refine g_cS (n := 1) (As := [.int v2]) X (c_X8_isWitness hl D eS74) tw955 tw956 tw51 tw957 (by decide +kernel) rfl rfl ⟨by decide, by decide⟩ rfl rfl (Nat.le_of_ble_eq_true rfl) dX8_gossip_9 ⟨(by decide), (by decide)⟩ ?_
    clear eS74
    refine g_if_eq (tgt := 22) X dX8_gossip_12 (by decide) (fun c77 => ?_) (fun c77 => ?_)
    · have h78 := g_ip h75 c77; clear h75
      refine g_sub [0, 1, 2, 3] rfl ?_
      exact w_X8_gossip_B22 hl X hr S74 a0 v1 v2 v3 (some a0) h78
    · have h79 := g_in h75 c77; clear h75
      refine g_iload_n (j := 3) X dX8_gossip_15 rfl rfl ?_
      obtain ⟨x82, S80, eS80, h81⟩ := g_bi h79; clear h79
      refine g_cS (n := 1) (As := [.int v3]) X (c_X8_isLog hl D eS80) tw793 tw794 tw51 tw795 (by decide +kernel) rfl rfl ⟨by decide, by decide⟩ rfl rfl (Nat.le_of_ble_eq_true rfl) dX8_gossip_16 ⟨(by decide), (by decide)⟩ ?_
      clear eS80
      refine g_if_ne (tgt := 26) X dX8_gossip_19 (by decide) (fun c83 => ?_) (fun c83 => ?_)
      · have h84 := g_in h81 c83; clear h81
        refine g_iconst X dX8_gossip_26 (v := 0) (by decide) ?_
        refine g_sub [0, 1, 2, 3] rfl ?_
        exact w_X8_gossip_B27 hl X hr S80 a0 v1 v2 v3 0 (some a0) h84
      · have h85 := g_ip h81 c83; clear h81
        refine g_sub [0, 1, 2, 3] rfl ?_
        exact w_X8_gossip_B22 hl X hr S80 a0 v1 v2 v3 (some a0) h85
