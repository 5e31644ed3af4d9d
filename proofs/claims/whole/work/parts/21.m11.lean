def f_X8_block_L245 : Nat → gS → Nat → Int32 → Int32 → Int32 → Int32 → Int32 → Int32 → Int32 → Int32 → Int32 → Option gS
  | 0, _, _, _, _, _, _, _, _, _, _, _ => none
  | k + 1, S0, a0, v2, v3, v4, v5, v6, v7, v8, v9, v10 =>
    if 64 ≤ v10 then
      (fgR S0 8 18 (some a0)).bind fun x42 =>
      (fI S0 10 x42 0).bind fun x44 =>
      (faI S0 x42 0 (x44 + v2)).bind fun S46 =>
      (fgR S46 8 18 (some a0)).bind fun x48 =>
      (fI S46 10 x48 1).bind fun x50 =>
      (faI S46 x48 1 (x50 + v3)).bind fun S52 =>
      (fgR S52 8 18 (some a0)).bind fun x54 =>
      (fI S52 10 x54 2).bind fun x56 =>
      (faI S52 x54 2 (x56 + v4)).bind fun S58 =>
      (fgR S58 8 18 (some a0)).bind fun x60 =>
      (fI S58 10 x60 3).bind fun x62 =>
      (faI S58 x60 3 (x62 + v5)).bind fun S64 =>
      (fgR S64 8 18 (some a0)).bind fun x66 =>
      (fI S64 10 x66 4).bind fun x68 =>
      (faI S64 x66 4 (x68 + v6)).bind fun S70 =>
      (fgR S70 8 18 (some a0)).bind fun x72 =>
      (fI S70 10 x72 5).bind fun x74 =>
      (faI S70 x72 5 (x74 + v7)).bind fun S76 =>
      (fgR S76 8 18 (some a0)).bind fun x78 =>
      (fI S76 10 x78 6).bind fun x80 =>
      (faI S76 x78 6 (x80 + v8)).bind fun S82 =>
      (fgR S82 8 18 (some a0)).bind fun x84 =>
      (fI S82 10 x84 7).bind fun x86 =>
      (faI S82 x84 7 (x86 + v9)).bind fun S88 =>
      some S88
    else
      gBi (f_X8_turn S0 v6 6) fun x92 S90 =>
      gBi (f_X8_turn S90 v6 11) fun x95 S93 =>
      gBi (f_X8_turn S93 v6 25) fun x98 S96 =>
      (fgR S96 8 20 (some a0)).bind fun x99 =>
      (fI S96 10 x99 v10).bind fun x101 =>
      (fgR S96 8 19 (some a0)).bind fun x103 =>
      (fI S96 10 x103 v10).bind fun x105 =>
      gLet ((((v9 + ((x92 ^^^ x95) ^^^ x98)) + ((v6 &&& v7) ^^^ ((v6 ^^^ (-1)) &&& v8))) + x101) + x105) fun x107 =>
      gBi (f_X8_turn S96 v2 2) fun x111 S109 =>
      gBi (f_X8_turn S109 v2 13) fun x114 S112 =>
      gBi (f_X8_turn S112 v2 22) fun x117 S115 =>
      gLet (((x111 ^^^ x114) ^^^ x117) + (((v2 &&& v3) ^^^ (v2 &&& v4)) ^^^ (v3 &&& v4))) fun x118 =>
      gLet (v5 + x107) fun x120 =>
      gLet (x107 + x118) fun x122 =>
      gLet (v10 + 1) fun x124 =>
      f_X8_block_L245 k S115 a0 x122 v2 v3 v4 x120 v6 v7 v8 x124
set_option maxRecDepth 100000 in
set_option maxHeartbeats 4000000 in
theorem w_X8_block_L245 {p : Program} {l : Launch} {e : Env} {s : State} {m : MethodId} {args : Array Value} {below : List Frame} {meth : Method} {c : Code} {D : gD} {S9 : gS}  (hl : l.stackTraces = false) (X : gX D p l s m args meth c cX8_block 13 RX8) (hr : meth.sig.returnType = none) : ∀ (k : Nat) (S0 : gS) (a0 : Nat) (v2 : Int32) (v3 : Int32) (v4 : Int32) (v5 : Int32) (v6 : Int32) (v7 : Int32) (v8 : Int32) (v9 : Int32) (v10 : Int32), f_X8_block_L245 k S0 a0 v2 v3 v4 v5 v6 v7 v8 v9 v10 = some S9 → gJ D p l e { frames := 1, cells := 0, slots := 0, locals := 21 } s m args below meth c (MQ below (gQ D none S9) args s (0) (0) (gF D)) 13 (0) (0) S0 245 [(0, va_rf (some a0)), (2, .int v2), (3, .int v3), (4, .int v4), (5, .int v5), (6, .int v6), (7, .int v7), (8, .int v8), (9, .int v9), (10, .int v10)] [] := by
  intro k
  induction k with
  | zero => intro S0 a0 v2 v3 v4 v5 v6 v7 v8 v9 v10 h0; cases h0
  | succ k ih =>
    intro S0 a0 v2 v3 v4 v5 v6 v7 v8 v9 v10 h0
    have h0 := h0
    unfold f_X8_block_L245 at h0
    refine g_iload (j := 9) X dX8_block_245 rfl ?_
    refine g_bipush X dX8_block_247 (v := 64) (by decide) ?_
    refine g_icmp_ge (tgt := 385) X dX8_block_249 (by decide) (fun c39 => ?_) (fun c39 => ?_)
    · have h40 := g_ip h0 c39; clear h0
      refine g_aload_n (j := 0) X dX8_block_385 rfl rfl ?_
      obtain ⟨x42, ex42, h43⟩ := g_bd h40; clear h40
      refine g_fR (ci := 8) (k := 18) X rfl il8 (by decide) tw721 (by decide) (fun _ _ _ => rfl) ex42 dX8_block_386 ?_
      clear ex42
      refine g_iconst X dX8_block_389 (v := 0) (by decide) ?_
      refine g_dup2 X dX8_block_390 rfl (g_rfc _) ?_
      obtain ⟨x44, ex44, h45⟩ := g_bd h43; clear h43
      refine g_iald X ex44 dX8_block_391 ?_
      clear ex44
      refine g_iload_n (j := 1) X dX8_block_392 rfl rfl ?_
      refine g_iadd X dX8_block_393 ?_
      obtain ⟨S46, eS46, h47⟩ := g_bd h45; clear h45
      refine g_iast X eS46 dX8_block_394 ?_
      clear eS46
      refine g_aload_n (j := 0) X dX8_block_395 rfl rfl ?_
      obtain ⟨x48, ex48, h49⟩ := g_bd h47; clear h47
      refine g_fR (ci := 8) (k := 18) X rfl il8 (by decide) tw721 (by decide) (fun _ _ _ => rfl) ex48 dX8_block_396 ?_
      clear ex48
      refine g_iconst X dX8_block_399 (v := 1) (by decide) ?_
      refine g_dup2 X dX8_block_400 rfl (g_rfc _) ?_
      obtain ⟨x50, ex50, h51⟩ := g_bd h49; clear h49
      refine g_iald X ex50 dX8_block_401 ?_
      clear ex50
      refine g_iload_n (j := 2) X dX8_block_402 rfl rfl ?_
      refine g_iadd X dX8_block_403 ?_
      obtain ⟨S52, eS52, h53⟩ := g_bd h51; clear h51
      refine g_iast X eS52 dX8_block_404 ?_
      clear eS52
      refine g_aload_n (j := 0) X dX8_block_405 rfl rfl ?_
      obtain ⟨x54, ex54, h55⟩ := g_bd h53; clear h53
      refine g_fR (ci := 8) (k := 18) X rfl il8 (by decide) tw721 (by decide) (fun _ _ _ => rfl) ex54 dX8_block_406 ?_
      clear ex54
      refine g_iconst X dX8_block_409 (v := 2) (by decide) ?_
      refine g_dup2 X dX8_block_410 rfl (g_rfc _) ?_
      obtain ⟨x56, ex56, h57⟩ := g_bd h55; clear h55
      refine g_iald X ex56 dX8_block_411 ?_
      clear ex56
      refine g_iload (j := 3) X dX8_block_412 rfl ?_
      refine g_iadd X dX8_block_414 ?_
      obtain ⟨S58, eS58, h59⟩ := g_bd h57; clear h57
      refine g_iast X eS58 dX8_block_415 ?_
      clear eS58
      refine g_aload_n (j := 0) X dX8_block_416 rfl rfl ?_
      obtain ⟨x60, ex60, h61⟩ := g_bd h59; clear h59
      refine g_fR (ci := 8) (k := 18) X rfl il8 (by decide) tw721 (by decide) (fun _ _ _ => rfl) ex60 dX8_block_417 ?_
      clear ex60
      refine g_iconst X dX8_block_420 (v := 3) (by decide) ?_
      refine g_dup2 X dX8_block_421 rfl (g_rfc _) ?_
      obtain ⟨x62, ex62, h63⟩ := g_bd h61; clear h61
      refine g_iald X ex62 dX8_block_422 ?_
      clear ex62
      refine g_iload (j := 4) X dX8_block_423 rfl ?_
      refine g_iadd X dX8_block_425 ?_
      obtain ⟨S64, eS64, h65⟩ := g_bd h63; clear h63
      refine g_iast X eS64 dX8_block_426 ?_
      clear eS64
      refine g_aload_n (j := 0) X dX8_block_427 rfl rfl ?_
      obtain ⟨x66, ex66, h67⟩ := g_bd h65; clear h65
      refine g_fR (ci := 8) (k := 18) X rfl il8 (by decide) tw721 (by decide) (fun _ _ _ => rfl) ex66 dX8_block_428 ?_
      clear ex66
      refine g_iconst X dX8_block_431 (v := 4) (by decide) ?_
      refine g_dup2 X dX8_block_432 rfl (g_rfc _) ?_
      obtain ⟨x68, ex68, h69⟩ := g_bd h67; clear h67
      refine g_iald X ex68 dX8_block_433 ?_
      clear ex68
      refine g_iload (j := 5) X dX8_block_434 rfl ?_
      refine g_iadd X dX8_block_436 ?_
      obtain ⟨S70, eS70, h71⟩ := g_bd h69; clear h69
      refine g_iast X eS70 dX8_block_437 ?_
      clear eS70
      refine g_aload_n (j := 0) X dX8_block_438 rfl rfl ?_
      obtain ⟨x72, ex72, h73⟩ := g_bd h71; clear h71
      refine g_fR (ci := 8) (k := 18) X rfl il8 (by decide) tw721 (by decide) (fun _ _ _ => rfl) ex72 dX8_block_439 ?_
      clear ex72
      refine g_iconst X dX8_block_442 (v := 5) (by decide) ?_
      refine g_dup2 X dX8_block_443 rfl (g_rfc _) ?_
      obtain ⟨x74, ex74, h75⟩ := g_bd h73; clear h73
      refine g_iald X ex74 dX8_block_444 ?_
      clear ex74
      refine g_iload (j := 6) X dX8_block_445 rfl ?_
      refine g_iadd X dX8_block_447 ?_
      obtain ⟨S76, eS76, h77⟩ := g_bd h75; clear h75
      refine g_iast X eS76 dX8_block_448 ?_
      clear eS76
      refine g_aload_n (j := 0) X dX8_block_449 rfl rfl ?_
      obtain ⟨x78, ex78, h79⟩ := g_bd h77; clear h77
      refine g_fR (ci := 8) (k := 18) X rfl il8 (by decide) tw721 (by decide) (fun _ _ _ => rfl) ex78 dX8_block_450 ?_
      clear ex78
      refine g_bipush X dX8_block_453 (v := 6) (by decide) ?_
      refine g_dup2 X dX8_block_455 rfl (g_rfc _) ?_
      obtain ⟨x80, ex80, h81⟩ := g_bd h79; clear h79
      refine g_iald X ex80 dX8_block_456 ?_
      clear ex80
      refine g_iload (j := 7) X dX8_block_457 rfl ?_
      refine g_iadd X dX8_block_459 ?_
      obtain ⟨S82, eS82, h83⟩ := g_bd h81; clear h81
      refine g_iast X eS82 dX8_block_460 ?_
      clear eS82
      refine g_aload_n (j := 0) X dX8_block_461 rfl rfl ?_
      obtain ⟨x84, ex84, h85⟩ := g_bd h83; clear h83
      refine g_fR (ci := 8) (k := 18) X rfl il8 (by decide) tw721 (by decide) (fun _ _ _ => rfl) ex84 dX8_block_462 ?_
      clear ex84
      refine g_bipush X dX8_block_465 (v := 7) (by decide) ?_
      refine g_dup2 X dX8_block_467 rfl (g_rfc _) ?_
      obtain ⟨x86, ex86, h87⟩ := g_bd h85; clear h85
      refine g_iald X ex86 dX8_block_468 ?_
      clear ex86
      refine g_iload (j := 8) X dX8_block_469 rfl ?_
      refine g_iadd X dX8_block_471 ?_
      obtain ⟨S88, eS88, h89⟩ := g_bd h87; clear h87
      refine g_iast X eS88 dX8_block_472 ?_
      clear eS88
      cases h89
      exact g_vret X hr (by decide) (by decide) dX8_block_473
    · have h41 := g_in h0 c39; clear h0
      refine g_iload (j := 8) X dX8_block_252 rfl ?_
      refine g_iload (j := 5) X dX8_block_254 rfl ?_
      refine g_bipush X dX8_block_256 (v := 6) (by decide) ?_
      obtain ⟨x92, S90, eS90, h91⟩ := g_bi h41; clear h41
      refine g_cS (n := 2) (As := [.int v6, .int 6]) X (c_X8_turn hl D eS90) tw824 tw825 tw51 tw826 (by decide +kernel) rfl rfl ⟨Nat.le_of_ble_eq_true rfl, Nat.le_of_ble_eq_true rfl⟩ rfl rfl (Nat.le_of_ble_eq_true rfl) dX8_block_258 ⟨(by decide), (by decide)⟩ ?_
      clear eS90
      refine g_iload (j := 5) X dX8_block_261 rfl ?_
      refine g_bipush X dX8_block_263 (v := 11) (by decide) ?_
      obtain ⟨x95, S93, eS93, h94⟩ := g_bi h91; clear h91
      refine g_cS (n := 2) (As := [.int v6, .int 11]) X (c_X8_turn hl D eS93) tw824 tw825 tw51 tw826 (by decide +kernel) rfl rfl ⟨Nat.le_of_ble_eq_true rfl, Nat.le_of_ble_eq_true rfl⟩ rfl rfl (Nat.le_of_ble_eq_true rfl) dX8_block_265 ⟨(by decide), (by decide)⟩ ?_
      clear eS93
      refine g_ixor X dX8_block_268 ?_
      refine g_iload (j := 5) X dX8_block_269 rfl ?_
      refine g_bipush X dX8_block_271 (v := 25) (by decide) ?_
      obtain ⟨x98, S96, eS96, h97⟩ := g_bi h94; clear h94
      refine g_cS (n := 2) (As := [.int v6, .int 25]) X (c_X8_turn hl D eS96) tw824 tw825 tw51 tw826 (by decide +kernel) rfl rfl ⟨Nat.le_of_ble_eq_true rfl, Nat.le_of_ble_eq_true rfl⟩ rfl rfl (Nat.le_of_ble_eq_true rfl) dX8_block_273 ⟨(by decide), (by decide)⟩ ?_
      clear eS96
      refine g_ixor X dX8_block_276 ?_
      refine g_iadd X dX8_block_277 ?_
      refine g_iload (j := 5) X dX8_block_278 rfl ?_
      refine g_iload (j := 6) X dX8_block_280 rfl ?_
      refine g_iand X dX8_block_282 ?_
      refine g_iload (j := 5) X dX8_block_283 rfl ?_
      refine g_iconst X dX8_block_285 (v := (-1)) (by decide) ?_
      refine g_ixor X dX8_block_286 ?_
      refine g_iload (j := 7) X dX8_block_287 rfl ?_
      refine g_iand X dX8_block_289 ?_
      refine g_ixor X dX8_block_290 ?_
      refine g_iadd X dX8_block_291 ?_
      refine g_aload_n (j := 0) X dX8_block_292 rfl rfl ?_
      obtain ⟨x99, ex99, h100⟩ := g_bd h97; clear h97
      refine g_fR (ci := 8) (k := 20) X rfl il8 (by decide) tw723 (by decide) (fun _ _ _ => rfl) ex99 dX8_block_293 ?_
      clear ex99
      refine g_iload (j := 9) X dX8_block_296 rfl ?_
      obtain ⟨x101, ex101, h102⟩ := g_bd h100; clear h100
      refine g_iald X ex101 dX8_block_298 ?_
      clear ex101
      refine g_iadd X dX8_block_299 ?_
      refine g_aload_n (j := 0) X dX8_block_300 rfl rfl ?_
      obtain ⟨x103, ex103, h104⟩ := g_bd h102; clear h102
      refine g_fR (ci := 8) (k := 19) X rfl il8 (by decide) tw722 (by decide) (fun _ _ _ => rfl) ex103 dX8_block_301 ?_
      clear ex103
      refine g_iload (j := 9) X dX8_block_304 rfl ?_
      obtain ⟨x105, ex105, h106⟩ := g_bd h104; clear h104
      refine g_iald X ex105 dX8_block_306 ?_
      clear ex105
      refine g_iadd X dX8_block_307 ?_
      obtain ⟨x107, ex107, h108⟩ := g_let h106; clear h106; rw [← ex107]; clear ex107
      refine g_istore (i := 11) (lv' := [(11, .int x107), (0, va_rf (some a0)), (2, .int v2), (3, .int v3), (4, .int v4), (5, .int v5), (6, .int v6), (7, .int v7), (8, .int v8), (9, .int v9), (10, .int v10)]) X dX8_block_308 (by decide) rfl ?_
      refine g_iload_n (j := 2) X dX8_block_310 rfl rfl ?_
      refine g_iconst X dX8_block_311 (v := 2) (by decide) ?_
      obtain ⟨x111, S109, eS109, h110⟩ := g_bi h108; clear h108
      refine g_cS (n := 2) (As := [.int v2, .int 2]) X (c_X8_turn hl D eS109) tw824 tw825 tw51 tw826 (by decide +kernel) rfl rfl ⟨Nat.le_of_ble_eq_true rfl, Nat.le_of_ble_eq_true rfl⟩ rfl rfl (Nat.le_of_ble_eq_true rfl) dX8_block_312 ⟨(by decide), (by decide)⟩ ?_
      clear eS109
      refine g_iload_n (j := 2) X dX8_block_315 rfl rfl ?_
      refine g_bipush X dX8_block_316 (v := 13) (by decide) ?_
      obtain ⟨x114, S112, eS112, h113⟩ := g_bi h110; clear h110
      refine g_cS (n := 2) (As := [.int v2, .int 13]) X (c_X8_turn hl D eS112) tw824 tw825 tw51 tw826 (by decide +kernel) rfl rfl ⟨Nat.le_of_ble_eq_true rfl, Nat.le_of_ble_eq_true rfl⟩ rfl rfl (Nat.le_of_ble_eq_true rfl) dX8_block_318 ⟨(by decide), (by decide)⟩ ?_
      clear eS112
      refine g_ixor X dX8_block_321 ?_
      refine g_iload_n (j := 2) X dX8_block_322 rfl rfl ?_
      refine g_bipush X dX8_block_323 (v := 22) (by decide) ?_
      obtain ⟨x117, S115, eS115, h116⟩ := g_bi h113; clear h113
      refine g_cS (n := 2) (As := [.int v2, .int 22]) X (c_X8_turn hl D eS115) tw824 tw825 tw51 tw826 (by decide +kernel) rfl rfl ⟨Nat.le_of_ble_eq_true rfl, Nat.le_of_ble_eq_true rfl⟩ rfl rfl (Nat.le_of_ble_eq_true rfl) dX8_block_325 ⟨(by decide), (by decide)⟩ ?_
      clear eS115
      refine g_ixor X dX8_block_328 ?_
      refine g_iload_n (j := 2) X dX8_block_329 rfl rfl ?_
      refine g_iload_n (j := 3) X dX8_block_330 rfl rfl ?_
      refine g_iand X dX8_block_331 ?_
      refine g_iload_n (j := 2) X dX8_block_332 rfl rfl ?_
      refine g_iload (j := 4) X dX8_block_333 rfl ?_
      refine g_iand X dX8_block_335 ?_
      refine g_ixor X dX8_block_336 ?_
      refine g_iload_n (j := 3) X dX8_block_337 rfl rfl ?_
      refine g_iload (j := 4) X dX8_block_338 rfl ?_
      refine g_iand X dX8_block_340 ?_
      refine g_ixor X dX8_block_341 ?_
      refine g_iadd X dX8_block_342 ?_
      obtain ⟨x118, ex118, h119⟩ := g_let h116; clear h116; rw [← ex118]; clear ex118
      refine g_istore (i := 12) (lv' := [(12, .int x118), (11, .int x107), (0, va_rf (some a0)), (2, .int v2), (3, .int v3), (4, .int v4), (5, .int v5), (6, .int v6), (7, .int v7), (8, .int v8), (9, .int v9), (10, .int v10)]) X dX8_block_343 (by decide) rfl ?_
      refine g_iload (j := 9) X dX8_block_345 rfl ?_
      refine g_istore (i := 9) (lv' := [(9, .int v8), (12, .int x118), (11, .int x107), (0, va_rf (some a0)), (2, .int v2), (3, .int v3), (4, .int v4), (5, .int v5), (6, .int v6), (7, .int v7), (8, .int v8), (10, .int v10)]) X dX8_block_347 (by decide) rfl ?_
      refine g_iload (j := 9) X dX8_block_349 rfl ?_
      refine g_istore (i := 8) (lv' := [(8, .int v7), (9, .int v8), (12, .int x118), (11, .int x107), (0, va_rf (some a0)), (2, .int v2), (3, .int v3), (4, .int v4), (5, .int v5), (6, .int v6), (7, .int v7), (10, .int v10)]) X dX8_block_351 (by decide) rfl ?_
      refine g_iload (j := 9) X dX8_block_353 rfl ?_
      refine g_istore (i := 7) (lv' := [(7, .int v6), (8, .int v7), (9, .int v8), (12, .int x118), (11, .int x107), (0, va_rf (some a0)), (2, .int v2), (3, .int v3), (4, .int v4), (5, .int v5), (6, .int v6), (10, .int v10)]) X dX8_block_355 (by decide) rfl ?_
      refine g_iload (j := 9) X dX8_block_357 rfl ?_
      refine g_iload (j := 4) X dX8_block_359 rfl ?_
      refine g_iadd X dX8_block_361 ?_
      obtain ⟨x120, ex120, h121⟩ := g_let h119; clear h119; rw [← ex120]; clear ex120
      refine g_istore (i := 6) (lv' := [(6, .int x120), (7, .int v6), (8, .int v7), (9, .int v8), (12, .int x118), (11, .int x107), (0, va_rf (some a0)), (2, .int v2), (3, .int v3), (4, .int v4), (5, .int v5), (10, .int v10)]) X dX8_block_362 (by decide) rfl ?_
      refine g_iload (j := 9) X dX8_block_364 rfl ?_
      refine g_istore (i := 5) (lv' := [(5, .int v4), (6, .int x120), (7, .int v6), (8, .int v7), (9, .int v8), (12, .int x118), (11, .int x107), (0, va_rf (some a0)), (2, .int v2), (3, .int v3), (4, .int v4), (10, .int v10)]) X dX8_block_366 (by decide) rfl ?_
      refine g_iload_n (j := 9) X dX8_block_368 rfl rfl ?_
      refine g_istore (i := 4) (lv' := [(4, .int v3), (5, .int v4), (6, .int x120), (7, .int v6), (8, .int v7), (9, .int v8), (12, .int x118), (11, .int x107), (0, va_rf (some a0)), (2, .int v2), (3, .int v3), (10, .int v10)]) X dX8_block_369 (by decide) rfl ?_
      refine g_iload_n (j := 9) X dX8_block_371 rfl rfl ?_
      refine g_istore_n (i := 3) (lv' := [(3, .int v2), (4, .int v3), (5, .int v4), (6, .int x120), (7, .int v6), (8, .int v7), (9, .int v8), (12, .int x118), (11, .int x107), (0, va_rf (some a0)), (2, .int v2), (10, .int v10)]) X dX8_block_372 rfl (by decide) rfl ?_
      refine g_iload (j := 8) X dX8_block_373 rfl ?_
      refine g_iload (j := 7) X dX8_block_375 rfl ?_
      refine g_iadd X dX8_block_377 ?_
      obtain ⟨x122, ex122, h123⟩ := g_let h121; clear h121; rw [← ex122]; clear ex122
      refine g_istore_n (i := 2) (lv' := [(2, .int x122), (3, .int v2), (4, .int v3), (5, .int v4), (6, .int x120), (7, .int v6), (8, .int v7), (9, .int v8), (12, .int x118), (11, .int x107), (0, va_rf (some a0)), (10, .int v10)]) X dX8_block_378 rfl (by decide) rfl ?_
      obtain ⟨x124, ex124, h125⟩ := g_let h123; clear h123
      refine g_iinc (j := 11) (v := x124) (lv' := [(10, .int x124), (2, .int x122), (3, .int v2), (4, .int v3), (5, .int v4), (6, .int x120), (7, .int v6), (8, .int v7), (9, .int v8), (12, .int x118), (11, .int x107), (0, va_rf (some a0))]) X dX8_block_379 rfl (by rw [ex124]; rfl) (by decide) rfl ?_
      clear ex124
      refine g_goto (tgt := 245) X dX8_block_382 (by decide) ?_
      refine g_sub [11, 1, 2, 3, 4, 5, 6, 7, 8, 0] rfl ?_
      exact ih S115 a0 x122 v2 v3 v4 x120 v6 v7 v8 x124 h125
def f_X8_block_L81 : Nat → gS → Nat → Int32 → Option gS
  | 0, _, _, _ => none
  | k + 1, S0, a0, v2 =>
    if 64 ≤ v2 then
      (fgR S0 8 18 (some a0)).bind fun x7 =>
      (fI S0 10 x7 0).bind fun x9 =>
      (fgR S0 8 18 (some a0)).bind fun x11 =>
      (fI S0 10 x11 1).bind fun x13 =>
      (fgR S0 8 18 (some a0)).bind fun x15 =>
      (fI S0 10 x15 2).bind fun x17 =>
      (fgR S0 8 18 (some a0)).bind fun x19 =>
      (fI S0 10 x19 3).bind fun x21 =>
      (fgR S0 8 18 (some a0)).bind fun x23 =>
      (fI S0 10 x23 4).bind fun x25 =>
      (fgR S0 8 18 (some a0)).bind fun x27 =>
      (fI S0 10 x27 5).bind fun x29 =>
      (fgR S0 8 18 (some a0)).bind fun x31 =>
      (fI S0 10 x31 6).bind fun x33 =>
      (fgR S0 8 18 (some a0)).bind fun x35 =>
      (fI S0 10 x35 7).bind fun x37 =>
      f_X8_block_L245 gFuel S0 a0 x9 x13 x17 x21 x25 x29 x33 x37 0
    else
      (fgR S0 8 19 (some a0)).bind fun x126 =>
      (fI S0 10 x126 (v2 - 15)).bind fun x128 =>
      (fgR S0 8 19 (some a0)).bind fun x130 =>
      (fI S0 10 x130 (v2 - 2)).bind fun x132 =>
      (fgR S0 8 19 (some a0)).bind fun x134 =>
      (fgR S0 8 19 (some a0)).bind fun x136 =>
      (fI S0 10 x136 (v2 - 16)).bind fun x138 =>
      gBi (f_X8_turn S0 x128 7) fun x142 S140 =>
      gBi (f_X8_turn S140 x128 18) fun x145 S143 =>
      (fgR S143 8 19 (some a0)).bind fun x146 =>
      (fI S143 10 x146 (v2 - 7)).bind fun x148 =>
      gBi (f_X8_turn S143 x132 17) fun x152 S150 =>
      gBi (f_X8_turn S150 x132 19) fun x155 S153 =>
      (faI S153 x134 v2 (((x138 + ((x142 ^^^ x145) ^^^ (g_ushr x128 3))) + x148) + ((x152 ^^^ x155) ^^^ (g_ushr x132 10)))).bind fun S156 =>
      gLet (v2 + 1) fun x158 =>
      f_X8_block_L81 k S156 a0 x158
set_option maxRecDepth 100000 in
set_option maxHeartbeats 4000000 in
theorem w_X8_block_L81 {p : Program} {l : Launch} {e : Env} {s : State} {m : MethodId} {args : Array Value} {below : List Frame} {meth : Method} {c : Code} {D : gD} {S9 : gS}  (hl : l.stackTraces = false) (X : gX D p l s m args meth c cX8_block 13 RX8) (hr : meth.sig.returnType = none) : ∀ (k : Nat) (S0 : gS) (a0 : Nat) (v2 : Int32), f_X8_block_L81 k S0 a0 v2 = some S9 → gJ D p l e { frames := 1, cells := 0, slots := 0, locals := 21 } s m args below meth c (MQ below (gQ D none S9) args s (0) (0) (gF D)) 13 (0) (0) S0 81 [(0, va_rf (some a0)), (2, .int v2)] [] := by
  intro k
  induction k with
  | zero => intro S0 a0 v2 h0; cases h0
  | succ k ih =>
    intro S0 a0 v2 h0
    have h0 := h0
    unfold f_X8_block_L81 at h0
    refine g_iload_n (j := 1) X dX8_block_81 rfl rfl ?_
    refine g_bipush X dX8_block_82 (v := 64) (by decide) ?_
    refine g_icmp_ge (tgt := 178) X dX8_block_84 (by decide) (fun c4 => ?_) (fun c4 => ?_)
    · have h5 := g_ip h0 c4; clear h0
      refine g_aload_n (j := 0) X dX8_block_178 rfl rfl ?_
      obtain ⟨x7, ex7, h8⟩ := g_bd h5; clear h5
      refine g_fR (ci := 8) (k := 18) X rfl il8 (by decide) tw721 (by decide) (fun _ _ _ => rfl) ex7 dX8_block_179 ?_
      clear ex7
      refine g_iconst X dX8_block_182 (v := 0) (by decide) ?_
      obtain ⟨x9, ex9, h10⟩ := g_bd h8; clear h8
      refine g_iald X ex9 dX8_block_183 ?_
      clear ex9
      refine g_istore_n (i := 2) (lv' := [(2, .int x9), (0, va_rf (some a0))]) X dX8_block_184 rfl (by decide) rfl ?_
      refine g_aload_n (j := 1) X dX8_block_185 rfl rfl ?_
      obtain ⟨x11, ex11, h12⟩ := g_bd h10; clear h10
      refine g_fR (ci := 8) (k := 18) X rfl il8 (by decide) tw721 (by decide) (fun _ _ _ => rfl) ex11 dX8_block_186 ?_
      clear ex11
      refine g_iconst X dX8_block_189 (v := 1) (by decide) ?_
      obtain ⟨x13, ex13, h14⟩ := g_bd h12; clear h12
      refine g_iald X ex13 dX8_block_190 ?_
      clear ex13
      refine g_istore_n (i := 3) (lv' := [(3, .int x13), (2, .int x9), (0, va_rf (some a0))]) X dX8_block_191 rfl (by decide) rfl ?_
      refine g_aload_n (j := 2) X dX8_block_192 rfl rfl ?_
      obtain ⟨x15, ex15, h16⟩ := g_bd h14; clear h14
      refine g_fR (ci := 8) (k := 18) X rfl il8 (by decide) tw721 (by decide) (fun _ _ _ => rfl) ex15 dX8_block_193 ?_
      clear ex15
      refine g_iconst X dX8_block_196 (v := 2) (by decide) ?_
      obtain ⟨x17, ex17, h18⟩ := g_bd h16; clear h16
      refine g_iald X ex17 dX8_block_197 ?_
      clear ex17
      refine g_istore (i := 4) (lv' := [(4, .int x17), (3, .int x13), (2, .int x9), (0, va_rf (some a0))]) X dX8_block_198 (by decide) rfl ?_
      refine g_aload_n (j := 3) X dX8_block_200 rfl rfl ?_
      obtain ⟨x19, ex19, h20⟩ := g_bd h18; clear h18
      refine g_fR (ci := 8) (k := 18) X rfl il8 (by decide) tw721 (by decide) (fun _ _ _ => rfl) ex19 dX8_block_201 ?_
      clear ex19
      refine g_iconst X dX8_block_204 (v := 3) (by decide) ?_
      obtain ⟨x21, ex21, h22⟩ := g_bd h20; clear h20
      refine g_iald X ex21 dX8_block_205 ?_
      clear ex21
      refine g_istore (i := 5) (lv' := [(5, .int x21), (4, .int x17), (3, .int x13), (2, .int x9), (0, va_rf (some a0))]) X dX8_block_206 (by decide) rfl ?_
      refine g_aload_n (j := 4) X dX8_block_208 rfl rfl ?_
      obtain ⟨x23, ex23, h24⟩ := g_bd h22; clear h22
      refine g_fR (ci := 8) (k := 18) X rfl il8 (by decide) tw721 (by decide) (fun _ _ _ => rfl) ex23 dX8_block_209 ?_
      clear ex23
      refine g_iconst X dX8_block_212 (v := 4) (by decide) ?_
      obtain ⟨x25, ex25, h26⟩ := g_bd h24; clear h24
      refine g_iald X ex25 dX8_block_213 ?_
      clear ex25
      refine g_istore (i := 6) (lv' := [(6, .int x25), (5, .int x21), (4, .int x17), (3, .int x13), (2, .int x9), (0, va_rf (some a0))]) X dX8_block_214 (by decide) rfl ?_
      refine g_aload_n (j := 5) X dX8_block_216 rfl rfl ?_
      obtain ⟨x27, ex27, h28⟩ := g_bd h26; clear h26
      refine g_fR (ci := 8) (k := 18) X rfl il8 (by decide) tw721 (by decide) (fun _ _ _ => rfl) ex27 dX8_block_217 ?_
      clear ex27
      refine g_iconst X dX8_block_220 (v := 5) (by decide) ?_
      obtain ⟨x29, ex29, h30⟩ := g_bd h28; clear h28
      refine g_iald X ex29 dX8_block_221 ?_
      clear ex29
      refine g_istore (i := 7) (lv' := [(7, .int x29), (6, .int x25), (5, .int x21), (4, .int x17), (3, .int x13), (2, .int x9), (0, va_rf (some a0))]) X dX8_block_222 (by decide) rfl ?_
      refine g_aload_n (j := 6) X dX8_block_224 rfl rfl ?_
      obtain ⟨x31, ex31, h32⟩ := g_bd h30; clear h30
      refine g_fR (ci := 8) (k := 18) X rfl il8 (by decide) tw721 (by decide) (fun _ _ _ => rfl) ex31 dX8_block_225 ?_
      clear ex31
      refine g_bipush X dX8_block_228 (v := 6) (by decide) ?_
      obtain ⟨x33, ex33, h34⟩ := g_bd h32; clear h32
      refine g_iald X ex33 dX8_block_230 ?_
      clear ex33
      refine g_istore (i := 8) (lv' := [(8, .int x33), (7, .int x29), (6, .int x25), (5, .int x21), (4, .int x17), (3, .int x13), (2, .int x9), (0, va_rf (some a0))]) X dX8_block_231 (by decide) rfl ?_
      refine g_aload_n (j := 7) X dX8_block_233 rfl rfl ?_
      obtain ⟨x35, ex35, h36⟩ := g_bd h34; clear h34
      refine g_fR (ci := 8) (k := 18) X rfl il8 (by decide) tw721 (by decide) (fun _ _ _ => rfl) ex35 dX8_block_234 ?_
      clear ex35
      refine g_bipush X dX8_block_237 (v := 7) (by decide) ?_
      obtain ⟨x37, ex37, h38⟩ := g_bd h36; clear h36
      refine g_iald X ex37 dX8_block_239 ?_
      clear ex37
      refine g_istore (i := 9) (lv' := [(9, .int x37), (8, .int x33), (7, .int x29), (6, .int x25), (5, .int x21), (4, .int x17), (3, .int x13), (2, .int x9), (0, va_rf (some a0))]) X dX8_block_240 (by decide) rfl ?_
      refine g_iconst X dX8_block_242 (v := 0) (by decide) ?_
      refine g_istore (i := 10) (lv' := [(10, .int 0), (9, .int x37), (8, .int x33), (7, .int x29), (6, .int x25), (5, .int x21), (4, .int x17), (3, .int x13), (2, .int x9), (0, va_rf (some a0))]) X dX8_block_243 (by decide) rfl ?_
      refine g_sub [9, 8, 7, 6, 5, 4, 3, 2, 1, 0] rfl ?_
      exact w_X8_block_L245 hl X hr gFuel S0 a0 x9 x13 x17 x21 x25 x29 x33 x37 0 h38
    · have h6 := g_in h0 c4; clear h0
      refine g_aload_n (j := 0) X dX8_block_87 rfl rfl ?_
      obtain ⟨x126, ex126, h127⟩ := g_bd h6; clear h6
      refine g_fR (ci := 8) (k := 19) X rfl il8 (by decide) tw722 (by decide) (fun _ _ _ => rfl) ex126 dX8_block_88 ?_
      clear ex126
      refine g_iload_n (j := 1) X dX8_block_91 rfl rfl ?_
      refine g_bipush X dX8_block_92 (v := 15) (by decide) ?_
      refine g_isub X dX8_block_94 ?_
      obtain ⟨x128, ex128, h129⟩ := g_bd h127; clear h127
      refine g_iald X ex128 dX8_block_95 ?_
      clear ex128
      refine g_istore_n (i := 3) (lv' := [(3, .int x128), (0, va_rf (some a0)), (2, .int v2)]) X dX8_block_96 rfl (by decide) rfl ?_
      refine g_aload_n (j := 1) X dX8_block_97 rfl rfl ?_
      obtain ⟨x130, ex130, h131⟩ := g_bd h129; clear h129
      refine g_fR (ci := 8) (k := 19) X rfl il8 (by decide) tw722 (by decide) (fun _ _ _ => rfl) ex130 dX8_block_98 ?_
      clear ex130
      refine g_iload_n (j := 2) X dX8_block_101 rfl rfl ?_
      refine g_iconst X dX8_block_102 (v := 2) (by decide) ?_
      refine g_isub X dX8_block_103 ?_
      obtain ⟨x132, ex132, h133⟩ := g_bd h131; clear h131
      refine g_iald X ex132 dX8_block_104 ?_
      clear ex132
      refine g_istore (i := 4) (lv' := [(4, .int x132), (3, .int x128), (0, va_rf (some a0)), (2, .int v2)]) X dX8_block_105 (by decide) rfl ?_
      refine g_aload_n (j := 2) X dX8_block_107 rfl rfl ?_
      obtain ⟨x134, ex134, h135⟩ := g_bd h133; clear h133
      refine g_fR (ci := 8) (k := 19) X rfl il8 (by decide) tw722 (by decide) (fun _ _ _ => rfl) ex134 dX8_block_108 ?_
      clear ex134
      refine g_iload_n (j := 3) X dX8_block_111 rfl rfl ?_
      refine g_aload_n (j := 2) X dX8_block_112 rfl rfl ?_
      obtain ⟨x136, ex136, h137⟩ := g_bd h135; clear h135
      refine g_fR (ci := 8) (k := 19) X rfl il8 (by decide) tw722 (by decide) (fun _ _ _ => rfl) ex136 dX8_block_113 ?_
      clear ex136
      refine g_iload_n (j := 3) X dX8_block_116 rfl rfl ?_
      refine g_bipush X dX8_block_117 (v := 16) (by decide) ?_
      refine g_isub X dX8_block_119 ?_
      obtain ⟨x138, ex138, h139⟩ := g_bd h137; clear h137
      refine g_iald X ex138 dX8_block_120 ?_
      clear ex138
      refine g_iload_n (j := 1) X dX8_block_121 rfl rfl ?_
      refine g_bipush X dX8_block_122 (v := 7) (by decide) ?_
      obtain ⟨x142, S140, eS140, h141⟩ := g_bi h139; clear h139
      refine g_cS (n := 2) (As := [.int x128, .int 7]) X (c_X8_turn hl D eS140) tw824 tw825 tw51 tw826 (by decide +kernel) rfl rfl ⟨Nat.le_of_ble_eq_true rfl, Nat.le_of_ble_eq_true rfl⟩ rfl rfl (by simp [g_rfc, g_ci, g_cj, g_cr]) dX8_block_124 ⟨(by decide), (by decide)⟩ ?_
      clear eS140
      refine g_iload_n (j := 1) X dX8_block_127 rfl rfl ?_
      refine g_bipush X dX8_block_128 (v := 18) (by decide) ?_
      obtain ⟨x145, S143, eS143, h144⟩ := g_bi h141; clear h141
      refine g_cS (n := 2) (As := [.int x128, .int 18]) X (c_X8_turn hl D eS143) tw824 tw825 tw51 tw826 (by decide +kernel) rfl rfl ⟨Nat.le_of_ble_eq_true rfl, Nat.le_of_ble_eq_true rfl⟩ rfl rfl (by simp [g_rfc, g_ci, g_cj, g_cr]) dX8_block_130 ⟨(by decide), (by decide)⟩ ?_
      clear eS143
      refine g_ixor X dX8_block_133 ?_
      refine g_iload_n (j := 1) X dX8_block_134 rfl rfl ?_
      refine g_iconst X dX8_block_135 (v := 3) (by decide) ?_
      refine g_iushr X dX8_block_136 ?_
      refine g_ixor X dX8_block_137 ?_
      refine g_iadd X dX8_block_138 ?_
      refine g_aload_n (j := 2) X dX8_block_139 rfl rfl ?_
      obtain ⟨x146, ex146, h147⟩ := g_bd h144; clear h144
      refine g_fR (ci := 8) (k := 19) X rfl il8 (by decide) tw722 (by decide) (fun _ _ _ => rfl) ex146 dX8_block_140 ?_
      clear ex146
      refine g_iload_n (j := 3) X dX8_block_143 rfl rfl ?_
      refine g_bipush X dX8_block_144 (v := 7) (by decide) ?_
      refine g_isub X dX8_block_146 ?_
      obtain ⟨x148, ex148, h149⟩ := g_bd h147; clear h147
      refine g_iald X ex148 dX8_block_147 ?_
      clear ex148
      refine g_iadd X dX8_block_148 ?_
      refine g_iload (j := 0) X dX8_block_149 rfl ?_
      refine g_bipush X dX8_block_151 (v := 17) (by decide) ?_
      obtain ⟨x152, S150, eS150, h151⟩ := g_bi h149; clear h149
      refine g_cS (n := 2) (As := [.int x132, .int 17]) X (c_X8_turn hl D eS150) tw824 tw825 tw51 tw826 (by decide +kernel) rfl rfl ⟨Nat.le_of_ble_eq_true rfl, Nat.le_of_ble_eq_true rfl⟩ rfl rfl (by simp [g_rfc, g_ci, g_cj, g_cr]) dX8_block_153 ⟨(by decide), (by decide)⟩ ?_
      clear eS150
      refine g_iload (j := 0) X dX8_block_156 rfl ?_
      refine g_bipush X dX8_block_158 (v := 19) (by decide) ?_
      obtain ⟨x155, S153, eS153, h154⟩ := g_bi h151; clear h151
      refine g_cS (n := 2) (As := [.int x132, .int 19]) X (c_X8_turn hl D eS153) tw824 tw825 tw51 tw826 (by decide +kernel) rfl rfl ⟨Nat.le_of_ble_eq_true rfl, Nat.le_of_ble_eq_true rfl⟩ rfl rfl (by simp [g_rfc, g_ci, g_cj, g_cr]) dX8_block_160 ⟨(by decide), (by decide)⟩ ?_
      clear eS153
      refine g_ixor X dX8_block_163 ?_
      refine g_iload (j := 0) X dX8_block_164 rfl ?_
      refine g_bipush X dX8_block_166 (v := 10) (by decide) ?_
      refine g_iushr X dX8_block_168 ?_
      refine g_ixor X dX8_block_169 ?_
      refine g_iadd X dX8_block_170 ?_
      obtain ⟨S156, eS156, h157⟩ := g_bd h154; clear h154
      refine g_iast X eS156 dX8_block_171 ?_
      clear eS156
      obtain ⟨x158, ex158, h159⟩ := g_let h157; clear h157
      refine g_iinc (j := 3) (v := x158) (lv' := [(2, .int x158), (4, .int x132), (3, .int x128), (0, va_rf (some a0))]) X dX8_block_172 rfl (by rw [ex158]; rfl) (by decide) rfl ?_
      clear ex158
      refine g_goto (tgt := 81) X dX8_block_175 (by decide) ?_
      refine g_sub [3, 0] rfl ?_
      exact ih S156 a0 x158 h159
def f_X8_block_L2 : Nat → gS → Nat → Int32 → Int32 → Option gS
  | 0, _, _, _, _ => none
  | k + 1, S0, a0, v1, v2 =>
    if 16 ≤ v2 then
      f_X8_block_L81 gFuel S0 a0 16
    else
      (fgR S0 8 19 (some a0)).bind fun x160 =>
      (fgR S0 8 16 (some a0)).bind fun x162 =>
      (fI S0 10 x162 (v1 + (4 * v2))).bind fun x164 =>
      (fgR S0 8 16 (some a0)).bind fun x166 =>
      (fI S0 10 x166 ((v1 + (4 * v2)) + 1)).bind fun x168 =>
      (fgR S0 8 16 (some a0)).bind fun x170 =>
      (fI S0 10 x170 ((v1 + (4 * v2)) + 2)).bind fun x172 =>
      (fgR S0 8 16 (some a0)).bind fun x174 =>
      (fI S0 10 x174 ((v1 + (4 * v2)) + 3)).bind fun x176 =>
      (faI S0 x160 v2 ((((x164 <<< (24 &&& 31)) ||| (x168 <<< (16 &&& 31))) ||| (x172 <<< (8 &&& 31))) ||| x176)).bind fun S178 =>
      gLet (v2 + 1) fun x180 =>
      f_X8_block_L2 k S178 a0 v1 x180
set_option maxRecDepth 100000 in
set_option maxHeartbeats 4000000 in
theorem w_X8_block_L2 {p : Program} {l : Launch} {e : Env} {s : State} {m : MethodId} {args : Array Value} {below : List Frame} {meth : Method} {c : Code} {D : gD} {S9 : gS}  (hl : l.stackTraces = false) (X : gX D p l s m args meth c cX8_block 13 RX8) (hr : meth.sig.returnType = none) : ∀ (k : Nat) (S0 : gS) (a0 : Nat) (v1 : Int32) (v2 : Int32), f_X8_block_L2 k S0 a0 v1 v2 = some S9 → gJ D p l e { frames := 1, cells := 0, slots := 0, locals := 21 } s m args below meth c (MQ below (gQ D none S9) args s (0) (0) (gF D)) 13 (0) (0) S0 2 [(0, va_rf (some a0)), (1, .int v1), (2, .int v2)] [] := by
  intro k
  induction k with
  | zero => intro S0 a0 v1 v2 h0; cases h0
  | succ k ih =>
    intro S0 a0 v1 v2 h0
    have h0 := h0
    unfold f_X8_block_L2 at h0
    refine g_iload_n (j := 2) X dX8_block_2 rfl rfl ?_
    refine g_bipush X dX8_block_3 (v := 16) (by decide) ?_
    refine g_icmp_ge (tgt := 78) X dX8_block_5 (by decide) (fun c1 => ?_) (fun c1 => ?_)
    · have h2 := g_ip h0 c1; clear h0
      refine g_bipush X dX8_block_78 (v := 16) (by decide) ?_
      refine g_istore_n (i := 2) (lv' := [(2, .int 16), (0, va_rf (some a0)), (1, .int v1)]) X dX8_block_80 rfl (by decide) rfl ?_
      refine g_sub [1, 0] rfl ?_
      exact w_X8_block_L81 hl X hr gFuel S0 a0 16 h2
    · have h3 := g_in h0 c1; clear h0
      refine g_aload_n (j := 0) X dX8_block_8 rfl rfl ?_
      obtain ⟨x160, ex160, h161⟩ := g_bd h3; clear h3
      refine g_fR (ci := 8) (k := 19) X rfl il8 (by decide) tw722 (by decide) (fun _ _ _ => rfl) ex160 dX8_block_9 ?_
      clear ex160
      refine g_iload_n (j := 2) X dX8_block_12 rfl rfl ?_
      refine g_aload_n (j := 0) X dX8_block_13 rfl rfl ?_
      obtain ⟨x162, ex162, h163⟩ := g_bd h161; clear h161
      refine g_fR (ci := 8) (k := 16) X rfl il8 (by decide) tw719 (by decide) (fun _ _ _ => rfl) ex162 dX8_block_14 ?_
      clear ex162
      refine g_iload_n (j := 1) X dX8_block_17 rfl rfl ?_
      refine g_iconst X dX8_block_18 (v := 4) (by decide) ?_
      refine g_iload_n (j := 2) X dX8_block_19 rfl rfl ?_
      refine g_imul X dX8_block_20 ?_
      refine g_iadd X dX8_block_21 ?_
      obtain ⟨x164, ex164, h165⟩ := g_bd h163; clear h163
      refine g_iald X ex164 dX8_block_22 ?_
      clear ex164
      refine g_bipush X dX8_block_23 (v := 24) (by decide) ?_
      refine g_ishl X dX8_block_25 ?_
      refine g_aload_n (j := 0) X dX8_block_26 rfl rfl ?_
      obtain ⟨x166, ex166, h167⟩ := g_bd h165; clear h165
      refine g_fR (ci := 8) (k := 16) X rfl il8 (by decide) tw719 (by decide) (fun _ _ _ => rfl) ex166 dX8_block_27 ?_
      clear ex166
      refine g_iload_n (j := 1) X dX8_block_30 rfl rfl ?_
      refine g_iconst X dX8_block_31 (v := 4) (by decide) ?_
      refine g_iload_n (j := 2) X dX8_block_32 rfl rfl ?_
      refine g_imul X dX8_block_33 ?_
      refine g_iadd X dX8_block_34 ?_
      refine g_iconst X dX8_block_35 (v := 1) (by decide) ?_
      refine g_iadd X dX8_block_36 ?_
      obtain ⟨x168, ex168, h169⟩ := g_bd h167; clear h167
      refine g_iald X ex168 dX8_block_37 ?_
      clear ex168
      refine g_bipush X dX8_block_38 (v := 16) (by decide) ?_
      refine g_ishl X dX8_block_40 ?_
      refine g_ior X dX8_block_41 ?_
      refine g_aload_n (j := 0) X dX8_block_42 rfl rfl ?_
      obtain ⟨x170, ex170, h171⟩ := g_bd h169; clear h169
      refine g_fR (ci := 8) (k := 16) X rfl il8 (by decide) tw719 (by decide) (fun _ _ _ => rfl) ex170 dX8_block_43 ?_
      clear ex170
      refine g_iload_n (j := 1) X dX8_block_46 rfl rfl ?_
      refine g_iconst X dX8_block_47 (v := 4) (by decide) ?_
      refine g_iload_n (j := 2) X dX8_block_48 rfl rfl ?_
      refine g_imul X dX8_block_49 ?_
      refine g_iadd X dX8_block_50 ?_
      refine g_iconst X dX8_block_51 (v := 2) (by decide) ?_
      refine g_iadd X dX8_block_52 ?_
      obtain ⟨x172, ex172, h173⟩ := g_bd h171; clear h171
      refine g_iald X ex172 dX8_block_53 ?_
      clear ex172
      refine g_bipush X dX8_block_54 (v := 8) (by decide) ?_
      refine g_ishl X dX8_block_56 ?_
      refine g_ior X dX8_block_57 ?_
      refine g_aload_n (j := 0) X dX8_block_58 rfl rfl ?_
      obtain ⟨x174, ex174, h175⟩ := g_bd h173; clear h173
      refine g_fR (ci := 8) (k := 16) X rfl il8 (by decide) tw719 (by decide) (fun _ _ _ => rfl) ex174 dX8_block_59 ?_
      clear ex174
      refine g_iload_n (j := 1) X dX8_block_62 rfl rfl ?_
      refine g_iconst X dX8_block_63 (v := 4) (by decide) ?_
      refine g_iload_n (j := 2) X dX8_block_64 rfl rfl ?_
      refine g_imul X dX8_block_65 ?_
      refine g_iadd X dX8_block_66 ?_
      refine g_iconst X dX8_block_67 (v := 3) (by decide) ?_
      refine g_iadd X dX8_block_68 ?_
      obtain ⟨x176, ex176, h177⟩ := g_bd h175; clear h175
      refine g_iald X ex176 dX8_block_69 ?_
      clear ex176
      refine g_ior X dX8_block_70 ?_
      obtain ⟨S178, eS178, h179⟩ := g_bd h177; clear h177
      refine g_iast X eS178 dX8_block_71 ?_
      clear eS178
      obtain ⟨x180, ex180, h181⟩ := g_let h179; clear h179
      refine g_iinc (j := 2) (v := x180) (lv' := [(2, .int x180), (0, va_rf (some a0)), (1, .int v1)]) X dX8_block_72 rfl (by rw [ex180]; rfl) (by decide) rfl ?_
      clear ex180
      refine g_goto (tgt := 2) X dX8_block_75 (by decide) ?_
      refine g_sub [1, 2, 0] rfl ?_
      exact ih S178 a0 v1 x180 h181
def f_X8_block (S0 : gS) (a0 : Nat) (v1 : Int32) : Option gS :=
  f_X8_block_L2 gFuel S0 a0 v1 0
set_option maxRecDepth 100000 in
set_option maxHeartbeats 4000000 in
theorem c_X8_block {l : Launch} (hl : l.stackTraces = false) (D : gD)  {S0 S9 : gS} {a0 : Nat} {v1 : Int32} (h0 : f_X8_block S0 a0 v1 = some S9) : Met l yX8_block (gws yX8_block cX8_block 13 none) { frames := 1, cells := 0, slots := 0, locals := 21 } (gPc D S0 [.ref a0, .int v1]) (gQ D none S9) (0) (0) (gF D) := by
  refine g_met (lv := [(0, va_rf (some a0)), (1, .int v1)]) hl (by decide) (Nat.le_of_ble_eq_true rfl) rfl (fun p e s m args below meth c X hr hn => ?_)
  have X : gX D p l s m args meth c cX8_block 13 RX8 := X
  unfold f_X8_block at h0
  refine g_iconst X dX8_block_0 (v := 0) (by decide) ?_
  refine g_istore_n (i := 2) (lv' := [(2, .int 0), (0, va_rf (some a0)), (1, .int v1)]) X dX8_block_1 rfl (by decide) rfl ?_
  refine g_sub [1, 2, 0] rfl ?_
  exact w_X8_block_L2 hl X hr gFuel S0 a0 v1 0 h0
def f_X8_digest_L142 : Nat → gS → Nat → Int32 → Int32 → Option gS
  | 0, _, _, _, _ => none
  | k + 1, S0, a0, v1, v4 =>
    if 8 ≤ v4 then
      (fpI S0 8 17 (some a0) 0).bind fun S51 =>
      some S51
    else
      (fgR S0 8 21 (some a0)).bind fun x53 =>
      (fgR S0 8 18 (some a0)).bind fun x55 =>
      (fI S0 10 x55 v4).bind fun x57 =>
      (faI S0 x53 ((8 * v1) + v4) x57).bind fun S59 =>
      gLet (v4 + 1) fun x61 =>
      f_X8_digest_L142 k S59 a0 v1 x61
set_option maxRecDepth 100000 in
set_option maxHeartbeats 4000000 in
theorem w_X8_digest_L142 {p : Program} {l : Launch} {e : Env} {s : State} {m : MethodId} {args : Array Value} {below : List Frame} {meth : Method} {c : Code} {D : gD} {S9 : gS}  (hl : l.stackTraces = false) (X : gX D p l s m args meth c cX8_digest 5 RX8) (hr : meth.sig.returnType = none) : ∀ (k : Nat) (S0 : gS) (a0 : Nat) (v1 : Int32) (v4 : Int32), f_X8_digest_L142 k S0 a0 v1 v4 = some S9 → gJ D p l e { frames := 2, cells := 1, slots := 8, locals := 53 } s m args below meth c (MQ below (gQ D none S9) args s (1) (8) (gF D)) 5 (1) (8) S0 142 [(0, va_rf (some a0)), (1, .int v1), (4, .int v4)] [] := by
  intro k
  induction k with
  | zero => intro S0 a0 v1 v4 h0; cases h0
  | succ k ih =>
    intro S0 a0 v1 v4 h0
    have h0 := h0
    unfold f_X8_digest_L142 at h0
    refine g_iload (j := 2) X dX8_digest_142 rfl ?_
    refine g_bipush X dX8_digest_144 (v := 8) (by decide) ?_
    refine g_icmp_ge (tgt := 174) X dX8_digest_146 (by decide) (fun c48 => ?_) (fun c48 => ?_)
    · have h49 := g_ip h0 c48; clear h0
      refine g_aload_n (j := 0) X dX8_digest_174 rfl rfl ?_
      refine g_iconst X dX8_digest_175 (v := 0) (by decide) ?_
      obtain ⟨S51, eS51, h52⟩ := g_bd h49; clear h49
      refine g_pI (ci := 8) (k := 17) X rfl il8 tyX8 tyX8_ok nmX8 (by decide) tw720 rfl (by decide) (fun _ _ _ => rfl) rfl eS51 dX8_digest_176 ?_
      clear eS51
      cases h52
      exact g_vret X hr (by decide) (by decide) dX8_digest_179
    · have h50 := g_in h0 c48; clear h0
      refine g_aload_n (j := 0) X dX8_digest_149 rfl rfl ?_
      obtain ⟨x53, ex53, h54⟩ := g_bd h50; clear h50
      refine g_fR (ci := 8) (k := 21) X rfl il8 (by decide) tw724 (by decide) (fun _ _ _ => rfl) ex53 dX8_digest_150 ?_
      clear ex53
      refine g_bipush X dX8_digest_153 (v := 8) (by decide) ?_
      refine g_iload_n (j := 1) X dX8_digest_155 rfl rfl ?_
      refine g_imul X dX8_digest_156 ?_
      refine g_iload (j := 2) X dX8_digest_157 rfl ?_
      refine g_iadd X dX8_digest_159 ?_
      refine g_aload_n (j := 0) X dX8_digest_160 rfl rfl ?_
      obtain ⟨x55, ex55, h56⟩ := g_bd h54; clear h54
      refine g_fR (ci := 8) (k := 18) X rfl il8 (by decide) tw721 (by decide) (fun _ _ _ => rfl) ex55 dX8_digest_161 ?_
      clear ex55
      refine g_iload (j := 2) X dX8_digest_164 rfl ?_
      obtain ⟨x57, ex57, h58⟩ := g_bd h56; clear h56
      refine g_iald X ex57 dX8_digest_166 ?_
      clear ex57
      obtain ⟨S59, eS59, h60⟩ := g_bd h58; clear h58
      refine g_iast X eS59 dX8_digest_167 ?_
      clear eS59
      obtain ⟨x61, ex61, h62⟩ := g_let h60; clear h60
      refine g_iinc (j := 2) (v := x61) (lv' := [(4, .int x61), (0, va_rf (some a0)), (1, .int v1)]) X dX8_digest_168 rfl (by rw [ex61]; rfl) (by decide) rfl ?_
      clear ex61
      refine g_goto (tgt := 142) X dX8_digest_171 (by decide) ?_
      refine g_sub [1, 2, 0] rfl ?_
      exact ih S59 a0 v1 x61 h62
def f_X8_digest_L118 : Nat → gS → Nat → Int32 → Int32 → Option gS
  | 0, _, _, _, _ => none
  | k + 1, S0, a0, v1, v4 =>
    (fgI S0 8 17 (some a0)).bind fun x43 =>
    if x43 ≤ v4 then
      f_X8_digest_L142 gFuel S0 a0 v1 0
    else
      gDc S0 8 (some a0) fun a63 =>
      (f_X8_block S0 a63 v4).bind fun S65 =>
      gLet (v4 + 64) fun x67 =>
      f_X8_digest_L118 k S65 a0 v1 x67
set_option maxRecDepth 100000 in
set_option maxHeartbeats 4000000 in
theorem w_X8_digest_L118 {p : Program} {l : Launch} {e : Env} {s : State} {m : MethodId} {args : Array Value} {below : List Frame} {meth : Method} {c : Code} {D : gD} {S9 : gS}  (hl : l.stackTraces = false) (X : gX D p l s m args meth c cX8_digest 5 RX8) (hr : meth.sig.returnType = none) : ∀ (k : Nat) (S0 : gS) (a0 : Nat) (v1 : Int32) (v4 : Int32), f_X8_digest_L118 k S0 a0 v1 v4 = some S9 → gJ D p l e { frames := 2, cells := 1, slots := 8, locals := 53 } s m args below meth c (MQ below (gQ D none S9) args s (1) (8) (gF D)) 5 (1) (8) S0 118 [(0, va_rf (some a0)), (1, .int v1), (4, .int v4)] [] := by
  intro k
  induction k with
  | zero => intro S0 a0 v1 v4 h0; cases h0
  | succ k ih =>
    intro S0 a0 v1 v4 h0
    have h0 := h0
    unfold f_X8_digest_L118 at h0
    refine g_iload (j := 2) X dX8_digest_118 rfl ?_
    refine g_aload_n (j := 0) X dX8_digest_120 rfl rfl ?_
    obtain ⟨x43, ex43, h44⟩ := g_bd h0; clear h0
    refine g_fI (ci := 8) (k := 17) X rfl il8 (by decide) tw720 (by decide) (fun _ _ _ => rfl) ex43 dX8_digest_121 ?_
    clear ex43
    refine g_icmp_ge (tgt := 139) X dX8_digest_124 (by decide) (fun c45 => ?_) (fun c45 => ?_)
    · have h46 := g_ip h44 c45; clear h44
      refine g_iconst X dX8_digest_139 (v := 0) (by decide) ?_
      refine g_istore (i := 4) (lv' := [(4, .int 0), (0, va_rf (some a0)), (1, .int v1)]) X dX8_digest_140 (by decide) rfl ?_
      refine g_sub [1, 2, 0] rfl ?_
      exact w_X8_digest_L142 hl X hr gFuel S0 a0 v1 0 h46
    · have h47 := g_in h44 c45; clear h44
      refine g_aload_n (j := 0) X dX8_digest_127 rfl rfl ?_
      refine g_iload (j := 2) X dX8_digest_128 rfl ?_
      obtain ⟨a63, ea63, ka63, h64⟩ := g_dc h47; clear h47
      obtain ⟨S65, eS65, h66⟩ := g_bd h64; clear h64
      refine g_cV (n := 1) (As := [.int v4]) X (c_X8_block hl D eS65) tw821 tw822 tw20 tw51 tw823 (by decide +kernel) rfl rfl ⟨Nat.le_of_ble_eq_true rfl, Nat.le_of_ble_eq_true rfl⟩ (ci := 8) rfl (by decide) ea63 ka63 rfl rfl (Nat.le_of_ble_eq_true rfl) dX8_digest_130 ⟨(by decide), (by decide)⟩ ?_
      clear eS65 ea63 ka63
      obtain ⟨x67, ex67, h68⟩ := g_let h66; clear h66
      refine g_iinc (j := 2) (v := x67) (lv' := [(4, .int x67), (0, va_rf (some a0)), (1, .int v1)]) X dX8_digest_133 rfl (by rw [ex67]; rfl) (by decide) rfl ?_
      clear ex67
      refine g_goto (tgt := 118) X dX8_digest_136 (by decide) ?_
      refine g_sub [1, 2, 0] rfl ?_
      exact ih S65 a0 v1 x67 h68
def f_X8_digest_L91 : Nat → gS → Nat → Int32 → Option Nat → Int32 → Option gS
  | 0, _, _, _, _, _ => none
  | k + 1, S0, a0, v1, v3, v4 =>
    if 8 ≤ v4 then
      f_X8_digest_L118 gFuel S0 a0 v1 0
    else
      (fgR S0 8 18 (some a0)).bind fun x69 =>
      (fI S0 10 v3 v4).bind fun x71 =>
      (faI S0 x69 v4 x71).bind fun S73 =>
      gLet (v4 + 1) fun x75 =>
      f_X8_digest_L91 k S73 a0 v1 v3 x75
set_option maxRecDepth 100000 in
set_option maxHeartbeats 4000000 in
theorem w_X8_digest_L91 {p : Program} {l : Launch} {e : Env} {s : State} {m : MethodId} {args : Array Value} {below : List Frame} {meth : Method} {c : Code} {D : gD} {S9 : gS}  (hl : l.stackTraces = false) (X : gX D p l s m args meth c cX8_digest 5 RX8) (hr : meth.sig.returnType = none) : ∀ (k : Nat) (S0 : gS) (a0 : Nat) (v1 : Int32) (v3 : Option Nat) (v4 : Int32), f_X8_digest_L91 k S0 a0 v1 v3 v4 = some S9 → gJ D p l e { frames := 2, cells := 1, slots := 8, locals := 53 } s m args below meth c (MQ below (gQ D none S9) args s (1) (8) (gF D)) 5 (1) (8) S0 91 [(0, va_rf (some a0)), (1, .int v1), (3, va_rf v3), (4, .int v4)] [] := by
  intro k
  induction k with
  | zero => intro S0 a0 v1 v3 v4 h0; cases h0
  | succ k ih =>
    intro S0 a0 v1 v3 v4 h0
    have h0 := h0
    unfold f_X8_digest_L91 at h0
    refine g_iload (j := 3) X dX8_digest_91 rfl ?_
    refine g_bipush X dX8_digest_93 (v := 8) (by decide) ?_
    refine g_icmp_ge (tgt := 115) X dX8_digest_95 (by decide) (fun c40 => ?_) (fun c40 => ?_)
    · have h41 := g_ip h0 c40; clear h0
      refine g_iconst X dX8_digest_115 (v := 0) (by decide) ?_
      refine g_istore (i := 4) (lv' := [(4, .int 0), (0, va_rf (some a0)), (1, .int v1), (3, va_rf v3)]) X dX8_digest_116 (by decide) (by simp [g_rfc, g_ci, g_cj, g_cr]) ?_
      refine g_sub [1, 2, 0] rfl ?_
      exact w_X8_digest_L118 hl X hr gFuel S0 a0 v1 0 h41
    · have h42 := g_in h0 c40; clear h0
      refine g_aload_n (j := 0) X dX8_digest_98 rfl rfl ?_
      obtain ⟨x69, ex69, h70⟩ := g_bd h42; clear h42
      refine g_fR (ci := 8) (k := 18) X rfl il8 (by decide) tw721 (by decide) (fun _ _ _ => rfl) ex69 dX8_digest_99 ?_
      clear ex69
      refine g_iload (j := 3) X dX8_digest_102 rfl ?_
      refine g_aload_n (j := 2) X dX8_digest_104 rfl rfl ?_
      refine g_iload (j := 3) X dX8_digest_105 rfl ?_
      obtain ⟨x71, ex71, h72⟩ := g_bd h70; clear h70
      refine g_iald X ex71 dX8_digest_107 ?_
      clear ex71
      obtain ⟨S73, eS73, h74⟩ := g_bd h72; clear h72
      refine g_iast X eS73 dX8_digest_108 ?_
      clear eS73
      obtain ⟨x75, ex75, h76⟩ := g_let h74; clear h74
      refine g_iinc (j := 3) (v := x75) (lv' := [(4, .int x75), (0, va_rf (some a0)), (1, .int v1), (3, va_rf v3)]) X dX8_digest_109 rfl (by rw [ex75]; rfl) (by decide) (by simp [g_rfc, g_ci, g_cj, g_cr]) ?_
      clear ex75
      refine g_goto (tgt := 91) X dX8_digest_112 (by decide) ?_
      refine g_sub [1, 2, 3, 0] rfl ?_
      exact ih S73 a0 v1 v3 x75 h76
def f_X8_digest_L15 : Nat → gS → Nat → Int32 → Int32 → Option gS
  | 0, _, _, _, _ => none
  | k + 1, S0, a0, v1, v2 =>
    (fgI S0 8 17 (some a0)).bind fun x9 =>
    if (x9 - x9 / 64 * 64) = 56 then
      gDc S0 8 (some a0) fun a14 =>
      (f_X8_sayLong S0 a14 v2.toInt64).bind fun S16 =>
      (fnA 8 8).bind fun k18 =>
      gLet (gZ S16) fun z22 =>
      gLet (gnw S16 10 k18) fun S20 =>
      (faI S20 (some z22) 0 1779033703).bind fun S24 =>
      (faI S24 (some z22) 1 (-1150833019)).bind fun S26 =>
      (faI S26 (some z22) 2 1013904242).bind fun S28 =>
      (faI S28 (some z22) 3 (-1521486534)).bind fun S30 =>
      (faI S30 (some z22) 4 1359893119).bind fun S32 =>
      (faI S32 (some z22) 5 (-1694144372)).bind fun S34 =>
      (faI S34 (some z22) 6 528734635).bind fun S36 =>
      (faI S36 (some z22) 7 1541459225).bind fun S38 =>
      f_X8_digest_L91 gFuel S38 a0 v1 (some z22) 0
    else
      gDc S0 8 (some a0) fun a77 =>
      (f_X8_say S0 a77 0).bind fun S79 =>
      f_X8_digest_L15 k S79 a0 v1 v2
set_option maxRecDepth 100000 in
set_option maxHeartbeats 4000000 in
theorem w_X8_digest_L15 {p : Program} {l : Launch} {e : Env} {s : State} {m : MethodId} {args : Array Value} {below : List Frame} {meth : Method} {c : Code} {D : gD} {S9 : gS}  (hl : l.stackTraces = false) (X : gX D p l s m args meth c cX8_digest 5 RX8) (hr : meth.sig.returnType = none) : ∀ (k : Nat) (S0 : gS) (a0 : Nat) (v1 : Int32) (v2 : Int32), f_X8_digest_L15 k S0 a0 v1 v2 = some S9 → gJ D p l e { frames := 2, cells := 1, slots := 8, locals := 53 } s m args below meth c (MQ below (gQ D none S9) args s (1) (8) (gF D)) 5 (0) (0) S0 15 [(0, va_rf (some a0)), (1, .int v1), (2, .int v2)] [] := by
  intro k
  induction k with
  | zero => intro S0 a0 v1 v2 h0; cases h0
  | succ k ih =>
    intro S0 a0 v1 v2 h0
    have h0 := h0
    unfold f_X8_digest_L15 at h0
    refine g_aload_n (j := 0) X dX8_digest_15 rfl rfl ?_
    obtain ⟨x9, ex9, h10⟩ := g_bd h0; clear h0
    refine g_fI (ci := 8) (k := 17) X rfl il8 (by decide) tw720 (by decide) (fun _ _ _ => rfl) ex9 dX8_digest_16 ?_
    clear ex9
    refine g_bipush X dX8_digest_19 (v := 64) (by decide) ?_
    refine g_irem X dX8_digest_21 (by decide) ?_
    refine g_bipush X dX8_digest_22 (v := 56) (by decide) ?_
    refine g_icmp_eq (tgt := 35) X dX8_digest_24 (by decide) (fun c11 => ?_) (fun c11 => ?_)
    · have h12 := g_ip h10 c11; clear h10
      refine g_aload_n (j := 0) X dX8_digest_35 rfl rfl ?_
      refine g_iload_n (j := 2) X dX8_digest_36 rfl rfl ?_
      refine g_i2l X dX8_digest_37 ?_
      obtain ⟨a14, ea14, ka14, h15⟩ := g_dc h12; clear h12
      obtain ⟨S16, eS16, h17⟩ := g_bd h15; clear h15
      refine g_cV (n := 1) (As := [.long v2.toInt64]) X (c_X8_sayLong hl D eS16) tw810 tw811 tw19 tw51 tw812 (by decide +kernel) rfl rfl ⟨Nat.le_of_ble_eq_true rfl, Nat.le_of_ble_eq_true rfl⟩ (ci := 8) rfl (by decide) ea14 ka14 rfl rfl (Nat.le_of_ble_eq_true rfl) dX8_digest_38 ⟨(by decide), (by decide)⟩ ?_
      clear eS16 ea14 ka14
      refine g_bipush X dX8_digest_41 (v := 8) (by decide) ?_
      obtain ⟨k18, ek18, h19⟩ := g_bd h17; clear h17
      refine g_newa10 (cap := 8) X tw104 ek18 (by decide) (by decide) (by decide) dX8_digest_43 ?_
      refine g_wid (k := 1) (n := 8) (Nat.le_refl _) (Nat.add_le_add_left (fnA_s ek18).2.2 _) ?_
      clear ek18
      obtain ⟨z22, ez22, h23⟩ := g_let h19; clear h19; rw [← ez22]; clear ez22
      obtain ⟨S20, eS20, h21⟩ := g_let h23; clear h23; rw [← eS20]; clear eS20
      refine g_dup X dX8_digest_45 (g_rfc _) ?_
      refine g_iconst X dX8_digest_46 (v := 0) (by decide) ?_
      refine g_ldc X tw813 dX8_digest_47 ?_
      obtain ⟨S24, eS24, h25⟩ := g_bd h21; clear h21
      refine g_iast X eS24 dX8_digest_49 ?_
      clear eS24
      refine g_dup X dX8_digest_50 (g_rfc _) ?_
      refine g_iconst X dX8_digest_51 (v := 1) (by decide) ?_
      refine g_ldc X tw814 dX8_digest_52 ?_
      obtain ⟨S26, eS26, h27⟩ := g_bd h25; clear h25
      refine g_iast X eS26 dX8_digest_54 ?_
      clear eS26
      refine g_dup X dX8_digest_55 (g_rfc _) ?_
      refine g_iconst X dX8_digest_56 (v := 2) (by decide) ?_
      refine g_ldc X tw815 dX8_digest_57 ?_
      obtain ⟨S28, eS28, h29⟩ := g_bd h27; clear h27
      refine g_iast X eS28 dX8_digest_59 ?_
      clear eS28
      refine g_dup X dX8_digest_60 (g_rfc _) ?_
      refine g_iconst X dX8_digest_61 (v := 3) (by decide) ?_
      refine g_ldc X tw816 dX8_digest_62 ?_
      obtain ⟨S30, eS30, h31⟩ := g_bd h29; clear h29
      refine g_iast X eS30 dX8_digest_64 ?_
      clear eS30
      refine g_dup X dX8_digest_65 (g_rfc _) ?_
      refine g_iconst X dX8_digest_66 (v := 4) (by decide) ?_
      refine g_ldc X tw817 dX8_digest_67 ?_
      obtain ⟨S32, eS32, h33⟩ := g_bd h31; clear h31
      refine g_iast X eS32 dX8_digest_69 ?_
      clear eS32
      refine g_dup X dX8_digest_70 (g_rfc _) ?_
      refine g_iconst X dX8_digest_71 (v := 5) (by decide) ?_
      refine g_ldc X tw818 dX8_digest_72 ?_
      obtain ⟨S34, eS34, h35⟩ := g_bd h33; clear h33
      refine g_iast X eS34 dX8_digest_74 ?_
      clear eS34
      refine g_dup X dX8_digest_75 (g_rfc _) ?_
      refine g_bipush X dX8_digest_76 (v := 6) (by decide) ?_
      refine g_ldc X tw819 dX8_digest_78 ?_
      obtain ⟨S36, eS36, h37⟩ := g_bd h35; clear h35
      refine g_iast X eS36 dX8_digest_80 ?_
      clear eS36
      refine g_dup X dX8_digest_81 (g_rfc _) ?_
      refine g_bipush X dX8_digest_82 (v := 7) (by decide) ?_
      refine g_ldc X tw820 dX8_digest_84 ?_
      obtain ⟨S38, eS38, h39⟩ := g_bd h37; clear h37
      refine g_iast X eS38 dX8_digest_86 ?_
      clear eS38
      refine g_astore_n (i := 3) (lv' := [(3, va_rf (some z22)), (0, va_rf (some a0)), (1, .int v1), (2, .int v2)]) X dX8_digest_87 rfl (by decide) rfl ?_
      refine g_iconst X dX8_digest_88 (v := 0) (by decide) ?_
      refine g_istore (i := 4) (lv' := [(4, .int 0), (3, va_rf (some z22)), (0, va_rf (some a0)), (1, .int v1), (2, .int v2)]) X dX8_digest_89 (by decide) rfl ?_
      refine g_sub [2, 3, 1, 0] rfl ?_
      exact w_X8_digest_L91 hl X hr gFuel S38 a0 v1 (some z22) 0 h39
    · have h13 := g_in h10 c11; clear h10
      refine g_aload_n (j := 0) X dX8_digest_27 rfl rfl ?_
      refine g_iconst X dX8_digest_28 (v := 0) (by decide) ?_
      obtain ⟨a77, ea77, ka77, h78⟩ := g_dc h13; clear h13
      obtain ⟨S79, eS79, h80⟩ := g_bd h78; clear h78
      refine g_cV (n := 1) (As := [.int 0]) X (c_X8_say hl D eS79) tw807 tw808 tw18 tw51 tw809 (by decide +kernel) rfl rfl ⟨Nat.le_of_ble_eq_true rfl, Nat.le_of_ble_eq_true rfl⟩ (ci := 8) rfl (by decide) ea77 ka77 rfl rfl (Nat.le_of_ble_eq_true rfl) dX8_digest_29 ⟨(by decide), (by decide)⟩ ?_
      clear eS79 ea77 ka77
      refine g_goto (tgt := 15) X dX8_digest_32 (by decide) ?_
      refine g_sub [0, 1, 2] rfl ?_
      exact ih S79 a0 v1 v2 h80
def f_X8_digest (S0 : gS) (a0 : Nat) (v1 : Int32) : Option gS :=
  (fgI S0 8 17 (some a0)).bind fun x1 =>
  gLet (8 * x1) fun x3 =>
  gDc S0 8 (some a0) fun a5 =>
  (f_X8_say S0 a5 128).bind fun S7 =>
  f_X8_digest_L15 gFuel S7 a0 v1 x3
set_option maxRecDepth 100000 in
set_option maxHeartbeats 4000000 in
theorem c_X8_digest {l : Launch} (hl : l.stackTraces = false) (D : gD)  {S0 S9 : gS} {a0 : Nat} {v1 : Int32} (h0 : f_X8_digest S0 a0 v1 = some S9) : Met l yX8_digest (gws yX8_digest cX8_digest 5 none) { frames := 2, cells := 1, slots := 8, locals := 53 } (gPc D S0 [.ref a0, .int v1]) (gQ D none S9) (1) (8) (gF D) := by
  refine g_met (lv := [(0, va_rf (some a0)), (1, .int v1)]) hl (by decide) (Nat.le_of_ble_eq_true rfl) rfl (fun p e s m args below meth c X hr hn => ?_)
  have X : gX D p l s m args meth c cX8_digest 5 RX8 := X
  unfold f_X8_digest at h0
  refine g_bipush X dX8_digest_0 (v := 8) (by decide) ?_
  refine g_aload_n (j := 0) X dX8_digest_2 rfl rfl ?_
  obtain ⟨x1, ex1, h2⟩ := g_bd h0; clear h0
  refine g_fI (ci := 8) (k := 17) X rfl il8 (by decide) tw720 (by decide) (fun _ _ _ => rfl) ex1 dX8_digest_3 ?_
  clear ex1
  refine g_imul X dX8_digest_6 ?_
  obtain ⟨x3, ex3, h4⟩ := g_let h2; clear h2; rw [← ex3]; clear ex3
  refine g_istore_n (i := 2) (lv' := [(2, .int x3), (0, va_rf (some a0)), (1, .int v1)]) X dX8_digest_7 rfl (by decide) rfl ?_
  refine g_aload_n (j := 1) X dX8_digest_8 rfl rfl ?_
  refine g_sipush X dX8_digest_9 (v := 128) (by decide) ?_
  obtain ⟨a5, ea5, ka5, h6⟩ := g_dc h4; clear h4
  obtain ⟨S7, eS7, h8⟩ := g_bd h6; clear h6
  refine g_cV (n := 1) (As := [.int 128]) X (c_X8_say hl D eS7) tw807 tw808 tw18 tw51 tw809 (by decide +kernel) rfl rfl ⟨Nat.le_of_ble_eq_true rfl, Nat.le_of_ble_eq_true rfl⟩ (ci := 8) rfl (by decide) ea5 ka5 rfl rfl (Nat.le_of_ble_eq_true rfl) dX8_digest_12 ⟨(by decide), (by decide)⟩ ?_
  clear eS7 ea5 ka5
  refine g_sub [1, 2, 0] rfl ?_
  exact w_X8_digest_L15 hl X hr gFuel S7 a0 v1 x3 h8
