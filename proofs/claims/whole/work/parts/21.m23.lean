def f_L_law_L23 (gw : Int32 → Int32 → Nat → Nat) (gp : Int32 → Int32 → Nat) (gq : Int32 → Int32 → Nat → Nat) (L : Nat) (xs : Nat → Int32) : Nat → gS → Nat → Nat → Option Nat → Option Nat → Option Nat → Int32 → Option gS
  | 0, _, _, _, _, _, _, _ => none
  | k + 1, S0, cu, su, v1, v2, v3, v4 =>
    gGd (cu ≤ room_1.cells ∧ su ≤ room_1.slots) <|
    if ((nI L) - 6) < v4 then
      some S0
    else
      (fX L xs v4).bind fun x32 =>
      gLet (x32 &&& 31) fun x34 =>
      if x34 = 0 then
        (fX L xs (v4 + 1)).bind fun x39 =>
        (fX L xs (v4 + 2)).bind fun x41 =>
        (fX L xs (v4 + 3)).bind fun x43 =>
        (fX L xs (v4 + 4)).bind fun x45 =>
        (fX L xs (v4 + 5)).bind fun x47 =>
        gDc S0 7 v1 fun a49 =>
        gBi (f_X7_feed S0 a49 x39 x41 x43 x45 x47) fun x53 S51 =>
        (fX L xs (v4 + 1)).bind fun x54 =>
        (fX L xs (v4 + 2)).bind fun x56 =>
        (fX L xs (v4 + 3)).bind fun x58 =>
        (fX L xs (v4 + 4)).bind fun x60 =>
        (fX L xs (v4 + 5)).bind fun x62 =>
        gDc S51 8 v2 fun a64 =>
        gBi (f_X8_feed S51 a64 x54 x56 x58 x60 x62) fun x68 S66 =>
        if x53 = x68 then
          gLet (v4 + 6) fun x72 =>
          f_L_law_L23 gw gp gq L xs k S66 cu su v1 v2 v3 x72
        else
          none
      else
      if x34 = 1 then
        (fX L xs (v4 + 1)).bind fun x77 =>
        gDc S0 7 v1 fun a79 =>
        gBi (f_X7_end S0 a79 x77) fun x83 S81 =>
        (fX L xs (v4 + 1)).bind fun x84 =>
        gDc S81 8 v2 fun a86 =>
        gBi (f_X8_end S81 a86 x84) fun x90 S88 =>
        if x83 = x90 then
          gLet (v4 + 6) fun x94 =>
          f_L_law_L23 gw gp gq L xs k S88 cu su v1 v2 v3 x94
        else
          none
      else
      if x34 = 2 then
        gDc S0 7 v1 fun a99 =>
        gBi (f_X7_again S0 a99) fun x103 S101 =>
        gDc S101 8 v2 fun a104 =>
        gBi (f_X8_again S101 a104) fun x108 S106 =>
        if x103 = x108 then
          gLet (v4 + 6) fun x112 =>
          f_L_law_L23 gw gp gq L xs k S106 cu su v1 v2 v3 x112
        else
          none
      else
      if x34 = 3 then
        (fX L xs (v4 + 1)).bind fun x117 =>
        gDc S0 7 v1 fun a119 =>
        gBi (f_X7_out S0 a119 x117) fun x123 S121 =>
        (fX L xs (v4 + 1)).bind fun x124 =>
        gDc S121 8 v2 fun a126 =>
        gBi (f_X8_out S121 a126 x124) fun x130 S128 =>
        if x123 = x130 then
          gLet (v4 + 6) fun x134 =>
          f_L_law_L23 gw gp gq L xs k S128 cu su v1 v2 v3 x134
        else
          none
      else
      if x34 = 4 then
        gDc S0 7 v1 fun a139 =>
        gBi (f_X7_outs S0 a139) fun x143 S141 =>
        gDc S141 8 v2 fun a144 =>
        gBi (f_X8_outs S141 a144) fun x148 S146 =>
        if x143 = x148 then
          gLet (v4 + 6) fun x152 =>
          f_L_law_L23 gw gp gq L xs k S146 cu su v1 v2 v3 x152
        else
          none
      else
      if x34 = 5 then
        (fX L xs (v4 + 1)).bind fun x157 =>
        gGd (cu + 2 ≤ room_1.cells ∧ su + 12 ≤ room_1.slots) <|
        gBi (f_L_key S0 v1 x157 v3) fun x163 S161 =>
        (fX L xs (v4 + 1)).bind fun x164 =>
        gDc S161 8 v2 fun a166 =>
        gBi (f_X8_key S161 a166 x164) fun x170 S168 =>
        gDc S168 8 v2 fun a171 =>
        gBi (f_X8_thrown S168 a171) fun x175 S173 =>
        if x175 = x163 then
          if x163 = 0 then
            (fL S173 v3 0).bind fun x184 =>
            if (lg_cmp x184 x170.toInt64) = 0 then
              gLet (v4 + 6) fun x189 =>
              f_L_law_L23 gw gp gq L xs k S173 (cu + 2) (su + 12) v1 v2 v3 x189
            else
              none
          else
            gLet (v4 + 6) fun x182 =>
            f_L_law_L23 gw gp gq L xs k S173 (cu + 2) (su + 12) v1 v2 v3 x182
        else
          none
      else
      if x34 = 6 then
        (fX L xs (v4 + 1)).bind fun x194 =>
        gGd (cu + 21 ≤ room_1.cells ∧ su + 1216 ≤ room_1.slots) <|
        gBi (f_L_submit S0 v1 x194 v3) fun x200 S198 =>
        (fX L xs (v4 + 1)).bind fun x201 =>
        gDc S198 8 v2 fun a203 =>
        gBi (f_X8_submit S198 a203 x201) fun x207 S205 =>
        gDc S205 8 v2 fun a208 =>
        gBi (f_X8_thrown S205 a208) fun x212 S210 =>
        if x212 = x200 then
          if x200 = 0 then
            (fL S210 v3 0).bind fun x221 =>
            if (lg_cmp x221 x207.toInt64) = 0 then
              gLet (v4 + 6) fun x226 =>
              f_L_law_L23 gw gp gq L xs k S210 (cu + 21) (su + 1216) v1 v2 v3 x226
            else
              none
          else
            gLet (v4 + 6) fun x219 =>
            f_L_law_L23 gw gp gq L xs k S210 (cu + 21) (su + 1216) v1 v2 v3 x219
        else
          none
      else
      if x34 = 7 then
        (fX L xs (v4 + 1)).bind fun x231 =>
        (fX L xs (v4 + 2)).bind fun x233 =>
        (fX L xs (v4 + 3)).bind fun x235 =>
        gGd (cu + 3 ≤ room_1.cells ∧ su + 127 ≤ room_1.slots) <|
        gBi (f_L_cut S0 v1 x231 ((x233.toInt64 <<< ((32 : Int32).toInt64 &&& 63)) ||| (x235.toInt64 &&& 4294967295)) v3) fun x241 S239 =>
        (fX L xs (v4 + 1)).bind fun x242 =>
        (fX L xs (v4 + 2)).bind fun x244 =>
        (fX L xs (v4 + 3)).bind fun x246 =>
        gDc S239 8 v2 fun a248 =>
        gGd (cu + 3 + 410 ≤ room_1.cells ∧ su + 127 + 3280 ≤ room_1.slots) <|
        gBi (f_X8_cut S239 a248 x242 ((x244.toInt64 <<< ((32 : Int32).toInt64 &&& 63)) ||| (x246.toInt64 &&& 4294967295))) fun x254 S252 =>
        gDc S252 8 v2 fun a255 =>
        gBi (f_X8_thrown S252 a255) fun x259 S257 =>
        if x259 = x241 then
          if x241 = 0 then
            (fL S257 v3 0).bind fun x268 =>
            if (lg_cmp x268 x254.toInt64) = 0 then
              gLet (v4 + 6) fun x273 =>
              f_L_law_L23 gw gp gq L xs k S257 (cu + 3 + 410) (su + 127 + 3280) v1 v2 v3 x273
            else
              none
          else
            gLet (v4 + 6) fun x266 =>
            f_L_law_L23 gw gp gq L xs k S257 (cu + 3 + 410) (su + 127 + 3280) v1 v2 v3 x266
        else
          none
      else
      if x34 = 8 then
        (fX L xs (v4 + 1)).bind fun x278 =>
        (fX L xs (v4 + 2)).bind fun x280 =>
        gGd (cu + 2 ≤ room_1.cells ∧ su + 12 ≤ room_1.slots) <|
        gBi (f_L_size S0 v1 x278 x280 v3) fun x286 S284 =>
        (fX L xs (v4 + 1)).bind fun x287 =>
        (fX L xs (v4 + 2)).bind fun x289 =>
        gDc S284 8 v2 fun a291 =>
        gBi (f_X8_size S284 a291 x287 x289) fun x295 S293 =>
        gDc S293 8 v2 fun a296 =>
        gBi (f_X8_thrown S293 a296) fun x300 S298 =>
        if x300 = x286 then
          if x286 = 0 then
            (fL S298 v3 0).bind fun x309 =>
            if (lg_cmp x309 x295.toInt64) = 0 then
              gLet (v4 + 6) fun x314 =>
              f_L_law_L23 gw gp gq L xs k S298 (cu + 2) (su + 12) v1 v2 v3 x314
            else
              none
          else
            gLet (v4 + 6) fun x307 =>
            f_L_law_L23 gw gp gq L xs k S298 (cu + 2) (su + 12) v1 v2 v3 x307
        else
          none
      else
      if x34 = 9 then
        (fX L xs (v4 + 1)).bind fun x319 =>
        (fX L xs (v4 + 2)).bind fun x321 =>
        gGd (cu + 2 ≤ room_1.cells ∧ su + 12 ≤ room_1.slots) <|
        gBi (f_L_head S0 v1 x319 x321 v3) fun x327 S325 =>
        (fX L xs (v4 + 1)).bind fun x328 =>
        (fX L xs (v4 + 2)).bind fun x330 =>
        gDc S325 8 v2 fun a332 =>
        gBi (f_X8_head S325 a332 x328 x330) fun x336 S334 =>
        gDc S334 8 v2 fun a337 =>
        gBi (f_X8_thrown S334 a337) fun x341 S339 =>
        if x341 = x327 then
          if x327 = 0 then
            (fL S339 v3 0).bind fun x350 =>
            if (lg_cmp x350 x336.toInt64) = 0 then
              gLet (v4 + 6) fun x355 =>
              f_L_law_L23 gw gp gq L xs k S339 (cu + 2) (su + 12) v1 v2 v3 x355
            else
              none
          else
            gLet (v4 + 6) fun x348 =>
            f_L_law_L23 gw gp gq L xs k S339 (cu + 2) (su + 12) v1 v2 v3 x348
        else
          none
      else
      if x34 = 10 then
        (fX L xs (v4 + 1)).bind fun x360 =>
        (fX L xs (v4 + 2)).bind fun x362 =>
        gGd (cu + 2 ≤ room_1.cells ∧ su + 12 ≤ room_1.slots) <|
        gBi (f_L_entry S0 v1 x360 x362 v3) fun x368 S366 =>
        (fX L xs (v4 + 1)).bind fun x369 =>
        (fX L xs (v4 + 2)).bind fun x371 =>
        gDc S366 8 v2 fun a373 =>
        gBi (f_X8_entry S366 a373 x369 x371) fun x377 S375 =>
        gDc S375 8 v2 fun a378 =>
        gBi (f_X8_thrown S375 a378) fun x382 S380 =>
        if x382 = x368 then
          if x368 = 0 then
            (fL S380 v3 0).bind fun x391 =>
            if (lg_cmp x391 x377.toInt64) = 0 then
              gLet (v4 + 6) fun x396 =>
              f_L_law_L23 gw gp gq L xs k S380 (cu + 2) (su + 12) v1 v2 v3 x396
            else
              none
          else
            gLet (v4 + 6) fun x389 =>
            f_L_law_L23 gw gp gq L xs k S380 (cu + 2) (su + 12) v1 v2 v3 x389
        else
          none
      else
      if x34 = 11 then
        (fX L xs (v4 + 1)).bind fun x401 =>
        (fX L xs (v4 + 2)).bind fun x403 =>
        gGd (cu + 2 ≤ room_1.cells ∧ su + 12 ≤ room_1.slots) <|
        gBi (f_L_leaf S0 v1 x401 x403 v3) fun x409 S407 =>
        (fX L xs (v4 + 1)).bind fun x410 =>
        (fX L xs (v4 + 2)).bind fun x412 =>
        gDc S407 8 v2 fun a414 =>
        gGd (cu + 2 + 1 ≤ room_1.cells ∧ su + 12 + 8 ≤ room_1.slots) <|
        gBi (f_X8_leaf S407 a414 x410 x412) fun x420 S418 =>
        gDc S418 8 v2 fun a421 =>
        gBi (f_X8_thrown S418 a421) fun x425 S423 =>
        if x425 = x409 then
          if x409 = 0 then
            (fL S423 v3 0).bind fun x434 =>
            if x420 = 0 then
              if (lg_cmp x434 0) = 0 then
                gLet (v4 + 6) fun x442 =>
                f_L_law_L23 gw gp gq L xs k S423 (cu + 2 + 1) (su + 12 + 8) v1 v2 v3 x442
              else
                none
            else
              if (lg_cmp x434 1) = 0 then
                gLet (v4 + 6) fun x447 =>
                f_L_law_L23 gw gp gq L xs k S423 (cu + 2 + 1) (su + 12 + 8) v1 v2 v3 x447
              else
                none
          else
            gLet (v4 + 6) fun x432 =>
            f_L_law_L23 gw gp gq L xs k S423 (cu + 2 + 1) (su + 12 + 8) v1 v2 v3 x432
        else
          none
      else
      if x34 = 12 then
        (fX L xs (v4 + 1)).bind fun x452 =>
        gGd (cu + 2 ≤ room_1.cells ∧ su + 12 ≤ room_1.slots) <|
        gBi (f_L_find S0 v1 x452 v3) fun x458 S456 =>
        (fX L xs (v4 + 1)).bind fun x459 =>
        gDc S456 8 v2 fun a461 =>
        gGd (cu + 2 + 200 ≤ room_1.cells ∧ su + 12 + 1600 ≤ room_1.slots) <|
        gBi (f_X8_find S456 a461 x459) fun x467 S465 =>
        gDc S465 8 v2 fun a468 =>
        gBi (f_X8_thrown S465 a468) fun x472 S470 =>
        if x472 = x458 then
          if x458 = 0 then
            (fL S470 v3 0).bind fun x481 =>
            if (lg_cmp x481 x467.toInt64) = 0 then
              gLet (v4 + 6) fun x486 =>
              f_L_law_L23 gw gp gq L xs k S470 (cu + 2 + 200) (su + 12 + 1600) v1 v2 v3 x486
            else
              none
          else
            gLet (v4 + 6) fun x479 =>
            f_L_law_L23 gw gp gq L xs k S470 (cu + 2 + 200) (su + 12 + 1600) v1 v2 v3 x479
        else
          none
      else
      if x34 = 13 then
        (fX L xs (v4 + 1)).bind fun x491 =>
        (fX L xs (v4 + 2)).bind fun x493 =>
        gGd (cu + 2 ≤ room_1.cells ∧ su + 12 ≤ room_1.slots) <|
        gBi (f_L_root S0 v1 x491 x493 v3) fun x499 S497 =>
        (fX L xs (v4 + 1)).bind fun x500 =>
        (fX L xs (v4 + 2)).bind fun x502 =>
        gDc S497 8 v2 fun a504 =>
        gGd (cu + 2 + 400 ≤ room_1.cells ∧ su + 12 + 3200 ≤ room_1.slots) <|
        gBi (f_X8_root_ S497 a504 x500 x502) fun x510 S508 =>
        gDc S508 8 v2 fun a511 =>
        gBi (f_X8_thrown S508 a511) fun x515 S513 =>
        if x515 = x499 then
          if x499 = 0 then
            (fL S513 v3 0).bind fun x524 =>
            if x510 = 0 then
              if (lg_cmp x524 0) = 0 then
                gLet (v4 + 6) fun x532 =>
                f_L_law_L23 gw gp gq L xs k S513 (cu + 2 + 400) (su + 12 + 3200) v1 v2 v3 x532
              else
                none
            else
              if (lg_cmp x524 1) = 0 then
                gLet (v4 + 6) fun x537 =>
                f_L_law_L23 gw gp gq L xs k S513 (cu + 2 + 400) (su + 12 + 3200) v1 v2 v3 x537
              else
                none
          else
            gLet (v4 + 6) fun x522 =>
            f_L_law_L23 gw gp gq L xs k S513 (cu + 2 + 400) (su + 12 + 3200) v1 v2 v3 x522
        else
          none
      else
      if x34 = 14 then
        (fX L xs (v4 + 1)).bind fun x542 =>
        (fX L xs (v4 + 2)).bind fun x544 =>
        (fX L xs (v4 + 3)).bind fun x546 =>
        gGd (cu + 2 ≤ room_1.cells ∧ su + 12 ≤ room_1.slots) <|
        gBi (f_L_way S0 v1 x542 x544 x546 v3) fun x552 S550 =>
        (fX L xs (v4 + 1)).bind fun x553 =>
        (fX L xs (v4 + 2)).bind fun x555 =>
        (fX L xs (v4 + 3)).bind fun x557 =>
        gDc S550 8 v2 fun a559 =>
        gGd (cu + 2 + 1000 ≤ room_1.cells ∧ su + 12 + 8000 ≤ room_1.slots) <|
        gBi (f_X8_way (gw x555 x557) S550 a559 x553 x555 x557) fun x565 S563 =>
        gDc S563 8 v2 fun a566 =>
        gBi (f_X8_thrown S563 a566) fun x570 S568 =>
        if x570 = x552 then
          if x552 = 0 then
            (fL S568 v3 0).bind fun x579 =>
            if (lg_cmp x579 x565.toInt64) = 0 then
              gLet (v4 + 6) fun x584 =>
              f_L_law_L23 gw gp gq L xs k S568 (cu + 2 + 1000) (su + 12 + 8000) v1 v2 v3 x584
            else
              none
          else
            gLet (v4 + 6) fun x577 =>
            f_L_law_L23 gw gp gq L xs k S568 (cu + 2 + 1000) (su + 12 + 8000) v1 v2 v3 x577
        else
          none
      else
      if x34 = 15 then
        (fX L xs (v4 + 1)).bind fun x589 =>
        (fX L xs (v4 + 2)).bind fun x591 =>
        (fX L xs (v4 + 3)).bind fun x593 =>
        gGd (cu + 2 ≤ room_1.cells ∧ su + 12 ≤ room_1.slots) <|
        gBi (f_L_proof S0 v1 x589 x591 x593 v3) fun x599 S597 =>
        (fX L xs (v4 + 1)).bind fun x600 =>
        (fX L xs (v4 + 2)).bind fun x602 =>
        (fX L xs (v4 + 3)).bind fun x604 =>
        gDc S597 8 v2 fun a606 =>
        gGd (cu + 2 + 1000 ≤ room_1.cells ∧ su + 12 + 8000 ≤ room_1.slots) <|
        gBi (f_X8_proof (gp x602 x604) (gq x602 x604) S597 a606 x600 x602 x604) fun x612 S610 =>
        gDc S610 8 v2 fun a613 =>
        gBi (f_X8_thrown S610 a613) fun x617 S615 =>
        if x617 = x599 then
          if x599 = 0 then
            (fL S615 v3 0).bind fun x626 =>
            if (lg_cmp x626 x612.toInt64) = 0 then
              gLet (v4 + 6) fun x631 =>
              f_L_law_L23 gw gp gq L xs k S615 (cu + 2 + 1000) (su + 12 + 8000) v1 v2 v3 x631
            else
              none
          else
            gLet (v4 + 6) fun x624 =>
            f_L_law_L23 gw gp gq L xs k S615 (cu + 2 + 1000) (su + 12 + 8000) v1 v2 v3 x624
        else
          none
      else
      if x34 = 16 then
        (fX L xs (v4 + 1)).bind fun x636 =>
        (fX L xs (v4 + 2)).bind fun x638 =>
        (fX L xs (v4 + 3)).bind fun x640 =>
        (fX L xs (v4 + 4)).bind fun x642 =>
        gDc S0 7 v1 fun a644 =>
        gBi (f_X7_isIn S0 a644 ((x636.toInt64 <<< ((32 : Int32).toInt64 &&& 63)) ||| (x638.toInt64 &&& 4294967295)) ((x640.toInt64 <<< ((32 : Int32).toInt64 &&& 63)) ||| (x642.toInt64 &&& 4294967295))) fun x648 S646 =>
        (fX L xs (v4 + 1)).bind fun x649 =>
        (fX L xs (v4 + 2)).bind fun x651 =>
        (fX L xs (v4 + 3)).bind fun x653 =>
        (fX L xs (v4 + 4)).bind fun x655 =>
        gDc S646 8 v2 fun a657 =>
        gGd (cu + 70 ≤ room_1.cells ∧ su + 560 ≤ room_1.slots) <|
        gBi (f_X8_isIn S646 a657 ((x649.toInt64 <<< ((32 : Int32).toInt64 &&& 63)) ||| (x651.toInt64 &&& 4294967295)) ((x653.toInt64 <<< ((32 : Int32).toInt64 &&& 63)) ||| (x655.toInt64 &&& 4294967295))) fun x663 S661 =>
        if x648 = x663 then
          gLet (v4 + 6) fun x667 =>
          f_L_law_L23 gw gp gq L xs k S661 (cu + 70) (su + 560) v1 v2 v3 x667
        else
          none
      else
      if x34 = 17 then
        (fX L xs (v4 + 1)).bind fun x672 =>
        (fX L xs (v4 + 2)).bind fun x674 =>
        (fX L xs (v4 + 3)).bind fun x676 =>
        (fX L xs (v4 + 4)).bind fun x678 =>
        gDc S0 7 v1 fun a680 =>
        gBi (f_X7_isOn S0 a680 ((x672.toInt64 <<< ((32 : Int32).toInt64 &&& 63)) ||| (x674.toInt64 &&& 4294967295)) ((x676.toInt64 <<< ((32 : Int32).toInt64 &&& 63)) ||| (x678.toInt64 &&& 4294967295))) fun x684 S682 =>
        (fX L xs (v4 + 1)).bind fun x685 =>
        (fX L xs (v4 + 2)).bind fun x687 =>
        (fX L xs (v4 + 3)).bind fun x689 =>
        (fX L xs (v4 + 4)).bind fun x691 =>
        gDc S682 8 v2 fun a693 =>
        gGd (cu + 140 ≤ room_1.cells ∧ su + 1120 ≤ room_1.slots) <|
        gBi (f_X8_isOn S682 a693 ((x685.toInt64 <<< ((32 : Int32).toInt64 &&& 63)) ||| (x687.toInt64 &&& 4294967295)) ((x689.toInt64 <<< ((32 : Int32).toInt64 &&& 63)) ||| (x691.toInt64 &&& 4294967295))) fun x699 S697 =>
        if x684 = x699 then
          gLet (v4 + 6) fun x703 =>
          f_L_law_L23 gw gp gq L xs k S697 (cu + 140) (su + 1120) v1 v2 v3 x703
        else
          none
      else
      if x34 = 18 then
        (fX L xs (v4 + 1)).bind fun x708 =>
        gGd (cu + 2 ≤ room_1.cells ∧ su + 12 ≤ room_1.slots) <|
        gBi (f_L_isSealed S0 v1 x708 v3) fun x714 S712 =>
        (fX L xs (v4 + 1)).bind fun x715 =>
        gDc S712 8 v2 fun a717 =>
        gGd (cu + 2 + 3 ≤ room_1.cells ∧ su + 12 + 24 ≤ room_1.slots) <|
        gBi (f_X8_isSealed S712 a717 x715) fun x723 S721 =>
        gDc S721 8 v2 fun a724 =>
        gBi (f_X8_thrown S721 a724) fun x728 S726 =>
        if x728 = x714 then
          if x714 = 0 then
            (fL S726 v3 0).bind fun x737 =>
            if x723 = 0 then
              if (lg_cmp x737 0) = 0 then
                gLet (v4 + 6) fun x745 =>
                f_L_law_L23 gw gp gq L xs k S726 (cu + 2 + 3) (su + 12 + 24) v1 v2 v3 x745
              else
                none
            else
              if (lg_cmp x737 1) = 0 then
                gLet (v4 + 6) fun x750 =>
                f_L_law_L23 gw gp gq L xs k S726 (cu + 2 + 3) (su + 12 + 24) v1 v2 v3 x750
              else
                none
          else
            gLet (v4 + 6) fun x735 =>
            f_L_law_L23 gw gp gq L xs k S726 (cu + 2 + 3) (su + 12 + 24) v1 v2 v3 x735
        else
          none
      else
      if x34 = 19 then
        (fX L xs (v4 + 1)).bind fun x755 =>
        gGd (cu + 2 ≤ room_1.cells ∧ su + 12 ≤ room_1.slots) <|
        gBi (f_L_seal S0 v1 x755 v3) fun x761 S759 =>
        (fX L xs (v4 + 1)).bind fun x762 =>
        gDc S759 8 v2 fun a764 =>
        gGd (cu + 2 + 3 ≤ room_1.cells ∧ su + 12 + 24 ≤ room_1.slots) <|
        gBi (f_X8_seal S759 a764 x762) fun x770 S768 =>
        gDc S768 8 v2 fun a771 =>
        gBi (f_X8_thrown S768 a771) fun x775 S773 =>
        if x775 = x761 then
          if x761 = 0 then
            (fL S773 v3 0).bind fun x784 =>
            if x770 = 0 then
              if (lg_cmp x784 0) = 0 then
                gLet (v4 + 6) fun x792 =>
                f_L_law_L23 gw gp gq L xs k S773 (cu + 2 + 3) (su + 12 + 24) v1 v2 v3 x792
              else
                none
            else
              if (lg_cmp x784 1) = 0 then
                gLet (v4 + 6) fun x797 =>
                f_L_law_L23 gw gp gq L xs k S773 (cu + 2 + 3) (su + 12 + 24) v1 v2 v3 x797
              else
                none
          else
            gLet (v4 + 6) fun x782 =>
            f_L_law_L23 gw gp gq L xs k S773 (cu + 2 + 3) (su + 12 + 24) v1 v2 v3 x782
        else
          none
      else
      if x34 = 20 then
        (fX L xs (v4 + 1)).bind fun x802 =>
        (fX L xs (v4 + 2)).bind fun x804 =>
        gGd (cu + 6 ≤ room_1.cells ∧ su + 254 ≤ room_1.slots) <|
        gBi (f_L_follow S0 v1 x802 x804 v3) fun x810 S808 =>
        (fX L xs (v4 + 1)).bind fun x811 =>
        (fX L xs (v4 + 2)).bind fun x813 =>
        gDc S808 8 v2 fun a815 =>
        gGd (cu + 6 + 143 ≤ room_1.cells ∧ su + 254 + 1144 ≤ room_1.slots) <|
        gBi (f_X8_follow S808 a815 x811 x813) fun x821 S819 =>
        gDc S819 8 v2 fun a822 =>
        gBi (f_X8_thrown S819 a822) fun x826 S824 =>
        if x826 = x810 then
          if x810 = 0 then
            (fL S824 v3 0).bind fun x835 =>
            if (lg_cmp x835 x821.toInt64) = 0 then
              gLet (v4 + 6) fun x840 =>
              f_L_law_L23 gw gp gq L xs k S824 (cu + 6 + 143) (su + 254 + 1144) v1 v2 v3 x840
            else
              none
          else
            gLet (v4 + 6) fun x833 =>
            f_L_law_L23 gw gp gq L xs k S824 (cu + 6 + 143) (su + 254 + 1144) v1 v2 v3 x833
        else
          none
      else
      if x34 = 21 then
        (fX L xs (v4 + 1)).bind fun x845 =>
        (fX L xs (v4 + 2)).bind fun x847 =>
        (fX L xs (v4 + 3)).bind fun x849 =>
        gGd (cu + 2 ≤ room_1.cells ∧ su + 12 ≤ room_1.slots) <|
        gBi (f_L_gossip S0 v1 x845 x847 x849 v3) fun x855 S853 =>
        (fX L xs (v4 + 1)).bind fun x856 =>
        (fX L xs (v4 + 2)).bind fun x858 =>
        (fX L xs (v4 + 3)).bind fun x860 =>
        gDc S853 8 v2 fun a862 =>
        gBi (f_X8_gossip S853 a862 x856 x858 x860) fun x866 S864 =>
        gDc S864 8 v2 fun a867 =>
        gBi (f_X8_thrown S864 a867) fun x871 S869 =>
        if x871 = x855 then
          if x855 = 0 then
            (fL S869 v3 0).bind fun x880 =>
            if (lg_cmp x880 x866.toInt64) = 0 then
              gLet (v4 + 6) fun x885 =>
              f_L_law_L23 gw gp gq L xs k S869 (cu + 2) (su + 12) v1 v2 v3 x885
            else
              none
          else
            gLet (v4 + 6) fun x878 =>
            f_L_law_L23 gw gp gq L xs k S869 (cu + 2) (su + 12) v1 v2 v3 x878
        else
          none
      else
      if x34 = 22 then
        (fX L xs (v4 + 1)).bind fun x890 =>
        (fX L xs (v4 + 2)).bind fun x892 =>
        (fX L xs (v4 + 3)).bind fun x894 =>
        gGd (cu + 2 ≤ room_1.cells ∧ su + 12 ≤ room_1.slots) <|
        gBi (f_L_has S0 v1 x890 x892 x894 v3) fun x900 S898 =>
        (fX L xs (v4 + 1)).bind fun x901 =>
        (fX L xs (v4 + 2)).bind fun x903 =>
        (fX L xs (v4 + 3)).bind fun x905 =>
        gDc S898 8 v2 fun a907 =>
        gBi (f_X8_has S898 a907 x901 x903 x905) fun x911 S909 =>
        gDc S909 8 v2 fun a912 =>
        gBi (f_X8_thrown S909 a912) fun x916 S914 =>
        if x916 = x900 then
          if x900 = 0 then
            (fL S914 v3 0).bind fun x925 =>
            if x911 = 0 then
              if (lg_cmp x925 0) = 0 then
                gLet (v4 + 6) fun x933 =>
                f_L_law_L23 gw gp gq L xs k S914 (cu + 2) (su + 12) v1 v2 v3 x933
              else
                none
            else
              if (lg_cmp x925 1) = 0 then
                gLet (v4 + 6) fun x938 =>
                f_L_law_L23 gw gp gq L xs k S914 (cu + 2) (su + 12) v1 v2 v3 x938
              else
                none
          else
            gLet (v4 + 6) fun x923 =>
            f_L_law_L23 gw gp gq L xs k S914 (cu + 2) (su + 12) v1 v2 v3 x923
        else
          none
      else
      if x34.toInt < 0 ∨ 22 < x34.toInt then
        gLet (v4 + 6) fun x941 =>
        f_L_law_L23 gw gp gq L xs k S0 cu su v1 v2 v3 x941
      else none
set_option maxRecDepth 100000 in
set_option maxHeartbeats 4000000 in
theorem w_L_law_L23 {p : Program} {l : Launch} {e : Env} {s : State} {m : MethodId} {below : List Frame} {meth : Method} {c : Code} {D : gD} {b : Nat} {S9 : gS} {gw : Int32 → Int32 → Nat → Nat} {gp : Int32 → Int32 → Nat} {gq : Int32 → Int32 → Nat → Nat} {L : Nat} {xs : Nat → Int32} (hl : l.stackTraces = false) (X : gX D p l s m #[Value.ref b] meth c cL_law 7 RL) (hr : meth.sig.returnType = ret) (hX : va_X b L xs s (dH D)) (hbl : b < dB D) (hds : dB D = s.heap.size) : ∀ (k : Nat) (S0 : gS) (cu su : Nat) (v1 : Option Nat) (v2 : Option Nat) (v3 : Option Nat) (v4 : Int32), f_L_law_L23 gw gp gq L xs k S0 cu su v1 v2 v3 v4 = some S9 → gJ D p l e room_1 s m #[Value.ref b] below meth c (lw_Z below #[Value.ref b] s) 7 (cu) (su) S0 23 [(0, .ref b), (1, va_rf v1), (2, va_rf v2), (3, va_rf v3), (4, .int v4)] [] := by
  intro k
  induction k with
  | zero => intro S0 cu su v1 v2 v3 v4 h0; cases h0
  | succ k ih =>
    intro S0 cu su v1 v2 v3 v4 h0
    have h0 := h0
    unfold f_L_law_L23 at h0
    obtain ⟨gu, hu⟩ := g_gd h0; clear h0
    refine g_iload (j := 4) X dL_law_23 rfl ?_
    refine g_aload_n (j := 0) (r := some b) X dL_law_25 rfl rfl ?_
    refine g_slen X hX hbl dL_law_26 ?_
    refine g_bipush X dL_law_27 (v := 6) (by decide) ?_
    refine g_isub X dL_law_29 ?_
    refine g_icmp_gt (tgt := 1648) X dL_law_30 (by decide) (fun c29 => ?_) (fun c29 => ?_)
    · have h30 := g_ip hu c29; clear hu
      refine g_iconst X dL_law_1648 (v := 1) (by decide) ?_
      exact g_lend X hr hds gu.1 gu.2 dL_law_1649
    · have h31 := g_in hu c29; clear hu
      refine g_aload_n (j := 0) (r := some b) X dL_law_33 rfl rfl ?_
      refine g_iload (j := 4) X dL_law_34 rfl ?_
      obtain ⟨x32, ex32, h33⟩ := g_bd h31; clear h31
      refine g_sld X hX hbl ex32 dL_law_36 ?_
      clear ex32
      refine g_bipush X dL_law_37 (v := 31) (by decide) ?_
      refine g_iand X dL_law_39 ?_
      obtain ⟨x34, ex34, h35⟩ := g_let h33; clear h33; rw [← ex34]; clear ex34
      by_cases c36 : x34 = 0
      · have h37 := g_ip h35 c36; clear h35; subst c36
        refine g_tableIn (tgt := 148) X dL_law_40 (by decide) (by decide) rfl (by decide) ?_
        refine g_aload_n (j := 1) X dL_law_148 rfl rfl ?_
        refine g_aload_n (j := 0) (r := some b) X dL_law_149 rfl rfl ?_
        refine g_iload (j := 4) X dL_law_150 rfl ?_
        refine g_iconst X dL_law_152 (v := 1) (by decide) ?_
        refine g_iadd X dL_law_153 ?_
        obtain ⟨x39, ex39, h40⟩ := g_bd h37; clear h37
        refine g_sld X hX hbl ex39 dL_law_154 ?_
        clear ex39
        refine g_aload_n (j := 0) (r := some b) X dL_law_155 rfl rfl ?_
        refine g_iload (j := 4) X dL_law_156 rfl ?_
        refine g_iconst X dL_law_158 (v := 2) (by decide) ?_
        refine g_iadd X dL_law_159 ?_
        obtain ⟨x41, ex41, h42⟩ := g_bd h40; clear h40
        refine g_sld X hX hbl ex41 dL_law_160 ?_
        clear ex41
        refine g_aload_n (j := 0) (r := some b) X dL_law_161 rfl rfl ?_
        refine g_iload (j := 4) X dL_law_162 rfl ?_
        refine g_iconst X dL_law_164 (v := 3) (by decide) ?_
        refine g_iadd X dL_law_165 ?_
        obtain ⟨x43, ex43, h44⟩ := g_bd h42; clear h42
        refine g_sld X hX hbl ex43 dL_law_166 ?_
        clear ex43
        refine g_aload_n (j := 0) (r := some b) X dL_law_167 rfl rfl ?_
        refine g_iload (j := 4) X dL_law_168 rfl ?_
        refine g_iconst X dL_law_170 (v := 4) (by decide) ?_
        refine g_iadd X dL_law_171 ?_
        obtain ⟨x45, ex45, h46⟩ := g_bd h44; clear h44
        refine g_sld X hX hbl ex45 dL_law_172 ?_
        clear ex45
        refine g_aload_n (j := 0) (r := some b) X dL_law_173 rfl rfl ?_
        refine g_iload (j := 4) X dL_law_174 rfl ?_
        refine g_iconst X dL_law_176 (v := 5) (by decide) ?_
        refine g_iadd X dL_law_177 ?_
        obtain ⟨x47, ex47, h48⟩ := g_bd h46; clear h46
        refine g_sld X hX hbl ex47 dL_law_178 ?_
        clear ex47
        obtain ⟨a49, ea49, ka49, h50⟩ := g_dc h48; clear h48
        obtain ⟨x53, S51, eS51, h52⟩ := g_bi h50; clear h50
        refine g_cV (n := 5) (As := [.int x39, .int x41, .int x43, .int x45, .int x47]) X (c_X7_feed hl D eS51) tw198 tw199 tw200 tw44 tw201 (by decide +kernel) rfl rfl ⟨Nat.le_of_ble_eq_true rfl, Nat.le_of_ble_eq_true rfl⟩ (ci := 7) rfl (by decide) ea49 ka49 rfl rfl (Nat.le_of_ble_eq_true rfl) dL_law_179 ⟨gu.1, gu.2⟩ ?_
        clear eS51 ea49 ka49
        refine g_aload_n (j := 2) X dL_law_182 rfl rfl ?_
        refine g_aload_n (j := 0) (r := some b) X dL_law_183 rfl rfl ?_
        refine g_iload (j := 4) X dL_law_184 rfl ?_
        refine g_iconst X dL_law_186 (v := 1) (by decide) ?_
        refine g_iadd X dL_law_187 ?_
        obtain ⟨x54, ex54, h55⟩ := g_bd h52; clear h52
        refine g_sld X hX hbl ex54 dL_law_188 ?_
        clear ex54
        refine g_aload_n (j := 0) (r := some b) X dL_law_189 rfl rfl ?_
        refine g_iload (j := 4) X dL_law_190 rfl ?_
        refine g_iconst X dL_law_192 (v := 2) (by decide) ?_
        refine g_iadd X dL_law_193 ?_
        obtain ⟨x56, ex56, h57⟩ := g_bd h55; clear h55
        refine g_sld X hX hbl ex56 dL_law_194 ?_
        clear ex56
        refine g_aload_n (j := 0) (r := some b) X dL_law_195 rfl rfl ?_
        refine g_iload (j := 4) X dL_law_196 rfl ?_
        refine g_iconst X dL_law_198 (v := 3) (by decide) ?_
        refine g_iadd X dL_law_199 ?_
        obtain ⟨x58, ex58, h59⟩ := g_bd h57; clear h57
        refine g_sld X hX hbl ex58 dL_law_200 ?_
        clear ex58
        refine g_aload_n (j := 0) (r := some b) X dL_law_201 rfl rfl ?_
        refine g_iload (j := 4) X dL_law_202 rfl ?_
        refine g_iconst X dL_law_204 (v := 4) (by decide) ?_
        refine g_iadd X dL_law_205 ?_
        obtain ⟨x60, ex60, h61⟩ := g_bd h59; clear h59
        refine g_sld X hX hbl ex60 dL_law_206 ?_
        clear ex60
        refine g_aload_n (j := 0) (r := some b) X dL_law_207 rfl rfl ?_
        refine g_iload (j := 4) X dL_law_208 rfl ?_
        refine g_iconst X dL_law_210 (v := 5) (by decide) ?_
        refine g_iadd X dL_law_211 ?_
        obtain ⟨x62, ex62, h63⟩ := g_bd h61; clear h61
        refine g_sld X hX hbl ex62 dL_law_212 ?_
        clear ex62
        obtain ⟨a64, ea64, ka64, h65⟩ := g_dc h63; clear h63
        obtain ⟨x68, S66, eS66, h67⟩ := g_bi h65; clear h65
        refine g_cV (n := 5) (As := [.int x54, .int x56, .int x58, .int x60, .int x62]) X (c_X8_feed hl D eS66) tw757 tw758 tw759 tw51 tw760 (by decide +kernel) rfl rfl ⟨Nat.le_of_ble_eq_true rfl, Nat.le_of_ble_eq_true rfl⟩ (ci := 8) rfl (by decide) ea64 ka64 rfl rfl (Nat.le_of_ble_eq_true rfl) dL_law_213 ⟨gu.1, gu.2⟩ ?_
        clear eS66 ea64 ka64
        refine g_icmp_eq (tgt := 1642) X dL_law_216 (by decide) (fun c69 => ?_) (fun c69 => ?_)
        · have h70 := g_ip h67 c69; clear h67
          obtain ⟨x72, ex72, h73⟩ := g_let h70; clear h70
          refine g_iinc (j := 4) (v := x72) (lv' := [(4, .int x72), (0, .ref b), (1, va_rf v1), (2, va_rf v2), (3, va_rf v3)]) X dL_law_1642 rfl (by rw [ex72]; rfl) (by decide) (by simp [g_rfc, g_ci, g_cj, g_cr]) ?_
          clear ex72
          refine g_goto (tgt := 23) X dL_law_1645 (by decide) ?_
          refine g_sub [1, 2, 3, 4, 0] rfl ?_
          exact ih S66 cu su v1 v2 v3 x72 h73
        · have h71 := g_in h67 c69; clear h67
          refine g_iconst X dL_law_219 (v := 0) (by decide) ?_
          cases h71
      have h38 := g_in h35 c36; clear h35
      by_cases c74 : x34 = 1
      · have h75 := g_ip h38 c74; clear h38; subst c74
        refine g_tableIn (tgt := 221) X dL_law_40 (by decide) (by decide) rfl (by decide) ?_
        refine g_aload_n (j := 1) X dL_law_221 rfl rfl ?_
        refine g_aload_n (j := 0) (r := some b) X dL_law_222 rfl rfl ?_
        refine g_iload (j := 4) X dL_law_223 rfl ?_
        refine g_iconst X dL_law_225 (v := 1) (by decide) ?_
        refine g_iadd X dL_law_226 ?_
        obtain ⟨x77, ex77, h78⟩ := g_bd h75; clear h75
        refine g_sld X hX hbl ex77 dL_law_227 ?_
        clear ex77
        obtain ⟨a79, ea79, ka79, h80⟩ := g_dc h78; clear h78
        obtain ⟨x83, S81, eS81, h82⟩ := g_bi h80; clear h80
        refine g_cV (n := 1) (As := [.int x77]) X (c_X7_end hl D eS81) tw211 tw212 tw213 tw44 tw214 (by decide +kernel) rfl rfl ⟨Nat.le_of_ble_eq_true rfl, Nat.le_of_ble_eq_true rfl⟩ (ci := 7) rfl (by decide) ea79 ka79 rfl rfl (Nat.le_of_ble_eq_true rfl) dL_law_228 ⟨gu.1, gu.2⟩ ?_
        clear eS81 ea79 ka79
        refine g_aload_n (j := 2) X dL_law_231 rfl rfl ?_
        refine g_aload_n (j := 0) (r := some b) X dL_law_232 rfl rfl ?_
        refine g_iload (j := 4) X dL_law_233 rfl ?_
        refine g_iconst X dL_law_235 (v := 1) (by decide) ?_
        refine g_iadd X dL_law_236 ?_
        obtain ⟨x84, ex84, h85⟩ := g_bd h82; clear h82
        refine g_sld X hX hbl ex84 dL_law_237 ?_
        clear ex84
        obtain ⟨a86, ea86, ka86, h87⟩ := g_dc h85; clear h85
        obtain ⟨x90, S88, eS88, h89⟩ := g_bi h87; clear h87
        refine g_cV (n := 1) (As := [.int x84]) X (c_X8_end hl D eS88) tw764 tw765 tw766 tw51 tw767 (by decide +kernel) rfl rfl ⟨Nat.le_of_ble_eq_true rfl, Nat.le_of_ble_eq_true rfl⟩ (ci := 8) rfl (by decide) ea86 ka86 rfl rfl (Nat.le_of_ble_eq_true rfl) dL_law_238 ⟨gu.1, gu.2⟩ ?_
        clear eS88 ea86 ka86
        refine g_icmp_eq (tgt := 1642) X dL_law_241 (by decide) (fun c91 => ?_) (fun c91 => ?_)
        · have h92 := g_ip h89 c91; clear h89
          obtain ⟨x94, ex94, h95⟩ := g_let h92; clear h92
          refine g_iinc (j := 4) (v := x94) (lv' := [(4, .int x94), (0, .ref b), (1, va_rf v1), (2, va_rf v2), (3, va_rf v3)]) X dL_law_1642 rfl (by rw [ex94]; rfl) (by decide) (by simp [g_rfc, g_ci, g_cj, g_cr]) ?_
          clear ex94
          refine g_goto (tgt := 23) X dL_law_1645 (by decide) ?_
          refine g_sub [1, 2, 3, 4, 0] rfl ?_
          exact ih S88 cu su v1 v2 v3 x94 h95
        · have h93 := g_in h89 c91; clear h89
          refine g_iconst X dL_law_244 (v := 0) (by decide) ?_
          cases h93
      have h76 := g_in h38 c74; clear h38
      by_cases c96 : x34 = 2
      · have h97 := g_ip h76 c96; clear h76; subst c96
        refine g_tableIn (tgt := 246) X dL_law_40 (by decide) (by decide) rfl (by decide) ?_
        refine g_aload_n (j := 1) X dL_law_246 rfl rfl ?_
        obtain ⟨a99, ea99, ka99, h100⟩ := g_dc h97; clear h97
        obtain ⟨x103, S101, eS101, h102⟩ := g_bi h100; clear h100
        refine g_cV (n := 0) (As := []) X (c_X7_again hl D eS101) tw215 tw216 tw217 tw44 tw218 (by decide +kernel) rfl rfl ⟨Nat.le_of_ble_eq_true rfl, Nat.le_of_ble_eq_true rfl⟩ (ci := 7) rfl (by decide) ea99 ka99 rfl rfl (Nat.le_of_ble_eq_true rfl) dL_law_247 ⟨gu.1, gu.2⟩ ?_
        clear eS101 ea99 ka99
        refine g_aload_n (j := 2) X dL_law_250 rfl rfl ?_
        obtain ⟨a104, ea104, ka104, h105⟩ := g_dc h102; clear h102
        obtain ⟨x108, S106, eS106, h107⟩ := g_bi h105; clear h105
        refine g_cV (n := 0) (As := []) X (c_X8_again hl D eS106) tw768 tw769 tw770 tw51 tw771 (by decide +kernel) rfl rfl ⟨Nat.le_of_ble_eq_true rfl, Nat.le_of_ble_eq_true rfl⟩ (ci := 8) rfl (by decide) ea104 ka104 rfl rfl (Nat.le_of_ble_eq_true rfl) dL_law_251 ⟨gu.1, gu.2⟩ ?_
        clear eS106 ea104 ka104
        refine g_icmp_eq (tgt := 1642) X dL_law_254 (by decide) (fun c109 => ?_) (fun c109 => ?_)
        · have h110 := g_ip h107 c109; clear h107
          obtain ⟨x112, ex112, h113⟩ := g_let h110; clear h110
          refine g_iinc (j := 4) (v := x112) (lv' := [(4, .int x112), (0, .ref b), (1, va_rf v1), (2, va_rf v2), (3, va_rf v3)]) X dL_law_1642 rfl (by rw [ex112]; rfl) (by decide) (by simp [g_rfc, g_ci, g_cj, g_cr]) ?_
          clear ex112
          refine g_goto (tgt := 23) X dL_law_1645 (by decide) ?_
          refine g_sub [1, 2, 3, 4, 0] rfl ?_
          exact ih S106 cu su v1 v2 v3 x112 h113
        · have h111 := g_in h107 c109; clear h107
          refine g_iconst X dL_law_257 (v := 0) (by decide) ?_
          cases h111
      have h98 := g_in h76 c96; clear h76
      by_cases c114 : x34 = 3
      · have h115 := g_ip h98 c114; clear h98; subst c114
        refine g_tableIn (tgt := 259) X dL_law_40 (by decide) (by decide) rfl (by decide) ?_
        refine g_aload_n (j := 1) X dL_law_259 rfl rfl ?_
        refine g_aload_n (j := 0) (r := some b) X dL_law_260 rfl rfl ?_
        refine g_iload (j := 4) X dL_law_261 rfl ?_
        refine g_iconst X dL_law_263 (v := 1) (by decide) ?_
        refine g_iadd X dL_law_264 ?_
        obtain ⟨x117, ex117, h118⟩ := g_bd h115; clear h115
        refine g_sld X hX hbl ex117 dL_law_265 ?_
        clear ex117
        obtain ⟨a119, ea119, ka119, h120⟩ := g_dc h118; clear h118
        obtain ⟨x123, S121, eS121, h122⟩ := g_bi h120; clear h120
        refine g_cV (n := 1) (As := [.int x117]) X (c_X7_out hl D eS121) tw233 tw234 tw235 tw44 tw236 (by decide +kernel) rfl rfl ⟨Nat.le_of_ble_eq_true rfl, Nat.le_of_ble_eq_true rfl⟩ (ci := 7) rfl (by decide) ea119 ka119 rfl rfl (Nat.le_of_ble_eq_true rfl) dL_law_266 ⟨gu.1, gu.2⟩ ?_
        clear eS121 ea119 ka119
        refine g_aload_n (j := 2) X dL_law_269 rfl rfl ?_
        refine g_aload_n (j := 0) (r := some b) X dL_law_270 rfl rfl ?_
        refine g_iload (j := 4) X dL_law_271 rfl ?_
        refine g_iconst X dL_law_273 (v := 1) (by decide) ?_
        refine g_iadd X dL_law_274 ?_
        obtain ⟨x124, ex124, h125⟩ := g_bd h122; clear h122
        refine g_sld X hX hbl ex124 dL_law_275 ?_
        clear ex124
        obtain ⟨a126, ea126, ka126, h127⟩ := g_dc h125; clear h125
        obtain ⟨x130, S128, eS128, h129⟩ := g_bi h127; clear h127
        refine g_cV (n := 1) (As := [.int x124]) X (c_X8_out hl D eS128) tw772 tw773 tw774 tw51 tw775 (by decide +kernel) rfl rfl ⟨Nat.le_of_ble_eq_true rfl, Nat.le_of_ble_eq_true rfl⟩ (ci := 8) rfl (by decide) ea126 ka126 rfl rfl (Nat.le_of_ble_eq_true rfl) dL_law_276 ⟨gu.1, gu.2⟩ ?_
        clear eS128 ea126 ka126
        refine g_icmp_eq (tgt := 1642) X dL_law_279 (by decide) (fun c131 => ?_) (fun c131 => ?_)
        · have h132 := g_ip h129 c131; clear h129
          obtain ⟨x134, ex134, h135⟩ := g_let h132; clear h132
          refine g_iinc (j := 4) (v := x134) (lv' := [(4, .int x134), (0, .ref b), (1, va_rf v1), (2, va_rf v2), (3, va_rf v3)]) X dL_law_1642 rfl (by rw [ex134]; rfl) (by decide) (by simp [g_rfc, g_ci, g_cj, g_cr]) ?_
          clear ex134
          refine g_goto (tgt := 23) X dL_law_1645 (by decide) ?_
          refine g_sub [1, 2, 3, 4, 0] rfl ?_
          exact ih S128 cu su v1 v2 v3 x134 h135
        · have h133 := g_in h129 c131; clear h129
          refine g_iconst X dL_law_282 (v := 0) (by decide) ?_
          cases h133
      have h116 := g_in h98 c114; clear h98
      by_cases c136 : x34 = 4
      · have h137 := g_ip h116 c136; clear h116; subst c136
        refine g_tableIn (tgt := 284) X dL_law_40 (by decide) (by decide) rfl (by decide) ?_
        refine g_aload_n (j := 1) X dL_law_284 rfl rfl ?_
        obtain ⟨a139, ea139, ka139, h140⟩ := g_dc h137; clear h137
        obtain ⟨x143, S141, eS141, h142⟩ := g_bi h140; clear h140
        refine g_cV (n := 0) (As := []) X (c_X7_outs hl D eS141) tw241 tw242 tw243 tw44 tw244 (by decide +kernel) rfl rfl ⟨Nat.le_of_ble_eq_true rfl, Nat.le_of_ble_eq_true rfl⟩ (ci := 7) rfl (by decide) ea139 ka139 rfl rfl (Nat.le_of_ble_eq_true rfl) dL_law_285 ⟨gu.1, gu.2⟩ ?_
        clear eS141 ea139 ka139
        refine g_aload_n (j := 2) X dL_law_288 rfl rfl ?_
        obtain ⟨a144, ea144, ka144, h145⟩ := g_dc h142; clear h142
        obtain ⟨x148, S146, eS146, h147⟩ := g_bi h145; clear h145
        refine g_cV (n := 0) (As := []) X (c_X8_outs hl D eS146) tw776 tw777 tw778 tw51 tw779 (by decide +kernel) rfl rfl ⟨Nat.le_of_ble_eq_true rfl, Nat.le_of_ble_eq_true rfl⟩ (ci := 8) rfl (by decide) ea144 ka144 rfl rfl (Nat.le_of_ble_eq_true rfl) dL_law_289 ⟨gu.1, gu.2⟩ ?_
        clear eS146 ea144 ka144
        refine g_icmp_eq (tgt := 1642) X dL_law_292 (by decide) (fun c149 => ?_) (fun c149 => ?_)
        · have h150 := g_ip h147 c149; clear h147
          obtain ⟨x152, ex152, h153⟩ := g_let h150; clear h150
          refine g_iinc (j := 4) (v := x152) (lv' := [(4, .int x152), (0, .ref b), (1, va_rf v1), (2, va_rf v2), (3, va_rf v3)]) X dL_law_1642 rfl (by rw [ex152]; rfl) (by decide) (by simp [g_rfc, g_ci, g_cj, g_cr]) ?_
          clear ex152
          refine g_goto (tgt := 23) X dL_law_1645 (by decide) ?_
          refine g_sub [1, 2, 3, 4, 0] rfl ?_
          exact ih S146 cu su v1 v2 v3 x152 h153
        · have h151 := g_in h147 c149; clear h147
          refine g_iconst X dL_law_295 (v := 0) (by decide) ?_
          cases h151
      have h138 := g_in h116 c136; clear h116
      by_cases c154 : x34 = 5
      · have h155 := g_ip h138 c154; clear h138; subst c154
        refine g_tableIn (tgt := 297) X dL_law_40 (by decide) (by decide) rfl (by decide) ?_
        refine g_aload_n (j := 1) X dL_law_297 rfl rfl ?_
        refine g_aload_n (j := 0) (r := some b) X dL_law_298 rfl rfl ?_
        refine g_iload (j := 4) X dL_law_299 rfl ?_
        refine g_iconst X dL_law_301 (v := 1) (by decide) ?_
        refine g_iadd X dL_law_302 ?_
        obtain ⟨x157, ex157, h158⟩ := g_bd h155; clear h155
        refine g_sld X hX hbl ex157 dL_law_303 ?_
        clear ex157
        refine g_aload_n (j := 3) X dL_law_304 rfl rfl ?_
        obtain ⟨g159, h160⟩ := g_gd h158; clear h158
        obtain ⟨x163, S161, eS161, h162⟩ := g_bi h160; clear h160
        refine g_cSW (n := 3) (As := [va_rf v1, .int x157, va_rf v3]) X (c_L_key hl D eS161) tw338 tw339 tw43 tw340 (by decide +kernel) rfl rfl ⟨Nat.le_of_ble_eq_true rfl, Nat.le_of_ble_eq_true rfl⟩ rfl rfl (Nat.le_of_ble_eq_true rfl) dL_law_305 ⟨g159.1, g159.2⟩ ?_
        clear eS161
        refine g_istore (i := 5) (lv' := [(5, .int x163), (0, .ref b), (1, va_rf v1), (2, va_rf v2), (3, va_rf v3), (4, .int v4)]) X dL_law_308 (by decide) rfl ?_
        refine g_aload_n (j := 3) X dL_law_310 rfl rfl ?_
        refine g_aload_n (j := 1) (r := some b) X dL_law_311 rfl rfl ?_
        refine g_iload (j := 5) X dL_law_312 rfl ?_
        refine g_iconst X dL_law_314 (v := 1) (by decide) ?_
        refine g_iadd X dL_law_315 ?_
        obtain ⟨x164, ex164, h165⟩ := g_bd h162; clear h162
        refine g_sld X hX hbl ex164 dL_law_316 ?_
        clear ex164
        obtain ⟨a166, ea166, ka166, h167⟩ := g_dc h165; clear h165
        obtain ⟨x170, S168, eS168, h169⟩ := g_bi h167; clear h167
        refine g_cV (n := 1) (As := [.int x164]) X (c_X8_key hl D eS168) tw780 tw781 tw782 tw51 tw783 (by decide +kernel) rfl rfl ⟨Nat.le_of_ble_eq_true rfl, Nat.le_of_ble_eq_true rfl⟩ (ci := 8) rfl (by decide) ea166 ka166 rfl rfl (Nat.le_of_ble_eq_true rfl) dL_law_317 ⟨g159.1, g159.2⟩ ?_
        clear eS168 ea166 ka166
        refine g_istore (i := 6) (lv' := [(6, .int x170), (5, .int x163), (0, .ref b), (1, va_rf v1), (2, va_rf v2), (3, va_rf v3), (4, .int v4)]) X dL_law_320 (by decide) rfl ?_
        refine g_aload_n (j := 4) X dL_law_322 rfl rfl ?_
        obtain ⟨a171, ea171, ka171, h172⟩ := g_dc h169; clear h169
        obtain ⟨x175, S173, eS173, h174⟩ := g_bi h172; clear h172
        refine g_cV (n := 0) (As := []) X (c_X8_thrown hl D eS173) tw753 tw754 tw755 tw51 tw756 (by decide +kernel) rfl rfl ⟨Nat.le_of_ble_eq_true rfl, Nat.le_of_ble_eq_true rfl⟩ (ci := 8) rfl (by decide) ea171 ka171 rfl rfl (Nat.le_of_ble_eq_true rfl) dL_law_323 ⟨g159.1, g159.2⟩ ?_
        clear eS173 ea171 ka171
        refine g_iload (j := 1) X dL_law_326 rfl ?_
        refine g_icmp_eq (tgt := 333) X dL_law_328 (by decide) (fun c176 => ?_) (fun c176 => ?_)
        · have h177 := g_ip h174 c176; clear h174
          refine g_iload (j := 1) X dL_law_333 rfl ?_
          refine g_if_ne (tgt := 350) X dL_law_335 (by decide) (fun c179 => ?_) (fun c179 => ?_)
          · have h180 := g_in h177 c179; clear h177
            refine g_goto (tgt := 1642) X dL_law_350 (by decide) ?_
            obtain ⟨x182, ex182, h183⟩ := g_let h180; clear h180
            refine g_iinc (j := 6) (v := x182) (lv' := [(4, .int x182), (6, .int x170), (5, .int x163), (0, .ref b), (1, va_rf v1), (2, va_rf v2), (3, va_rf v3)]) X dL_law_1642 rfl (by rw [ex182]; rfl) (by decide) (by simp [g_rfc, g_ci, g_cj, g_cr]) ?_
            clear ex182
            refine g_goto (tgt := 23) X dL_law_1645 (by decide) ?_
            refine g_sub [3, 4, 5, 6, 0] rfl ?_
            exact ih S173 (cu + 2) (su + 12) v1 v2 v3 x182 h183
          · have h181 := g_ip h177 c179; clear h177
            refine g_aload_n (j := 5) X dL_law_338 rfl rfl ?_
            refine g_iconst X dL_law_339 (v := 0) (by decide) ?_
            obtain ⟨x184, ex184, h185⟩ := g_bd h181; clear h181
            refine g_lald X ex184 dL_law_340 ?_
            clear ex184
            refine g_iload (j := 0) X dL_law_341 rfl ?_
            refine g_i2l X dL_law_343 ?_
            refine g_lcmp X dL_law_344 ?_
            refine g_if_eq (tgt := 350) X dL_law_345 (by decide) (fun c186 => ?_) (fun c186 => ?_)
            · have h187 := g_ip h185 c186; clear h185
              refine g_goto (tgt := 1642) X dL_law_350 (by decide) ?_
              obtain ⟨x189, ex189, h190⟩ := g_let h187; clear h187
              refine g_iinc (j := 6) (v := x189) (lv' := [(4, .int x189), (6, .int x170), (5, .int x163), (0, .ref b), (1, va_rf v1), (2, va_rf v2), (3, va_rf v3)]) X dL_law_1642 rfl (by rw [ex189]; rfl) (by decide) (by simp [g_rfc, g_ci, g_cj, g_cr]) ?_
              clear ex189
              refine g_goto (tgt := 23) X dL_law_1645 (by decide) ?_
              refine g_sub [3, 4, 5, 6, 0] rfl ?_
              exact ih S173 (cu + 2) (su + 12) v1 v2 v3 x189 h190
            · have h188 := g_in h185 c186; clear h185
              refine g_iconst X dL_law_348 (v := 0) (by decide) ?_
              cases h188
        · have h178 := g_in h174 c176; clear h174
          refine g_iconst X dL_law_331 (v := 0) (by decide) ?_
          cases h178
      have h156 := g_in h138 c154; clear h138
      by_cases c191 : x34 = 6
      · have h192 := g_ip h156 c191; clear h156; subst c191
        refine g_tableIn (tgt := 353) X dL_law_40 (by decide) (by decide) rfl (by decide) ?_
        refine g_aload_n (j := 1) X dL_law_353 rfl rfl ?_
        refine g_aload_n (j := 0) (r := some b) X dL_law_354 rfl rfl ?_
        refine g_iload (j := 4) X dL_law_355 rfl ?_
        refine g_iconst X dL_law_357 (v := 1) (by decide) ?_
        refine g_iadd X dL_law_358 ?_
        obtain ⟨x194, ex194, h195⟩ := g_bd h192; clear h192
        refine g_sld X hX hbl ex194 dL_law_359 ?_
        clear ex194
        refine g_aload_n (j := 3) X dL_law_360 rfl rfl ?_
        obtain ⟨g196, h197⟩ := g_gd h195; clear h195
        obtain ⟨x200, S198, eS198, h199⟩ := g_bi h197; clear h197
        refine g_cSW (n := 3) (As := [va_rf v1, .int x194, va_rf v3]) X (c_L_submit hl D eS198) tw400 tw401 tw43 tw402 (by decide +kernel) rfl rfl ⟨Nat.le_of_ble_eq_true rfl, Nat.le_of_ble_eq_true rfl⟩ rfl rfl (Nat.le_of_ble_eq_true rfl) dL_law_361 ⟨g196.1, g196.2⟩ ?_
        clear eS198
        refine g_istore (i := 5) (lv' := [(5, .int x200), (0, .ref b), (1, va_rf v1), (2, va_rf v2), (3, va_rf v3), (4, .int v4)]) X dL_law_364 (by decide) rfl ?_
        refine g_aload_n (j := 3) X dL_law_366 rfl rfl ?_
        refine g_aload_n (j := 1) (r := some b) X dL_law_367 rfl rfl ?_
        refine g_iload (j := 5) X dL_law_368 rfl ?_
        refine g_iconst X dL_law_370 (v := 1) (by decide) ?_
        refine g_iadd X dL_law_371 ?_
        obtain ⟨x201, ex201, h202⟩ := g_bd h199; clear h199
        refine g_sld X hX hbl ex201 dL_law_372 ?_
        clear ex201
        obtain ⟨a203, ea203, ka203, h204⟩ := g_dc h202; clear h202
        obtain ⟨x207, S205, eS205, h206⟩ := g_bi h204; clear h204
        refine g_cV (n := 1) (As := [.int x201]) X (c_X8_submit hl D eS205) tw790 tw791 tw792 tw51 tw793 (by decide +kernel) rfl rfl ⟨Nat.le_of_ble_eq_true rfl, Nat.le_of_ble_eq_true rfl⟩ (ci := 8) rfl (by decide) ea203 ka203 rfl rfl (Nat.le_of_ble_eq_true rfl) dL_law_373 ⟨g196.1, g196.2⟩ ?_
        clear eS205 ea203 ka203
        refine g_istore (i := 6) (lv' := [(6, .int x207), (5, .int x200), (0, .ref b), (1, va_rf v1), (2, va_rf v2), (3, va_rf v3), (4, .int v4)]) X dL_law_376 (by decide) rfl ?_
        refine g_aload_n (j := 4) X dL_law_378 rfl rfl ?_
        obtain ⟨a208, ea208, ka208, h209⟩ := g_dc h206; clear h206
        obtain ⟨x212, S210, eS210, h211⟩ := g_bi h209; clear h209
        refine g_cV (n := 0) (As := []) X (c_X8_thrown hl D eS210) tw753 tw754 tw755 tw51 tw756 (by decide +kernel) rfl rfl ⟨Nat.le_of_ble_eq_true rfl, Nat.le_of_ble_eq_true rfl⟩ (ci := 8) rfl (by decide) ea208 ka208 rfl rfl (Nat.le_of_ble_eq_true rfl) dL_law_379 ⟨g196.1, g196.2⟩ ?_
        clear eS210 ea208 ka208
        refine g_iload (j := 1) X dL_law_382 rfl ?_
        refine g_icmp_eq (tgt := 389) X dL_law_384 (by decide) (fun c213 => ?_) (fun c213 => ?_)
        · have h214 := g_ip h211 c213; clear h211
          refine g_iload (j := 1) X dL_law_389 rfl ?_
          refine g_if_ne (tgt := 406) X dL_law_391 (by decide) (fun c216 => ?_) (fun c216 => ?_)
          · have h217 := g_in h214 c216; clear h214
            refine g_goto (tgt := 1642) X dL_law_406 (by decide) ?_
            obtain ⟨x219, ex219, h220⟩ := g_let h217; clear h217
            refine g_iinc (j := 6) (v := x219) (lv' := [(4, .int x219), (6, .int x207), (5, .int x200), (0, .ref b), (1, va_rf v1), (2, va_rf v2), (3, va_rf v3)]) X dL_law_1642 rfl (by rw [ex219]; rfl) (by decide) (by simp [g_rfc, g_ci, g_cj, g_cr]) ?_
            clear ex219
            refine g_goto (tgt := 23) X dL_law_1645 (by decide) ?_
            refine g_sub [3, 4, 5, 6, 0] rfl ?_
            exact ih S210 (cu + 21) (su + 1216) v1 v2 v3 x219 h220
          · have h218 := g_ip h214 c216; clear h214
            refine g_aload_n (j := 5) X dL_law_394 rfl rfl ?_
            refine g_iconst X dL_law_395 (v := 0) (by decide) ?_
            obtain ⟨x221, ex221, h222⟩ := g_bd h218; clear h218
            refine g_lald X ex221 dL_law_396 ?_
            clear ex221
            refine g_iload (j := 0) X dL_law_397 rfl ?_
            refine g_i2l X dL_law_399 ?_
            refine g_lcmp X dL_law_400 ?_
            refine g_if_eq (tgt := 406) X dL_law_401 (by decide) (fun c223 => ?_) (fun c223 => ?_)
            · have h224 := g_ip h222 c223; clear h222
              refine g_goto (tgt := 1642) X dL_law_406 (by decide) ?_
              obtain ⟨x226, ex226, h227⟩ := g_let h224; clear h224
              refine g_iinc (j := 6) (v := x226) (lv' := [(4, .int x226), (6, .int x207), (5, .int x200), (0, .ref b), (1, va_rf v1), (2, va_rf v2), (3, va_rf v3)]) X dL_law_1642 rfl (by rw [ex226]; rfl) (by decide) (by simp [g_rfc, g_ci, g_cj, g_cr]) ?_
              clear ex226
              refine g_goto (tgt := 23) X dL_law_1645 (by decide) ?_
              refine g_sub [3, 4, 5, 6, 0] rfl ?_
              exact ih S210 (cu + 21) (su + 1216) v1 v2 v3 x226 h227
            · have h225 := g_in h222 c223; clear h222
              refine g_iconst X dL_law_404 (v := 0) (by decide) ?_
              cases h225
        · have h215 := g_in h211 c213; clear h211
          refine g_iconst X dL_law_387 (v := 0) (by decide) ?_
          cases h215
      have h193 := g_in h156 c191; clear h156
      by_cases c228 : x34 = 7
      · have h229 := g_ip h193 c228; clear h193; subst c228
        refine g_tableIn (tgt := 409) X dL_law_40 (by decide) (by decide) rfl (by decide) ?_
        refine g_aload_n (j := 1) X dL_law_409 rfl rfl ?_
        refine g_aload_n (j := 0) (r := some b) X dL_law_410 rfl rfl ?_
        refine g_iload (j := 4) X dL_law_411 rfl ?_
        refine g_iconst X dL_law_413 (v := 1) (by decide) ?_
        refine g_iadd X dL_law_414 ?_
        obtain ⟨x231, ex231, h232⟩ := g_bd h229; clear h229
        refine g_sld X hX hbl ex231 dL_law_415 ?_
        clear ex231
        refine g_aload_n (j := 0) (r := some b) X dL_law_416 rfl rfl ?_
        refine g_iload (j := 4) X dL_law_417 rfl ?_
        refine g_iconst X dL_law_419 (v := 2) (by decide) ?_
        refine g_iadd X dL_law_420 ?_
        obtain ⟨x233, ex233, h234⟩ := g_bd h232; clear h232
        refine g_sld X hX hbl ex233 dL_law_421 ?_
        clear ex233
        refine g_i2l X dL_law_422 ?_
        refine g_bipush X dL_law_423 (v := 32) (by decide) ?_
        refine g_lshl X dL_law_425 ?_
        refine g_aload_n (j := 0) (r := some b) X dL_law_426 rfl rfl ?_
        refine g_iload (j := 4) X dL_law_427 rfl ?_
        refine g_iconst X dL_law_429 (v := 3) (by decide) ?_
        refine g_iadd X dL_law_430 ?_
        obtain ⟨x235, ex235, h236⟩ := g_bd h234; clear h234
        refine g_sld X hX hbl ex235 dL_law_431 ?_
        clear ex235
        refine g_i2l X dL_law_432 ?_
        refine g_ldc2 X tw978 dL_law_433 ?_
        refine g_land X dL_law_436 ?_
        refine g_lor X dL_law_437 ?_
        refine g_aload_n (j := 3) X dL_law_438 rfl rfl ?_
        obtain ⟨g237, h238⟩ := g_gd h236; clear h236
        obtain ⟨x241, S239, eS239, h240⟩ := g_bi h238; clear h238
        refine g_cSW (n := 4) (As := [va_rf v1, .int x231, .long ((x233.toInt64 <<< ((32 : Int32).toInt64 &&& 63)) ||| (x235.toInt64 &&& 4294967295)), va_rf v3]) X (c_L_cut hl D eS239) tw437 tw438 tw43 tw439 (by decide +kernel) rfl rfl ⟨Nat.le_of_ble_eq_true rfl, Nat.le_of_ble_eq_true rfl⟩ rfl rfl (Nat.le_of_ble_eq_true rfl) dL_law_439 ⟨g237.1, g237.2⟩ ?_
        clear eS239
        refine g_istore (i := 5) (lv' := [(5, .int x241), (0, .ref b), (1, va_rf v1), (2, va_rf v2), (3, va_rf v3), (4, .int v4)]) X dL_law_442 (by decide) rfl ?_
        refine g_aload_n (j := 3) X dL_law_444 rfl rfl ?_
        refine g_aload_n (j := 1) (r := some b) X dL_law_445 rfl rfl ?_
        refine g_iload (j := 5) X dL_law_446 rfl ?_
        refine g_iconst X dL_law_448 (v := 1) (by decide) ?_
        refine g_iadd X dL_law_449 ?_
        obtain ⟨x242, ex242, h243⟩ := g_bd h240; clear h240
        refine g_sld X hX hbl ex242 dL_law_450 ?_
        clear ex242
        refine g_aload_n (j := 1) (r := some b) X dL_law_451 rfl rfl ?_
        refine g_iload (j := 5) X dL_law_452 rfl ?_
        refine g_iconst X dL_law_454 (v := 2) (by decide) ?_
        refine g_iadd X dL_law_455 ?_
        obtain ⟨x244, ex244, h245⟩ := g_bd h243; clear h243
        refine g_sld X hX hbl ex244 dL_law_456 ?_
        clear ex244
        refine g_i2l X dL_law_457 ?_
        refine g_bipush X dL_law_458 (v := 32) (by decide) ?_
        refine g_lshl X dL_law_460 ?_
        refine g_aload_n (j := 1) (r := some b) X dL_law_461 rfl rfl ?_
        refine g_iload (j := 5) X dL_law_462 rfl ?_
        refine g_iconst X dL_law_464 (v := 3) (by decide) ?_
        refine g_iadd X dL_law_465 ?_
        obtain ⟨x246, ex246, h247⟩ := g_bd h245; clear h245
        refine g_sld X hX hbl ex246 dL_law_466 ?_
        clear ex246
        refine g_i2l X dL_law_467 ?_
        refine g_ldc2 X tw978 dL_law_468 ?_
        refine g_land X dL_law_471 ?_
        refine g_lor X dL_law_472 ?_
        obtain ⟨a248, ea248, ka248, h249⟩ := g_dc h247; clear h247
        obtain ⟨g250, h251⟩ := g_gd h249; clear h249
        obtain ⟨x254, S252, eS252, h253⟩ := g_bi h251; clear h251
        refine g_cV (n := 2) (As := [.int x242, .long ((x244.toInt64 <<< ((32 : Int32).toInt64 &&& 63)) ||| (x246.toInt64 &&& 4294967295))]) X (c_X8_cut hl D eS252) tw797 tw798 tw799 tw51 tw800 (by decide +kernel) rfl rfl ⟨Nat.le_of_ble_eq_true rfl, Nat.le_of_ble_eq_true rfl⟩ (ci := 8) rfl (by decide) ea248 ka248 rfl rfl (Nat.le_of_ble_eq_true rfl) dL_law_473 ⟨g250.1, g250.2⟩ ?_
        clear eS252 ea248 ka248
        refine g_istore (i := 6) (lv' := [(6, .int x254), (5, .int x241), (0, .ref b), (1, va_rf v1), (2, va_rf v2), (3, va_rf v3), (4, .int v4)]) X dL_law_476 (by decide) rfl ?_
        refine g_aload_n (j := 4) X dL_law_478 rfl rfl ?_
        obtain ⟨a255, ea255, ka255, h256⟩ := g_dc h253; clear h253
        obtain ⟨x259, S257, eS257, h258⟩ := g_bi h256; clear h256
        refine g_cV (n := 0) (As := []) X (c_X8_thrown hl D eS257) tw753 tw754 tw755 tw51 tw756 (by decide +kernel) rfl rfl ⟨Nat.le_of_ble_eq_true rfl, Nat.le_of_ble_eq_true rfl⟩ (ci := 8) rfl (by decide) ea255 ka255 rfl rfl (Nat.le_of_ble_eq_true rfl) dL_law_479 ⟨g250.1, g250.2⟩ ?_
        clear eS257 ea255 ka255
        refine g_iload (j := 1) X dL_law_482 rfl ?_
        refine g_icmp_eq (tgt := 489) X dL_law_484 (by decide) (fun c260 => ?_) (fun c260 => ?_)
        · have h261 := g_ip h258 c260; clear h258
          refine g_iload (j := 1) X dL_law_489 rfl ?_
          refine g_if_ne (tgt := 506) X dL_law_491 (by decide) (fun c263 => ?_) (fun c263 => ?_)
          · have h264 := g_in h261 c263; clear h261
            refine g_goto (tgt := 1642) X dL_law_506 (by decide) ?_
            obtain ⟨x266, ex266, h267⟩ := g_let h264; clear h264
            refine g_iinc (j := 6) (v := x266) (lv' := [(4, .int x266), (6, .int x254), (5, .int x241), (0, .ref b), (1, va_rf v1), (2, va_rf v2), (3, va_rf v3)]) X dL_law_1642 rfl (by rw [ex266]; rfl) (by decide) (by simp [g_rfc, g_ci, g_cj, g_cr]) ?_
            clear ex266
            refine g_goto (tgt := 23) X dL_law_1645 (by decide) ?_
            refine g_sub [3, 4, 5, 6, 0] rfl ?_
            exact ih S257 (cu + 3 + 410) (su + 127 + 3280) v1 v2 v3 x266 h267
          · have h265 := g_ip h261 c263; clear h261
            refine g_aload_n (j := 5) X dL_law_494 rfl rfl ?_
            refine g_iconst X dL_law_495 (v := 0) (by decide) ?_
            obtain ⟨x268, ex268, h269⟩ := g_bd h265; clear h265
            refine g_lald X ex268 dL_law_496 ?_
            clear ex268
            refine g_iload (j := 0) X dL_law_497 rfl ?_
            refine g_i2l X dL_law_499 ?_
            refine g_lcmp X dL_law_500 ?_
            refine g_if_eq (tgt := 506) X dL_law_501 (by decide) (fun c270 => ?_) (fun c270 => ?_)
            · have h271 := g_ip h269 c270; clear h269
              refine g_goto (tgt := 1642) X dL_law_506 (by decide) ?_
              obtain ⟨x273, ex273, h274⟩ := g_let h271; clear h271
              refine g_iinc (j := 6) (v := x273) (lv' := [(4, .int x273), (6, .int x254), (5, .int x241), (0, .ref b), (1, va_rf v1), (2, va_rf v2), (3, va_rf v3)]) X dL_law_1642 rfl (by rw [ex273]; rfl) (by decide) (by simp [g_rfc, g_ci, g_cj, g_cr]) ?_
              clear ex273
              refine g_goto (tgt := 23) X dL_law_1645 (by decide) ?_
              refine g_sub [3, 4, 5, 6, 0] rfl ?_
              exact ih S257 (cu + 3 + 410) (su + 127 + 3280) v1 v2 v3 x273 h274
            · have h272 := g_in h269 c270; clear h269
              refine g_iconst X dL_law_504 (v := 0) (by decide) ?_
              cases h272
        · have h262 := g_in h258 c260; clear h258
          refine g_iconst X dL_law_487 (v := 0) (by decide) ?_
          cases h262
      have h230 := g_in h193 c228; clear h193
      by_cases c275 : x34 = 8
      · have h276 := g_ip h230 c275; clear h230; subst c275
        refine g_tableIn (tgt := 509) X dL_law_40 (by decide) (by decide) rfl (by decide) ?_
        refine g_aload_n (j := 1) X dL_law_509 rfl rfl ?_
        refine g_aload_n (j := 0) (r := some b) X dL_law_510 rfl rfl ?_
        refine g_iload (j := 4) X dL_law_511 rfl ?_
        refine g_iconst X dL_law_513 (v := 1) (by decide) ?_
        refine g_iadd X dL_law_514 ?_
        obtain ⟨x278, ex278, h279⟩ := g_bd h276; clear h276
        refine g_sld X hX hbl ex278 dL_law_515 ?_
        clear ex278
        refine g_aload_n (j := 0) (r := some b) X dL_law_516 rfl rfl ?_
        refine g_iload (j := 4) X dL_law_517 rfl ?_
        refine g_iconst X dL_law_519 (v := 2) (by decide) ?_
        refine g_iadd X dL_law_520 ?_
        obtain ⟨x280, ex280, h281⟩ := g_bd h279; clear h279
        refine g_sld X hX hbl ex280 dL_law_521 ?_
        clear ex280
        refine g_aload_n (j := 3) X dL_law_522 rfl rfl ?_
        obtain ⟨g282, h283⟩ := g_gd h281; clear h281
        obtain ⟨x286, S284, eS284, h285⟩ := g_bi h283; clear h283
        refine g_cSW (n := 4) (As := [va_rf v1, .int x278, .int x280, va_rf v3]) X (c_L_size hl D eS284) tw477 tw478 tw43 tw479 (by decide +kernel) rfl rfl ⟨Nat.le_of_ble_eq_true rfl, Nat.le_of_ble_eq_true rfl⟩ rfl rfl (Nat.le_of_ble_eq_true rfl) dL_law_523 ⟨g282.1, g282.2⟩ ?_
        clear eS284
        refine g_istore (i := 5) (lv' := [(5, .int x286), (0, .ref b), (1, va_rf v1), (2, va_rf v2), (3, va_rf v3), (4, .int v4)]) X dL_law_526 (by decide) rfl ?_
        refine g_aload_n (j := 3) X dL_law_528 rfl rfl ?_
        refine g_aload_n (j := 1) (r := some b) X dL_law_529 rfl rfl ?_
        refine g_iload (j := 5) X dL_law_530 rfl ?_
        refine g_iconst X dL_law_532 (v := 1) (by decide) ?_
        refine g_iadd X dL_law_533 ?_
        obtain ⟨x287, ex287, h288⟩ := g_bd h285; clear h285
        refine g_sld X hX hbl ex287 dL_law_534 ?_
        clear ex287
        refine g_aload_n (j := 1) (r := some b) X dL_law_535 rfl rfl ?_
        refine g_iload (j := 5) X dL_law_536 rfl ?_
        refine g_iconst X dL_law_538 (v := 2) (by decide) ?_
        refine g_iadd X dL_law_539 ?_
        obtain ⟨x289, ex289, h290⟩ := g_bd h288; clear h288
        refine g_sld X hX hbl ex289 dL_law_540 ?_
        clear ex289
        obtain ⟨a291, ea291, ka291, h292⟩ := g_dc h290; clear h290
        obtain ⟨x295, S293, eS293, h294⟩ := g_bi h292; clear h292
        refine g_cV (n := 2) (As := [.int x287, .int x289]) X (c_X8_size hl D eS293) tw856 tw857 tw858 tw51 tw859 (by decide +kernel) rfl rfl ⟨Nat.le_of_ble_eq_true rfl, Nat.le_of_ble_eq_true rfl⟩ (ci := 8) rfl (by decide) ea291 ka291 rfl rfl (Nat.le_of_ble_eq_true rfl) dL_law_541 ⟨g282.1, g282.2⟩ ?_
        clear eS293 ea291 ka291
        refine g_istore (i := 6) (lv' := [(6, .int x295), (5, .int x286), (0, .ref b), (1, va_rf v1), (2, va_rf v2), (3, va_rf v3), (4, .int v4)]) X dL_law_544 (by decide) rfl ?_
        refine g_aload_n (j := 4) X dL_law_546 rfl rfl ?_
        obtain ⟨a296, ea296, ka296, h297⟩ := g_dc h294; clear h294
        obtain ⟨x300, S298, eS298, h299⟩ := g_bi h297; clear h297
        refine g_cV (n := 0) (As := []) X (c_X8_thrown hl D eS298) tw753 tw754 tw755 tw51 tw756 (by decide +kernel) rfl rfl ⟨Nat.le_of_ble_eq_true rfl, Nat.le_of_ble_eq_true rfl⟩ (ci := 8) rfl (by decide) ea296 ka296 rfl rfl (Nat.le_of_ble_eq_true rfl) dL_law_547 ⟨g282.1, g282.2⟩ ?_
        clear eS298 ea296 ka296
        refine g_iload (j := 1) X dL_law_550 rfl ?_
        refine g_icmp_eq (tgt := 557) X dL_law_552 (by decide) (fun c301 => ?_) (fun c301 => ?_)
        · have h302 := g_ip h299 c301; clear h299
          refine g_iload (j := 1) X dL_law_557 rfl ?_
          refine g_if_ne (tgt := 574) X dL_law_559 (by decide) (fun c304 => ?_) (fun c304 => ?_)
          · have h305 := g_in h302 c304; clear h302
            refine g_goto (tgt := 1642) X dL_law_574 (by decide) ?_
            obtain ⟨x307, ex307, h308⟩ := g_let h305; clear h305
            refine g_iinc (j := 6) (v := x307) (lv' := [(4, .int x307), (6, .int x295), (5, .int x286), (0, .ref b), (1, va_rf v1), (2, va_rf v2), (3, va_rf v3)]) X dL_law_1642 rfl (by rw [ex307]; rfl) (by decide) (by simp [g_rfc, g_ci, g_cj, g_cr]) ?_
            clear ex307
            refine g_goto (tgt := 23) X dL_law_1645 (by decide) ?_
            refine g_sub [3, 4, 5, 6, 0] rfl ?_
            exact ih S298 (cu + 2) (su + 12) v1 v2 v3 x307 h308
          · have h306 := g_ip h302 c304; clear h302
            refine g_aload_n (j := 5) X dL_law_562 rfl rfl ?_
            refine g_iconst X dL_law_563 (v := 0) (by decide) ?_
            obtain ⟨x309, ex309, h310⟩ := g_bd h306; clear h306
            refine g_lald X ex309 dL_law_564 ?_
            clear ex309
            refine g_iload (j := 0) X dL_law_565 rfl ?_
            refine g_i2l X dL_law_567 ?_
            refine g_lcmp X dL_law_568 ?_
            refine g_if_eq (tgt := 574) X dL_law_569 (by decide) (fun c311 => ?_) (fun c311 => ?_)
            · have h312 := g_ip h310 c311; clear h310
              refine g_goto (tgt := 1642) X dL_law_574 (by decide) ?_
              obtain ⟨x314, ex314, h315⟩ := g_let h312; clear h312
              refine g_iinc (j := 6) (v := x314) (lv' := [(4, .int x314), (6, .int x295), (5, .int x286), (0, .ref b), (1, va_rf v1), (2, va_rf v2), (3, va_rf v3)]) X dL_law_1642 rfl (by rw [ex314]; rfl) (by decide) (by simp [g_rfc, g_ci, g_cj, g_cr]) ?_
              clear ex314
              refine g_goto (tgt := 23) X dL_law_1645 (by decide) ?_
              refine g_sub [3, 4, 5, 6, 0] rfl ?_
              exact ih S298 (cu + 2) (su + 12) v1 v2 v3 x314 h315
            · have h313 := g_in h310 c311; clear h310
              refine g_iconst X dL_law_572 (v := 0) (by decide) ?_
              cases h313
        · have h303 := g_in h299 c301; clear h299
          refine g_iconst X dL_law_555 (v := 0) (by decide) ?_
          cases h303
      have h277 := g_in h230 c275; clear h230
      by_cases c316 : x34 = 9
      · have h317 := g_ip h277 c316; clear h277; subst c316
        refine g_tableIn (tgt := 577) X dL_law_40 (by decide) (by decide) rfl (by decide) ?_
        refine g_aload_n (j := 1) X dL_law_577 rfl rfl ?_
        refine g_aload_n (j := 0) (r := some b) X dL_law_578 rfl rfl ?_
        refine g_iload (j := 4) X dL_law_579 rfl ?_
        refine g_iconst X dL_law_581 (v := 1) (by decide) ?_
        refine g_iadd X dL_law_582 ?_
        obtain ⟨x319, ex319, h320⟩ := g_bd h317; clear h317
        refine g_sld X hX hbl ex319 dL_law_583 ?_
        clear ex319
        refine g_aload_n (j := 0) (r := some b) X dL_law_584 rfl rfl ?_
        refine g_iload (j := 4) X dL_law_585 rfl ?_
        refine g_iconst X dL_law_587 (v := 2) (by decide) ?_
        refine g_iadd X dL_law_588 ?_
        obtain ⟨x321, ex321, h322⟩ := g_bd h320; clear h320
        refine g_sld X hX hbl ex321 dL_law_589 ?_
        clear ex321
        refine g_aload_n (j := 3) X dL_law_590 rfl rfl ?_
        obtain ⟨g323, h324⟩ := g_gd h322; clear h322
        obtain ⟨x327, S325, eS325, h326⟩ := g_bi h324; clear h324
        refine g_cSW (n := 4) (As := [va_rf v1, .int x319, .int x321, va_rf v3]) X (c_L_head hl D eS325) tw493 tw494 tw43 tw495 (by decide +kernel) rfl rfl ⟨Nat.le_of_ble_eq_true rfl, Nat.le_of_ble_eq_true rfl⟩ rfl rfl (Nat.le_of_ble_eq_true rfl) dL_law_591 ⟨g323.1, g323.2⟩ ?_
        clear eS325
        refine g_istore (i := 5) (lv' := [(5, .int x327), (0, .ref b), (1, va_rf v1), (2, va_rf v2), (3, va_rf v3), (4, .int v4)]) X dL_law_594 (by decide) rfl ?_
        refine g_aload_n (j := 3) X dL_law_596 rfl rfl ?_
        refine g_aload_n (j := 1) (r := some b) X dL_law_597 rfl rfl ?_
        refine g_iload (j := 5) X dL_law_598 rfl ?_
        refine g_iconst X dL_law_600 (v := 1) (by decide) ?_
        refine g_iadd X dL_law_601 ?_
        obtain ⟨x328, ex328, h329⟩ := g_bd h326; clear h326
        refine g_sld X hX hbl ex328 dL_law_602 ?_
        clear ex328
        refine g_aload_n (j := 1) (r := some b) X dL_law_603 rfl rfl ?_
        refine g_iload (j := 5) X dL_law_604 rfl ?_
        refine g_iconst X dL_law_606 (v := 2) (by decide) ?_
        refine g_iadd X dL_law_607 ?_
        obtain ⟨x330, ex330, h331⟩ := g_bd h329; clear h329
        refine g_sld X hX hbl ex330 dL_law_608 ?_
        clear ex330
        obtain ⟨a332, ea332, ka332, h333⟩ := g_dc h331; clear h331
        obtain ⟨x336, S334, eS334, h335⟩ := g_bi h333; clear h333
        refine g_cV (n := 2) (As := [.int x328, .int x330]) X (c_X8_head hl D eS334) tw860 tw861 tw862 tw51 tw863 (by decide +kernel) rfl rfl ⟨Nat.le_of_ble_eq_true rfl, Nat.le_of_ble_eq_true rfl⟩ (ci := 8) rfl (by decide) ea332 ka332 rfl rfl (Nat.le_of_ble_eq_true rfl) dL_law_609 ⟨g323.1, g323.2⟩ ?_
        clear eS334 ea332 ka332
        refine g_istore (i := 6) (lv' := [(6, .int x336), (5, .int x327), (0, .ref b), (1, va_rf v1), (2, va_rf v2), (3, va_rf v3), (4, .int v4)]) X dL_law_612 (by decide) rfl ?_
        refine g_aload_n (j := 4) X dL_law_614 rfl rfl ?_
        obtain ⟨a337, ea337, ka337, h338⟩ := g_dc h335; clear h335
        obtain ⟨x341, S339, eS339, h340⟩ := g_bi h338; clear h338
        refine g_cV (n := 0) (As := []) X (c_X8_thrown hl D eS339) tw753 tw754 tw755 tw51 tw756 (by decide +kernel) rfl rfl ⟨Nat.le_of_ble_eq_true rfl, Nat.le_of_ble_eq_true rfl⟩ (ci := 8) rfl (by decide) ea337 ka337 rfl rfl (Nat.le_of_ble_eq_true rfl) dL_law_615 ⟨g323.1, g323.2⟩ ?_
        clear eS339 ea337 ka337
        refine g_iload (j := 1) X dL_law_618 rfl ?_
        refine g_icmp_eq (tgt := 625) X dL_law_620 (by decide) (fun c342 => ?_) (fun c342 => ?_)
        · have h343 := g_ip h340 c342; clear h340
          refine g_iload (j := 1) X dL_law_625 rfl ?_
          refine g_if_ne (tgt := 642) X dL_law_627 (by decide) (fun c345 => ?_) (fun c345 => ?_)
          · have h346 := g_in h343 c345; clear h343
            refine g_goto (tgt := 1642) X dL_law_642 (by decide) ?_
            obtain ⟨x348, ex348, h349⟩ := g_let h346; clear h346
            refine g_iinc (j := 6) (v := x348) (lv' := [(4, .int x348), (6, .int x336), (5, .int x327), (0, .ref b), (1, va_rf v1), (2, va_rf v2), (3, va_rf v3)]) X dL_law_1642 rfl (by rw [ex348]; rfl) (by decide) (by simp [g_rfc, g_ci, g_cj, g_cr]) ?_
            clear ex348
            refine g_goto (tgt := 23) X dL_law_1645 (by decide) ?_
            refine g_sub [3, 4, 5, 6, 0] rfl ?_
            exact ih S339 (cu + 2) (su + 12) v1 v2 v3 x348 h349
          · have h347 := g_ip h343 c345; clear h343
            refine g_aload_n (j := 5) X dL_law_630 rfl rfl ?_
            refine g_iconst X dL_law_631 (v := 0) (by decide) ?_
            obtain ⟨x350, ex350, h351⟩ := g_bd h347; clear h347
            refine g_lald X ex350 dL_law_632 ?_
            clear ex350
            refine g_iload (j := 0) X dL_law_633 rfl ?_
            refine g_i2l X dL_law_635 ?_
            refine g_lcmp X dL_law_636 ?_
            refine g_if_eq (tgt := 642) X dL_law_637 (by decide) (fun c352 => ?_) (fun c352 => ?_)
            · have h353 := g_ip h351 c352; clear h351
              refine g_goto (tgt := 1642) X dL_law_642 (by decide) ?_
              obtain ⟨x355, ex355, h356⟩ := g_let h353; clear h353
              refine g_iinc (j := 6) (v := x355) (lv' := [(4, .int x355), (6, .int x336), (5, .int x327), (0, .ref b), (1, va_rf v1), (2, va_rf v2), (3, va_rf v3)]) X dL_law_1642 rfl (by rw [ex355]; rfl) (by decide) (by simp [g_rfc, g_ci, g_cj, g_cr]) ?_
              clear ex355
              refine g_goto (tgt := 23) X dL_law_1645 (by decide) ?_
              refine g_sub [3, 4, 5, 6, 0] rfl ?_
              exact ih S339 (cu + 2) (su + 12) v1 v2 v3 x355 h356
            · have h354 := g_in h351 c352; clear h351
              refine g_iconst X dL_law_640 (v := 0) (by decide) ?_
              cases h354
        · have h344 := g_in h340 c342; clear h340
          refine g_iconst X dL_law_623 (v := 0) (by decide) ?_
          cases h344
      have h318 := g_in h277 c316; clear h277
      by_cases c357 : x34 = 10
      · have h358 := g_ip h318 c357; clear h318; subst c357
        refine g_tableIn (tgt := 645) X dL_law_40 (by decide) (by decide) rfl (by decide) ?_
        refine g_aload_n (j := 1) X dL_law_645 rfl rfl ?_
        refine g_aload_n (j := 0) (r := some b) X dL_law_646 rfl rfl ?_
        refine g_iload (j := 4) X dL_law_647 rfl ?_
        refine g_iconst X dL_law_649 (v := 1) (by decide) ?_
        refine g_iadd X dL_law_650 ?_
        obtain ⟨x360, ex360, h361⟩ := g_bd h358; clear h358
        refine g_sld X hX hbl ex360 dL_law_651 ?_
        clear ex360
        refine g_aload_n (j := 0) (r := some b) X dL_law_652 rfl rfl ?_
        refine g_iload (j := 4) X dL_law_653 rfl ?_
        refine g_iconst X dL_law_655 (v := 2) (by decide) ?_
        refine g_iadd X dL_law_656 ?_
        obtain ⟨x362, ex362, h363⟩ := g_bd h361; clear h361
        refine g_sld X hX hbl ex362 dL_law_657 ?_
        clear ex362
        refine g_aload_n (j := 3) X dL_law_658 rfl rfl ?_
        obtain ⟨g364, h365⟩ := g_gd h363; clear h363
        obtain ⟨x368, S366, eS366, h367⟩ := g_bi h365; clear h365
        refine g_cSW (n := 4) (As := [va_rf v1, .int x360, .int x362, va_rf v3]) X (c_L_entry hl D eS366) tw507 tw508 tw43 tw509 (by decide +kernel) rfl rfl ⟨Nat.le_of_ble_eq_true rfl, Nat.le_of_ble_eq_true rfl⟩ rfl rfl (Nat.le_of_ble_eq_true rfl) dL_law_659 ⟨g364.1, g364.2⟩ ?_
        clear eS366
        refine g_istore (i := 5) (lv' := [(5, .int x368), (0, .ref b), (1, va_rf v1), (2, va_rf v2), (3, va_rf v3), (4, .int v4)]) X dL_law_662 (by decide) rfl ?_
        refine g_aload_n (j := 3) X dL_law_664 rfl rfl ?_
        refine g_aload_n (j := 1) (r := some b) X dL_law_665 rfl rfl ?_
        refine g_iload (j := 5) X dL_law_666 rfl ?_
        refine g_iconst X dL_law_668 (v := 1) (by decide) ?_
        refine g_iadd X dL_law_669 ?_
        obtain ⟨x369, ex369, h370⟩ := g_bd h367; clear h367
        refine g_sld X hX hbl ex369 dL_law_670 ?_
        clear ex369
        refine g_aload_n (j := 1) (r := some b) X dL_law_671 rfl rfl ?_
        refine g_iload (j := 5) X dL_law_672 rfl ?_
        refine g_iconst X dL_law_674 (v := 2) (by decide) ?_
        refine g_iadd X dL_law_675 ?_
        obtain ⟨x371, ex371, h372⟩ := g_bd h370; clear h370
        refine g_sld X hX hbl ex371 dL_law_676 ?_
        clear ex371
        obtain ⟨a373, ea373, ka373, h374⟩ := g_dc h372; clear h372
        obtain ⟨x377, S375, eS375, h376⟩ := g_bi h374; clear h374
        refine g_cV (n := 2) (As := [.int x369, .int x371]) X (c_X8_entry hl D eS375) tw864 tw865 tw866 tw51 tw867 (by decide +kernel) rfl rfl ⟨Nat.le_of_ble_eq_true rfl, Nat.le_of_ble_eq_true rfl⟩ (ci := 8) rfl (by decide) ea373 ka373 rfl rfl (Nat.le_of_ble_eq_true rfl) dL_law_677 ⟨g364.1, g364.2⟩ ?_
        clear eS375 ea373 ka373
        refine g_istore (i := 6) (lv' := [(6, .int x377), (5, .int x368), (0, .ref b), (1, va_rf v1), (2, va_rf v2), (3, va_rf v3), (4, .int v4)]) X dL_law_680 (by decide) rfl ?_
        refine g_aload_n (j := 4) X dL_law_682 rfl rfl ?_
        obtain ⟨a378, ea378, ka378, h379⟩ := g_dc h376; clear h376
        obtain ⟨x382, S380, eS380, h381⟩ := g_bi h379; clear h379
        refine g_cV (n := 0) (As := []) X (c_X8_thrown hl D eS380) tw753 tw754 tw755 tw51 tw756 (by decide +kernel) rfl rfl ⟨Nat.le_of_ble_eq_true rfl, Nat.le_of_ble_eq_true rfl⟩ (ci := 8) rfl (by decide) ea378 ka378 rfl rfl (Nat.le_of_ble_eq_true rfl) dL_law_683 ⟨g364.1, g364.2⟩ ?_
        clear eS380 ea378 ka378
        refine g_iload (j := 1) X dL_law_686 rfl ?_
        refine g_icmp_eq (tgt := 693) X dL_law_688 (by decide) (fun c383 => ?_) (fun c383 => ?_)
        · have h384 := g_ip h381 c383; clear h381
          refine g_iload (j := 1) X dL_law_693 rfl ?_
          refine g_if_ne (tgt := 710) X dL_law_695 (by decide) (fun c386 => ?_) (fun c386 => ?_)
          · have h387 := g_in h384 c386; clear h384
            refine g_goto (tgt := 1642) X dL_law_710 (by decide) ?_
            obtain ⟨x389, ex389, h390⟩ := g_let h387; clear h387
            refine g_iinc (j := 6) (v := x389) (lv' := [(4, .int x389), (6, .int x377), (5, .int x368), (0, .ref b), (1, va_rf v1), (2, va_rf v2), (3, va_rf v3)]) X dL_law_1642 rfl (by rw [ex389]; rfl) (by decide) (by simp [g_rfc, g_ci, g_cj, g_cr]) ?_
            clear ex389
            refine g_goto (tgt := 23) X dL_law_1645 (by decide) ?_
            refine g_sub [3, 4, 5, 6, 0] rfl ?_
            exact ih S380 (cu + 2) (su + 12) v1 v2 v3 x389 h390
          · have h388 := g_ip h384 c386; clear h384
            refine g_aload_n (j := 5) X dL_law_698 rfl rfl ?_
            refine g_iconst X dL_law_699 (v := 0) (by decide) ?_
            obtain ⟨x391, ex391, h392⟩ := g_bd h388; clear h388
            refine g_lald X ex391 dL_law_700 ?_
            clear ex391
            refine g_iload (j := 0) X dL_law_701 rfl ?_
            refine g_i2l X dL_law_703 ?_
            refine g_lcmp X dL_law_704 ?_
            refine g_if_eq (tgt := 710) X dL_law_705 (by decide) (fun c393 => ?_) (fun c393 => ?_)
            · have h394 := g_ip h392 c393; clear h392
              refine g_goto (tgt := 1642) X dL_law_710 (by decide) ?_
              obtain ⟨x396, ex396, h397⟩ := g_let h394; clear h394
              refine g_iinc (j := 6) (v := x396) (lv' := [(4, .int x396), (6, .int x377), (5, .int x368), (0, .ref b), (1, va_rf v1), (2, va_rf v2), (3, va_rf v3)]) X dL_law_1642 rfl (by rw [ex396]; rfl) (by decide) (by simp [g_rfc, g_ci, g_cj, g_cr]) ?_
              clear ex396
              refine g_goto (tgt := 23) X dL_law_1645 (by decide) ?_
              refine g_sub [3, 4, 5, 6, 0] rfl ?_
              exact ih S380 (cu + 2) (su + 12) v1 v2 v3 x396 h397
            · have h395 := g_in h392 c393; clear h392
              refine g_iconst X dL_law_708 (v := 0) (by decide) ?_
              cases h395
        · have h385 := g_in h381 c383; clear h381
          refine g_iconst X dL_law_691 (v := 0) (by decide) ?_
          cases h385
      have h359 := g_in h318 c357; clear h318
      by_cases c398 : x34 = 11
      · have h399 := g_ip h359 c398; clear h359; subst c398
        refine g_tableIn (tgt := 713) X dL_law_40 (by decide) (by decide) rfl (by decide) ?_
        refine g_aload_n (j := 1) X dL_law_713 rfl rfl ?_
        refine g_aload_n (j := 0) (r := some b) X dL_law_714 rfl rfl ?_
        refine g_iload (j := 4) X dL_law_715 rfl ?_
        refine g_iconst X dL_law_717 (v := 1) (by decide) ?_
        refine g_iadd X dL_law_718 ?_
        obtain ⟨x401, ex401, h402⟩ := g_bd h399; clear h399
        refine g_sld X hX hbl ex401 dL_law_719 ?_
        clear ex401
        refine g_aload_n (j := 0) (r := some b) X dL_law_720 rfl rfl ?_
        refine g_iload (j := 4) X dL_law_721 rfl ?_
        refine g_iconst X dL_law_723 (v := 2) (by decide) ?_
        refine g_iadd X dL_law_724 ?_
        obtain ⟨x403, ex403, h404⟩ := g_bd h402; clear h402
        refine g_sld X hX hbl ex403 dL_law_725 ?_
        clear ex403
        refine g_aload_n (j := 3) X dL_law_726 rfl rfl ?_
        obtain ⟨g405, h406⟩ := g_gd h404; clear h404
        obtain ⟨x409, S407, eS407, h408⟩ := g_bi h406; clear h406
        refine g_cSW (n := 4) (As := [va_rf v1, .int x401, .int x403, va_rf v3]) X (c_L_leaf hl D eS407) tw518 tw519 tw43 tw520 (by decide +kernel) rfl rfl ⟨Nat.le_of_ble_eq_true rfl, Nat.le_of_ble_eq_true rfl⟩ rfl rfl (Nat.le_of_ble_eq_true rfl) dL_law_727 ⟨g405.1, g405.2⟩ ?_
        clear eS407
        refine g_istore (i := 5) (lv' := [(5, .int x409), (0, .ref b), (1, va_rf v1), (2, va_rf v2), (3, va_rf v3), (4, .int v4)]) X dL_law_730 (by decide) rfl ?_
        refine g_aload_n (j := 3) X dL_law_732 rfl rfl ?_
        refine g_aload_n (j := 1) (r := some b) X dL_law_733 rfl rfl ?_
        refine g_iload (j := 5) X dL_law_734 rfl ?_
        refine g_iconst X dL_law_736 (v := 1) (by decide) ?_
        refine g_iadd X dL_law_737 ?_
        obtain ⟨x410, ex410, h411⟩ := g_bd h408; clear h408
        refine g_sld X hX hbl ex410 dL_law_738 ?_
        clear ex410
        refine g_aload_n (j := 1) (r := some b) X dL_law_739 rfl rfl ?_
        refine g_iload (j := 5) X dL_law_740 rfl ?_
        refine g_iconst X dL_law_742 (v := 2) (by decide) ?_
        refine g_iadd X dL_law_743 ?_
        obtain ⟨x412, ex412, h413⟩ := g_bd h411; clear h411
        refine g_sld X hX hbl ex412 dL_law_744 ?_
        clear ex412
        obtain ⟨a414, ea414, ka414, h415⟩ := g_dc h413; clear h413
        obtain ⟨g416, h417⟩ := g_gd h415; clear h415
        obtain ⟨x420, S418, eS418, h419⟩ := g_bi h417; clear h417
        refine g_cV (n := 2) (As := [.int x410, .int x412]) X (c_X8_leaf hl D eS418) tw868 tw869 tw870 tw51 tw871 (by decide +kernel) rfl rfl ⟨Nat.le_of_ble_eq_true rfl, Nat.le_of_ble_eq_true rfl⟩ (ci := 8) rfl (by decide) ea414 ka414 rfl rfl (Nat.le_of_ble_eq_true rfl) dL_law_745 ⟨g416.1, g416.2⟩ ?_
        clear eS418 ea414 ka414
        refine g_istore (i := 6) (lv' := [(6, .int x420), (5, .int x409), (0, .ref b), (1, va_rf v1), (2, va_rf v2), (3, va_rf v3), (4, .int v4)]) X dL_law_748 (by decide) rfl ?_
        refine g_aload_n (j := 4) X dL_law_750 rfl rfl ?_
        obtain ⟨a421, ea421, ka421, h422⟩ := g_dc h419; clear h419
        obtain ⟨x425, S423, eS423, h424⟩ := g_bi h422; clear h422
        refine g_cV (n := 0) (As := []) X (c_X8_thrown hl D eS423) tw753 tw754 tw755 tw51 tw756 (by decide +kernel) rfl rfl ⟨Nat.le_of_ble_eq_true rfl, Nat.le_of_ble_eq_true rfl⟩ (ci := 8) rfl (by decide) ea421 ka421 rfl rfl (Nat.le_of_ble_eq_true rfl) dL_law_751 ⟨g416.1, g416.2⟩ ?_
        clear eS423 ea421 ka421
        refine g_iload (j := 1) X dL_law_754 rfl ?_
        refine g_icmp_eq (tgt := 761) X dL_law_756 (by decide) (fun c426 => ?_) (fun c426 => ?_)
        · have h427 := g_ip h424 c426; clear h424
          refine g_iload (j := 1) X dL_law_761 rfl ?_
          refine g_if_ne (tgt := 785) X dL_law_763 (by decide) (fun c429 => ?_) (fun c429 => ?_)
          · have h430 := g_in h427 c429; clear h427
            refine g_goto (tgt := 1642) X dL_law_785 (by decide) ?_
            obtain ⟨x432, ex432, h433⟩ := g_let h430; clear h430
            refine g_iinc (j := 6) (v := x432) (lv' := [(4, .int x432), (6, .int x420), (5, .int x409), (0, .ref b), (1, va_rf v1), (2, va_rf v2), (3, va_rf v3)]) X dL_law_1642 rfl (by rw [ex432]; rfl) (by decide) (by simp [g_rfc, g_ci, g_cj, g_cr]) ?_
            clear ex432
            refine g_goto (tgt := 23) X dL_law_1645 (by decide) ?_
            refine g_sub [3, 4, 5, 6, 0] rfl ?_
            exact ih S423 (cu + 2 + 1) (su + 12 + 8) v1 v2 v3 x432 h433
          · have h431 := g_ip h427 c429; clear h427
            refine g_aload_n (j := 5) X dL_law_766 rfl rfl ?_
            refine g_iconst X dL_law_767 (v := 0) (by decide) ?_
            obtain ⟨x434, ex434, h435⟩ := g_bd h431; clear h431
            refine g_lald X ex434 dL_law_768 ?_
            clear ex434
            refine g_iload (j := 0) X dL_law_769 rfl ?_
            refine g_if_eq (tgt := 778) X dL_law_771 (by decide) (fun c436 => ?_) (fun c436 => ?_)
            · have h437 := g_ip h435 c436; clear h435
              refine g_lconst X dL_law_778 (v := 0) (by decide) ?_
              refine g_lcmp X dL_law_779 ?_
              refine g_if_eq (tgt := 785) X dL_law_780 (by decide) (fun c439 => ?_) (fun c439 => ?_)
              · have h440 := g_ip h437 c439; clear h437
                refine g_goto (tgt := 1642) X dL_law_785 (by decide) ?_
                obtain ⟨x442, ex442, h443⟩ := g_let h440; clear h440
                refine g_iinc (j := 6) (v := x442) (lv' := [(4, .int x442), (6, .int x420), (5, .int x409), (0, .ref b), (1, va_rf v1), (2, va_rf v2), (3, va_rf v3)]) X dL_law_1642 rfl (by rw [ex442]; rfl) (by decide) (by simp [g_rfc, g_ci, g_cj, g_cr]) ?_
                clear ex442
                refine g_goto (tgt := 23) X dL_law_1645 (by decide) ?_
                refine g_sub [3, 4, 5, 6, 0] rfl ?_
                exact ih S423 (cu + 2 + 1) (su + 12 + 8) v1 v2 v3 x442 h443
              · have h441 := g_in h437 c439; clear h437
                refine g_iconst X dL_law_783 (v := 0) (by decide) ?_
                cases h441
            · have h438 := g_in h435 c436; clear h435
              refine g_lconst X dL_law_774 (v := 1) (by decide) ?_
              refine g_goto (tgt := 779) X dL_law_775 (by decide) ?_
              refine g_lcmp X dL_law_779 ?_
              refine g_if_eq (tgt := 785) X dL_law_780 (by decide) (fun c444 => ?_) (fun c444 => ?_)
              · have h445 := g_ip h438 c444; clear h438
                refine g_goto (tgt := 1642) X dL_law_785 (by decide) ?_
                obtain ⟨x447, ex447, h448⟩ := g_let h445; clear h445
                refine g_iinc (j := 6) (v := x447) (lv' := [(4, .int x447), (6, .int x420), (5, .int x409), (0, .ref b), (1, va_rf v1), (2, va_rf v2), (3, va_rf v3)]) X dL_law_1642 rfl (by rw [ex447]; rfl) (by decide) (by simp [g_rfc, g_ci, g_cj, g_cr]) ?_
                clear ex447
                refine g_goto (tgt := 23) X dL_law_1645 (by decide) ?_
                refine g_sub [3, 4, 5, 6, 0] rfl ?_
                exact ih S423 (cu + 2 + 1) (su + 12 + 8) v1 v2 v3 x447 h448
              · have h446 := g_in h438 c444; clear h438
                refine g_iconst X dL_law_783 (v := 0) (by decide) ?_
                cases h446
        · have h428 := g_in h424 c426; clear h424
          refine g_iconst X dL_law_759 (v := 0) (by decide) ?_
          cases h428
      have h400 := g_in h359 c398; clear h359
      by_cases c449 : x34 = 12
      · have h450 := g_ip h400 c449; clear h400; subst c449
        refine g_tableIn (tgt := 788) X dL_law_40 (by decide) (by decide) rfl (by decide) ?_
        refine g_aload_n (j := 1) X dL_law_788 rfl rfl ?_
        refine g_aload_n (j := 0) (r := some b) X dL_law_789 rfl rfl ?_
        refine g_iload (j := 4) X dL_law_790 rfl ?_
        refine g_iconst X dL_law_792 (v := 1) (by decide) ?_
        refine g_iadd X dL_law_793 ?_
        obtain ⟨x452, ex452, h453⟩ := g_bd h450; clear h450
        refine g_sld X hX hbl ex452 dL_law_794 ?_
        clear ex452
        refine g_aload_n (j := 3) X dL_law_795 rfl rfl ?_
        obtain ⟨g454, h455⟩ := g_gd h453; clear h453
        obtain ⟨x458, S456, eS456, h457⟩ := g_bi h455; clear h455
        refine g_cSW (n := 3) (As := [va_rf v1, .int x452, va_rf v3]) X (c_L_find hl D eS456) tw529 tw530 tw43 tw531 (by decide +kernel) rfl rfl ⟨Nat.le_of_ble_eq_true rfl, Nat.le_of_ble_eq_true rfl⟩ rfl rfl (Nat.le_of_ble_eq_true rfl) dL_law_796 ⟨g454.1, g454.2⟩ ?_
        clear eS456
        refine g_istore (i := 5) (lv' := [(5, .int x458), (0, .ref b), (1, va_rf v1), (2, va_rf v2), (3, va_rf v3), (4, .int v4)]) X dL_law_799 (by decide) rfl ?_
        refine g_aload_n (j := 3) X dL_law_801 rfl rfl ?_
        refine g_aload_n (j := 1) (r := some b) X dL_law_802 rfl rfl ?_
        refine g_iload (j := 5) X dL_law_803 rfl ?_
        refine g_iconst X dL_law_805 (v := 1) (by decide) ?_
        refine g_iadd X dL_law_806 ?_
        obtain ⟨x459, ex459, h460⟩ := g_bd h457; clear h457
        refine g_sld X hX hbl ex459 dL_law_807 ?_
        clear ex459
        obtain ⟨a461, ea461, ka461, h462⟩ := g_dc h460; clear h460
        obtain ⟨g463, h464⟩ := g_gd h462; clear h462
        obtain ⟨x467, S465, eS465, h466⟩ := g_bi h464; clear h464
        refine g_cV (n := 1) (As := [.int x459]) X (c_X8_find hl D eS465) tw875 tw876 tw877 tw51 tw878 (by decide +kernel) rfl rfl ⟨Nat.le_of_ble_eq_true rfl, Nat.le_of_ble_eq_true rfl⟩ (ci := 8) rfl (by decide) ea461 ka461 rfl rfl (Nat.le_of_ble_eq_true rfl) dL_law_808 ⟨g463.1, g463.2⟩ ?_
        clear eS465 ea461 ka461
        refine g_istore (i := 6) (lv' := [(6, .int x467), (5, .int x458), (0, .ref b), (1, va_rf v1), (2, va_rf v2), (3, va_rf v3), (4, .int v4)]) X dL_law_811 (by decide) rfl ?_
        refine g_aload_n (j := 4) X dL_law_813 rfl rfl ?_
        obtain ⟨a468, ea468, ka468, h469⟩ := g_dc h466; clear h466
        obtain ⟨x472, S470, eS470, h471⟩ := g_bi h469; clear h469
        refine g_cV (n := 0) (As := []) X (c_X8_thrown hl D eS470) tw753 tw754 tw755 tw51 tw756 (by decide +kernel) rfl rfl ⟨Nat.le_of_ble_eq_true rfl, Nat.le_of_ble_eq_true rfl⟩ (ci := 8) rfl (by decide) ea468 ka468 rfl rfl (Nat.le_of_ble_eq_true rfl) dL_law_814 ⟨g463.1, g463.2⟩ ?_
        clear eS470 ea468 ka468
        refine g_iload (j := 1) X dL_law_817 rfl ?_
        refine g_icmp_eq (tgt := 824) X dL_law_819 (by decide) (fun c473 => ?_) (fun c473 => ?_)
        · have h474 := g_ip h471 c473; clear h471
          refine g_iload (j := 1) X dL_law_824 rfl ?_
          refine g_if_ne (tgt := 841) X dL_law_826 (by decide) (fun c476 => ?_) (fun c476 => ?_)
          · have h477 := g_in h474 c476; clear h474
            refine g_goto (tgt := 1642) X dL_law_841 (by decide) ?_
            obtain ⟨x479, ex479, h480⟩ := g_let h477; clear h477
            refine g_iinc (j := 6) (v := x479) (lv' := [(4, .int x479), (6, .int x467), (5, .int x458), (0, .ref b), (1, va_rf v1), (2, va_rf v2), (3, va_rf v3)]) X dL_law_1642 rfl (by rw [ex479]; rfl) (by decide) (by simp [g_rfc, g_ci, g_cj, g_cr]) ?_
            clear ex479
            refine g_goto (tgt := 23) X dL_law_1645 (by decide) ?_
            refine g_sub [3, 4, 5, 6, 0] rfl ?_
            exact ih S470 (cu + 2 + 200) (su + 12 + 1600) v1 v2 v3 x479 h480
          · have h478 := g_ip h474 c476; clear h474
            refine g_aload_n (j := 5) X dL_law_829 rfl rfl ?_
            refine g_iconst X dL_law_830 (v := 0) (by decide) ?_
            obtain ⟨x481, ex481, h482⟩ := g_bd h478; clear h478
            refine g_lald X ex481 dL_law_831 ?_
            clear ex481
            refine g_iload (j := 0) X dL_law_832 rfl ?_
            refine g_i2l X dL_law_834 ?_
            refine g_lcmp X dL_law_835 ?_
            refine g_if_eq (tgt := 841) X dL_law_836 (by decide) (fun c483 => ?_) (fun c483 => ?_)
            · have h484 := g_ip h482 c483; clear h482
              refine g_goto (tgt := 1642) X dL_law_841 (by decide) ?_
              obtain ⟨x486, ex486, h487⟩ := g_let h484; clear h484
              refine g_iinc (j := 6) (v := x486) (lv' := [(4, .int x486), (6, .int x467), (5, .int x458), (0, .ref b), (1, va_rf v1), (2, va_rf v2), (3, va_rf v3)]) X dL_law_1642 rfl (by rw [ex486]; rfl) (by decide) (by simp [g_rfc, g_ci, g_cj, g_cr]) ?_
              clear ex486
              refine g_goto (tgt := 23) X dL_law_1645 (by decide) ?_
              refine g_sub [3, 4, 5, 6, 0] rfl ?_
              exact ih S470 (cu + 2 + 200) (su + 12 + 1600) v1 v2 v3 x486 h487
            · have h485 := g_in h482 c483; clear h482
              refine g_iconst X dL_law_839 (v := 0) (by decide) ?_
              cases h485
        · have h475 := g_in h471 c473; clear h471
          refine g_iconst X dL_law_822 (v := 0) (by decide) ?_
          cases h475
      have h451 := g_in h400 c449; clear h400
      by_cases c488 : x34 = 13
      · have h489 := g_ip h451 c488; clear h451; subst c488
        refine g_tableIn (tgt := 844) X dL_law_40 (by decide) (by decide) rfl (by decide) ?_
        refine g_aload_n (j := 1) X dL_law_844 rfl rfl ?_
        refine g_aload_n (j := 0) (r := some b) X dL_law_845 rfl rfl ?_
        refine g_iload (j := 4) X dL_law_846 rfl ?_
        refine g_iconst X dL_law_848 (v := 1) (by decide) ?_
        refine g_iadd X dL_law_849 ?_
        obtain ⟨x491, ex491, h492⟩ := g_bd h489; clear h489
        refine g_sld X hX hbl ex491 dL_law_850 ?_
        clear ex491
        refine g_aload_n (j := 0) (r := some b) X dL_law_851 rfl rfl ?_
        refine g_iload (j := 4) X dL_law_852 rfl ?_
        refine g_iconst X dL_law_854 (v := 2) (by decide) ?_
        refine g_iadd X dL_law_855 ?_
        obtain ⟨x493, ex493, h494⟩ := g_bd h492; clear h492
        refine g_sld X hX hbl ex493 dL_law_856 ?_
        clear ex493
        refine g_aload_n (j := 3) X dL_law_857 rfl rfl ?_
        obtain ⟨g495, h496⟩ := g_gd h494; clear h494
        obtain ⟨x499, S497, eS497, h498⟩ := g_bi h496; clear h496
        refine g_cSW (n := 4) (As := [va_rf v1, .int x491, .int x493, va_rf v3]) X (c_L_root hl D eS497) tw541 tw542 tw43 tw543 (by decide +kernel) rfl rfl ⟨Nat.le_of_ble_eq_true rfl, Nat.le_of_ble_eq_true rfl⟩ rfl rfl (Nat.le_of_ble_eq_true rfl) dL_law_858 ⟨g495.1, g495.2⟩ ?_
        clear eS497
        refine g_istore (i := 5) (lv' := [(5, .int x499), (0, .ref b), (1, va_rf v1), (2, va_rf v2), (3, va_rf v3), (4, .int v4)]) X dL_law_861 (by decide) rfl ?_
        refine g_aload_n (j := 3) X dL_law_863 rfl rfl ?_
        refine g_aload_n (j := 1) (r := some b) X dL_law_864 rfl rfl ?_
        refine g_iload (j := 5) X dL_law_865 rfl ?_
        refine g_iconst X dL_law_867 (v := 1) (by decide) ?_
        refine g_iadd X dL_law_868 ?_
        obtain ⟨x500, ex500, h501⟩ := g_bd h498; clear h498
        refine g_sld X hX hbl ex500 dL_law_869 ?_
        clear ex500
        refine g_aload_n (j := 1) (r := some b) X dL_law_870 rfl rfl ?_
        refine g_iload (j := 5) X dL_law_871 rfl ?_
        refine g_iconst X dL_law_873 (v := 2) (by decide) ?_
        refine g_iadd X dL_law_874 ?_
        obtain ⟨x502, ex502, h503⟩ := g_bd h501; clear h501
        refine g_sld X hX hbl ex502 dL_law_875 ?_
        clear ex502
        obtain ⟨a504, ea504, ka504, h505⟩ := g_dc h503; clear h503
        obtain ⟨g506, h507⟩ := g_gd h505; clear h505
        obtain ⟨x510, S508, eS508, h509⟩ := g_bi h507; clear h507
        refine g_cV (n := 2) (As := [.int x500, .int x502]) X (c_X8_root_ hl D eS508) tw885 tw886 tw887 tw51 tw888 (by decide +kernel) rfl rfl ⟨Nat.le_of_ble_eq_true rfl, Nat.le_of_ble_eq_true rfl⟩ (ci := 8) rfl (by decide) ea504 ka504 rfl rfl (Nat.le_of_ble_eq_true rfl) dL_law_876 ⟨g506.1, g506.2⟩ ?_
        clear eS508 ea504 ka504
        refine g_istore (i := 6) (lv' := [(6, .int x510), (5, .int x499), (0, .ref b), (1, va_rf v1), (2, va_rf v2), (3, va_rf v3), (4, .int v4)]) X dL_law_879 (by decide) rfl ?_
        refine g_aload_n (j := 4) X dL_law_881 rfl rfl ?_
        obtain ⟨a511, ea511, ka511, h512⟩ := g_dc h509; clear h509
        obtain ⟨x515, S513, eS513, h514⟩ := g_bi h512; clear h512
        refine g_cV (n := 0) (As := []) X (c_X8_thrown hl D eS513) tw753 tw754 tw755 tw51 tw756 (by decide +kernel) rfl rfl ⟨Nat.le_of_ble_eq_true rfl, Nat.le_of_ble_eq_true rfl⟩ (ci := 8) rfl (by decide) ea511 ka511 rfl rfl (Nat.le_of_ble_eq_true rfl) dL_law_882 ⟨g506.1, g506.2⟩ ?_
        clear eS513 ea511 ka511
        refine g_iload (j := 1) X dL_law_885 rfl ?_
        refine g_icmp_eq (tgt := 892) X dL_law_887 (by decide) (fun c516 => ?_) (fun c516 => ?_)
        · have h517 := g_ip h514 c516; clear h514
          refine g_iload (j := 1) X dL_law_892 rfl ?_
          refine g_if_ne (tgt := 916) X dL_law_894 (by decide) (fun c519 => ?_) (fun c519 => ?_)
          · have h520 := g_in h517 c519; clear h517
            refine g_goto (tgt := 1642) X dL_law_916 (by decide) ?_
            obtain ⟨x522, ex522, h523⟩ := g_let h520; clear h520
            refine g_iinc (j := 6) (v := x522) (lv' := [(4, .int x522), (6, .int x510), (5, .int x499), (0, .ref b), (1, va_rf v1), (2, va_rf v2), (3, va_rf v3)]) X dL_law_1642 rfl (by rw [ex522]; rfl) (by decide) (by simp [g_rfc, g_ci, g_cj, g_cr]) ?_
            clear ex522
            refine g_goto (tgt := 23) X dL_law_1645 (by decide) ?_
            refine g_sub [3, 4, 5, 6, 0] rfl ?_
            exact ih S513 (cu + 2 + 400) (su + 12 + 3200) v1 v2 v3 x522 h523
          · have h521 := g_ip h517 c519; clear h517
            refine g_aload_n (j := 5) X dL_law_897 rfl rfl ?_
            refine g_iconst X dL_law_898 (v := 0) (by decide) ?_
            obtain ⟨x524, ex524, h525⟩ := g_bd h521; clear h521
            refine g_lald X ex524 dL_law_899 ?_
            clear ex524
            refine g_iload (j := 0) X dL_law_900 rfl ?_
            refine g_if_eq (tgt := 909) X dL_law_902 (by decide) (fun c526 => ?_) (fun c526 => ?_)
            · have h527 := g_ip h525 c526; clear h525
              refine g_lconst X dL_law_909 (v := 0) (by decide) ?_
              refine g_lcmp X dL_law_910 ?_
              refine g_if_eq (tgt := 916) X dL_law_911 (by decide) (fun c529 => ?_) (fun c529 => ?_)
              · have h530 := g_ip h527 c529; clear h527
                refine g_goto (tgt := 1642) X dL_law_916 (by decide) ?_
                obtain ⟨x532, ex532, h533⟩ := g_let h530; clear h530
                refine g_iinc (j := 6) (v := x532) (lv' := [(4, .int x532), (6, .int x510), (5, .int x499), (0, .ref b), (1, va_rf v1), (2, va_rf v2), (3, va_rf v3)]) X dL_law_1642 rfl (by rw [ex532]; rfl) (by decide) (by simp [g_rfc, g_ci, g_cj, g_cr]) ?_
                clear ex532
                refine g_goto (tgt := 23) X dL_law_1645 (by decide) ?_
                refine g_sub [3, 4, 5, 6, 0] rfl ?_
                exact ih S513 (cu + 2 + 400) (su + 12 + 3200) v1 v2 v3 x532 h533
              · have h531 := g_in h527 c529; clear h527
                refine g_iconst X dL_law_914 (v := 0) (by decide) ?_
                cases h531
            · have h528 := g_in h525 c526; clear h525
              refine g_lconst X dL_law_905 (v := 1) (by decide) ?_
              refine g_goto (tgt := 910) X dL_law_906 (by decide) ?_
              refine g_lcmp X dL_law_910 ?_
              refine g_if_eq (tgt := 916) X dL_law_911 (by decide) (fun c534 => ?_) (fun c534 => ?_)
              · have h535 := g_ip h528 c534; clear h528
                refine g_goto (tgt := 1642) X dL_law_916 (by decide) ?_
                obtain ⟨x537, ex537, h538⟩ := g_let h535; clear h535
                refine g_iinc (j := 6) (v := x537) (lv' := [(4, .int x537), (6, .int x510), (5, .int x499), (0, .ref b), (1, va_rf v1), (2, va_rf v2), (3, va_rf v3)]) X dL_law_1642 rfl (by rw [ex537]; rfl) (by decide) (by simp [g_rfc, g_ci, g_cj, g_cr]) ?_
                clear ex537
                refine g_goto (tgt := 23) X dL_law_1645 (by decide) ?_
                refine g_sub [3, 4, 5, 6, 0] rfl ?_
                exact ih S513 (cu + 2 + 400) (su + 12 + 3200) v1 v2 v3 x537 h538
              · have h536 := g_in h528 c534; clear h528
                refine g_iconst X dL_law_914 (v := 0) (by decide) ?_
                cases h536
        · have h518 := g_in h514 c516; clear h514
          refine g_iconst X dL_law_890 (v := 0) (by decide) ?_
          cases h518
      have h490 := g_in h451 c488; clear h451
      by_cases c539 : x34 = 14
      · have h540 := g_ip h490 c539; clear h490; subst c539
        refine g_tableIn (tgt := 919) X dL_law_40 (by decide) (by decide) rfl (by decide) ?_
        refine g_aload_n (j := 1) X dL_law_919 rfl rfl ?_
        refine g_aload_n (j := 0) (r := some b) X dL_law_920 rfl rfl ?_
        refine g_iload (j := 4) X dL_law_921 rfl ?_
        refine g_iconst X dL_law_923 (v := 1) (by decide) ?_
        refine g_iadd X dL_law_924 ?_
        obtain ⟨x542, ex542, h543⟩ := g_bd h540; clear h540
        refine g_sld X hX hbl ex542 dL_law_925 ?_
        clear ex542
        refine g_aload_n (j := 0) (r := some b) X dL_law_926 rfl rfl ?_
        refine g_iload (j := 4) X dL_law_927 rfl ?_
        refine g_iconst X dL_law_929 (v := 2) (by decide) ?_
        refine g_iadd X dL_law_930 ?_
        obtain ⟨x544, ex544, h545⟩ := g_bd h543; clear h543
        refine g_sld X hX hbl ex544 dL_law_931 ?_
        clear ex544
        refine g_aload_n (j := 0) (r := some b) X dL_law_932 rfl rfl ?_
        refine g_iload (j := 4) X dL_law_933 rfl ?_
        refine g_iconst X dL_law_935 (v := 3) (by decide) ?_
        refine g_iadd X dL_law_936 ?_
        obtain ⟨x546, ex546, h547⟩ := g_bd h545; clear h545
        refine g_sld X hX hbl ex546 dL_law_937 ?_
        clear ex546
        refine g_aload_n (j := 3) X dL_law_938 rfl rfl ?_
        obtain ⟨g548, h549⟩ := g_gd h547; clear h547
        obtain ⟨x552, S550, eS550, h551⟩ := g_bi h549; clear h549
        refine g_cSW (n := 5) (As := [va_rf v1, .int x542, .int x544, .int x546, va_rf v3]) X (c_L_way hl D eS550) tw549 tw550 tw43 tw551 (by decide +kernel) rfl rfl ⟨Nat.le_of_ble_eq_true rfl, Nat.le_of_ble_eq_true rfl⟩ rfl rfl (Nat.le_of_ble_eq_true rfl) dL_law_939 ⟨g548.1, g548.2⟩ ?_
        clear eS550
        refine g_istore (i := 5) (lv' := [(5, .int x552), (0, .ref b), (1, va_rf v1), (2, va_rf v2), (3, va_rf v3), (4, .int v4)]) X dL_law_942 (by decide) rfl ?_
        refine g_aload_n (j := 3) X dL_law_944 rfl rfl ?_
        refine g_aload_n (j := 1) (r := some b) X dL_law_945 rfl rfl ?_
        refine g_iload (j := 5) X dL_law_946 rfl ?_
        refine g_iconst X dL_law_948 (v := 1) (by decide) ?_
        refine g_iadd X dL_law_949 ?_
        obtain ⟨x553, ex553, h554⟩ := g_bd h551; clear h551
        refine g_sld X hX hbl ex553 dL_law_950 ?_
        clear ex553
        refine g_aload_n (j := 1) (r := some b) X dL_law_951 rfl rfl ?_
        refine g_iload (j := 5) X dL_law_952 rfl ?_
        refine g_iconst X dL_law_954 (v := 2) (by decide) ?_
        refine g_iadd X dL_law_955 ?_
        obtain ⟨x555, ex555, h556⟩ := g_bd h554; clear h554
        refine g_sld X hX hbl ex555 dL_law_956 ?_
        clear ex555
        refine g_aload_n (j := 1) (r := some b) X dL_law_957 rfl rfl ?_
        refine g_iload (j := 5) X dL_law_958 rfl ?_
        refine g_iconst X dL_law_960 (v := 3) (by decide) ?_
        refine g_iadd X dL_law_961 ?_
        obtain ⟨x557, ex557, h558⟩ := g_bd h556; clear h556
        refine g_sld X hX hbl ex557 dL_law_962 ?_
        clear ex557
        obtain ⟨a559, ea559, ka559, h560⟩ := g_dc h558; clear h558
        obtain ⟨g561, h562⟩ := g_gd h560; clear h560
        obtain ⟨x565, S563, eS563, h564⟩ := g_bi h562; clear h562
        refine g_cV (n := 3) (As := [.int x553, .int x555, .int x557]) X (c_X8_way hl D eS563) tw889 tw890 tw891 tw51 tw892 (by decide +kernel) rfl rfl ⟨Nat.le_of_ble_eq_true rfl, Nat.le_of_ble_eq_true rfl⟩ (ci := 8) rfl (by decide) ea559 ka559 rfl rfl (Nat.le_of_ble_eq_true rfl) dL_law_963 ⟨g561.1, g561.2⟩ ?_
        clear eS563 ea559 ka559
        refine g_istore (i := 6) (lv' := [(6, .int x565), (5, .int x552), (0, .ref b), (1, va_rf v1), (2, va_rf v2), (3, va_rf v3), (4, .int v4)]) X dL_law_966 (by decide) rfl ?_
        refine g_aload_n (j := 4) X dL_law_968 rfl rfl ?_
        obtain ⟨a566, ea566, ka566, h567⟩ := g_dc h564; clear h564
        obtain ⟨x570, S568, eS568, h569⟩ := g_bi h567; clear h567
        refine g_cV (n := 0) (As := []) X (c_X8_thrown hl D eS568) tw753 tw754 tw755 tw51 tw756 (by decide +kernel) rfl rfl ⟨Nat.le_of_ble_eq_true rfl, Nat.le_of_ble_eq_true rfl⟩ (ci := 8) rfl (by decide) ea566 ka566 rfl rfl (Nat.le_of_ble_eq_true rfl) dL_law_969 ⟨g561.1, g561.2⟩ ?_
        clear eS568 ea566 ka566
        refine g_iload (j := 1) X dL_law_972 rfl ?_
        refine g_icmp_eq (tgt := 979) X dL_law_974 (by decide) (fun c571 => ?_) (fun c571 => ?_)
        · have h572 := g_ip h569 c571; clear h569
          refine g_iload (j := 1) X dL_law_979 rfl ?_
          refine g_if_ne (tgt := 996) X dL_law_981 (by decide) (fun c574 => ?_) (fun c574 => ?_)
          · have h575 := g_in h572 c574; clear h572
            refine g_goto (tgt := 1642) X dL_law_996 (by decide) ?_
            obtain ⟨x577, ex577, h578⟩ := g_let h575; clear h575
            refine g_iinc (j := 6) (v := x577) (lv' := [(4, .int x577), (6, .int x565), (5, .int x552), (0, .ref b), (1, va_rf v1), (2, va_rf v2), (3, va_rf v3)]) X dL_law_1642 rfl (by rw [ex577]; rfl) (by decide) (by simp [g_rfc, g_ci, g_cj, g_cr]) ?_
            clear ex577
            refine g_goto (tgt := 23) X dL_law_1645 (by decide) ?_
            refine g_sub [3, 4, 5, 6, 0] rfl ?_
            exact ih S568 (cu + 2 + 1000) (su + 12 + 8000) v1 v2 v3 x577 h578
          · have h576 := g_ip h572 c574; clear h572
            refine g_aload_n (j := 5) X dL_law_984 rfl rfl ?_
            refine g_iconst X dL_law_985 (v := 0) (by decide) ?_
            obtain ⟨x579, ex579, h580⟩ := g_bd h576; clear h576
            refine g_lald X ex579 dL_law_986 ?_
            clear ex579
            refine g_iload (j := 0) X dL_law_987 rfl ?_
            refine g_i2l X dL_law_989 ?_
            refine g_lcmp X dL_law_990 ?_
            refine g_if_eq (tgt := 996) X dL_law_991 (by decide) (fun c581 => ?_) (fun c581 => ?_)
            · have h582 := g_ip h580 c581; clear h580
              refine g_goto (tgt := 1642) X dL_law_996 (by decide) ?_
              obtain ⟨x584, ex584, h585⟩ := g_let h582; clear h582
              refine g_iinc (j := 6) (v := x584) (lv' := [(4, .int x584), (6, .int x565), (5, .int x552), (0, .ref b), (1, va_rf v1), (2, va_rf v2), (3, va_rf v3)]) X dL_law_1642 rfl (by rw [ex584]; rfl) (by decide) (by simp [g_rfc, g_ci, g_cj, g_cr]) ?_
              clear ex584
              refine g_goto (tgt := 23) X dL_law_1645 (by decide) ?_
              refine g_sub [3, 4, 5, 6, 0] rfl ?_
              exact ih S568 (cu + 2 + 1000) (su + 12 + 8000) v1 v2 v3 x584 h585
            · have h583 := g_in h580 c581; clear h580
              refine g_iconst X dL_law_994 (v := 0) (by decide) ?_
              cases h583
        · have h573 := g_in h569 c571; clear h569
          refine g_iconst X dL_law_977 (v := 0) (by decide) ?_
          cases h573
      have h541 := g_in h490 c539; clear h490
      by_cases c586 : x34 = 15
      · have h587 := g_ip h541 c586; clear h541; subst c586
        refine g_tableIn (tgt := 999) X dL_law_40 (by decide) (by decide) rfl (by decide) ?_
        refine g_aload_n (j := 1) X dL_law_999 rfl rfl ?_
        refine g_aload_n (j := 0) (r := some b) X dL_law_1000 rfl rfl ?_
        refine g_iload (j := 4) X dL_law_1001 rfl ?_
        refine g_iconst X dL_law_1003 (v := 1) (by decide) ?_
        refine g_iadd X dL_law_1004 ?_
        obtain ⟨x589, ex589, h590⟩ := g_bd h587; clear h587
        refine g_sld X hX hbl ex589 dL_law_1005 ?_
        clear ex589
        refine g_aload_n (j := 0) (r := some b) X dL_law_1006 rfl rfl ?_
        refine g_iload (j := 4) X dL_law_1007 rfl ?_
        refine g_iconst X dL_law_1009 (v := 2) (by decide) ?_
        refine g_iadd X dL_law_1010 ?_
        obtain ⟨x591, ex591, h592⟩ := g_bd h590; clear h590
        refine g_sld X hX hbl ex591 dL_law_1011 ?_
        clear ex591
        refine g_aload_n (j := 0) (r := some b) X dL_law_1012 rfl rfl ?_
        refine g_iload (j := 4) X dL_law_1013 rfl ?_
        refine g_iconst X dL_law_1015 (v := 3) (by decide) ?_
        refine g_iadd X dL_law_1016 ?_
        obtain ⟨x593, ex593, h594⟩ := g_bd h592; clear h592
        refine g_sld X hX hbl ex593 dL_law_1017 ?_
        clear ex593
        refine g_aload_n (j := 3) X dL_law_1018 rfl rfl ?_
        obtain ⟨g595, h596⟩ := g_gd h594; clear h594
        obtain ⟨x599, S597, eS597, h598⟩ := g_bi h596; clear h596
        refine g_cSW (n := 5) (As := [va_rf v1, .int x589, .int x591, .int x593, va_rf v3]) X (c_L_proof hl D eS597) tw562 tw563 tw43 tw564 (by decide +kernel) rfl rfl ⟨Nat.le_of_ble_eq_true rfl, Nat.le_of_ble_eq_true rfl⟩ rfl rfl (Nat.le_of_ble_eq_true rfl) dL_law_1019 ⟨g595.1, g595.2⟩ ?_
        clear eS597
        refine g_istore (i := 5) (lv' := [(5, .int x599), (0, .ref b), (1, va_rf v1), (2, va_rf v2), (3, va_rf v3), (4, .int v4)]) X dL_law_1022 (by decide) rfl ?_
        refine g_aload_n (j := 3) X dL_law_1024 rfl rfl ?_
        refine g_aload_n (j := 1) (r := some b) X dL_law_1025 rfl rfl ?_
        refine g_iload (j := 5) X dL_law_1026 rfl ?_
        refine g_iconst X dL_law_1028 (v := 1) (by decide) ?_
        refine g_iadd X dL_law_1029 ?_
        obtain ⟨x600, ex600, h601⟩ := g_bd h598; clear h598
        refine g_sld X hX hbl ex600 dL_law_1030 ?_
        clear ex600
        refine g_aload_n (j := 1) (r := some b) X dL_law_1031 rfl rfl ?_
        refine g_iload (j := 5) X dL_law_1032 rfl ?_
        refine g_iconst X dL_law_1034 (v := 2) (by decide) ?_
        refine g_iadd X dL_law_1035 ?_
        obtain ⟨x602, ex602, h603⟩ := g_bd h601; clear h601
        refine g_sld X hX hbl ex602 dL_law_1036 ?_
        clear ex602
        refine g_aload_n (j := 1) (r := some b) X dL_law_1037 rfl rfl ?_
        refine g_iload (j := 5) X dL_law_1038 rfl ?_
        refine g_iconst X dL_law_1040 (v := 3) (by decide) ?_
        refine g_iadd X dL_law_1041 ?_
        obtain ⟨x604, ex604, h605⟩ := g_bd h603; clear h603
        refine g_sld X hX hbl ex604 dL_law_1042 ?_
        clear ex604
        obtain ⟨a606, ea606, ka606, h607⟩ := g_dc h605; clear h605
        obtain ⟨g608, h609⟩ := g_gd h607; clear h607
        obtain ⟨x612, S610, eS610, h611⟩ := g_bi h609; clear h609
        refine g_cV (n := 3) (As := [.int x600, .int x602, .int x604]) X (c_X8_proof hl D eS610) tw910 tw911 tw912 tw51 tw913 (by decide +kernel) rfl rfl ⟨Nat.le_of_ble_eq_true rfl, Nat.le_of_ble_eq_true rfl⟩ (ci := 8) rfl (by decide) ea606 ka606 rfl rfl (Nat.le_of_ble_eq_true rfl) dL_law_1043 ⟨g608.1, g608.2⟩ ?_
        clear eS610 ea606 ka606
        refine g_istore (i := 6) (lv' := [(6, .int x612), (5, .int x599), (0, .ref b), (1, va_rf v1), (2, va_rf v2), (3, va_rf v3), (4, .int v4)]) X dL_law_1046 (by decide) rfl ?_
        refine g_aload_n (j := 4) X dL_law_1048 rfl rfl ?_
        obtain ⟨a613, ea613, ka613, h614⟩ := g_dc h611; clear h611
        obtain ⟨x617, S615, eS615, h616⟩ := g_bi h614; clear h614
        refine g_cV (n := 0) (As := []) X (c_X8_thrown hl D eS615) tw753 tw754 tw755 tw51 tw756 (by decide +kernel) rfl rfl ⟨Nat.le_of_ble_eq_true rfl, Nat.le_of_ble_eq_true rfl⟩ (ci := 8) rfl (by decide) ea613 ka613 rfl rfl (Nat.le_of_ble_eq_true rfl) dL_law_1049 ⟨g608.1, g608.2⟩ ?_
        clear eS615 ea613 ka613
        refine g_iload (j := 1) X dL_law_1052 rfl ?_
        refine g_icmp_eq (tgt := 1059) X dL_law_1054 (by decide) (fun c618 => ?_) (fun c618 => ?_)
        · have h619 := g_ip h616 c618; clear h616
          refine g_iload (j := 1) X dL_law_1059 rfl ?_
          refine g_if_ne (tgt := 1076) X dL_law_1061 (by decide) (fun c621 => ?_) (fun c621 => ?_)
          · have h622 := g_in h619 c621; clear h619
            refine g_goto (tgt := 1642) X dL_law_1076 (by decide) ?_
            obtain ⟨x624, ex624, h625⟩ := g_let h622; clear h622
            refine g_iinc (j := 6) (v := x624) (lv' := [(4, .int x624), (6, .int x612), (5, .int x599), (0, .ref b), (1, va_rf v1), (2, va_rf v2), (3, va_rf v3)]) X dL_law_1642 rfl (by rw [ex624]; rfl) (by decide) (by simp [g_rfc, g_ci, g_cj, g_cr]) ?_
            clear ex624
            refine g_goto (tgt := 23) X dL_law_1645 (by decide) ?_
            refine g_sub [3, 4, 5, 6, 0] rfl ?_
            exact ih S615 (cu + 2 + 1000) (su + 12 + 8000) v1 v2 v3 x624 h625
          · have h623 := g_ip h619 c621; clear h619
            refine g_aload_n (j := 5) X dL_law_1064 rfl rfl ?_
            refine g_iconst X dL_law_1065 (v := 0) (by decide) ?_
            obtain ⟨x626, ex626, h627⟩ := g_bd h623; clear h623
            refine g_lald X ex626 dL_law_1066 ?_
            clear ex626
            refine g_iload (j := 0) X dL_law_1067 rfl ?_
            refine g_i2l X dL_law_1069 ?_
            refine g_lcmp X dL_law_1070 ?_
            refine g_if_eq (tgt := 1076) X dL_law_1071 (by decide) (fun c628 => ?_) (fun c628 => ?_)
            · have h629 := g_ip h627 c628; clear h627
              refine g_goto (tgt := 1642) X dL_law_1076 (by decide) ?_
              obtain ⟨x631, ex631, h632⟩ := g_let h629; clear h629
              refine g_iinc (j := 6) (v := x631) (lv' := [(4, .int x631), (6, .int x612), (5, .int x599), (0, .ref b), (1, va_rf v1), (2, va_rf v2), (3, va_rf v3)]) X dL_law_1642 rfl (by rw [ex631]; rfl) (by decide) (by simp [g_rfc, g_ci, g_cj, g_cr]) ?_
              clear ex631
              refine g_goto (tgt := 23) X dL_law_1645 (by decide) ?_
              refine g_sub [3, 4, 5, 6, 0] rfl ?_
              exact ih S615 (cu + 2 + 1000) (su + 12 + 8000) v1 v2 v3 x631 h632
            · have h630 := g_in h627 c628; clear h627
              refine g_iconst X dL_law_1074 (v := 0) (by decide) ?_
              cases h630
        · have h620 := g_in h616 c618; clear h616
          refine g_iconst X dL_law_1057 (v := 0) (by decide) ?_
          cases h620
      have h588 := g_in h541 c586; clear h541
      by_cases c633 : x34 = 16
      · have h634 := g_ip h588 c633; clear h588; subst c633
        refine g_tableIn (tgt := 1079) X dL_law_40 (by decide) (by decide) rfl (by decide) ?_
        refine g_aload_n (j := 1) X dL_law_1079 rfl rfl ?_
        refine g_aload_n (j := 0) (r := some b) X dL_law_1080 rfl rfl ?_
        refine g_iload (j := 4) X dL_law_1081 rfl ?_
        refine g_iconst X dL_law_1083 (v := 1) (by decide) ?_
        refine g_iadd X dL_law_1084 ?_
        obtain ⟨x636, ex636, h637⟩ := g_bd h634; clear h634
        refine g_sld X hX hbl ex636 dL_law_1085 ?_
        clear ex636
        refine g_i2l X dL_law_1086 ?_
        refine g_bipush X dL_law_1087 (v := 32) (by decide) ?_
        refine g_lshl X dL_law_1089 ?_
        refine g_aload_n (j := 0) (r := some b) X dL_law_1090 rfl rfl ?_
        refine g_iload (j := 4) X dL_law_1091 rfl ?_
        refine g_iconst X dL_law_1093 (v := 2) (by decide) ?_
        refine g_iadd X dL_law_1094 ?_
        obtain ⟨x638, ex638, h639⟩ := g_bd h637; clear h637
        refine g_sld X hX hbl ex638 dL_law_1095 ?_
        clear ex638
        refine g_i2l X dL_law_1096 ?_
        refine g_ldc2 X tw978 dL_law_1097 ?_
        refine g_land X dL_law_1100 ?_
        refine g_lor X dL_law_1101 ?_
        refine g_aload_n (j := 0) (r := some b) X dL_law_1102 rfl rfl ?_
        refine g_iload (j := 4) X dL_law_1103 rfl ?_
        refine g_iconst X dL_law_1105 (v := 3) (by decide) ?_
        refine g_iadd X dL_law_1106 ?_
        obtain ⟨x640, ex640, h641⟩ := g_bd h639; clear h639
        refine g_sld X hX hbl ex640 dL_law_1107 ?_
        clear ex640
        refine g_i2l X dL_law_1108 ?_
        refine g_bipush X dL_law_1109 (v := 32) (by decide) ?_
        refine g_lshl X dL_law_1111 ?_
        refine g_aload_n (j := 0) (r := some b) X dL_law_1112 rfl rfl ?_
        refine g_iload (j := 4) X dL_law_1113 rfl ?_
        refine g_iconst X dL_law_1115 (v := 4) (by decide) ?_
        refine g_iadd X dL_law_1116 ?_
        obtain ⟨x642, ex642, h643⟩ := g_bd h641; clear h641
        refine g_sld X hX hbl ex642 dL_law_1117 ?_
        clear ex642
        refine g_i2l X dL_law_1118 ?_
        refine g_ldc2 X tw978 dL_law_1119 ?_
        refine g_land X dL_law_1122 ?_
        refine g_lor X dL_law_1123 ?_
        obtain ⟨a644, ea644, ka644, h645⟩ := g_dc h643; clear h643
        obtain ⟨x648, S646, eS646, h647⟩ := g_bi h645; clear h645
        refine g_cV (n := 2) (As := [.long ((x636.toInt64 <<< ((32 : Int32).toInt64 &&& 63)) ||| (x638.toInt64 &&& 4294967295)), .long ((x640.toInt64 <<< ((32 : Int32).toInt64 &&& 63)) ||| (x642.toInt64 &&& 4294967295))]) X (c_X7_isIn hl D eS646) tw245 tw246 tw247 tw44 tw248 (by decide +kernel) rfl rfl ⟨Nat.le_of_ble_eq_true rfl, Nat.le_of_ble_eq_true rfl⟩ (ci := 7) rfl (by decide) ea644 ka644 rfl rfl (Nat.le_of_ble_eq_true rfl) dL_law_1124 ⟨gu.1, gu.2⟩ ?_
        clear eS646 ea644 ka644
        refine g_aload_n (j := 2) X dL_law_1127 rfl rfl ?_
        refine g_aload_n (j := 0) (r := some b) X dL_law_1128 rfl rfl ?_
        refine g_iload (j := 4) X dL_law_1129 rfl ?_
        refine g_iconst X dL_law_1131 (v := 1) (by decide) ?_
        refine g_iadd X dL_law_1132 ?_
        obtain ⟨x649, ex649, h650⟩ := g_bd h647; clear h647
        refine g_sld X hX hbl ex649 dL_law_1133 ?_
        clear ex649
        refine g_i2l X dL_law_1134 ?_
        refine g_bipush X dL_law_1135 (v := 32) (by decide) ?_
        refine g_lshl X dL_law_1137 ?_
        refine g_aload_n (j := 0) (r := some b) X dL_law_1138 rfl rfl ?_
        refine g_iload (j := 4) X dL_law_1139 rfl ?_
        refine g_iconst X dL_law_1141 (v := 2) (by decide) ?_
        refine g_iadd X dL_law_1142 ?_
        obtain ⟨x651, ex651, h652⟩ := g_bd h650; clear h650
        refine g_sld X hX hbl ex651 dL_law_1143 ?_
        clear ex651
        refine g_i2l X dL_law_1144 ?_
        refine g_ldc2 X tw978 dL_law_1145 ?_
        refine g_land X dL_law_1148 ?_
        refine g_lor X dL_law_1149 ?_
        refine g_aload_n (j := 0) (r := some b) X dL_law_1150 rfl rfl ?_
        refine g_iload (j := 4) X dL_law_1151 rfl ?_
        refine g_iconst X dL_law_1153 (v := 3) (by decide) ?_
        refine g_iadd X dL_law_1154 ?_
        obtain ⟨x653, ex653, h654⟩ := g_bd h652; clear h652
        refine g_sld X hX hbl ex653 dL_law_1155 ?_
        clear ex653
        refine g_i2l X dL_law_1156 ?_
        refine g_bipush X dL_law_1157 (v := 32) (by decide) ?_
        refine g_lshl X dL_law_1159 ?_
        refine g_aload_n (j := 0) (r := some b) X dL_law_1160 rfl rfl ?_
        refine g_iload (j := 4) X dL_law_1161 rfl ?_
        refine g_iconst X dL_law_1163 (v := 4) (by decide) ?_
        refine g_iadd X dL_law_1164 ?_
        obtain ⟨x655, ex655, h656⟩ := g_bd h654; clear h654
        refine g_sld X hX hbl ex655 dL_law_1165 ?_
        clear ex655
        refine g_i2l X dL_law_1166 ?_
        refine g_ldc2 X tw978 dL_law_1167 ?_
        refine g_land X dL_law_1170 ?_
        refine g_lor X dL_law_1171 ?_
        obtain ⟨a657, ea657, ka657, h658⟩ := g_dc h656; clear h656
        obtain ⟨g659, h660⟩ := g_gd h658; clear h658
        obtain ⟨x663, S661, eS661, h662⟩ := g_bi h660; clear h660
        refine g_cV (n := 2) (As := [.long ((x649.toInt64 <<< ((32 : Int32).toInt64 &&& 63)) ||| (x651.toInt64 &&& 4294967295)), .long ((x653.toInt64 <<< ((32 : Int32).toInt64 &&& 63)) ||| (x655.toInt64 &&& 4294967295))]) X (c_X8_isIn hl D eS661) tw920 tw921 tw922 tw51 tw923 (by decide +kernel) rfl rfl ⟨Nat.le_of_ble_eq_true rfl, Nat.le_of_ble_eq_true rfl⟩ (ci := 8) rfl (by decide) ea657 ka657 rfl rfl (Nat.le_of_ble_eq_true rfl) dL_law_1172 ⟨g659.1, g659.2⟩ ?_
        clear eS661 ea657 ka657
        refine g_icmp_eq (tgt := 1642) X dL_law_1175 (by decide) (fun c664 => ?_) (fun c664 => ?_)
        · have h665 := g_ip h662 c664; clear h662
          obtain ⟨x667, ex667, h668⟩ := g_let h665; clear h665
          refine g_iinc (j := 4) (v := x667) (lv' := [(4, .int x667), (0, .ref b), (1, va_rf v1), (2, va_rf v2), (3, va_rf v3)]) X dL_law_1642 rfl (by rw [ex667]; rfl) (by decide) (by simp [g_rfc, g_ci, g_cj, g_cr]) ?_
          clear ex667
          refine g_goto (tgt := 23) X dL_law_1645 (by decide) ?_
          refine g_sub [1, 2, 3, 4, 0] rfl ?_
          exact ih S661 (cu + 70) (su + 560) v1 v2 v3 x667 h668
        · have h666 := g_in h662 c664; clear h662
          refine g_iconst X dL_law_1178 (v := 0) (by decide) ?_
          cases h666
      have h635 := g_in h588 c633; clear h588
      by_cases c669 : x34 = 17
      · have h670 := g_ip h635 c669; clear h635; subst c669
        refine g_tableIn (tgt := 1180) X dL_law_40 (by decide) (by decide) rfl (by decide) ?_
        refine g_aload_n (j := 1) X dL_law_1180 rfl rfl ?_
        refine g_aload_n (j := 0) (r := some b) X dL_law_1181 rfl rfl ?_
        refine g_iload (j := 4) X dL_law_1182 rfl ?_
        refine g_iconst X dL_law_1184 (v := 1) (by decide) ?_
        refine g_iadd X dL_law_1185 ?_
        obtain ⟨x672, ex672, h673⟩ := g_bd h670; clear h670
        refine g_sld X hX hbl ex672 dL_law_1186 ?_
        clear ex672
        refine g_i2l X dL_law_1187 ?_
        refine g_bipush X dL_law_1188 (v := 32) (by decide) ?_
        refine g_lshl X dL_law_1190 ?_
        refine g_aload_n (j := 0) (r := some b) X dL_law_1191 rfl rfl ?_
        refine g_iload (j := 4) X dL_law_1192 rfl ?_
        refine g_iconst X dL_law_1194 (v := 2) (by decide) ?_
        refine g_iadd X dL_law_1195 ?_
        obtain ⟨x674, ex674, h675⟩ := g_bd h673; clear h673
        refine g_sld X hX hbl ex674 dL_law_1196 ?_
        clear ex674
        refine g_i2l X dL_law_1197 ?_
        refine g_ldc2 X tw978 dL_law_1198 ?_
        refine g_land X dL_law_1201 ?_
        refine g_lor X dL_law_1202 ?_
        refine g_aload_n (j := 0) (r := some b) X dL_law_1203 rfl rfl ?_
        refine g_iload (j := 4) X dL_law_1204 rfl ?_
        refine g_iconst X dL_law_1206 (v := 3) (by decide) ?_
        refine g_iadd X dL_law_1207 ?_
        obtain ⟨x676, ex676, h677⟩ := g_bd h675; clear h675
        refine g_sld X hX hbl ex676 dL_law_1208 ?_
        clear ex676
        refine g_i2l X dL_law_1209 ?_
        refine g_bipush X dL_law_1210 (v := 32) (by decide) ?_
        refine g_lshl X dL_law_1212 ?_
        refine g_aload_n (j := 0) (r := some b) X dL_law_1213 rfl rfl ?_
        refine g_iload (j := 4) X dL_law_1214 rfl ?_
        refine g_iconst X dL_law_1216 (v := 4) (by decide) ?_
        refine g_iadd X dL_law_1217 ?_
        obtain ⟨x678, ex678, h679⟩ := g_bd h677; clear h677
        refine g_sld X hX hbl ex678 dL_law_1218 ?_
        clear ex678
        refine g_i2l X dL_law_1219 ?_
        refine g_ldc2 X tw978 dL_law_1220 ?_
        refine g_land X dL_law_1223 ?_
        refine g_lor X dL_law_1224 ?_
        obtain ⟨a680, ea680, ka680, h681⟩ := g_dc h679; clear h679
        obtain ⟨x684, S682, eS682, h683⟩ := g_bi h681; clear h681
        refine g_cV (n := 2) (As := [.long ((x672.toInt64 <<< ((32 : Int32).toInt64 &&& 63)) ||| (x674.toInt64 &&& 4294967295)), .long ((x676.toInt64 <<< ((32 : Int32).toInt64 &&& 63)) ||| (x678.toInt64 &&& 4294967295))]) X (c_X7_isOn hl D eS682) tw323 tw324 tw325 tw44 tw326 (by decide +kernel) rfl rfl ⟨Nat.le_of_ble_eq_true rfl, Nat.le_of_ble_eq_true rfl⟩ (ci := 7) rfl (by decide) ea680 ka680 rfl rfl (Nat.le_of_ble_eq_true rfl) dL_law_1225 ⟨gu.1, gu.2⟩ ?_
        clear eS682 ea680 ka680
        refine g_aload_n (j := 2) X dL_law_1228 rfl rfl ?_
        refine g_aload_n (j := 0) (r := some b) X dL_law_1229 rfl rfl ?_
        refine g_iload (j := 4) X dL_law_1230 rfl ?_
        refine g_iconst X dL_law_1232 (v := 1) (by decide) ?_
        refine g_iadd X dL_law_1233 ?_
        obtain ⟨x685, ex685, h686⟩ := g_bd h683; clear h683
        refine g_sld X hX hbl ex685 dL_law_1234 ?_
        clear ex685
        refine g_i2l X dL_law_1235 ?_
        refine g_bipush X dL_law_1236 (v := 32) (by decide) ?_
        refine g_lshl X dL_law_1238 ?_
        refine g_aload_n (j := 0) (r := some b) X dL_law_1239 rfl rfl ?_
        refine g_iload (j := 4) X dL_law_1240 rfl ?_
        refine g_iconst X dL_law_1242 (v := 2) (by decide) ?_
        refine g_iadd X dL_law_1243 ?_
        obtain ⟨x687, ex687, h688⟩ := g_bd h686; clear h686
        refine g_sld X hX hbl ex687 dL_law_1244 ?_
        clear ex687
        refine g_i2l X dL_law_1245 ?_
        refine g_ldc2 X tw978 dL_law_1246 ?_
        refine g_land X dL_law_1249 ?_
        refine g_lor X dL_law_1250 ?_
        refine g_aload_n (j := 0) (r := some b) X dL_law_1251 rfl rfl ?_
        refine g_iload (j := 4) X dL_law_1252 rfl ?_
        refine g_iconst X dL_law_1254 (v := 3) (by decide) ?_
        refine g_iadd X dL_law_1255 ?_
        obtain ⟨x689, ex689, h690⟩ := g_bd h688; clear h688
        refine g_sld X hX hbl ex689 dL_law_1256 ?_
        clear ex689
        refine g_i2l X dL_law_1257 ?_
        refine g_bipush X dL_law_1258 (v := 32) (by decide) ?_
        refine g_lshl X dL_law_1260 ?_
        refine g_aload_n (j := 0) (r := some b) X dL_law_1261 rfl rfl ?_
        refine g_iload (j := 4) X dL_law_1262 rfl ?_
        refine g_iconst X dL_law_1264 (v := 4) (by decide) ?_
        refine g_iadd X dL_law_1265 ?_
        obtain ⟨x691, ex691, h692⟩ := g_bd h690; clear h690
        refine g_sld X hX hbl ex691 dL_law_1266 ?_
        clear ex691
        refine g_i2l X dL_law_1267 ?_
        refine g_ldc2 X tw978 dL_law_1268 ?_
        refine g_land X dL_law_1271 ?_
        refine g_lor X dL_law_1272 ?_
        obtain ⟨a693, ea693, ka693, h694⟩ := g_dc h692; clear h692
        obtain ⟨g695, h696⟩ := g_gd h694; clear h694
        obtain ⟨x699, S697, eS697, h698⟩ := g_bi h696; clear h696
        refine g_cV (n := 2) (As := [.long ((x685.toInt64 <<< ((32 : Int32).toInt64 &&& 63)) ||| (x687.toInt64 &&& 4294967295)), .long ((x689.toInt64 <<< ((32 : Int32).toInt64 &&& 63)) ||| (x691.toInt64 &&& 4294967295))]) X (c_X8_isOn hl D eS697) tw924 tw925 tw926 tw51 tw927 (by decide +kernel) rfl rfl ⟨Nat.le_of_ble_eq_true rfl, Nat.le_of_ble_eq_true rfl⟩ (ci := 8) rfl (by decide) ea693 ka693 rfl rfl (Nat.le_of_ble_eq_true rfl) dL_law_1273 ⟨g695.1, g695.2⟩ ?_
        clear eS697 ea693 ka693
        refine g_icmp_eq (tgt := 1642) X dL_law_1276 (by decide) (fun c700 => ?_) (fun c700 => ?_)
        · have h701 := g_ip h698 c700; clear h698
          obtain ⟨x703, ex703, h704⟩ := g_let h701; clear h701
          refine g_iinc (j := 4) (v := x703) (lv' := [(4, .int x703), (0, .ref b), (1, va_rf v1), (2, va_rf v2), (3, va_rf v3)]) X dL_law_1642 rfl (by rw [ex703]; rfl) (by decide) (by simp [g_rfc, g_ci, g_cj, g_cr]) ?_
          clear ex703
          refine g_goto (tgt := 23) X dL_law_1645 (by decide) ?_
          refine g_sub [1, 2, 3, 4, 0] rfl ?_
          exact ih S697 (cu + 140) (su + 1120) v1 v2 v3 x703 h704
        · have h702 := g_in h698 c700; clear h698
          refine g_iconst X dL_law_1279 (v := 0) (by decide) ?_
          cases h702
      have h671 := g_in h635 c669; clear h635
      by_cases c705 : x34 = 18
      · have h706 := g_ip h671 c705; clear h671; subst c705
        refine g_tableIn (tgt := 1281) X dL_law_40 (by decide) (by decide) rfl (by decide) ?_
        refine g_aload_n (j := 1) X dL_law_1281 rfl rfl ?_
        refine g_aload_n (j := 0) (r := some b) X dL_law_1282 rfl rfl ?_
        refine g_iload (j := 4) X dL_law_1283 rfl ?_
        refine g_iconst X dL_law_1285 (v := 1) (by decide) ?_
        refine g_iadd X dL_law_1286 ?_
        obtain ⟨x708, ex708, h709⟩ := g_bd h706; clear h706
        refine g_sld X hX hbl ex708 dL_law_1287 ?_
        clear ex708
        refine g_aload_n (j := 3) X dL_law_1288 rfl rfl ?_
        obtain ⟨g710, h711⟩ := g_gd h709; clear h709
        obtain ⟨x714, S712, eS712, h713⟩ := g_bi h711; clear h711
        refine g_cSW (n := 3) (As := [va_rf v1, .int x708, va_rf v3]) X (c_L_isSealed hl D eS712) tw569 tw570 tw43 tw571 (by decide +kernel) rfl rfl ⟨Nat.le_of_ble_eq_true rfl, Nat.le_of_ble_eq_true rfl⟩ rfl rfl (Nat.le_of_ble_eq_true rfl) dL_law_1289 ⟨g710.1, g710.2⟩ ?_
        clear eS712
        refine g_istore (i := 5) (lv' := [(5, .int x714), (0, .ref b), (1, va_rf v1), (2, va_rf v2), (3, va_rf v3), (4, .int v4)]) X dL_law_1292 (by decide) rfl ?_
        refine g_aload_n (j := 3) X dL_law_1294 rfl rfl ?_
        refine g_aload_n (j := 1) (r := some b) X dL_law_1295 rfl rfl ?_
        refine g_iload (j := 5) X dL_law_1296 rfl ?_
        refine g_iconst X dL_law_1298 (v := 1) (by decide) ?_
        refine g_iadd X dL_law_1299 ?_
        obtain ⟨x715, ex715, h716⟩ := g_bd h713; clear h713
        refine g_sld X hX hbl ex715 dL_law_1300 ?_
        clear ex715
        obtain ⟨a717, ea717, ka717, h718⟩ := g_dc h716; clear h716
        obtain ⟨g719, h720⟩ := g_gd h718; clear h718
        obtain ⟨x723, S721, eS721, h722⟩ := g_bi h720; clear h720
        refine g_cV (n := 1) (As := [.int x715]) X (c_X8_isSealed hl D eS721) tw931 tw932 tw933 tw51 tw934 (by decide +kernel) rfl rfl ⟨Nat.le_of_ble_eq_true rfl, Nat.le_of_ble_eq_true rfl⟩ (ci := 8) rfl (by decide) ea717 ka717 rfl rfl (Nat.le_of_ble_eq_true rfl) dL_law_1301 ⟨g719.1, g719.2⟩ ?_
        clear eS721 ea717 ka717
        refine g_istore (i := 6) (lv' := [(6, .int x723), (5, .int x714), (0, .ref b), (1, va_rf v1), (2, va_rf v2), (3, va_rf v3), (4, .int v4)]) X dL_law_1304 (by decide) rfl ?_
        refine g_aload_n (j := 4) X dL_law_1306 rfl rfl ?_
        obtain ⟨a724, ea724, ka724, h725⟩ := g_dc h722; clear h722
        obtain ⟨x728, S726, eS726, h727⟩ := g_bi h725; clear h725
        refine g_cV (n := 0) (As := []) X (c_X8_thrown hl D eS726) tw753 tw754 tw755 tw51 tw756 (by decide +kernel) rfl rfl ⟨Nat.le_of_ble_eq_true rfl, Nat.le_of_ble_eq_true rfl⟩ (ci := 8) rfl (by decide) ea724 ka724 rfl rfl (Nat.le_of_ble_eq_true rfl) dL_law_1307 ⟨g719.1, g719.2⟩ ?_
        clear eS726 ea724 ka724
        refine g_iload (j := 1) X dL_law_1310 rfl ?_
        refine g_icmp_eq (tgt := 1317) X dL_law_1312 (by decide) (fun c729 => ?_) (fun c729 => ?_)
        · have h730 := g_ip h727 c729; clear h727
          refine g_iload (j := 1) X dL_law_1317 rfl ?_
          refine g_if_ne (tgt := 1341) X dL_law_1319 (by decide) (fun c732 => ?_) (fun c732 => ?_)
          · have h733 := g_in h730 c732; clear h730
            refine g_goto (tgt := 1642) X dL_law_1341 (by decide) ?_
            obtain ⟨x735, ex735, h736⟩ := g_let h733; clear h733
            refine g_iinc (j := 6) (v := x735) (lv' := [(4, .int x735), (6, .int x723), (5, .int x714), (0, .ref b), (1, va_rf v1), (2, va_rf v2), (3, va_rf v3)]) X dL_law_1642 rfl (by rw [ex735]; rfl) (by decide) (by simp [g_rfc, g_ci, g_cj, g_cr]) ?_
            clear ex735
            refine g_goto (tgt := 23) X dL_law_1645 (by decide) ?_
            refine g_sub [3, 4, 5, 6, 0] rfl ?_
            exact ih S726 (cu + 2 + 3) (su + 12 + 24) v1 v2 v3 x735 h736
          · have h734 := g_ip h730 c732; clear h730
            refine g_aload_n (j := 5) X dL_law_1322 rfl rfl ?_
            refine g_iconst X dL_law_1323 (v := 0) (by decide) ?_
            obtain ⟨x737, ex737, h738⟩ := g_bd h734; clear h734
            refine g_lald X ex737 dL_law_1324 ?_
            clear ex737
            refine g_iload (j := 0) X dL_law_1325 rfl ?_
            refine g_if_eq (tgt := 1334) X dL_law_1327 (by decide) (fun c739 => ?_) (fun c739 => ?_)
            · have h740 := g_ip h738 c739; clear h738
              refine g_lconst X dL_law_1334 (v := 0) (by decide) ?_
              refine g_lcmp X dL_law_1335 ?_
              refine g_if_eq (tgt := 1341) X dL_law_1336 (by decide) (fun c742 => ?_) (fun c742 => ?_)
              · have h743 := g_ip h740 c742; clear h740
                refine g_goto (tgt := 1642) X dL_law_1341 (by decide) ?_
                obtain ⟨x745, ex745, h746⟩ := g_let h743; clear h743
                refine g_iinc (j := 6) (v := x745) (lv' := [(4, .int x745), (6, .int x723), (5, .int x714), (0, .ref b), (1, va_rf v1), (2, va_rf v2), (3, va_rf v3)]) X dL_law_1642 rfl (by rw [ex745]; rfl) (by decide) (by simp [g_rfc, g_ci, g_cj, g_cr]) ?_
                clear ex745
                refine g_goto (tgt := 23) X dL_law_1645 (by decide) ?_
                refine g_sub [3, 4, 5, 6, 0] rfl ?_
                exact ih S726 (cu + 2 + 3) (su + 12 + 24) v1 v2 v3 x745 h746
              · have h744 := g_in h740 c742; clear h740
                refine g_iconst X dL_law_1339 (v := 0) (by decide) ?_
                cases h744
            · have h741 := g_in h738 c739; clear h738
              refine g_lconst X dL_law_1330 (v := 1) (by decide) ?_
              refine g_goto (tgt := 1335) X dL_law_1331 (by decide) ?_
              refine g_lcmp X dL_law_1335 ?_
              refine g_if_eq (tgt := 1341) X dL_law_1336 (by decide) (fun c747 => ?_) (fun c747 => ?_)
              · have h748 := g_ip h741 c747; clear h741
                refine g_goto (tgt := 1642) X dL_law_1341 (by decide) ?_
                obtain ⟨x750, ex750, h751⟩ := g_let h748; clear h748
                refine g_iinc (j := 6) (v := x750) (lv' := [(4, .int x750), (6, .int x723), (5, .int x714), (0, .ref b), (1, va_rf v1), (2, va_rf v2), (3, va_rf v3)]) X dL_law_1642 rfl (by rw [ex750]; rfl) (by decide) (by simp [g_rfc, g_ci, g_cj, g_cr]) ?_
                clear ex750
                refine g_goto (tgt := 23) X dL_law_1645 (by decide) ?_
                refine g_sub [3, 4, 5, 6, 0] rfl ?_
                exact ih S726 (cu + 2 + 3) (su + 12 + 24) v1 v2 v3 x750 h751
              · have h749 := g_in h741 c747; clear h741
                refine g_iconst X dL_law_1339 (v := 0) (by decide) ?_
                cases h749
        · have h731 := g_in h727 c729; clear h727
          refine g_iconst X dL_law_1315 (v := 0) (by decide) ?_
          cases h731
      have h707 := g_in h671 c705; clear h671
      by_cases c752 : x34 = 19
      · have h753 := g_ip h707 c752; clear h707; subst c752
        refine g_tableIn (tgt := 1344) X dL_law_40 (by decide) (by decide) rfl (by decide) ?_
        refine g_aload_n (j := 1) X dL_law_1344 rfl rfl ?_
        refine g_aload_n (j := 0) (r := some b) X dL_law_1345 rfl rfl ?_
        refine g_iload (j := 4) X dL_law_1346 rfl ?_
        refine g_iconst X dL_law_1348 (v := 1) (by decide) ?_
        refine g_iadd X dL_law_1349 ?_
        obtain ⟨x755, ex755, h756⟩ := g_bd h753; clear h753
        refine g_sld X hX hbl ex755 dL_law_1350 ?_
        clear ex755
        refine g_aload_n (j := 3) X dL_law_1351 rfl rfl ?_
        obtain ⟨g757, h758⟩ := g_gd h756; clear h756
        obtain ⟨x761, S759, eS759, h760⟩ := g_bi h758; clear h758
        refine g_cSW (n := 3) (As := [va_rf v1, .int x755, va_rf v3]) X (c_L_seal hl D eS759) tw580 tw581 tw43 tw582 (by decide +kernel) rfl rfl ⟨Nat.le_of_ble_eq_true rfl, Nat.le_of_ble_eq_true rfl⟩ rfl rfl (Nat.le_of_ble_eq_true rfl) dL_law_1352 ⟨g757.1, g757.2⟩ ?_
        clear eS759
        refine g_istore (i := 5) (lv' := [(5, .int x761), (0, .ref b), (1, va_rf v1), (2, va_rf v2), (3, va_rf v3), (4, .int v4)]) X dL_law_1355 (by decide) rfl ?_
        refine g_aload_n (j := 3) X dL_law_1357 rfl rfl ?_
        refine g_aload_n (j := 1) (r := some b) X dL_law_1358 rfl rfl ?_
        refine g_iload (j := 5) X dL_law_1359 rfl ?_
        refine g_iconst X dL_law_1361 (v := 1) (by decide) ?_
        refine g_iadd X dL_law_1362 ?_
        obtain ⟨x762, ex762, h763⟩ := g_bd h760; clear h760
        refine g_sld X hX hbl ex762 dL_law_1363 ?_
        clear ex762
        obtain ⟨a764, ea764, ka764, h765⟩ := g_dc h763; clear h763
        obtain ⟨g766, h767⟩ := g_gd h765; clear h765
        obtain ⟨x770, S768, eS768, h769⟩ := g_bi h767; clear h767
        refine g_cV (n := 1) (As := [.int x762]) X (c_X8_seal hl D eS768) tw941 tw942 tw943 tw51 tw944 (by decide +kernel) rfl rfl ⟨Nat.le_of_ble_eq_true rfl, Nat.le_of_ble_eq_true rfl⟩ (ci := 8) rfl (by decide) ea764 ka764 rfl rfl (Nat.le_of_ble_eq_true rfl) dL_law_1364 ⟨g766.1, g766.2⟩ ?_
        clear eS768 ea764 ka764
        refine g_istore (i := 6) (lv' := [(6, .int x770), (5, .int x761), (0, .ref b), (1, va_rf v1), (2, va_rf v2), (3, va_rf v3), (4, .int v4)]) X dL_law_1367 (by decide) rfl ?_
        refine g_aload_n (j := 4) X dL_law_1369 rfl rfl ?_
        obtain ⟨a771, ea771, ka771, h772⟩ := g_dc h769; clear h769
        obtain ⟨x775, S773, eS773, h774⟩ := g_bi h772; clear h772
        refine g_cV (n := 0) (As := []) X (c_X8_thrown hl D eS773) tw753 tw754 tw755 tw51 tw756 (by decide +kernel) rfl rfl ⟨Nat.le_of_ble_eq_true rfl, Nat.le_of_ble_eq_true rfl⟩ (ci := 8) rfl (by decide) ea771 ka771 rfl rfl (Nat.le_of_ble_eq_true rfl) dL_law_1370 ⟨g766.1, g766.2⟩ ?_
        clear eS773 ea771 ka771
        refine g_iload (j := 1) X dL_law_1373 rfl ?_
        refine g_icmp_eq (tgt := 1380) X dL_law_1375 (by decide) (fun c776 => ?_) (fun c776 => ?_)
        · have h777 := g_ip h774 c776; clear h774
          refine g_iload (j := 1) X dL_law_1380 rfl ?_
          refine g_if_ne (tgt := 1404) X dL_law_1382 (by decide) (fun c779 => ?_) (fun c779 => ?_)
          · have h780 := g_in h777 c779; clear h777
            refine g_goto (tgt := 1642) X dL_law_1404 (by decide) ?_
            obtain ⟨x782, ex782, h783⟩ := g_let h780; clear h780
            refine g_iinc (j := 6) (v := x782) (lv' := [(4, .int x782), (6, .int x770), (5, .int x761), (0, .ref b), (1, va_rf v1), (2, va_rf v2), (3, va_rf v3)]) X dL_law_1642 rfl (by rw [ex782]; rfl) (by decide) (by simp [g_rfc, g_ci, g_cj, g_cr]) ?_
            clear ex782
            refine g_goto (tgt := 23) X dL_law_1645 (by decide) ?_
            refine g_sub [3, 4, 5, 6, 0] rfl ?_
            exact ih S773 (cu + 2 + 3) (su + 12 + 24) v1 v2 v3 x782 h783
          · have h781 := g_ip h777 c779; clear h777
            refine g_aload_n (j := 5) X dL_law_1385 rfl rfl ?_
            refine g_iconst X dL_law_1386 (v := 0) (by decide) ?_
            obtain ⟨x784, ex784, h785⟩ := g_bd h781; clear h781
            refine g_lald X ex784 dL_law_1387 ?_
            clear ex784
            refine g_iload (j := 0) X dL_law_1388 rfl ?_
            refine g_if_eq (tgt := 1397) X dL_law_1390 (by decide) (fun c786 => ?_) (fun c786 => ?_)
            · have h787 := g_ip h785 c786; clear h785
              refine g_lconst X dL_law_1397 (v := 0) (by decide) ?_
              refine g_lcmp X dL_law_1398 ?_
              refine g_if_eq (tgt := 1404) X dL_law_1399 (by decide) (fun c789 => ?_) (fun c789 => ?_)
              · have h790 := g_ip h787 c789; clear h787
                refine g_goto (tgt := 1642) X dL_law_1404 (by decide) ?_
                obtain ⟨x792, ex792, h793⟩ := g_let h790; clear h790
                refine g_iinc (j := 6) (v := x792) (lv' := [(4, .int x792), (6, .int x770), (5, .int x761), (0, .ref b), (1, va_rf v1), (2, va_rf v2), (3, va_rf v3)]) X dL_law_1642 rfl (by rw [ex792]; rfl) (by decide) (by simp [g_rfc, g_ci, g_cj, g_cr]) ?_
                clear ex792
                refine g_goto (tgt := 23) X dL_law_1645 (by decide) ?_
                refine g_sub [3, 4, 5, 6, 0] rfl ?_
                exact ih S773 (cu + 2 + 3) (su + 12 + 24) v1 v2 v3 x792 h793
              · have h791 := g_in h787 c789; clear h787
                refine g_iconst X dL_law_1402 (v := 0) (by decide) ?_
                cases h791
            · have h788 := g_in h785 c786; clear h785
              refine g_lconst X dL_law_1393 (v := 1) (by decide) ?_
              refine g_goto (tgt := 1398) X dL_law_1394 (by decide) ?_
              refine g_lcmp X dL_law_1398 ?_
              refine g_if_eq (tgt := 1404) X dL_law_1399 (by decide) (fun c794 => ?_) (fun c794 => ?_)
              · have h795 := g_ip h788 c794; clear h788
                refine g_goto (tgt := 1642) X dL_law_1404 (by decide) ?_
                obtain ⟨x797, ex797, h798⟩ := g_let h795; clear h795
                refine g_iinc (j := 6) (v := x797) (lv' := [(4, .int x797), (6, .int x770), (5, .int x761), (0, .ref b), (1, va_rf v1), (2, va_rf v2), (3, va_rf v3)]) X dL_law_1642 rfl (by rw [ex797]; rfl) (by decide) (by simp [g_rfc, g_ci, g_cj, g_cr]) ?_
                clear ex797
                refine g_goto (tgt := 23) X dL_law_1645 (by decide) ?_
                refine g_sub [3, 4, 5, 6, 0] rfl ?_
                exact ih S773 (cu + 2 + 3) (su + 12 + 24) v1 v2 v3 x797 h798
              · have h796 := g_in h788 c794; clear h788
                refine g_iconst X dL_law_1402 (v := 0) (by decide) ?_
                cases h796
        · have h778 := g_in h774 c776; clear h774
          refine g_iconst X dL_law_1378 (v := 0) (by decide) ?_
          cases h778
      have h754 := g_in h707 c752; clear h707
      by_cases c799 : x34 = 20
      · have h800 := g_ip h754 c799; clear h754; subst c799
        refine g_tableIn (tgt := 1407) X dL_law_40 (by decide) (by decide) rfl (by decide) ?_
        refine g_aload_n (j := 1) X dL_law_1407 rfl rfl ?_
        refine g_aload_n (j := 0) (r := some b) X dL_law_1408 rfl rfl ?_
        refine g_iload (j := 4) X dL_law_1409 rfl ?_
        refine g_iconst X dL_law_1411 (v := 1) (by decide) ?_
        refine g_iadd X dL_law_1412 ?_
        obtain ⟨x802, ex802, h803⟩ := g_bd h800; clear h800
        refine g_sld X hX hbl ex802 dL_law_1413 ?_
        clear ex802
        refine g_aload_n (j := 0) (r := some b) X dL_law_1414 rfl rfl ?_
        refine g_iload (j := 4) X dL_law_1415 rfl ?_
        refine g_iconst X dL_law_1417 (v := 2) (by decide) ?_
        refine g_iadd X dL_law_1418 ?_
        obtain ⟨x804, ex804, h805⟩ := g_bd h803; clear h803
        refine g_sld X hX hbl ex804 dL_law_1419 ?_
        clear ex804
        refine g_aload_n (j := 3) X dL_law_1420 rfl rfl ?_
        obtain ⟨g806, h807⟩ := g_gd h805; clear h805
        obtain ⟨x810, S808, eS808, h809⟩ := g_bi h807; clear h807
        refine g_cSW (n := 4) (As := [va_rf v1, .int x802, .int x804, va_rf v3]) X (c_L_follow hl D eS808) tw588 tw589 tw43 tw590 (by decide +kernel) rfl rfl ⟨Nat.le_of_ble_eq_true rfl, Nat.le_of_ble_eq_true rfl⟩ rfl rfl (Nat.le_of_ble_eq_true rfl) dL_law_1421 ⟨g806.1, g806.2⟩ ?_
        clear eS808
        refine g_istore (i := 5) (lv' := [(5, .int x810), (0, .ref b), (1, va_rf v1), (2, va_rf v2), (3, va_rf v3), (4, .int v4)]) X dL_law_1424 (by decide) rfl ?_
        refine g_aload_n (j := 3) X dL_law_1426 rfl rfl ?_
        refine g_aload_n (j := 1) (r := some b) X dL_law_1427 rfl rfl ?_
        refine g_iload (j := 5) X dL_law_1428 rfl ?_
        refine g_iconst X dL_law_1430 (v := 1) (by decide) ?_
        refine g_iadd X dL_law_1431 ?_
        obtain ⟨x811, ex811, h812⟩ := g_bd h809; clear h809
        refine g_sld X hX hbl ex811 dL_law_1432 ?_
        clear ex811
        refine g_aload_n (j := 1) (r := some b) X dL_law_1433 rfl rfl ?_
        refine g_iload (j := 5) X dL_law_1434 rfl ?_
        refine g_iconst X dL_law_1436 (v := 2) (by decide) ?_
        refine g_iadd X dL_law_1437 ?_
        obtain ⟨x813, ex813, h814⟩ := g_bd h812; clear h812
        refine g_sld X hX hbl ex813 dL_law_1438 ?_
        clear ex813
        obtain ⟨a815, ea815, ka815, h816⟩ := g_dc h814; clear h814
        obtain ⟨g817, h818⟩ := g_gd h816; clear h816
        obtain ⟨x821, S819, eS819, h820⟩ := g_bi h818; clear h818
        refine g_cV (n := 2) (As := [.int x811, .int x813]) X (c_X8_follow hl D eS819) tw945 tw946 tw947 tw51 tw948 (by decide +kernel) rfl rfl ⟨Nat.le_of_ble_eq_true rfl, Nat.le_of_ble_eq_true rfl⟩ (ci := 8) rfl (by decide) ea815 ka815 rfl rfl (Nat.le_of_ble_eq_true rfl) dL_law_1439 ⟨g817.1, g817.2⟩ ?_
        clear eS819 ea815 ka815
        refine g_istore (i := 6) (lv' := [(6, .int x821), (5, .int x810), (0, .ref b), (1, va_rf v1), (2, va_rf v2), (3, va_rf v3), (4, .int v4)]) X dL_law_1442 (by decide) rfl ?_
        refine g_aload_n (j := 4) X dL_law_1444 rfl rfl ?_
        obtain ⟨a822, ea822, ka822, h823⟩ := g_dc h820; clear h820
        obtain ⟨x826, S824, eS824, h825⟩ := g_bi h823; clear h823
        refine g_cV (n := 0) (As := []) X (c_X8_thrown hl D eS824) tw753 tw754 tw755 tw51 tw756 (by decide +kernel) rfl rfl ⟨Nat.le_of_ble_eq_true rfl, Nat.le_of_ble_eq_true rfl⟩ (ci := 8) rfl (by decide) ea822 ka822 rfl rfl (Nat.le_of_ble_eq_true rfl) dL_law_1445 ⟨g817.1, g817.2⟩ ?_
        clear eS824 ea822 ka822
        refine g_iload (j := 1) X dL_law_1448 rfl ?_
        refine g_icmp_eq (tgt := 1455) X dL_law_1450 (by decide) (fun c827 => ?_) (fun c827 => ?_)
        · have h828 := g_ip h825 c827; clear h825
          refine g_iload (j := 1) X dL_law_1455 rfl ?_
          refine g_if_ne (tgt := 1472) X dL_law_1457 (by decide) (fun c830 => ?_) (fun c830 => ?_)
          · have h831 := g_in h828 c830; clear h828
            refine g_goto (tgt := 1642) X dL_law_1472 (by decide) ?_
            obtain ⟨x833, ex833, h834⟩ := g_let h831; clear h831
            refine g_iinc (j := 6) (v := x833) (lv' := [(4, .int x833), (6, .int x821), (5, .int x810), (0, .ref b), (1, va_rf v1), (2, va_rf v2), (3, va_rf v3)]) X dL_law_1642 rfl (by rw [ex833]; rfl) (by decide) (by simp [g_rfc, g_ci, g_cj, g_cr]) ?_
            clear ex833
            refine g_goto (tgt := 23) X dL_law_1645 (by decide) ?_
            refine g_sub [3, 4, 5, 6, 0] rfl ?_
            exact ih S824 (cu + 6 + 143) (su + 254 + 1144) v1 v2 v3 x833 h834
          · have h832 := g_ip h828 c830; clear h828
            refine g_aload_n (j := 5) X dL_law_1460 rfl rfl ?_
            refine g_iconst X dL_law_1461 (v := 0) (by decide) ?_
            obtain ⟨x835, ex835, h836⟩ := g_bd h832; clear h832
            refine g_lald X ex835 dL_law_1462 ?_
            clear ex835
            refine g_iload (j := 0) X dL_law_1463 rfl ?_
            refine g_i2l X dL_law_1465 ?_
            refine g_lcmp X dL_law_1466 ?_
            refine g_if_eq (tgt := 1472) X dL_law_1467 (by decide) (fun c837 => ?_) (fun c837 => ?_)
            · have h838 := g_ip h836 c837; clear h836
              refine g_goto (tgt := 1642) X dL_law_1472 (by decide) ?_
              obtain ⟨x840, ex840, h841⟩ := g_let h838; clear h838
              refine g_iinc (j := 6) (v := x840) (lv' := [(4, .int x840), (6, .int x821), (5, .int x810), (0, .ref b), (1, va_rf v1), (2, va_rf v2), (3, va_rf v3)]) X dL_law_1642 rfl (by rw [ex840]; rfl) (by decide) (by simp [g_rfc, g_ci, g_cj, g_cr]) ?_
              clear ex840
              refine g_goto (tgt := 23) X dL_law_1645 (by decide) ?_
              refine g_sub [3, 4, 5, 6, 0] rfl ?_
              exact ih S824 (cu + 6 + 143) (su + 254 + 1144) v1 v2 v3 x840 h841
            · have h839 := g_in h836 c837; clear h836
              refine g_iconst X dL_law_1470 (v := 0) (by decide) ?_
              cases h839
        · have h829 := g_in h825 c827; clear h825
          refine g_iconst X dL_law_1453 (v := 0) (by decide) ?_
          cases h829
      have h801 := g_in h754 c799; clear h754
      by_cases c842 : x34 = 21
      · have h843 := g_ip h801 c842; clear h801; subst c842
        refine g_tableIn (tgt := 1475) X dL_law_40 (by decide) (by decide) rfl (by decide) ?_
        refine g_aload_n (j := 1) X dL_law_1475 rfl rfl ?_
        refine g_aload_n (j := 0) (r := some b) X dL_law_1476 rfl rfl ?_
        refine g_iload (j := 4) X dL_law_1477 rfl ?_
        refine g_iconst X dL_law_1479 (v := 1) (by decide) ?_
        refine g_iadd X dL_law_1480 ?_
        obtain ⟨x845, ex845, h846⟩ := g_bd h843; clear h843
        refine g_sld X hX hbl ex845 dL_law_1481 ?_
        clear ex845
        refine g_aload_n (j := 0) (r := some b) X dL_law_1482 rfl rfl ?_
        refine g_iload (j := 4) X dL_law_1483 rfl ?_
        refine g_iconst X dL_law_1485 (v := 2) (by decide) ?_
        refine g_iadd X dL_law_1486 ?_
        obtain ⟨x847, ex847, h848⟩ := g_bd h846; clear h846
        refine g_sld X hX hbl ex847 dL_law_1487 ?_
        clear ex847
        refine g_aload_n (j := 0) (r := some b) X dL_law_1488 rfl rfl ?_
        refine g_iload (j := 4) X dL_law_1489 rfl ?_
        refine g_iconst X dL_law_1491 (v := 3) (by decide) ?_
        refine g_iadd X dL_law_1492 ?_
        obtain ⟨x849, ex849, h850⟩ := g_bd h848; clear h848
        refine g_sld X hX hbl ex849 dL_law_1493 ?_
        clear ex849
        refine g_aload_n (j := 3) X dL_law_1494 rfl rfl ?_
        obtain ⟨g851, h852⟩ := g_gd h850; clear h850
        obtain ⟨x855, S853, eS853, h854⟩ := g_bi h852; clear h852
        refine g_cSW (n := 5) (As := [va_rf v1, .int x845, .int x847, .int x849, va_rf v3]) X (c_L_gossip hl D eS853) tw614 tw615 tw43 tw616 (by decide +kernel) rfl rfl ⟨Nat.le_of_ble_eq_true rfl, Nat.le_of_ble_eq_true rfl⟩ rfl rfl (Nat.le_of_ble_eq_true rfl) dL_law_1495 ⟨g851.1, g851.2⟩ ?_
        clear eS853
        refine g_istore (i := 5) (lv' := [(5, .int x855), (0, .ref b), (1, va_rf v1), (2, va_rf v2), (3, va_rf v3), (4, .int v4)]) X dL_law_1498 (by decide) rfl ?_
        refine g_aload_n (j := 3) X dL_law_1500 rfl rfl ?_
        refine g_aload_n (j := 1) (r := some b) X dL_law_1501 rfl rfl ?_
        refine g_iload (j := 5) X dL_law_1502 rfl ?_
        refine g_iconst X dL_law_1504 (v := 1) (by decide) ?_
        refine g_iadd X dL_law_1505 ?_
        obtain ⟨x856, ex856, h857⟩ := g_bd h854; clear h854
        refine g_sld X hX hbl ex856 dL_law_1506 ?_
        clear ex856
        refine g_aload_n (j := 1) (r := some b) X dL_law_1507 rfl rfl ?_
        refine g_iload (j := 5) X dL_law_1508 rfl ?_
        refine g_iconst X dL_law_1510 (v := 2) (by decide) ?_
        refine g_iadd X dL_law_1511 ?_
        obtain ⟨x858, ex858, h859⟩ := g_bd h857; clear h857
        refine g_sld X hX hbl ex858 dL_law_1512 ?_
        clear ex858
        refine g_aload_n (j := 1) (r := some b) X dL_law_1513 rfl rfl ?_
        refine g_iload (j := 5) X dL_law_1514 rfl ?_
        refine g_iconst X dL_law_1516 (v := 3) (by decide) ?_
        refine g_iadd X dL_law_1517 ?_
        obtain ⟨x860, ex860, h861⟩ := g_bd h859; clear h859
        refine g_sld X hX hbl ex860 dL_law_1518 ?_
        clear ex860
        obtain ⟨a862, ea862, ka862, h863⟩ := g_dc h861; clear h861
        obtain ⟨x866, S864, eS864, h865⟩ := g_bi h863; clear h863
        refine g_cV (n := 3) (As := [.int x856, .int x858, .int x860]) X (c_X8_gossip hl D eS864) tw967 tw968 tw969 tw51 tw970 (by decide +kernel) rfl rfl ⟨Nat.le_of_ble_eq_true rfl, Nat.le_of_ble_eq_true rfl⟩ (ci := 8) rfl (by decide) ea862 ka862 rfl rfl (Nat.le_of_ble_eq_true rfl) dL_law_1519 ⟨g851.1, g851.2⟩ ?_
        clear eS864 ea862 ka862
        refine g_istore (i := 6) (lv' := [(6, .int x866), (5, .int x855), (0, .ref b), (1, va_rf v1), (2, va_rf v2), (3, va_rf v3), (4, .int v4)]) X dL_law_1522 (by decide) rfl ?_
        refine g_aload_n (j := 4) X dL_law_1524 rfl rfl ?_
        obtain ⟨a867, ea867, ka867, h868⟩ := g_dc h865; clear h865
        obtain ⟨x871, S869, eS869, h870⟩ := g_bi h868; clear h868
        refine g_cV (n := 0) (As := []) X (c_X8_thrown hl D eS869) tw753 tw754 tw755 tw51 tw756 (by decide +kernel) rfl rfl ⟨Nat.le_of_ble_eq_true rfl, Nat.le_of_ble_eq_true rfl⟩ (ci := 8) rfl (by decide) ea867 ka867 rfl rfl (Nat.le_of_ble_eq_true rfl) dL_law_1525 ⟨g851.1, g851.2⟩ ?_
        clear eS869 ea867 ka867
        refine g_iload (j := 1) X dL_law_1528 rfl ?_
        refine g_icmp_eq (tgt := 1535) X dL_law_1530 (by decide) (fun c872 => ?_) (fun c872 => ?_)
        · have h873 := g_ip h870 c872; clear h870
          refine g_iload (j := 1) X dL_law_1535 rfl ?_
          refine g_if_ne (tgt := 1552) X dL_law_1537 (by decide) (fun c875 => ?_) (fun c875 => ?_)
          · have h876 := g_in h873 c875; clear h873
            refine g_goto (tgt := 1642) X dL_law_1552 (by decide) ?_
            obtain ⟨x878, ex878, h879⟩ := g_let h876; clear h876
            refine g_iinc (j := 6) (v := x878) (lv' := [(4, .int x878), (6, .int x866), (5, .int x855), (0, .ref b), (1, va_rf v1), (2, va_rf v2), (3, va_rf v3)]) X dL_law_1642 rfl (by rw [ex878]; rfl) (by decide) (by simp [g_rfc, g_ci, g_cj, g_cr]) ?_
            clear ex878
            refine g_goto (tgt := 23) X dL_law_1645 (by decide) ?_
            refine g_sub [3, 4, 5, 6, 0] rfl ?_
            exact ih S869 (cu + 2) (su + 12) v1 v2 v3 x878 h879
          · have h877 := g_ip h873 c875; clear h873
            refine g_aload_n (j := 5) X dL_law_1540 rfl rfl ?_
            refine g_iconst X dL_law_1541 (v := 0) (by decide) ?_
            obtain ⟨x880, ex880, h881⟩ := g_bd h877; clear h877
            refine g_lald X ex880 dL_law_1542 ?_
            clear ex880
            refine g_iload (j := 0) X dL_law_1543 rfl ?_
            refine g_i2l X dL_law_1545 ?_
            refine g_lcmp X dL_law_1546 ?_
            refine g_if_eq (tgt := 1552) X dL_law_1547 (by decide) (fun c882 => ?_) (fun c882 => ?_)
            · have h883 := g_ip h881 c882; clear h881
              refine g_goto (tgt := 1642) X dL_law_1552 (by decide) ?_
              obtain ⟨x885, ex885, h886⟩ := g_let h883; clear h883
              refine g_iinc (j := 6) (v := x885) (lv' := [(4, .int x885), (6, .int x866), (5, .int x855), (0, .ref b), (1, va_rf v1), (2, va_rf v2), (3, va_rf v3)]) X dL_law_1642 rfl (by rw [ex885]; rfl) (by decide) (by simp [g_rfc, g_ci, g_cj, g_cr]) ?_
              clear ex885
              refine g_goto (tgt := 23) X dL_law_1645 (by decide) ?_
              refine g_sub [3, 4, 5, 6, 0] rfl ?_
              exact ih S869 (cu + 2) (su + 12) v1 v2 v3 x885 h886
            · have h884 := g_in h881 c882; clear h881
              refine g_iconst X dL_law_1550 (v := 0) (by decide) ?_
              cases h884
        · have h874 := g_in h870 c872; clear h870
          refine g_iconst X dL_law_1533 (v := 0) (by decide) ?_
          cases h874
      have h844 := g_in h801 c842; clear h801
      by_cases c887 : x34 = 22
      · have h888 := g_ip h844 c887; clear h844; subst c887
        refine g_tableIn (tgt := 1555) X dL_law_40 (by decide) (by decide) rfl (by decide) ?_
        refine g_aload_n (j := 1) X dL_law_1555 rfl rfl ?_
        refine g_aload_n (j := 0) (r := some b) X dL_law_1556 rfl rfl ?_
        refine g_iload (j := 4) X dL_law_1557 rfl ?_
        refine g_iconst X dL_law_1559 (v := 1) (by decide) ?_
        refine g_iadd X dL_law_1560 ?_
        obtain ⟨x890, ex890, h891⟩ := g_bd h888; clear h888
        refine g_sld X hX hbl ex890 dL_law_1561 ?_
        clear ex890
        refine g_aload_n (j := 0) (r := some b) X dL_law_1562 rfl rfl ?_
        refine g_iload (j := 4) X dL_law_1563 rfl ?_
        refine g_iconst X dL_law_1565 (v := 2) (by decide) ?_
        refine g_iadd X dL_law_1566 ?_
        obtain ⟨x892, ex892, h893⟩ := g_bd h891; clear h891
        refine g_sld X hX hbl ex892 dL_law_1567 ?_
        clear ex892
        refine g_aload_n (j := 0) (r := some b) X dL_law_1568 rfl rfl ?_
        refine g_iload (j := 4) X dL_law_1569 rfl ?_
        refine g_iconst X dL_law_1571 (v := 3) (by decide) ?_
        refine g_iadd X dL_law_1572 ?_
        obtain ⟨x894, ex894, h895⟩ := g_bd h893; clear h893
        refine g_sld X hX hbl ex894 dL_law_1573 ?_
        clear ex894
        refine g_aload_n (j := 3) X dL_law_1574 rfl rfl ?_
        obtain ⟨g896, h897⟩ := g_gd h895; clear h895
        obtain ⟨x900, S898, eS898, h899⟩ := g_bi h897; clear h897
        refine g_cSW (n := 5) (As := [va_rf v1, .int x890, .int x892, .int x894, va_rf v3]) X (c_L_has hl D eS898) tw621 tw622 tw43 tw623 (by decide +kernel) rfl rfl ⟨Nat.le_of_ble_eq_true rfl, Nat.le_of_ble_eq_true rfl⟩ rfl rfl (Nat.le_of_ble_eq_true rfl) dL_law_1575 ⟨g896.1, g896.2⟩ ?_
        clear eS898
        refine g_istore (i := 5) (lv' := [(5, .int x900), (0, .ref b), (1, va_rf v1), (2, va_rf v2), (3, va_rf v3), (4, .int v4)]) X dL_law_1578 (by decide) rfl ?_
        refine g_aload_n (j := 3) X dL_law_1580 rfl rfl ?_
        refine g_aload_n (j := 1) (r := some b) X dL_law_1581 rfl rfl ?_
        refine g_iload (j := 5) X dL_law_1582 rfl ?_
        refine g_iconst X dL_law_1584 (v := 1) (by decide) ?_
        refine g_iadd X dL_law_1585 ?_
        obtain ⟨x901, ex901, h902⟩ := g_bd h899; clear h899
        refine g_sld X hX hbl ex901 dL_law_1586 ?_
        clear ex901
        refine g_aload_n (j := 1) (r := some b) X dL_law_1587 rfl rfl ?_
        refine g_iload (j := 5) X dL_law_1588 rfl ?_
        refine g_iconst X dL_law_1590 (v := 2) (by decide) ?_
        refine g_iadd X dL_law_1591 ?_
        obtain ⟨x903, ex903, h904⟩ := g_bd h902; clear h902
        refine g_sld X hX hbl ex903 dL_law_1592 ?_
        clear ex903
        refine g_aload_n (j := 1) (r := some b) X dL_law_1593 rfl rfl ?_
        refine g_iload (j := 5) X dL_law_1594 rfl ?_
        refine g_iconst X dL_law_1596 (v := 3) (by decide) ?_
        refine g_iadd X dL_law_1597 ?_
        obtain ⟨x905, ex905, h906⟩ := g_bd h904; clear h904
        refine g_sld X hX hbl ex905 dL_law_1598 ?_
        clear ex905
        obtain ⟨a907, ea907, ka907, h908⟩ := g_dc h906; clear h906
        obtain ⟨x911, S909, eS909, h910⟩ := g_bi h908; clear h908
        refine g_cV (n := 3) (As := [.int x901, .int x903, .int x905]) X (c_X8_has hl D eS909) tw974 tw975 tw976 tw51 tw977 (by decide +kernel) rfl rfl ⟨Nat.le_of_ble_eq_true rfl, Nat.le_of_ble_eq_true rfl⟩ (ci := 8) rfl (by decide) ea907 ka907 rfl rfl (Nat.le_of_ble_eq_true rfl) dL_law_1599 ⟨g896.1, g896.2⟩ ?_
        clear eS909 ea907 ka907
        refine g_istore (i := 6) (lv' := [(6, .int x911), (5, .int x900), (0, .ref b), (1, va_rf v1), (2, va_rf v2), (3, va_rf v3), (4, .int v4)]) X dL_law_1602 (by decide) rfl ?_
        refine g_aload_n (j := 4) X dL_law_1604 rfl rfl ?_
        obtain ⟨a912, ea912, ka912, h913⟩ := g_dc h910; clear h910
        obtain ⟨x916, S914, eS914, h915⟩ := g_bi h913; clear h913
        refine g_cV (n := 0) (As := []) X (c_X8_thrown hl D eS914) tw753 tw754 tw755 tw51 tw756 (by decide +kernel) rfl rfl ⟨Nat.le_of_ble_eq_true rfl, Nat.le_of_ble_eq_true rfl⟩ (ci := 8) rfl (by decide) ea912 ka912 rfl rfl (Nat.le_of_ble_eq_true rfl) dL_law_1605 ⟨g896.1, g896.2⟩ ?_
        clear eS914 ea912 ka912
        refine g_iload (j := 1) X dL_law_1608 rfl ?_
        refine g_icmp_eq (tgt := 1615) X dL_law_1610 (by decide) (fun c917 => ?_) (fun c917 => ?_)
        · have h918 := g_ip h915 c917; clear h915
          refine g_iload (j := 1) X dL_law_1615 rfl ?_
          refine g_if_ne (tgt := 1639) X dL_law_1617 (by decide) (fun c920 => ?_) (fun c920 => ?_)
          · have h921 := g_in h918 c920; clear h918
            refine g_goto (tgt := 1642) X dL_law_1639 (by decide) ?_
            obtain ⟨x923, ex923, h924⟩ := g_let h921; clear h921
            refine g_iinc (j := 6) (v := x923) (lv' := [(4, .int x923), (6, .int x911), (5, .int x900), (0, .ref b), (1, va_rf v1), (2, va_rf v2), (3, va_rf v3)]) X dL_law_1642 rfl (by rw [ex923]; rfl) (by decide) (by simp [g_rfc, g_ci, g_cj, g_cr]) ?_
            clear ex923
            refine g_goto (tgt := 23) X dL_law_1645 (by decide) ?_
            refine g_sub [3, 4, 5, 6, 0] rfl ?_
            exact ih S914 (cu + 2) (su + 12) v1 v2 v3 x923 h924
          · have h922 := g_ip h918 c920; clear h918
            refine g_aload_n (j := 5) X dL_law_1620 rfl rfl ?_
            refine g_iconst X dL_law_1621 (v := 0) (by decide) ?_
            obtain ⟨x925, ex925, h926⟩ := g_bd h922; clear h922
            refine g_lald X ex925 dL_law_1622 ?_
            clear ex925
            refine g_iload (j := 0) X dL_law_1623 rfl ?_
            refine g_if_eq (tgt := 1632) X dL_law_1625 (by decide) (fun c927 => ?_) (fun c927 => ?_)
            · have h928 := g_ip h926 c927; clear h926
              refine g_lconst X dL_law_1632 (v := 0) (by decide) ?_
              refine g_lcmp X dL_law_1633 ?_
              refine g_if_eq (tgt := 1639) X dL_law_1634 (by decide) (fun c930 => ?_) (fun c930 => ?_)
              · have h931 := g_ip h928 c930; clear h928
                refine g_goto (tgt := 1642) X dL_law_1639 (by decide) ?_
                obtain ⟨x933, ex933, h934⟩ := g_let h931; clear h931
                refine g_iinc (j := 6) (v := x933) (lv' := [(4, .int x933), (6, .int x911), (5, .int x900), (0, .ref b), (1, va_rf v1), (2, va_rf v2), (3, va_rf v3)]) X dL_law_1642 rfl (by rw [ex933]; rfl) (by decide) (by simp [g_rfc, g_ci, g_cj, g_cr]) ?_
                clear ex933
                refine g_goto (tgt := 23) X dL_law_1645 (by decide) ?_
                refine g_sub [3, 4, 5, 6, 0] rfl ?_
                exact ih S914 (cu + 2) (su + 12) v1 v2 v3 x933 h934
              · have h932 := g_in h928 c930; clear h928
                refine g_iconst X dL_law_1637 (v := 0) (by decide) ?_
                cases h932
            · have h929 := g_in h926 c927; clear h926
              refine g_lconst X dL_law_1628 (v := 1) (by decide) ?_
              refine g_goto (tgt := 1633) X dL_law_1629 (by decide) ?_
              refine g_lcmp X dL_law_1633 ?_
              refine g_if_eq (tgt := 1639) X dL_law_1634 (by decide) (fun c935 => ?_) (fun c935 => ?_)
              · have h936 := g_ip h929 c935; clear h929
                refine g_goto (tgt := 1642) X dL_law_1639 (by decide) ?_
                obtain ⟨x938, ex938, h939⟩ := g_let h936; clear h936
                refine g_iinc (j := 6) (v := x938) (lv' := [(4, .int x938), (6, .int x911), (5, .int x900), (0, .ref b), (1, va_rf v1), (2, va_rf v2), (3, va_rf v3)]) X dL_law_1642 rfl (by rw [ex938]; rfl) (by decide) (by simp [g_rfc, g_ci, g_cj, g_cr]) ?_
                clear ex938
                refine g_goto (tgt := 23) X dL_law_1645 (by decide) ?_
                refine g_sub [3, 4, 5, 6, 0] rfl ?_
                exact ih S914 (cu + 2) (su + 12) v1 v2 v3 x938 h939
              · have h937 := g_in h929 c935; clear h929
                refine g_iconst X dL_law_1637 (v := 0) (by decide) ?_
                cases h937
        · have h919 := g_in h915 c917; clear h915
          refine g_iconst X dL_law_1613 (v := 0) (by decide) ?_
          cases h919
      have h889 := g_in h844 c887; clear h844
      obtain ⟨c943, h940⟩ := g_if h889; clear h889
      refine g_tableOut (tgt := 1642) X dL_law_40 c943 (by decide) ?_
      obtain ⟨x941, ex941, h942⟩ := g_let h940; clear h940
      refine g_iinc (j := 4) (v := x941) (lv' := [(4, .int x941), (0, .ref b), (1, va_rf v1), (2, va_rf v2), (3, va_rf v3)]) X dL_law_1642 rfl (by rw [ex941]; rfl) (by decide) (by simp [g_rfc, g_ci, g_cj, g_cr]) ?_
      clear ex941
      refine g_goto (tgt := 23) X dL_law_1645 (by decide) ?_
      refine g_sub [1, 2, 3, 4, 0] rfl ?_
      exact ih S0 cu su v1 v2 v3 x941 h942
def f_L_law (gw : Int32 → Int32 → Nat → Nat) (gp : Int32 → Int32 → Nat) (gq : Int32 → Int32 → Nat → Nat) (L : Nat) (xs : Nat → Int32) (S0 : gS)  : Option gS :=
  gGd (1 ≤ room_1.cells ∧ 6 ≤ room_1.slots) <|
  gLet (gZ S0) fun z3 =>
  gLet (gnw S0 7 6) fun S4 =>
  gGd (61 ≤ room_1.cells ∧ 12006 ≤ room_1.slots) <|
  (f_X7_init S4 z3).bind fun S9 =>
  gGd (62 ≤ room_1.cells ∧ 12031 ≤ room_1.slots) <|
  gLet (gZ S9) fun z13 =>
  gLet (gnw S9 8 25) fun S14 =>
  gGd (81 ≤ room_1.cells ∧ 74931 ≤ room_1.slots) <|
  (f_X8_init S14 z13).bind fun S19 =>
  (fnA 1 1).bind fun k21 =>
  gGd (82 ≤ room_1.cells ∧ 74932 ≤ room_1.slots) <|
  gLet (gZ S19) fun z27 =>
  gLet (gnw S19 11 k21) fun S25 =>
  f_L_law_L23 gw gp gq L xs gFuel S25 82 74932 (some z3) (some z13) (some z27) 0
set_option maxRecDepth 100000 in
set_option maxHeartbeats 4000000 in
theorem w_L_law {p : Program} {l : Launch} {e : Env} {s : State} {m : MethodId} {below : List Frame} {meth : Method} {c : Code} {D : gD} {b : Nat} {S9 : gS} {gw : Int32 → Int32 → Nat → Nat} {gp : Int32 → Int32 → Nat} {gq : Int32 → Int32 → Nat → Nat} {L : Nat} {xs : Nat → Int32} (hl : l.stackTraces = false) (X : gX D p l s m #[Value.ref b] meth c cL_law 7 RL) (hr : meth.sig.returnType = ret) (hX : va_X b L xs s (dH D)) (hbl : b < dB D) (hds : dB D = s.heap.size) (S0 : gS) (h0 : f_L_law gw gp gq L xs S0 = some S9) : gJ D p l e room_1 s m #[Value.ref b] below meth c (lw_Z below #[Value.ref b] s) 7 0 0 S0 0 [(0, .ref b)] [] := by
  unfold f_L_law at h0
  obtain ⟨g1, h2⟩ := g_gd h0; clear h0
  refine g_new (ci := 7) X rfl (by decide) il7 tyX7 tyX7_ok (by decide) tw64 tw65 tw44 g1.1 g1.2 dL_law_0 ?_
  obtain ⟨z3, ez3, h6⟩ := g_let h2; clear h2; rw [← ez3]; clear ez3
  obtain ⟨S4, eS4, h5⟩ := g_let h6; clear h6; rw [← eS4]; clear eS4
  refine g_dup X dL_law_3 (g_rfc _) ?_
  obtain ⟨g7, h8⟩ := g_gd h5; clear h5
  obtain ⟨S9, eS9, h10⟩ := g_bd h8; clear h8
  refine g_cI (n := 0) (As := []) X (c_X7_init hl D eS9) tw66 tw67 tw44 tw68 rfl (by decide +kernel) rfl rfl ⟨Nat.le_of_ble_eq_true rfl, Nat.le_of_ble_eq_true rfl⟩ rfl rfl rfl (Nat.le_of_ble_eq_true rfl) dL_law_4 ⟨g7.1, g7.2⟩ ?_
  clear eS9
  refine g_astore_n (i := 1) (lv' := [(1, va_rf (some z3)), (0, .ref b)]) X dL_law_7 rfl (by decide) rfl ?_
  obtain ⟨g11, h12⟩ := g_gd h10; clear h10
  refine g_new (ci := 8) X rfl (by decide) il8 tyX8 tyX8_ok (by decide) tw632 tw633 tw51 g11.1 g11.2 dL_law_8 ?_
  obtain ⟨z13, ez13, h16⟩ := g_let h12; clear h12; rw [← ez13]; clear ez13
  obtain ⟨S14, eS14, h15⟩ := g_let h16; clear h16; rw [← eS14]; clear eS14
  refine g_dup X dL_law_11 (g_rfc _) ?_
  obtain ⟨g17, h18⟩ := g_gd h15; clear h15
  obtain ⟨S19, eS19, h20⟩ := g_bd h18; clear h18
  refine g_cI (n := 0) (As := []) X (c_X8_init hl D eS19) tw634 tw635 tw51 tw636 rfl (by decide +kernel) rfl rfl ⟨Nat.le_of_ble_eq_true rfl, Nat.le_of_ble_eq_true rfl⟩ rfl rfl rfl (Nat.le_of_ble_eq_true rfl) dL_law_12 ⟨g17.1, g17.2⟩ ?_
  clear eS19
  refine g_astore_n (i := 2) (lv' := [(2, va_rf (some z13)), (1, va_rf (some z3)), (0, .ref b)]) X dL_law_15 rfl (by decide) rfl ?_
  refine g_iconst X dL_law_16 (v := 1) (by decide) ?_
  obtain ⟨k21, ek21, h22⟩ := g_bd h20; clear h20
  obtain ⟨g23, h24⟩ := g_gd h22; clear h22
  refine g_newa11 (cap := 1) X tw172 ek21 (by decide) g23.1 g23.2 dL_law_17 ?_
  refine g_wid (k := 82) (n := 74932) (Nat.le_refl _) (Nat.add_le_add_left (fnA_s ek21).2.2 _) ?_
  clear ek21
  obtain ⟨z27, ez27, h28⟩ := g_let h24; clear h24; rw [← ez27]; clear ez27
  obtain ⟨S25, eS25, h26⟩ := g_let h28; clear h28; rw [← eS25]; clear eS25
  refine g_astore_n (i := 3) (lv' := [(3, va_rf (some z27)), (2, va_rf (some z13)), (1, va_rf (some z3)), (0, .ref b)]) X dL_law_19 rfl (by decide) rfl ?_
  refine g_iconst X dL_law_20 (v := 0) (by decide) ?_
  refine g_istore (i := 4) (lv' := [(4, .int 0), (3, va_rf (some z27)), (2, va_rf (some z13)), (1, va_rf (some z3)), (0, .ref b)]) X dL_law_21 (by decide) rfl ?_
  refine g_sub [4, 3, 2, 1, 0] rfl ?_
  exact w_L_law_L23 hl X hr hX hbl hds gFuel S25 82 74932 (some z3) (some z13) (some z27) 0 h26
