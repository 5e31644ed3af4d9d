def f_L_law_L23 (gw : Int32 → Int32 → Nat → Nat) (gp : Int32 → Int32 → Nat) (gq : Int32 → Int32 → Nat → Nat) (L : Nat) (xs : Nat → Int32) : Nat → gS → Nat → Nat → Option Nat → Option Nat → Option Nat → Int32 → Option gS
  | 0, _, _, _, _, _, _, _ => none
  | k + 1, S0, cu, su, v1, v2, v3, v4 =>
    gGd (cu ≤ room_1.cells ∧ su ≤ room_1.slots) <|
    if ((nI L) - 6) < v4 then
      some S0
    else
      (fX L xs v4).bind fun x22 =>
      gLet (x22 &&& 31) fun x24 =>
      if x24 = 0 then
        (fX L xs (v4 + 1)).bind fun x29 =>
        (fX L xs (v4 + 2)).bind fun x31 =>
        (fX L xs (v4 + 3)).bind fun x33 =>
        (fX L xs (v4 + 4)).bind fun x35 =>
        (fX L xs (v4 + 5)).bind fun x37 =>
        gDc S0 7 v1 fun a39 =>
        gBi (f_X7_feed S0 a39 x29 x31 x33 x35 x37) fun x43 S41 =>
        (fX L xs (v4 + 1)).bind fun x44 =>
        (fX L xs (v4 + 2)).bind fun x46 =>
        (fX L xs (v4 + 3)).bind fun x48 =>
        (fX L xs (v4 + 4)).bind fun x50 =>
        (fX L xs (v4 + 5)).bind fun x52 =>
        gDc S41 8 v2 fun a54 =>
        gBi (f_X8_feed S41 a54 x44 x46 x48 x50 x52) fun x58 S56 =>
        if x43 = x58 then
          gLet (v4 + 6) fun x62 =>
          f_L_law_L23 gw gp gq L xs k S56 cu su v1 v2 v3 x62
        else
          none
      else
      if x24 = 1 then
        (fX L xs (v4 + 1)).bind fun x67 =>
        gDc S0 7 v1 fun a69 =>
        gBi (f_X7_end S0 a69 x67) fun x73 S71 =>
        (fX L xs (v4 + 1)).bind fun x74 =>
        gDc S71 8 v2 fun a76 =>
        gBi (f_X8_end S71 a76 x74) fun x80 S78 =>
        if x73 = x80 then
          gLet (v4 + 6) fun x84 =>
          f_L_law_L23 gw gp gq L xs k S78 cu su v1 v2 v3 x84
        else
          none
      else
      if x24 = 2 then
        gDc S0 7 v1 fun a89 =>
        gBi (f_X7_again S0 a89) fun x93 S91 =>
        gDc S91 8 v2 fun a94 =>
        gBi (f_X8_again S91 a94) fun x98 S96 =>
        if x93 = x98 then
          gLet (v4 + 6) fun x102 =>
          f_L_law_L23 gw gp gq L xs k S96 cu su v1 v2 v3 x102
        else
          none
      else
      if x24 = 3 then
        (fX L xs (v4 + 1)).bind fun x107 =>
        gDc S0 7 v1 fun a109 =>
        gBi (f_X7_out S0 a109 x107) fun x113 S111 =>
        (fX L xs (v4 + 1)).bind fun x114 =>
        gDc S111 8 v2 fun a116 =>
        gBi (f_X8_out S111 a116 x114) fun x120 S118 =>
        if x113 = x120 then
          gLet (v4 + 6) fun x124 =>
          f_L_law_L23 gw gp gq L xs k S118 cu su v1 v2 v3 x124
        else
          none
      else
      if x24 = 4 then
        gDc S0 7 v1 fun a129 =>
        gBi (f_X7_outs S0 a129) fun x133 S131 =>
        gDc S131 8 v2 fun a134 =>
        gBi (f_X8_outs S131 a134) fun x138 S136 =>
        if x133 = x138 then
          gLet (v4 + 6) fun x142 =>
          f_L_law_L23 gw gp gq L xs k S136 cu su v1 v2 v3 x142
        else
          none
      else
      if x24 = 5 then
        (fX L xs (v4 + 1)).bind fun x147 =>
        gGd (cu + 2 ≤ room_1.cells ∧ su + 12 ≤ room_1.slots) <|
        gBi (f_L_key S0 v1 x147 v3) fun x153 S151 =>
        (fX L xs (v4 + 1)).bind fun x154 =>
        gDc S151 8 v2 fun a156 =>
        gBi (f_X8_key S151 a156 x154) fun x160 S158 =>
        gDc S158 8 v2 fun a161 =>
        gBi (f_X8_thrown S158 a161) fun x165 S163 =>
        if x165 = x153 then
          if x153 = 0 then
            (fL S163 v3 0).bind fun x174 =>
            if (lg_cmp x174 x160.toInt64) = 0 then
              gLet (v4 + 6) fun x179 =>
              f_L_law_L23 gw gp gq L xs k S163 (cu + 2) (su + 12) v1 v2 v3 x179
            else
              none
          else
            gLet (v4 + 6) fun x172 =>
            f_L_law_L23 gw gp gq L xs k S163 (cu + 2) (su + 12) v1 v2 v3 x172
        else
          none
      else
      if x24 = 6 then
        (fX L xs (v4 + 1)).bind fun x184 =>
        gGd (cu + 21 ≤ room_1.cells ∧ su + 1216 ≤ room_1.slots) <|
        gBi (f_L_submit S0 v1 x184 v3) fun x190 S188 =>
        (fX L xs (v4 + 1)).bind fun x191 =>
        gDc S188 8 v2 fun a193 =>
        gBi (f_X8_submit S188 a193 x191) fun x197 S195 =>
        gDc S195 8 v2 fun a198 =>
        gBi (f_X8_thrown S195 a198) fun x202 S200 =>
        if x202 = x190 then
          if x190 = 0 then
            (fL S200 v3 0).bind fun x211 =>
            if (lg_cmp x211 x197.toInt64) = 0 then
              gLet (v4 + 6) fun x216 =>
              f_L_law_L23 gw gp gq L xs k S200 (cu + 21) (su + 1216) v1 v2 v3 x216
            else
              none
          else
            gLet (v4 + 6) fun x209 =>
            f_L_law_L23 gw gp gq L xs k S200 (cu + 21) (su + 1216) v1 v2 v3 x209
        else
          none
      else
      if x24 = 7 then
        (fX L xs (v4 + 1)).bind fun x221 =>
        (fX L xs (v4 + 2)).bind fun x223 =>
        (fX L xs (v4 + 3)).bind fun x225 =>
        gGd (cu + 3 ≤ room_1.cells ∧ su + 127 ≤ room_1.slots) <|
        gBi (f_L_cut S0 v1 x221 ((x223.toInt64 <<< ((32 : Int32).toInt64 &&& 63)) ||| (x225.toInt64 &&& 4294967295)) v3) fun x231 S229 =>
        (fX L xs (v4 + 1)).bind fun x232 =>
        (fX L xs (v4 + 2)).bind fun x234 =>
        (fX L xs (v4 + 3)).bind fun x236 =>
        gDc S229 8 v2 fun a238 =>
        gGd (cu + 3 + 410 ≤ room_1.cells ∧ su + 127 + 3280 ≤ room_1.slots) <|
        gBi (f_X8_cut S229 a238 x232 ((x234.toInt64 <<< ((32 : Int32).toInt64 &&& 63)) ||| (x236.toInt64 &&& 4294967295))) fun x244 S242 =>
        gDc S242 8 v2 fun a245 =>
        gBi (f_X8_thrown S242 a245) fun x249 S247 =>
        if x249 = x231 then
          if x231 = 0 then
            (fL S247 v3 0).bind fun x258 =>
            if (lg_cmp x258 x244.toInt64) = 0 then
              gLet (v4 + 6) fun x263 =>
              f_L_law_L23 gw gp gq L xs k S247 (cu + 3 + 410) (su + 127 + 3280) v1 v2 v3 x263
            else
              none
          else
            gLet (v4 + 6) fun x256 =>
            f_L_law_L23 gw gp gq L xs k S247 (cu + 3 + 410) (su + 127 + 3280) v1 v2 v3 x256
        else
          none
      else
      if x24 = 8 then
        (fX L xs (v4 + 1)).bind fun x268 =>
        (fX L xs (v4 + 2)).bind fun x270 =>
        gGd (cu + 2 ≤ room_1.cells ∧ su + 12 ≤ room_1.slots) <|
        gBi (f_L_size S0 v1 x268 x270 v3) fun x276 S274 =>
        (fX L xs (v4 + 1)).bind fun x277 =>
        (fX L xs (v4 + 2)).bind fun x279 =>
        gDc S274 8 v2 fun a281 =>
        gBi (f_X8_size S274 a281 x277 x279) fun x285 S283 =>
        gDc S283 8 v2 fun a286 =>
        gBi (f_X8_thrown S283 a286) fun x290 S288 =>
        if x290 = x276 then
          if x276 = 0 then
            (fL S288 v3 0).bind fun x299 =>
            if (lg_cmp x299 x285.toInt64) = 0 then
              gLet (v4 + 6) fun x304 =>
              f_L_law_L23 gw gp gq L xs k S288 (cu + 2) (su + 12) v1 v2 v3 x304
            else
              none
          else
            gLet (v4 + 6) fun x297 =>
            f_L_law_L23 gw gp gq L xs k S288 (cu + 2) (su + 12) v1 v2 v3 x297
        else
          none
      else
      if x24 = 9 then
        (fX L xs (v4 + 1)).bind fun x309 =>
        (fX L xs (v4 + 2)).bind fun x311 =>
        gGd (cu + 2 ≤ room_1.cells ∧ su + 12 ≤ room_1.slots) <|
        gBi (f_L_head S0 v1 x309 x311 v3) fun x317 S315 =>
        (fX L xs (v4 + 1)).bind fun x318 =>
        (fX L xs (v4 + 2)).bind fun x320 =>
        gDc S315 8 v2 fun a322 =>
        gBi (f_X8_head S315 a322 x318 x320) fun x326 S324 =>
        gDc S324 8 v2 fun a327 =>
        gBi (f_X8_thrown S324 a327) fun x331 S329 =>
        if x331 = x317 then
          if x317 = 0 then
            (fL S329 v3 0).bind fun x340 =>
            if (lg_cmp x340 x326.toInt64) = 0 then
              gLet (v4 + 6) fun x345 =>
              f_L_law_L23 gw gp gq L xs k S329 (cu + 2) (su + 12) v1 v2 v3 x345
            else
              none
          else
            gLet (v4 + 6) fun x338 =>
            f_L_law_L23 gw gp gq L xs k S329 (cu + 2) (su + 12) v1 v2 v3 x338
        else
          none
      else
      if x24 = 10 then
        (fX L xs (v4 + 1)).bind fun x350 =>
        (fX L xs (v4 + 2)).bind fun x352 =>
        gGd (cu + 2 ≤ room_1.cells ∧ su + 12 ≤ room_1.slots) <|
        gBi (f_L_entry S0 v1 x350 x352 v3) fun x358 S356 =>
        (fX L xs (v4 + 1)).bind fun x359 =>
        (fX L xs (v4 + 2)).bind fun x361 =>
        gDc S356 8 v2 fun a363 =>
        gBi (f_X8_entry S356 a363 x359 x361) fun x367 S365 =>
        gDc S365 8 v2 fun a368 =>
        gBi (f_X8_thrown S365 a368) fun x372 S370 =>
        if x372 = x358 then
          if x358 = 0 then
            (fL S370 v3 0).bind fun x381 =>
            if (lg_cmp x381 x367.toInt64) = 0 then
              gLet (v4 + 6) fun x386 =>
              f_L_law_L23 gw gp gq L xs k S370 (cu + 2) (su + 12) v1 v2 v3 x386
            else
              none
          else
            gLet (v4 + 6) fun x379 =>
            f_L_law_L23 gw gp gq L xs k S370 (cu + 2) (su + 12) v1 v2 v3 x379
        else
          none
      else
      if x24 = 11 then
        (fX L xs (v4 + 1)).bind fun x391 =>
        (fX L xs (v4 + 2)).bind fun x393 =>
        gGd (cu + 2 ≤ room_1.cells ∧ su + 12 ≤ room_1.slots) <|
        gBi (f_L_leaf S0 v1 x391 x393 v3) fun x399 S397 =>
        (fX L xs (v4 + 1)).bind fun x400 =>
        (fX L xs (v4 + 2)).bind fun x402 =>
        gDc S397 8 v2 fun a404 =>
        gGd (cu + 2 + 1 ≤ room_1.cells ∧ su + 12 + 8 ≤ room_1.slots) <|
        gBi (f_X8_leaf S397 a404 x400 x402) fun x410 S408 =>
        gDc S408 8 v2 fun a411 =>
        gBi (f_X8_thrown S408 a411) fun x415 S413 =>
        if x415 = x399 then
          if x399 = 0 then
            (fL S413 v3 0).bind fun x424 =>
            if x410 = 0 then
              if (lg_cmp x424 0) = 0 then
                gLet (v4 + 6) fun x432 =>
                f_L_law_L23 gw gp gq L xs k S413 (cu + 2 + 1) (su + 12 + 8) v1 v2 v3 x432
              else
                none
            else
              if (lg_cmp x424 1) = 0 then
                gLet (v4 + 6) fun x437 =>
                f_L_law_L23 gw gp gq L xs k S413 (cu + 2 + 1) (su + 12 + 8) v1 v2 v3 x437
              else
                none
          else
            gLet (v4 + 6) fun x422 =>
            f_L_law_L23 gw gp gq L xs k S413 (cu + 2 + 1) (su + 12 + 8) v1 v2 v3 x422
        else
          none
      else
      if x24 = 12 then
        (fX L xs (v4 + 1)).bind fun x442 =>
        gGd (cu + 2 ≤ room_1.cells ∧ su + 12 ≤ room_1.slots) <|
        gBi (f_L_find S0 v1 x442 v3) fun x448 S446 =>
        (fX L xs (v4 + 1)).bind fun x449 =>
        gDc S446 8 v2 fun a451 =>
        gGd (cu + 2 + 200 ≤ room_1.cells ∧ su + 12 + 1600 ≤ room_1.slots) <|
        gBi (f_X8_find S446 a451 x449) fun x457 S455 =>
        gDc S455 8 v2 fun a458 =>
        gBi (f_X8_thrown S455 a458) fun x462 S460 =>
        if x462 = x448 then
          if x448 = 0 then
            (fL S460 v3 0).bind fun x471 =>
            if (lg_cmp x471 x457.toInt64) = 0 then
              gLet (v4 + 6) fun x476 =>
              f_L_law_L23 gw gp gq L xs k S460 (cu + 2 + 200) (su + 12 + 1600) v1 v2 v3 x476
            else
              none
          else
            gLet (v4 + 6) fun x469 =>
            f_L_law_L23 gw gp gq L xs k S460 (cu + 2 + 200) (su + 12 + 1600) v1 v2 v3 x469
        else
          none
      else
      if x24 = 13 then
        (fX L xs (v4 + 1)).bind fun x481 =>
        (fX L xs (v4 + 2)).bind fun x483 =>
        gGd (cu + 2 ≤ room_1.cells ∧ su + 12 ≤ room_1.slots) <|
        gBi (f_L_root S0 v1 x481 x483 v3) fun x489 S487 =>
        (fX L xs (v4 + 1)).bind fun x490 =>
        (fX L xs (v4 + 2)).bind fun x492 =>
        gDc S487 8 v2 fun a494 =>
        gGd (cu + 2 + 400 ≤ room_1.cells ∧ su + 12 + 3200 ≤ room_1.slots) <|
        gBi (f_X8_root_ S487 a494 x490 x492) fun x500 S498 =>
        gDc S498 8 v2 fun a501 =>
        gBi (f_X8_thrown S498 a501) fun x505 S503 =>
        if x505 = x489 then
          if x489 = 0 then
            (fL S503 v3 0).bind fun x514 =>
            if x500 = 0 then
              if (lg_cmp x514 0) = 0 then
                gLet (v4 + 6) fun x522 =>
                f_L_law_L23 gw gp gq L xs k S503 (cu + 2 + 400) (su + 12 + 3200) v1 v2 v3 x522
              else
                none
            else
              if (lg_cmp x514 1) = 0 then
                gLet (v4 + 6) fun x527 =>
                f_L_law_L23 gw gp gq L xs k S503 (cu + 2 + 400) (su + 12 + 3200) v1 v2 v3 x527
              else
                none
          else
            gLet (v4 + 6) fun x512 =>
            f_L_law_L23 gw gp gq L xs k S503 (cu + 2 + 400) (su + 12 + 3200) v1 v2 v3 x512
        else
          none
      else
      if x24 = 14 then
        (fX L xs (v4 + 1)).bind fun x532 =>
        (fX L xs (v4 + 2)).bind fun x534 =>
        (fX L xs (v4 + 3)).bind fun x536 =>
        gGd (cu + 2 ≤ room_1.cells ∧ su + 12 ≤ room_1.slots) <|
        gBi (f_L_way S0 v1 x532 x534 x536 v3) fun x542 S540 =>
        (fX L xs (v4 + 1)).bind fun x543 =>
        (fX L xs (v4 + 2)).bind fun x545 =>
        (fX L xs (v4 + 3)).bind fun x547 =>
        gDc S540 8 v2 fun a549 =>
        gGd (cu + 2 + 1000 ≤ room_1.cells ∧ su + 12 + 8000 ≤ room_1.slots) <|
        gBi (f_X8_way (gw x545 x547) S540 a549 x543 x545 x547) fun x555 S553 =>
        gDc S553 8 v2 fun a556 =>
        gBi (f_X8_thrown S553 a556) fun x560 S558 =>
        if x560 = x542 then
          if x542 = 0 then
            (fL S558 v3 0).bind fun x569 =>
            if (lg_cmp x569 x555.toInt64) = 0 then
              gLet (v4 + 6) fun x574 =>
              f_L_law_L23 gw gp gq L xs k S558 (cu + 2 + 1000) (su + 12 + 8000) v1 v2 v3 x574
            else
              none
          else
            gLet (v4 + 6) fun x567 =>
            f_L_law_L23 gw gp gq L xs k S558 (cu + 2 + 1000) (su + 12 + 8000) v1 v2 v3 x567
        else
          none
      else
      if x24 = 15 then
        (fX L xs (v4 + 1)).bind fun x579 =>
        (fX L xs (v4 + 2)).bind fun x581 =>
        (fX L xs (v4 + 3)).bind fun x583 =>
        gGd (cu + 2 ≤ room_1.cells ∧ su + 12 ≤ room_1.slots) <|
        gBi (f_L_proof S0 v1 x579 x581 x583 v3) fun x589 S587 =>
        (fX L xs (v4 + 1)).bind fun x590 =>
        (fX L xs (v4 + 2)).bind fun x592 =>
        (fX L xs (v4 + 3)).bind fun x594 =>
        gDc S587 8 v2 fun a596 =>
        gGd (cu + 2 + 1000 ≤ room_1.cells ∧ su + 12 + 8000 ≤ room_1.slots) <|
        gBi (f_X8_proof (gp x592 x594) (gq x592 x594) S587 a596 x590 x592 x594) fun x602 S600 =>
        gDc S600 8 v2 fun a603 =>
        gBi (f_X8_thrown S600 a603) fun x607 S605 =>
        if x607 = x589 then
          if x589 = 0 then
            (fL S605 v3 0).bind fun x616 =>
            if (lg_cmp x616 x602.toInt64) = 0 then
              gLet (v4 + 6) fun x621 =>
              f_L_law_L23 gw gp gq L xs k S605 (cu + 2 + 1000) (su + 12 + 8000) v1 v2 v3 x621
            else
              none
          else
            gLet (v4 + 6) fun x614 =>
            f_L_law_L23 gw gp gq L xs k S605 (cu + 2 + 1000) (su + 12 + 8000) v1 v2 v3 x614
        else
          none
      else
      if x24 = 16 then
        (fX L xs (v4 + 1)).bind fun x626 =>
        (fX L xs (v4 + 2)).bind fun x628 =>
        (fX L xs (v4 + 3)).bind fun x630 =>
        (fX L xs (v4 + 4)).bind fun x632 =>
        gDc S0 7 v1 fun a634 =>
        gBi (f_X7_isIn S0 a634 ((x626.toInt64 <<< ((32 : Int32).toInt64 &&& 63)) ||| (x628.toInt64 &&& 4294967295)) ((x630.toInt64 <<< ((32 : Int32).toInt64 &&& 63)) ||| (x632.toInt64 &&& 4294967295))) fun x638 S636 =>
        (fX L xs (v4 + 1)).bind fun x639 =>
        (fX L xs (v4 + 2)).bind fun x641 =>
        (fX L xs (v4 + 3)).bind fun x643 =>
        (fX L xs (v4 + 4)).bind fun x645 =>
        gDc S636 8 v2 fun a647 =>
        gGd (cu + 70 ≤ room_1.cells ∧ su + 560 ≤ room_1.slots) <|
        gBi (f_X8_isIn S636 a647 ((x639.toInt64 <<< ((32 : Int32).toInt64 &&& 63)) ||| (x641.toInt64 &&& 4294967295)) ((x643.toInt64 <<< ((32 : Int32).toInt64 &&& 63)) ||| (x645.toInt64 &&& 4294967295))) fun x653 S651 =>
        if x638 = x653 then
          gLet (v4 + 6) fun x657 =>
          f_L_law_L23 gw gp gq L xs k S651 (cu + 70) (su + 560) v1 v2 v3 x657
        else
          none
      else
      if x24 = 17 then
        (fX L xs (v4 + 1)).bind fun x662 =>
        (fX L xs (v4 + 2)).bind fun x664 =>
        (fX L xs (v4 + 3)).bind fun x666 =>
        (fX L xs (v4 + 4)).bind fun x668 =>
        gDc S0 7 v1 fun a670 =>
        gBi (f_X7_isOn S0 a670 ((x662.toInt64 <<< ((32 : Int32).toInt64 &&& 63)) ||| (x664.toInt64 &&& 4294967295)) ((x666.toInt64 <<< ((32 : Int32).toInt64 &&& 63)) ||| (x668.toInt64 &&& 4294967295))) fun x674 S672 =>
        (fX L xs (v4 + 1)).bind fun x675 =>
        (fX L xs (v4 + 2)).bind fun x677 =>
        (fX L xs (v4 + 3)).bind fun x679 =>
        (fX L xs (v4 + 4)).bind fun x681 =>
        gDc S672 8 v2 fun a683 =>
        gGd (cu + 140 ≤ room_1.cells ∧ su + 1120 ≤ room_1.slots) <|
        gBi (f_X8_isOn S672 a683 ((x675.toInt64 <<< ((32 : Int32).toInt64 &&& 63)) ||| (x677.toInt64 &&& 4294967295)) ((x679.toInt64 <<< ((32 : Int32).toInt64 &&& 63)) ||| (x681.toInt64 &&& 4294967295))) fun x689 S687 =>
        if x674 = x689 then
          gLet (v4 + 6) fun x693 =>
          f_L_law_L23 gw gp gq L xs k S687 (cu + 140) (su + 1120) v1 v2 v3 x693
        else
          none
      else
      if x24 = 18 then
        (fX L xs (v4 + 1)).bind fun x698 =>
        gGd (cu + 2 ≤ room_1.cells ∧ su + 12 ≤ room_1.slots) <|
        gBi (f_L_isSealed S0 v1 x698 v3) fun x704 S702 =>
        (fX L xs (v4 + 1)).bind fun x705 =>
        gDc S702 8 v2 fun a707 =>
        gGd (cu + 2 + 3 ≤ room_1.cells ∧ su + 12 + 24 ≤ room_1.slots) <|
        gBi (f_X8_isSealed S702 a707 x705) fun x713 S711 =>
        gDc S711 8 v2 fun a714 =>
        gBi (f_X8_thrown S711 a714) fun x718 S716 =>
        if x718 = x704 then
          if x704 = 0 then
            (fL S716 v3 0).bind fun x727 =>
            if x713 = 0 then
              if (lg_cmp x727 0) = 0 then
                gLet (v4 + 6) fun x735 =>
                f_L_law_L23 gw gp gq L xs k S716 (cu + 2 + 3) (su + 12 + 24) v1 v2 v3 x735
              else
                none
            else
              if (lg_cmp x727 1) = 0 then
                gLet (v4 + 6) fun x740 =>
                f_L_law_L23 gw gp gq L xs k S716 (cu + 2 + 3) (su + 12 + 24) v1 v2 v3 x740
              else
                none
          else
            gLet (v4 + 6) fun x725 =>
            f_L_law_L23 gw gp gq L xs k S716 (cu + 2 + 3) (su + 12 + 24) v1 v2 v3 x725
        else
          none
      else
      if x24 = 19 then
        (fX L xs (v4 + 1)).bind fun x745 =>
        gGd (cu + 2 ≤ room_1.cells ∧ su + 12 ≤ room_1.slots) <|
        gBi (f_L_seal S0 v1 x745 v3) fun x751 S749 =>
        (fX L xs (v4 + 1)).bind fun x752 =>
        gDc S749 8 v2 fun a754 =>
        gGd (cu + 2 + 3 ≤ room_1.cells ∧ su + 12 + 24 ≤ room_1.slots) <|
        gBi (f_X8_seal S749 a754 x752) fun x760 S758 =>
        gDc S758 8 v2 fun a761 =>
        gBi (f_X8_thrown S758 a761) fun x765 S763 =>
        if x765 = x751 then
          if x751 = 0 then
            (fL S763 v3 0).bind fun x774 =>
            if x760 = 0 then
              if (lg_cmp x774 0) = 0 then
                gLet (v4 + 6) fun x782 =>
                f_L_law_L23 gw gp gq L xs k S763 (cu + 2 + 3) (su + 12 + 24) v1 v2 v3 x782
              else
                none
            else
              if (lg_cmp x774 1) = 0 then
                gLet (v4 + 6) fun x787 =>
                f_L_law_L23 gw gp gq L xs k S763 (cu + 2 + 3) (su + 12 + 24) v1 v2 v3 x787
              else
                none
          else
            gLet (v4 + 6) fun x772 =>
            f_L_law_L23 gw gp gq L xs k S763 (cu + 2 + 3) (su + 12 + 24) v1 v2 v3 x772
        else
          none
      else
      if x24 = 20 then
        (fX L xs (v4 + 1)).bind fun x792 =>
        (fX L xs (v4 + 2)).bind fun x794 =>
        gGd (cu + 6 ≤ room_1.cells ∧ su + 254 ≤ room_1.slots) <|
        gBi (f_L_follow S0 v1 x792 x794 v3) fun x800 S798 =>
        (fX L xs (v4 + 1)).bind fun x801 =>
        (fX L xs (v4 + 2)).bind fun x803 =>
        gDc S798 8 v2 fun a805 =>
        gGd (cu + 6 + 143 ≤ room_1.cells ∧ su + 254 + 1144 ≤ room_1.slots) <|
        gBi (f_X8_follow S798 a805 x801 x803) fun x811 S809 =>
        gDc S809 8 v2 fun a812 =>
        gBi (f_X8_thrown S809 a812) fun x816 S814 =>
        if x816 = x800 then
          if x800 = 0 then
            (fL S814 v3 0).bind fun x825 =>
            if (lg_cmp x825 x811.toInt64) = 0 then
              gLet (v4 + 6) fun x830 =>
              f_L_law_L23 gw gp gq L xs k S814 (cu + 6 + 143) (su + 254 + 1144) v1 v2 v3 x830
            else
              none
          else
            gLet (v4 + 6) fun x823 =>
            f_L_law_L23 gw gp gq L xs k S814 (cu + 6 + 143) (su + 254 + 1144) v1 v2 v3 x823
        else
          none
      else
      if x24 = 21 then
        (fX L xs (v4 + 1)).bind fun x835 =>
        (fX L xs (v4 + 2)).bind fun x837 =>
        (fX L xs (v4 + 3)).bind fun x839 =>
        gGd (cu + 2 ≤ room_1.cells ∧ su + 12 ≤ room_1.slots) <|
        gBi (f_L_gossip S0 v1 x835 x837 x839 v3) fun x845 S843 =>
        (fX L xs (v4 + 1)).bind fun x846 =>
        (fX L xs (v4 + 2)).bind fun x848 =>
        (fX L xs (v4 + 3)).bind fun x850 =>
        gDc S843 8 v2 fun a852 =>
        gBi (f_X8_gossip S843 a852 x846 x848 x850) fun x856 S854 =>
        gDc S854 8 v2 fun a857 =>
        gBi (f_X8_thrown S854 a857) fun x861 S859 =>
        if x861 = x845 then
          if x845 = 0 then
            (fL S859 v3 0).bind fun x870 =>
            if (lg_cmp x870 x856.toInt64) = 0 then
              gLet (v4 + 6) fun x875 =>
              f_L_law_L23 gw gp gq L xs k S859 (cu + 2) (su + 12) v1 v2 v3 x875
            else
              none
          else
            gLet (v4 + 6) fun x868 =>
            f_L_law_L23 gw gp gq L xs k S859 (cu + 2) (su + 12) v1 v2 v3 x868
        else
          none
      else
      if x24 = 22 then
        (fX L xs (v4 + 1)).bind fun x880 =>
        (fX L xs (v4 + 2)).bind fun x882 =>
        (fX L xs (v4 + 3)).bind fun x884 =>
        gGd (cu + 2 ≤ room_1.cells ∧ su + 12 ≤ room_1.slots) <|
        gBi (f_L_has S0 v1 x880 x882 x884 v3) fun x890 S888 =>
        (fX L xs (v4 + 1)).bind fun x891 =>
        (fX L xs (v4 + 2)).bind fun x893 =>
        (fX L xs (v4 + 3)).bind fun x895 =>
        gDc S888 8 v2 fun a897 =>
        gBi (f_X8_has S888 a897 x891 x893 x895) fun x901 S899 =>
        gDc S899 8 v2 fun a902 =>
        gBi (f_X8_thrown S899 a902) fun x906 S904 =>
        if x906 = x890 then
          if x890 = 0 then
            (fL S904 v3 0).bind fun x915 =>
            if x901 = 0 then
              if (lg_cmp x915 0) = 0 then
                gLet (v4 + 6) fun x923 =>
                f_L_law_L23 gw gp gq L xs k S904 (cu + 2) (su + 12) v1 v2 v3 x923
              else
                none
            else
              if (lg_cmp x915 1) = 0 then
                gLet (v4 + 6) fun x928 =>
                f_L_law_L23 gw gp gq L xs k S904 (cu + 2) (su + 12) v1 v2 v3 x928
              else
                none
          else
            gLet (v4 + 6) fun x913 =>
            f_L_law_L23 gw gp gq L xs k S904 (cu + 2) (su + 12) v1 v2 v3 x913
        else
          none
      else
      if x24.toInt < 0 ∨ 22 < x24.toInt then
        gLet (v4 + 6) fun x931 =>
        f_L_law_L23 gw gp gq L xs k S0 cu su v1 v2 v3 x931
      else none
set_option maxRecDepth 100000 in
set_option maxHeartbeats 4000000 in
theorem w_L_law_L23 {p : Program} {l : Launch} {e : Env} {s : State} {m : MethodId} {below : List Frame} {meth : Method} {c : Code} {D : gD} {b : Nat} {S9 : gS} {gw : Int32 → Int32 → Nat → Nat} {gp : Int32 → Int32 → Nat} {gq : Int32 → Int32 → Nat → Nat} {L : Nat} {xs : Nat → Int32} (hl : l.stackTraces = false) (X : gX D p l s m #[Value.ref b] meth c cL_law 7 RL) (hr : meth.sig.returnType = ret) (hX : va_X b L xs s (dH D)) (hbl : b < dB D) (hds : dB D = s.heap.size) : ∀ (k : Nat) (S0 : gS) (cu su : Nat) (v1 : Option Nat) (v2 : Option Nat) (v3 : Option Nat) (v4 : Int32), f_L_law_L23 gw gp gq L xs k S0 cu su v1 v2 v3 v4 = some S9 → gJ D p l e room_1 s m #[Value.ref b] below meth c (lw_Z below #[Value.ref b] s) 7 (cu) (su) S0 23 [(0, .ref b), (1, va_rf v1), (2, va_rf v2), (3, va_rf v3), (4, .int v4)] [] := by
  intro k
  induction k with
  | zero => intro S0 cu su v1 v2 v3 v4 h0; cases h0
  | succ k ih =>
    intro S0 cu su v1 v2 v3 v4 h0
    have h0 := h0
    unfold f_L_law_L23 at h0
    obtain ⟨gu, hu⟩ := g_gd h0; clear h0
    refine g_iload (j := 4) X dL_law_23 rfl ?_
    refine g_aload_n (j := 0) (r := some b) X dL_law_25 rfl rfl ?_
    refine g_slen X hX hbl dL_law_26 ?_
    refine g_bipush X dL_law_27 (v := 6) (by decide) ?_
    refine g_isub X dL_law_29 ?_
    refine g_icmp_gt (tgt := 1648) X dL_law_30 (by decide) (fun c19 => ?_) (fun c19 => ?_)
    · have h20 := g_ip hu c19; clear hu
      refine g_iconst X dL_law_1648 (v := 1) (by decide) ?_
      exact g_lend X hr hds gu.1 gu.2 dL_law_1649
    · have h21 := g_in hu c19; clear hu
      refine g_aload_n (j := 0) (r := some b) X dL_law_33 rfl rfl ?_
      refine g_iload (j := 4) X dL_law_34 rfl ?_
      obtain ⟨x22, ex22, h23⟩ := g_bd h21; clear h21
      refine g_sld X hX hbl ex22 dL_law_36 ?_
      clear ex22
      refine g_bipush X dL_law_37 (v := 31) (by decide) ?_
      refine g_iand X dL_law_39 ?_
      obtain ⟨x24, ex24, h25⟩ := g_let h23; clear h23; rw [← ex24]; clear ex24
      by_cases c26 : x24 = 0
      · have h27 := g_ip h25 c26; clear h25; subst c26
        refine g_tableIn (tgt := 148) X dL_law_40 (by decide) (by decide) rfl (by decide) ?_
        refine g_aload_n (j := 1) X dL_law_148 rfl rfl ?_
        refine g_aload_n (j := 0) (r := some b) X dL_law_149 rfl rfl ?_
        refine g_iload (j := 4) X dL_law_150 rfl ?_
        refine g_iconst X dL_law_152 (v := 1) (by decide) ?_
        refine g_iadd X dL_law_153 ?_
        obtain ⟨x29, ex29, h30⟩ := g_bd h27; clear h27
        refine g_sld X hX hbl ex29 dL_law_154 ?_
        clear ex29
        refine g_aload_n (j := 0) (r := some b) X dL_law_155 rfl rfl ?_
        refine g_iload (j := 4) X dL_law_156 rfl ?_
        refine g_iconst X dL_law_158 (v := 2) (by decide) ?_
        refine g_iadd X dL_law_159 ?_
        obtain ⟨x31, ex31, h32⟩ := g_bd h30; clear h30
        refine g_sld X hX hbl ex31 dL_law_160 ?_
        clear ex31
        refine g_aload_n (j := 0) (r := some b) X dL_law_161 rfl rfl ?_
        refine g_iload (j := 4) X dL_law_162 rfl ?_
        refine g_iconst X dL_law_164 (v := 3) (by decide) ?_
        refine g_iadd X dL_law_165 ?_
        obtain ⟨x33, ex33, h34⟩ := g_bd h32; clear h32
        refine g_sld X hX hbl ex33 dL_law_166 ?_
        clear ex33
        refine g_aload_n (j := 0) (r := some b) X dL_law_167 rfl rfl ?_
        refine g_iload (j := 4) X dL_law_168 rfl ?_
        refine g_iconst X dL_law_170 (v := 4) (by decide) ?_
        refine g_iadd X dL_law_171 ?_
        obtain ⟨x35, ex35, h36⟩ := g_bd h34; clear h34
        refine g_sld X hX hbl ex35 dL_law_172 ?_
        clear ex35
        refine g_aload_n (j := 0) (r := some b) X dL_law_173 rfl rfl ?_
        refine g_iload (j := 4) X dL_law_174 rfl ?_
        refine g_iconst X dL_law_176 (v := 5) (by decide) ?_
        refine g_iadd X dL_law_177 ?_
        obtain ⟨x37, ex37, h38⟩ := g_bd h36; clear h36
        refine g_sld X hX hbl ex37 dL_law_178 ?_
        clear ex37
        obtain ⟨a39, ea39, ka39, h40⟩ := g_dc h38; clear h38
        obtain ⟨x43, S41, eS41, h42⟩ := g_bi h40; clear h40
        refine g_cV (n := 5) (As := [.int x29, .int x31, .int x33, .int x35, .int x37]) X (c_X7_feed hl D eS41) tw199 tw200 tw201 tw44 tw202 (by decide +kernel) rfl rfl ⟨Nat.le_of_ble_eq_true rfl, Nat.le_of_ble_eq_true rfl⟩ (ci := 7) rfl (by decide) ea39 ka39 rfl rfl (Nat.le_of_ble_eq_true rfl) dL_law_179 ⟨gu.1, gu.2⟩ ?_
        clear eS41 ea39 ka39
        refine g_aload_n (j := 2) X dL_law_182 rfl rfl ?_
        refine g_aload_n (j := 0) (r := some b) X dL_law_183 rfl rfl ?_
        refine g_iload (j := 4) X dL_law_184 rfl ?_
        refine g_iconst X dL_law_186 (v := 1) (by decide) ?_
        refine g_iadd X dL_law_187 ?_
        obtain ⟨x44, ex44, h45⟩ := g_bd h42; clear h42
        refine g_sld X hX hbl ex44 dL_law_188 ?_
        clear ex44
        refine g_aload_n (j := 0) (r := some b) X dL_law_189 rfl rfl ?_
        refine g_iload (j := 4) X dL_law_190 rfl ?_
        refine g_iconst X dL_law_192 (v := 2) (by decide) ?_
        refine g_iadd X dL_law_193 ?_
        obtain ⟨x46, ex46, h47⟩ := g_bd h45; clear h45
        refine g_sld X hX hbl ex46 dL_law_194 ?_
        clear ex46
        refine g_aload_n (j := 0) (r := some b) X dL_law_195 rfl rfl ?_
        refine g_iload (j := 4) X dL_law_196 rfl ?_
        refine g_iconst X dL_law_198 (v := 3) (by decide) ?_
        refine g_iadd X dL_law_199 ?_
        obtain ⟨x48, ex48, h49⟩ := g_bd h47; clear h47
        refine g_sld X hX hbl ex48 dL_law_200 ?_
        clear ex48
        refine g_aload_n (j := 0) (r := some b) X dL_law_201 rfl rfl ?_
        refine g_iload (j := 4) X dL_law_202 rfl ?_
        refine g_iconst X dL_law_204 (v := 4) (by decide) ?_
        refine g_iadd X dL_law_205 ?_
        obtain ⟨x50, ex50, h51⟩ := g_bd h49; clear h49
        refine g_sld X hX hbl ex50 dL_law_206 ?_
        clear ex50
        refine g_aload_n (j := 0) (r := some b) X dL_law_207 rfl rfl ?_
        refine g_iload (j := 4) X dL_law_208 rfl ?_
        refine g_iconst X dL_law_210 (v := 5) (by decide) ?_
        refine g_iadd X dL_law_211 ?_
        obtain ⟨x52, ex52, h53⟩ := g_bd h51; clear h51
        refine g_sld X hX hbl ex52 dL_law_212 ?_
        clear ex52
        obtain ⟨a54, ea54, ka54, h55⟩ := g_dc h53; clear h53
        obtain ⟨x58, S56, eS56, h57⟩ := g_bi h55; clear h55
        refine g_cV (n := 5) (As := [.int x44, .int x46, .int x48, .int x50, .int x52]) X (c_X8_feed hl D eS56) tw763 tw764 tw765 tw51 tw766 (by decide +kernel) rfl rfl ⟨Nat.le_of_ble_eq_true rfl, Nat.le_of_ble_eq_true rfl⟩ (ci := 8) rfl (by decide) ea54 ka54 rfl rfl (Nat.le_of_ble_eq_true rfl) dL_law_213 ⟨gu.1, gu.2⟩ ?_
        clear eS56 ea54 ka54
        refine g_icmp_eq (tgt := 1642) X dL_law_216 (by decide) (fun c59 => ?_) (fun c59 => ?_)
        · have h60 := g_ip h57 c59; clear h57
          obtain ⟨x62, ex62, h63⟩ := g_let h60; clear h60
          refine g_iinc (j := 4) (v := x62) (lv' := [(4, .int x62), (0, .ref b), (1, va_rf v1), (2, va_rf v2), (3, va_rf v3)]) X dL_law_1642 rfl (by rw [ex62]; rfl) (by decide) (by simp [g_rfc, g_ci, g_cj, g_cr]) ?_
          clear ex62
          refine g_goto (tgt := 23) X dL_law_1645 (by decide) ?_
          refine g_sub [1, 2, 3, 4, 0] rfl ?_
          exact ih S56 cu su v1 v2 v3 x62 h63
        · have h61 := g_in h57 c59; clear h57
          refine g_iconst X dL_law_219 (v := 0) (by decide) ?_
          cases h61
      have h28 := g_in h25 c26; clear h25
      by_cases c64 : x24 = 1
      · have h65 := g_ip h28 c64; clear h28; subst c64
        refine g_tableIn (tgt := 221) X dL_law_40 (by decide) (by decide) rfl (by decide) ?_
        refine g_aload_n (j := 1) X dL_law_221 rfl rfl ?_
        refine g_aload_n (j := 0) (r := some b) X dL_law_222 rfl rfl ?_
        refine g_iload (j := 4) X dL_law_223 rfl ?_
        refine g_iconst X dL_law_225 (v := 1) (by decide) ?_
        refine g_iadd X dL_law_226 ?_
        obtain ⟨x67, ex67, h68⟩ := g_bd h65; clear h65
        refine g_sld X hX hbl ex67 dL_law_227 ?_
        clear ex67
        obtain ⟨a69, ea69, ka69, h70⟩ := g_dc h68; clear h68
        obtain ⟨x73, S71, eS71, h72⟩ := g_bi h70; clear h70
        refine g_cV (n := 1) (As := [.int x67]) X (c_X7_end hl D eS71) tw212 tw213 tw214 tw44 tw215 (by decide +kernel) rfl rfl ⟨Nat.le_of_ble_eq_true rfl, Nat.le_of_ble_eq_true rfl⟩ (ci := 7) rfl (by decide) ea69 ka69 rfl rfl (Nat.le_of_ble_eq_true rfl) dL_law_228 ⟨gu.1, gu.2⟩ ?_
        clear eS71 ea69 ka69
        refine g_aload_n (j := 2) X dL_law_231 rfl rfl ?_
        refine g_aload_n (j := 0) (r := some b) X dL_law_232 rfl rfl ?_
        refine g_iload (j := 4) X dL_law_233 rfl ?_
        refine g_iconst X dL_law_235 (v := 1) (by decide) ?_
        refine g_iadd X dL_law_236 ?_
        obtain ⟨x74, ex74, h75⟩ := g_bd h72; clear h72
        refine g_sld X hX hbl ex74 dL_law_237 ?_
        clear ex74
        obtain ⟨a76, ea76, ka76, h77⟩ := g_dc h75; clear h75
        obtain ⟨x80, S78, eS78, h79⟩ := g_bi h77; clear h77
        refine g_cV (n := 1) (As := [.int x74]) X (c_X8_end hl D eS78) tw770 tw771 tw772 tw51 tw773 (by decide +kernel) rfl rfl ⟨Nat.le_of_ble_eq_true rfl, Nat.le_of_ble_eq_true rfl⟩ (ci := 8) rfl (by decide) ea76 ka76 rfl rfl (Nat.le_of_ble_eq_true rfl) dL_law_238 ⟨gu.1, gu.2⟩ ?_
        clear eS78 ea76 ka76
        refine g_icmp_eq (tgt := 1642) X dL_law_241 (by decide) (fun c81 => ?_) (fun c81 => ?_)
        · have h82 := g_ip h79 c81; clear h79
          obtain ⟨x84, ex84, h85⟩ := g_let h82; clear h82
          refine g_iinc (j := 4) (v := x84) (lv' := [(4, .int x84), (0, .ref b), (1, va_rf v1), (2, va_rf v2), (3, va_rf v3)]) X dL_law_1642 rfl (by rw [ex84]; rfl) (by decide) (by simp [g_rfc, g_ci, g_cj, g_cr]) ?_
          clear ex84
          refine g_goto (tgt := 23) X dL_law_1645 (by decide) ?_
          refine g_sub [1, 2, 3, 4, 0] rfl ?_
          exact ih S78 cu su v1 v2 v3 x84 h85
        · have h83 := g_in h79 c81; clear h79
          refine g_iconst X dL_law_244 (v := 0) (by decide) ?_
          cases h83
      have h66 := g_in h28 c64; clear h28
      by_cases c86 : x24 = 2
      · have h87 := g_ip h66 c86; clear h66; subst c86
        refine g_tableIn (tgt := 246) X dL_law_40 (by decide) (by decide) rfl (by decide) ?_
        refine g_aload_n (j := 1) X dL_law_246 rfl rfl ?_
        obtain ⟨a89, ea89, ka89, h90⟩ := g_dc h87; clear h87
        obtain ⟨x93, S91, eS91, h92⟩ := g_bi h90; clear h90
        refine g_cV (n := 0) (As := []) X (c_X7_again hl D eS91) tw216 tw217 tw218 tw44 tw219 (by decide +kernel) rfl rfl ⟨Nat.le_of_ble_eq_true rfl, Nat.le_of_ble_eq_true rfl⟩ (ci := 7) rfl (by decide) ea89 ka89 rfl rfl (Nat.le_of_ble_eq_true rfl) dL_law_247 ⟨gu.1, gu.2⟩ ?_
        clear eS91 ea89 ka89
        refine g_aload_n (j := 2) X dL_law_250 rfl rfl ?_
        obtain ⟨a94, ea94, ka94, h95⟩ := g_dc h92; clear h92
        obtain ⟨x98, S96, eS96, h97⟩ := g_bi h95; clear h95
        refine g_cV (n := 0) (As := []) X (c_X8_again hl D eS96) tw774 tw775 tw776 tw51 tw777 (by decide +kernel) rfl rfl ⟨Nat.le_of_ble_eq_true rfl, Nat.le_of_ble_eq_true rfl⟩ (ci := 8) rfl (by decide) ea94 ka94 rfl rfl (Nat.le_of_ble_eq_true rfl) dL_law_251 ⟨gu.1, gu.2⟩ ?_
        clear eS96 ea94 ka94
        refine g_icmp_eq (tgt := 1642) X dL_law_254 (by decide) (fun c99 => ?_) (fun c99 => ?_)
        · have h100 := g_ip h97 c99; clear h97
          obtain ⟨x102, ex102, h103⟩ := g_let h100; clear h100
          refine g_iinc (j := 4) (v := x102) (lv' := [(4, .int x102), (0, .ref b), (1, va_rf v1), (2, va_rf v2), (3, va_rf v3)]) X dL_law_1642 rfl (by rw [ex102]; rfl) (by decide) (by simp [g_rfc, g_ci, g_cj, g_cr]) ?_
          clear ex102
          refine g_goto (tgt := 23) X dL_law_1645 (by decide) ?_
          refine g_sub [1, 2, 3, 4, 0] rfl ?_
          exact ih S96 cu su v1 v2 v3 x102 h103
        · have h101 := g_in h97 c99; clear h97
          refine g_iconst X dL_law_257 (v := 0) (by decide) ?_
          cases h101
      have h88 := g_in h66 c86; clear h66
      by_cases c104 : x24 = 3
      · have h105 := g_ip h88 c104; clear h88; subst c104
        refine g_tableIn (tgt := 259) X dL_law_40 (by decide) (by decide) rfl (by decide) ?_
        refine g_aload_n (j := 1) X dL_law_259 rfl rfl ?_
        refine g_aload_n (j := 0) (r := some b) X dL_law_260 rfl rfl ?_
        refine g_iload (j := 4) X dL_law_261 rfl ?_
        refine g_iconst X dL_law_263 (v := 1) (by decide) ?_
        refine g_iadd X dL_law_264 ?_
        obtain ⟨x107, ex107, h108⟩ := g_bd h105; clear h105
        refine g_sld X hX hbl ex107 dL_law_265 ?_
        clear ex107
        obtain ⟨a109, ea109, ka109, h110⟩ := g_dc h108; clear h108
        obtain ⟨x113, S111, eS111, h112⟩ := g_bi h110; clear h110
        refine g_cV (n := 1) (As := [.int x107]) X (c_X7_out hl D eS111) tw234 tw235 tw236 tw44 tw237 (by decide +kernel) rfl rfl ⟨Nat.le_of_ble_eq_true rfl, Nat.le_of_ble_eq_true rfl⟩ (ci := 7) rfl (by decide) ea109 ka109 rfl rfl (Nat.le_of_ble_eq_true rfl) dL_law_266 ⟨gu.1, gu.2⟩ ?_
        clear eS111 ea109 ka109
        refine g_aload_n (j := 2) X dL_law_269 rfl rfl ?_
        refine g_aload_n (j := 0) (r := some b) X dL_law_270 rfl rfl ?_
        refine g_iload (j := 4) X dL_law_271 rfl ?_
        refine g_iconst X dL_law_273 (v := 1) (by decide) ?_
        refine g_iadd X dL_law_274 ?_
        obtain ⟨x114, ex114, h115⟩ := g_bd h112; clear h112
        refine g_sld X hX hbl ex114 dL_law_275 ?_
        clear ex114
        obtain ⟨a116, ea116, ka116, h117⟩ := g_dc h115; clear h115
        obtain ⟨x120, S118, eS118, h119⟩ := g_bi h117; clear h117
        refine g_cV (n := 1) (As := [.int x114]) X (c_X8_out hl D eS118) tw778 tw779 tw780 tw51 tw781 (by decide +kernel) rfl rfl ⟨Nat.le_of_ble_eq_true rfl, Nat.le_of_ble_eq_true rfl⟩ (ci := 8) rfl (by decide) ea116 ka116 rfl rfl (Nat.le_of_ble_eq_true rfl) dL_law_276 ⟨gu.1, gu.2⟩ ?_
        clear eS118 ea116 ka116
        refine g_icmp_eq (tgt := 1642) X dL_law_279 (by decide) (fun c121 => ?_) (fun c121 => ?_)
        · have h122 := g_ip h119 c121; clear h119
          obtain ⟨x124, ex124, h125⟩ := g_let h122; clear h122
          refine g_iinc (j := 4) (v := x124) (lv' := [(4, .int x124), (0, .ref b), (1, va_rf v1), (2, va_rf v2), (3, va_rf v3)]) X dL_law_1642 rfl (by rw [ex124]; rfl) (by decide) (by simp [g_rfc, g_ci, g_cj, g_cr]) ?_
          clear ex124
          refine g_goto (tgt := 23) X dL_law_1645 (by decide) ?_
          refine g_sub [1, 2, 3, 4, 0] rfl ?_
          exact ih S118 cu su v1 v2 v3 x124 h125
        · have h123 := g_in h119 c121; clear h119
          refine g_iconst X dL_law_282 (v := 0) (by decide) ?_
          cases h123
      have h106 := g_in h88 c104; clear h88
      by_cases c126 : x24 = 4
      · have h127 := g_ip h106 c126; clear h106; subst c126
        refine g_tableIn (tgt := 284) X dL_law_40 (by decide) (by decide) rfl (by decide) ?_
        refine g_aload_n (j := 1) X dL_law_284 rfl rfl ?_
        obtain ⟨a129, ea129, ka129, h130⟩ := g_dc h127; clear h127
        obtain ⟨x133, S131, eS131, h132⟩ := g_bi h130; clear h130
        refine g_cV (n := 0) (As := []) X (c_X7_outs hl D eS131) tw242 tw243 tw244 tw44 tw245 (by decide +kernel) rfl rfl ⟨Nat.le_of_ble_eq_true rfl, Nat.le_of_ble_eq_true rfl⟩ (ci := 7) rfl (by decide) ea129 ka129 rfl rfl (Nat.le_of_ble_eq_true rfl) dL_law_285 ⟨gu.1, gu.2⟩ ?_
        clear eS131 ea129 ka129
        refine g_aload_n (j := 2) X dL_law_288 rfl rfl ?_
        obtain ⟨a134, ea134, ka134, h135⟩ := g_dc h132; clear h132
        obtain ⟨x138, S136, eS136, h137⟩ := g_bi h135; clear h135
        refine g_cV (n := 0) (As := []) X (c_X8_outs hl D eS136) tw782 tw783 tw784 tw51 tw785 (by decide +kernel) rfl rfl ⟨Nat.le_of_ble_eq_true rfl, Nat.le_of_ble_eq_true rfl⟩ (ci := 8) rfl (by decide) ea134 ka134 rfl rfl (Nat.le_of_ble_eq_true rfl) dL_law_289 ⟨gu.1, gu.2⟩ ?_
        clear eS136 ea134 ka134
        refine g_icmp_eq (tgt := 1642) X dL_law_292 (by decide) (fun c139 => ?_) (fun c139 => ?_)
        · have h140 := g_ip h137 c139; clear h137
          obtain ⟨x142, ex142, h143⟩ := g_let h140; clear h140
          refine g_iinc (j := 4) (v := x142) (lv' := [(4, .int x142), (0, .ref b), (1, va_rf v1), (2, va_rf v2), (3, va_rf v3)]) X dL_law_1642 rfl (by rw [ex142]; rfl) (by decide) (by simp [g_rfc, g_ci, g_cj, g_cr]) ?_
          clear ex142
          refine g_goto (tgt := 23) X dL_law_1645 (by decide) ?_
          refine g_sub [1, 2, 3, 4, 0] rfl ?_
          exact ih S136 cu su v1 v2 v3 x142 h143
        · have h141 := g_in h137 c139; clear h137
          refine g_iconst X dL_law_295 (v := 0) (by decide) ?_
          cases h141
      have h128 := g_in h106 c126; clear h106
      by_cases c144 : x24 = 5
      · have h145 := g_ip h128 c144; clear h128; subst c144
        refine g_tableIn (tgt := 297) X dL_law_40 (by decide) (by decide) rfl (by decide) ?_
        refine g_aload_n (j := 1) X dL_law_297 rfl rfl ?_
        refine g_aload_n (j := 0) (r := some b) X dL_law_298 rfl rfl ?_
        refine g_iload (j := 4) X dL_law_299 rfl ?_
        refine g_iconst X dL_law_301 (v := 1) (by decide) ?_
        refine g_iadd X dL_law_302 ?_
        obtain ⟨x147, ex147, h148⟩ := g_bd h145; clear h145
        refine g_sld X hX hbl ex147 dL_law_303 ?_
        clear ex147
        refine g_aload_n (j := 3) X dL_law_304 rfl rfl ?_
        obtain ⟨g149, h150⟩ := g_gd h148; clear h148
        obtain ⟨x153, S151, eS151, h152⟩ := g_bi h150; clear h150
        refine g_cSW (n := 3) (As := [va_rf v1, .int x147, va_rf v3]) X (c_L_key hl D eS151) tw339 tw340 tw43 tw341 (by decide +kernel) rfl rfl ⟨Nat.le_of_ble_eq_true rfl, Nat.le_of_ble_eq_true rfl⟩ rfl rfl (Nat.le_of_ble_eq_true rfl) dL_law_305 ⟨g149.1, g149.2⟩ ?_
        clear eS151
        refine g_istore (i := 5) (lv' := [(5, .int x153), (0, .ref b), (1, va_rf v1), (2, va_rf v2), (3, va_rf v3), (4, .int v4)]) X dL_law_308 (by decide) rfl ?_
        refine g_aload_n (j := 3) X dL_law_310 rfl rfl ?_
        refine g_aload_n (j := 1) (r := some b) X dL_law_311 rfl rfl ?_
        refine g_iload (j := 5) X dL_law_312 rfl ?_
        refine g_iconst X dL_law_314 (v := 1) (by decide) ?_
        refine g_iadd X dL_law_315 ?_
        obtain ⟨x154, ex154, h155⟩ := g_bd h152; clear h152
        refine g_sld X hX hbl ex154 dL_law_316 ?_
        clear ex154
        obtain ⟨a156, ea156, ka156, h157⟩ := g_dc h155; clear h155
        obtain ⟨x160, S158, eS158, h159⟩ := g_bi h157; clear h157
        refine g_cV (n := 1) (As := [.int x154]) X (c_X8_key hl D eS158) tw786 tw787 tw788 tw51 tw789 (by decide +kernel) rfl rfl ⟨Nat.le_of_ble_eq_true rfl, Nat.le_of_ble_eq_true rfl⟩ (ci := 8) rfl (by decide) ea156 ka156 rfl rfl (Nat.le_of_ble_eq_true rfl) dL_law_317 ⟨g149.1, g149.2⟩ ?_
        clear eS158 ea156 ka156
        refine g_istore (i := 6) (lv' := [(6, .int x160), (5, .int x153), (0, .ref b), (1, va_rf v1), (2, va_rf v2), (3, va_rf v3), (4, .int v4)]) X dL_law_320 (by decide) rfl ?_
        refine g_aload_n (j := 4) X dL_law_322 rfl rfl ?_
        obtain ⟨a161, ea161, ka161, h162⟩ := g_dc h159; clear h159
        obtain ⟨x165, S163, eS163, h164⟩ := g_bi h162; clear h162
        refine g_cV (n := 0) (As := []) X (c_X8_thrown hl D eS163) tw759 tw760 tw761 tw51 tw762 (by decide +kernel) rfl rfl ⟨Nat.le_of_ble_eq_true rfl, Nat.le_of_ble_eq_true rfl⟩ (ci := 8) rfl (by decide) ea161 ka161 rfl rfl (Nat.le_of_ble_eq_true rfl) dL_law_323 ⟨g149.1, g149.2⟩ ?_
        clear eS163 ea161 ka161
        refine g_iload (j := 1) X dL_law_326 rfl ?_
        refine g_icmp_eq (tgt := 333) X dL_law_328 (by decide) (fun c166 => ?_) (fun c166 => ?_)
        · have h167 := g_ip h164 c166; clear h164
          refine g_iload (j := 1) X dL_law_333 rfl ?_
          refine g_if_ne (tgt := 350) X dL_law_335 (by decide) (fun c169 => ?_) (fun c169 => ?_)
          · have h170 := g_in h167 c169; clear h167
            refine g_goto (tgt := 1642) X dL_law_350 (by decide) ?_
            obtain ⟨x172, ex172, h173⟩ := g_let h170; clear h170
            refine g_iinc (j := 6) (v := x172) (lv' := [(4, .int x172), (6, .int x160), (5, .int x153), (0, .ref b), (1, va_rf v1), (2, va_rf v2), (3, va_rf v3)]) X dL_law_1642 rfl (by rw [ex172]; rfl) (by decide) (by simp [g_rfc, g_ci, g_cj, g_cr]) ?_
            clear ex172
            refine g_goto (tgt := 23) X dL_law_1645 (by decide) ?_
            refine g_sub [3, 4, 5, 6, 0] rfl ?_
            exact ih S163 (cu + 2) (su + 12) v1 v2 v3 x172 h173
          · have h171 := g_ip h167 c169; clear h167
            refine g_aload_n (j := 5) X dL_law_338 rfl rfl ?_
            refine g_iconst X dL_law_339 (v := 0) (by decide) ?_
            obtain ⟨x174, ex174, h175⟩ := g_bd h171; clear h171
            refine g_lald X ex174 dL_law_340 ?_
            clear ex174
            refine g_iload (j := 0) X dL_law_341 rfl ?_
            refine g_i2l X dL_law_343 ?_
            refine g_lcmp X dL_law_344 ?_
            refine g_if_eq (tgt := 350) X dL_law_345 (by decide) (fun c176 => ?_) (fun c176 => ?_)
            · have h177 := g_ip h175 c176; clear h175
              refine g_goto (tgt := 1642) X dL_law_350 (by decide) ?_
              obtain ⟨x179, ex179, h180⟩ := g_let h177; clear h177
              refine g_iinc (j := 6) (v := x179) (lv' := [(4, .int x179), (6, .int x160), (5, .int x153), (0, .ref b), (1, va_rf v1), (2, va_rf v2), (3, va_rf v3)]) X dL_law_1642 rfl (by rw [ex179]; rfl) (by decide) (by simp [g_rfc, g_ci, g_cj, g_cr]) ?_
              clear ex179
              refine g_goto (tgt := 23) X dL_law_1645 (by decide) ?_
              refine g_sub [3, 4, 5, 6, 0] rfl ?_
              exact ih S163 (cu + 2) (su + 12) v1 v2 v3 x179 h180
            · have h178 := g_in h175 c176; clear h175
              refine g_iconst X dL_law_348 (v := 0) (by decide) ?_
              cases h178
        · have h168 := g_in h164 c166; clear h164
          refine g_iconst X dL_law_331 (v := 0) (by decide) ?_
          cases h168
      have h146 := g_in h128 c144; clear h128
      by_cases c181 : x24 = 6
      · have h182 := g_ip h146 c181; clear h146; subst c181
        refine g_tableIn (tgt := 353) X dL_law_40 (by decide) (by decide) rfl (by decide) ?_
        refine g_aload_n (j := 1) X dL_law_353 rfl rfl ?_
        refine g_aload_n (j := 0) (r := some b) X dL_law_354 rfl rfl ?_
        refine g_iload (j := 4) X dL_law_355 rfl ?_
        refine g_iconst X dL_law_357 (v := 1) (by decide) ?_
        refine g_iadd X dL_law_358 ?_
        obtain ⟨x184, ex184, h185⟩ := g_bd h182; clear h182
        refine g_sld X hX hbl ex184 dL_law_359 ?_
        clear ex184
        refine g_aload_n (j := 3) X dL_law_360 rfl rfl ?_
        obtain ⟨g186, h187⟩ := g_gd h185; clear h185
        obtain ⟨x190, S188, eS188, h189⟩ := g_bi h187; clear h187
        refine g_cSW (n := 3) (As := [va_rf v1, .int x184, va_rf v3]) X (c_L_submit hl D eS188) tw401 tw402 tw43 tw403 (by decide +kernel) rfl rfl ⟨Nat.le_of_ble_eq_true rfl, Nat.le_of_ble_eq_true rfl⟩ rfl rfl (Nat.le_of_ble_eq_true rfl) dL_law_361 ⟨g186.1, g186.2⟩ ?_
        clear eS188
        refine g_istore (i := 5) (lv' := [(5, .int x190), (0, .ref b), (1, va_rf v1), (2, va_rf v2), (3, va_rf v3), (4, .int v4)]) X dL_law_364 (by decide) rfl ?_
        refine g_aload_n (j := 3) X dL_law_366 rfl rfl ?_
        refine g_aload_n (j := 1) (r := some b) X dL_law_367 rfl rfl ?_
        refine g_iload (j := 5) X dL_law_368 rfl ?_
        refine g_iconst X dL_law_370 (v := 1) (by decide) ?_
        refine g_iadd X dL_law_371 ?_
        obtain ⟨x191, ex191, h192⟩ := g_bd h189; clear h189
        refine g_sld X hX hbl ex191 dL_law_372 ?_
        clear ex191
        obtain ⟨a193, ea193, ka193, h194⟩ := g_dc h192; clear h192
        obtain ⟨x197, S195, eS195, h196⟩ := g_bi h194; clear h194
        refine g_cV (n := 1) (As := [.int x191]) X (c_X8_submit hl D eS195) tw796 tw797 tw798 tw51 tw799 (by decide +kernel) rfl rfl ⟨Nat.le_of_ble_eq_true rfl, Nat.le_of_ble_eq_true rfl⟩ (ci := 8) rfl (by decide) ea193 ka193 rfl rfl (Nat.le_of_ble_eq_true rfl) dL_law_373 ⟨g186.1, g186.2⟩ ?_
        clear eS195 ea193 ka193
        refine g_istore (i := 6) (lv' := [(6, .int x197), (5, .int x190), (0, .ref b), (1, va_rf v1), (2, va_rf v2), (3, va_rf v3), (4, .int v4)]) X dL_law_376 (by decide) rfl ?_
        refine g_aload_n (j := 4) X dL_law_378 rfl rfl ?_
        obtain ⟨a198, ea198, ka198, h199⟩ := g_dc h196; clear h196
        obtain ⟨x202, S200, eS200, h201⟩ := g_bi h199; clear h199
        refine g_cV (n := 0) (As := []) X (c_X8_thrown hl D eS200) tw759 tw760 tw761 tw51 tw762 (by decide +kernel) rfl rfl ⟨Nat.le_of_ble_eq_true rfl, Nat.le_of_ble_eq_true rfl⟩ (ci := 8) rfl (by decide) ea198 ka198 rfl rfl (Nat.le_of_ble_eq_true rfl) dL_law_379 ⟨g186.1, g186.2⟩ ?_
        clear eS200 ea198 ka198
        refine g_iload (j := 1) X dL_law_382 rfl ?_
        refine g_icmp_eq (tgt := 389) X dL_law_384 (by decide) (fun c203 => ?_) (fun c203 => ?_)
        · have h204 := g_ip h201 c203; clear h201
          refine g_iload (j := 1) X dL_law_389 rfl ?_
          refine g_if_ne (tgt := 406) X dL_law_391 (by decide) (fun c206 => ?_) (fun c206 => ?_)
          · have h207 := g_in h204 c206; clear h204
            refine g_goto (tgt := 1642) X dL_law_406 (by decide) ?_
            obtain ⟨x209, ex209, h210⟩ := g_let h207; clear h207
            refine g_iinc (j := 6) (v := x209) (lv' := [(4, .int x209), (6, .int x197), (5, .int x190), (0, .ref b), (1, va_rf v1), (2, va_rf v2), (3, va_rf v3)]) X dL_law_1642 rfl (by rw [ex209]; rfl) (by decide) (by simp [g_rfc, g_ci, g_cj, g_cr]) ?_
            clear ex209
            refine g_goto (tgt := 23) X dL_law_1645 (by decide) ?_
            refine g_sub [3, 4, 5, 6, 0] rfl ?_
            exact ih S200 (cu + 21) (su + 1216) v1 v2 v3 x209 h210
          · have h208 := g_ip h204 c206; clear h204
            refine g_aload_n (j := 5) X dL_law_394 rfl rfl ?_
            refine g_iconst X dL_law_395 (v := 0) (by decide) ?_
            obtain ⟨x211, ex211, h212⟩ := g_bd h208; clear h208
            refine g_lald X ex211 dL_law_396 ?_
            clear ex211
            refine g_iload (j := 0) X dL_law_397 rfl ?_
            refine g_i2l X dL_law_399 ?_
            refine g_lcmp X dL_law_400 ?_
            refine g_if_eq (tgt := 406) X dL_law_401 (by decide) (fun c213 => ?_) (fun c213 => ?_)
            · have h214 := g_ip h212 c213; clear h212
              refine g_goto (tgt := 1642) X dL_law_406 (by decide) ?_
              obtain ⟨x216, ex216, h217⟩ := g_let h214; clear h214
              refine g_iinc (j := 6) (v := x216) (lv' := [(4, .int x216), (6, .int x197), (5, .int x190), (0, .ref b), (1, va_rf v1), (2, va_rf v2), (3, va_rf v3)]) X dL_law_1642 rfl (by rw [ex216]; rfl) (by decide) (by simp [g_rfc, g_ci, g_cj, g_cr]) ?_
              clear ex216
              refine g_goto (tgt := 23) X dL_law_1645 (by decide) ?_
              refine g_sub [3, 4, 5, 6, 0] rfl ?_
              exact ih S200 (cu + 21) (su + 1216) v1 v2 v3 x216 h217
            · have h215 := g_in h212 c213; clear h212
              refine g_iconst X dL_law_404 (v := 0) (by decide) ?_
              cases h215
        · have h205 := g_in h201 c203; clear h201
          refine g_iconst X dL_law_387 (v := 0) (by decide) ?_
          cases h205
      have h183 := g_in h146 c181; clear h146
      by_cases c218 : x24 = 7
      · have h219 := g_ip h183 c218; clear h183; subst c218
        refine g_tableIn (tgt := 409) X dL_law_40 (by decide) (by decide) rfl (by decide) ?_
        refine g_aload_n (j := 1) X dL_law_409 rfl rfl ?_
        refine g_aload_n (j := 0) (r := some b) X dL_law_410 rfl rfl ?_
        refine g_iload (j := 4) X dL_law_411 rfl ?_
        refine g_iconst X dL_law_413 (v := 1) (by decide) ?_
        refine g_iadd X dL_law_414 ?_
        obtain ⟨x221, ex221, h222⟩ := g_bd h219; clear h219
        refine g_sld X hX hbl ex221 dL_law_415 ?_
        clear ex221
        refine g_aload_n (j := 0) (r := some b) X dL_law_416 rfl rfl ?_
        refine g_iload (j := 4) X dL_law_417 rfl ?_
        refine g_iconst X dL_law_419 (v := 2) (by decide) ?_
        refine g_iadd X dL_law_420 ?_
        obtain ⟨x223, ex223, h224⟩ := g_bd h222; clear h222
        refine g_sld X hX hbl ex223 dL_law_421 ?_
        clear ex223
        refine g_i2l X dL_law_422 ?_
        refine g_bipush X dL_law_423 (v := 32) (by decide) ?_
        refine g_lshl X dL_law_425 ?_
        refine g_aload_n (j := 0) (r := some b) X dL_law_426 rfl rfl ?_
        refine g_iload (j := 4) X dL_law_427 rfl ?_
        refine g_iconst X dL_law_429 (v := 3) (by decide) ?_
        refine g_iadd X dL_law_430 ?_
        obtain ⟨x225, ex225, h226⟩ := g_bd h224; clear h224
        refine g_sld X hX hbl ex225 dL_law_431 ?_
        clear ex225
        refine g_i2l X dL_law_432 ?_
        refine g_ldc2 X tw984 dL_law_433 ?_
        refine g_land X dL_law_436 ?_
        refine g_lor X dL_law_437 ?_
        refine g_aload_n (j := 3) X dL_law_438 rfl rfl ?_
        obtain ⟨g227, h228⟩ := g_gd h226; clear h226
        obtain ⟨x231, S229, eS229, h230⟩ := g_bi h228; clear h228
        refine g_cSW (n := 4) (As := [va_rf v1, .int x221, .long ((x223.toInt64 <<< ((32 : Int32).toInt64 &&& 63)) ||| (x225.toInt64 &&& 4294967295)), va_rf v3]) X (c_L_cut hl D eS229) tw443 tw444 tw43 tw445 (by decide +kernel) rfl rfl ⟨Nat.le_of_ble_eq_true rfl, Nat.le_of_ble_eq_true rfl⟩ rfl rfl (Nat.le_of_ble_eq_true rfl) dL_law_439 ⟨g227.1, g227.2⟩ ?_
        clear eS229
        refine g_istore (i := 5) (lv' := [(5, .int x231), (0, .ref b), (1, va_rf v1), (2, va_rf v2), (3, va_rf v3), (4, .int v4)]) X dL_law_442 (by decide) rfl ?_
        refine g_aload_n (j := 3) X dL_law_444 rfl rfl ?_
        refine g_aload_n (j := 1) (r := some b) X dL_law_445 rfl rfl ?_
        refine g_iload (j := 5) X dL_law_446 rfl ?_
        refine g_iconst X dL_law_448 (v := 1) (by decide) ?_
        refine g_iadd X dL_law_449 ?_
        obtain ⟨x232, ex232, h233⟩ := g_bd h230; clear h230
        refine g_sld X hX hbl ex232 dL_law_450 ?_
        clear ex232
        refine g_aload_n (j := 1) (r := some b) X dL_law_451 rfl rfl ?_
        refine g_iload (j := 5) X dL_law_452 rfl ?_
        refine g_iconst X dL_law_454 (v := 2) (by decide) ?_
        refine g_iadd X dL_law_455 ?_
        obtain ⟨x234, ex234, h235⟩ := g_bd h233; clear h233
        refine g_sld X hX hbl ex234 dL_law_456 ?_
        clear ex234
        refine g_i2l X dL_law_457 ?_
        refine g_bipush X dL_law_458 (v := 32) (by decide) ?_
        refine g_lshl X dL_law_460 ?_
        refine g_aload_n (j := 1) (r := some b) X dL_law_461 rfl rfl ?_
        refine g_iload (j := 5) X dL_law_462 rfl ?_
        refine g_iconst X dL_law_464 (v := 3) (by decide) ?_
        refine g_iadd X dL_law_465 ?_
        obtain ⟨x236, ex236, h237⟩ := g_bd h235; clear h235
        refine g_sld X hX hbl ex236 dL_law_466 ?_
        clear ex236
        refine g_i2l X dL_law_467 ?_
        refine g_ldc2 X tw984 dL_law_468 ?_
        refine g_land X dL_law_471 ?_
        refine g_lor X dL_law_472 ?_
        obtain ⟨a238, ea238, ka238, h239⟩ := g_dc h237; clear h237
        obtain ⟨g240, h241⟩ := g_gd h239; clear h239
        obtain ⟨x244, S242, eS242, h243⟩ := g_bi h241; clear h241
        refine g_cV (n := 2) (As := [.int x232, .long ((x234.toInt64 <<< ((32 : Int32).toInt64 &&& 63)) ||| (x236.toInt64 &&& 4294967295))]) X (c_X8_cut hl D eS242) tw803 tw804 tw805 tw51 tw806 (by decide +kernel) rfl rfl ⟨Nat.le_of_ble_eq_true rfl, Nat.le_of_ble_eq_true rfl⟩ (ci := 8) rfl (by decide) ea238 ka238 rfl rfl (Nat.le_of_ble_eq_true rfl) dL_law_473 ⟨g240.1, g240.2⟩ ?_
        clear eS242 ea238 ka238
        refine g_istore (i := 6) (lv' := [(6, .int x244), (5, .int x231), (0, .ref b), (1, va_rf v1), (2, va_rf v2), (3, va_rf v3), (4, .int v4)]) X dL_law_476 (by decide) rfl ?_
        refine g_aload_n (j := 4) X dL_law_478 rfl rfl ?_
        obtain ⟨a245, ea245, ka245, h246⟩ := g_dc h243; clear h243
        obtain ⟨x249, S247, eS247, h248⟩ := g_bi h246; clear h246
        refine g_cV (n := 0) (As := []) X (c_X8_thrown hl D eS247) tw759 tw760 tw761 tw51 tw762 (by decide +kernel) rfl rfl ⟨Nat.le_of_ble_eq_true rfl, Nat.le_of_ble_eq_true rfl⟩ (ci := 8) rfl (by decide) ea245 ka245 rfl rfl (Nat.le_of_ble_eq_true rfl) dL_law_479 ⟨g240.1, g240.2⟩ ?_
        clear eS247 ea245 ka245
        refine g_iload (j := 1) X dL_law_482 rfl ?_
        refine g_icmp_eq (tgt := 489) X dL_law_484 (by decide) (fun c250 => ?_) (fun c250 => ?_)
        · have h251 := g_ip h248 c250; clear h248
          refine g_iload (j := 1) X dL_law_489 rfl ?_
          refine g_if_ne (tgt := 506) X dL_law_491 (by decide) (fun c253 => ?_) (fun c253 => ?_)
          · have h254 := g_in h251 c253; clear h251
            refine g_goto (tgt := 1642) X dL_law_506 (by decide) ?_
            obtain ⟨x256, ex256, h257⟩ := g_let h254; clear h254
            refine g_iinc (j := 6) (v := x256) (lv' := [(4, .int x256), (6, .int x244), (5, .int x231), (0, .ref b), (1, va_rf v1), (2, va_rf v2), (3, va_rf v3)]) X dL_law_1642 rfl (by rw [ex256]; rfl) (by decide) (by simp [g_rfc, g_ci, g_cj, g_cr]) ?_
            clear ex256
            refine g_goto (tgt := 23) X dL_law_1645 (by decide) ?_
            refine g_sub [3, 4, 5, 6, 0] rfl ?_
            exact ih S247 (cu + 3 + 410) (su + 127 + 3280) v1 v2 v3 x256 h257
          · have h255 := g_ip h251 c253; clear h251
            refine g_aload_n (j := 5) X dL_law_494 rfl rfl ?_
            refine g_iconst X dL_law_495 (v := 0) (by decide) ?_
            obtain ⟨x258, ex258, h259⟩ := g_bd h255; clear h255
            refine g_lald X ex258 dL_law_496 ?_
            clear ex258
            refine g_iload (j := 0) X dL_law_497 rfl ?_
            refine g_i2l X dL_law_499 ?_
            refine g_lcmp X dL_law_500 ?_
            refine g_if_eq (tgt := 506) X dL_law_501 (by decide) (fun c260 => ?_) (fun c260 => ?_)
            · have h261 := g_ip h259 c260; clear h259
              refine g_goto (tgt := 1642) X dL_law_506 (by decide) ?_
              obtain ⟨x263, ex263, h264⟩ := g_let h261; clear h261
              refine g_iinc (j := 6) (v := x263) (lv' := [(4, .int x263), (6, .int x244), (5, .int x231), (0, .ref b), (1, va_rf v1), (2, va_rf v2), (3, va_rf v3)]) X dL_law_1642 rfl (by rw [ex263]; rfl) (by decide) (by simp [g_rfc, g_ci, g_cj, g_cr]) ?_
              clear ex263
              refine g_goto (tgt := 23) X dL_law_1645 (by decide) ?_
              refine g_sub [3, 4, 5, 6, 0] rfl ?_
              exact ih S247 (cu + 3 + 410) (su + 127 + 3280) v1 v2 v3 x263 h264
            · have h262 := g_in h259 c260; clear h259
              refine g_iconst X dL_law_504 (v := 0) (by decide) ?_
              cases h262
        · have h252 := g_in h248 c250; clear h248
          refine g_iconst X dL_law_487 (v := 0) (by decide) ?_
          cases h252
      have h220 := g_in h183 c218; clear h183
      by_cases c265 : x24 = 8
      · have h266 := g_ip h220 c265; clear h220; subst c265
        refine g_tableIn (tgt := 509) X dL_law_40 (by decide) (by decide) rfl (by decide) ?_
        refine g_aload_n (j := 1) X dL_law_509 rfl rfl ?_
        refine g_aload_n (j := 0) (r := some b) X dL_law_510 rfl rfl ?_
        refine g_iload (j := 4) X dL_law_511 rfl ?_
        refine g_iconst X dL_law_513 (v := 1) (by decide) ?_
        refine g_iadd X dL_law_514 ?_
        obtain ⟨x268, ex268, h269⟩ := g_bd h266; clear h266
        refine g_sld X hX hbl ex268 dL_law_515 ?_
        clear ex268
        refine g_aload_n (j := 0) (r := some b) X dL_law_516 rfl rfl ?_
        refine g_iload (j := 4) X dL_law_517 rfl ?_
        refine g_iconst X dL_law_519 (v := 2) (by decide) ?_
        refine g_iadd X dL_law_520 ?_
        obtain ⟨x270, ex270, h271⟩ := g_bd h269; clear h269
        refine g_sld X hX hbl ex270 dL_law_521 ?_
        clear ex270
        refine g_aload_n (j := 3) X dL_law_522 rfl rfl ?_
        obtain ⟨g272, h273⟩ := g_gd h271; clear h271
        obtain ⟨x276, S274, eS274, h275⟩ := g_bi h273; clear h273
        refine g_cSW (n := 4) (As := [va_rf v1, .int x268, .int x270, va_rf v3]) X (c_L_size hl D eS274) tw483 tw484 tw43 tw485 (by decide +kernel) rfl rfl ⟨Nat.le_of_ble_eq_true rfl, Nat.le_of_ble_eq_true rfl⟩ rfl rfl (Nat.le_of_ble_eq_true rfl) dL_law_523 ⟨g272.1, g272.2⟩ ?_
        clear eS274
        refine g_istore (i := 5) (lv' := [(5, .int x276), (0, .ref b), (1, va_rf v1), (2, va_rf v2), (3, va_rf v3), (4, .int v4)]) X dL_law_526 (by decide) rfl ?_
        refine g_aload_n (j := 3) X dL_law_528 rfl rfl ?_
        refine g_aload_n (j := 1) (r := some b) X dL_law_529 rfl rfl ?_
        refine g_iload (j := 5) X dL_law_530 rfl ?_
        refine g_iconst X dL_law_532 (v := 1) (by decide) ?_
        refine g_iadd X dL_law_533 ?_
        obtain ⟨x277, ex277, h278⟩ := g_bd h275; clear h275
        refine g_sld X hX hbl ex277 dL_law_534 ?_
        clear ex277
        refine g_aload_n (j := 1) (r := some b) X dL_law_535 rfl rfl ?_
        refine g_iload (j := 5) X dL_law_536 rfl ?_
        refine g_iconst X dL_law_538 (v := 2) (by decide) ?_
        refine g_iadd X dL_law_539 ?_
        obtain ⟨x279, ex279, h280⟩ := g_bd h278; clear h278
        refine g_sld X hX hbl ex279 dL_law_540 ?_
        clear ex279
        obtain ⟨a281, ea281, ka281, h282⟩ := g_dc h280; clear h280
        obtain ⟨x285, S283, eS283, h284⟩ := g_bi h282; clear h282
        refine g_cV (n := 2) (As := [.int x277, .int x279]) X (c_X8_size hl D eS283) tw862 tw863 tw864 tw51 tw865 (by decide +kernel) rfl rfl ⟨Nat.le_of_ble_eq_true rfl, Nat.le_of_ble_eq_true rfl⟩ (ci := 8) rfl (by decide) ea281 ka281 rfl rfl (Nat.le_of_ble_eq_true rfl) dL_law_541 ⟨g272.1, g272.2⟩ ?_
        clear eS283 ea281 ka281
        refine g_istore (i := 6) (lv' := [(6, .int x285), (5, .int x276), (0, .ref b), (1, va_rf v1), (2, va_rf v2), (3, va_rf v3), (4, .int v4)]) X dL_law_544 (by decide) rfl ?_
        refine g_aload_n (j := 4) X dL_law_546 rfl rfl ?_
        obtain ⟨a286, ea286, ka286, h287⟩ := g_dc h284; clear h284
        obtain ⟨x290, S288, eS288, h289⟩ := g_bi h287; clear h287
        refine g_cV (n := 0) (As := []) X (c_X8_thrown hl D eS288) tw759 tw760 tw761 tw51 tw762 (by decide +kernel) rfl rfl ⟨Nat.le_of_ble_eq_true rfl, Nat.le_of_ble_eq_true rfl⟩ (ci := 8) rfl (by decide) ea286 ka286 rfl rfl (Nat.le_of_ble_eq_true rfl) dL_law_547 ⟨g272.1, g272.2⟩ ?_
        clear eS288 ea286 ka286
        refine g_iload (j := 1) X dL_law_550 rfl ?_
        refine g_icmp_eq (tgt := 557) X dL_law_552 (by decide) (fun c291 => ?_) (fun c291 => ?_)
        · have h292 := g_ip h289 c291; clear h289
          refine g_iload (j := 1) X dL_law_557 rfl ?_
          refine g_if_ne (tgt := 574) X dL_law_559 (by decide) (fun c294 => ?_) (fun c294 => ?_)
          · have h295 := g_in h292 c294; clear h292
            refine g_goto (tgt := 1642) X dL_law_574 (by decide) ?_
            obtain ⟨x297, ex297, h298⟩ := g_let h295; clear h295
            refine g_iinc (j := 6) (v := x297) (lv' := [(4, .int x297), (6, .int x285), (5, .int x276), (0, .ref b), (1, va_rf v1), (2, va_rf v2), (3, va_rf v3)]) X dL_law_1642 rfl (by rw [ex297]; rfl) (by decide) (by simp [g_rfc, g_ci, g_cj, g_cr]) ?_
            clear ex297
            refine g_goto (tgt := 23) X dL_law_1645 (by decide) ?_
            refine g_sub [3, 4, 5, 6, 0] rfl ?_
            exact ih S288 (cu + 2) (su + 12) v1 v2 v3 x297 h298
          · have h296 := g_ip h292 c294; clear h292
            refine g_aload_n (j := 5) X dL_law_562 rfl rfl ?_
            refine g_iconst X dL_law_563 (v := 0) (by decide) ?_
            obtain ⟨x299, ex299, h300⟩ := g_bd h296; clear h296
            refine g_lald X ex299 dL_law_564 ?_
            clear ex299
            refine g_iload (j := 0) X dL_law_565 rfl ?_
            refine g_i2l X dL_law_567 ?_
            refine g_lcmp X dL_law_568 ?_
            refine g_if_eq (tgt := 574) X dL_law_569 (by decide) (fun c301 => ?_) (fun c301 => ?_)
            · have h302 := g_ip h300 c301; clear h300
              refine g_goto (tgt := 1642) X dL_law_574 (by decide) ?_
              obtain ⟨x304, ex304, h305⟩ := g_let h302; clear h302
              refine g_iinc (j := 6) (v := x304) (lv' := [(4, .int x304), (6, .int x285), (5, .int x276), (0, .ref b), (1, va_rf v1), (2, va_rf v2), (3, va_rf v3)]) X dL_law_1642 rfl (by rw [ex304]; rfl) (by decide) (by simp [g_rfc, g_ci, g_cj, g_cr]) ?_
              clear ex304
              refine g_goto (tgt := 23) X dL_law_1645 (by decide) ?_
              refine g_sub [3, 4, 5, 6, 0] rfl ?_
              exact ih S288 (cu + 2) (su + 12) v1 v2 v3 x304 h305
            · have h303 := g_in h300 c301; clear h300
              refine g_iconst X dL_law_572 (v := 0) (by decide) ?_
              cases h303
        · have h293 := g_in h289 c291; clear h289
          refine g_iconst X dL_law_555 (v := 0) (by decide) ?_
          cases h293
      have h267 := g_in h220 c265; clear h220
      by_cases c306 : x24 = 9
      · have h307 := g_ip h267 c306; clear h267; subst c306
        refine g_tableIn (tgt := 577) X dL_law_40 (by decide) (by decide) rfl (by decide) ?_
        refine g_aload_n (j := 1) X dL_law_577 rfl rfl ?_
        refine g_aload_n (j := 0) (r := some b) X dL_law_578 rfl rfl ?_
        refine g_iload (j := 4) X dL_law_579 rfl ?_
        refine g_iconst X dL_law_581 (v := 1) (by decide) ?_
        refine g_iadd X dL_law_582 ?_
        obtain ⟨x309, ex309, h310⟩ := g_bd h307; clear h307
        refine g_sld X hX hbl ex309 dL_law_583 ?_
        clear ex309
        refine g_aload_n (j := 0) (r := some b) X dL_law_584 rfl rfl ?_
        refine g_iload (j := 4) X dL_law_585 rfl ?_
        refine g_iconst X dL_law_587 (v := 2) (by decide) ?_
        refine g_iadd X dL_law_588 ?_
        obtain ⟨x311, ex311, h312⟩ := g_bd h310; clear h310
        refine g_sld X hX hbl ex311 dL_law_589 ?_
        clear ex311
        refine g_aload_n (j := 3) X dL_law_590 rfl rfl ?_
        obtain ⟨g313, h314⟩ := g_gd h312; clear h312
        obtain ⟨x317, S315, eS315, h316⟩ := g_bi h314; clear h314
        refine g_cSW (n := 4) (As := [va_rf v1, .int x309, .int x311, va_rf v3]) X (c_L_head hl D eS315) tw499 tw500 tw43 tw501 (by decide +kernel) rfl rfl ⟨Nat.le_of_ble_eq_true rfl, Nat.le_of_ble_eq_true rfl⟩ rfl rfl (Nat.le_of_ble_eq_true rfl) dL_law_591 ⟨g313.1, g313.2⟩ ?_
        clear eS315
        refine g_istore (i := 5) (lv' := [(5, .int x317), (0, .ref b), (1, va_rf v1), (2, va_rf v2), (3, va_rf v3), (4, .int v4)]) X dL_law_594 (by decide) rfl ?_
        refine g_aload_n (j := 3) X dL_law_596 rfl rfl ?_
        refine g_aload_n (j := 1) (r := some b) X dL_law_597 rfl rfl ?_
        refine g_iload (j := 5) X dL_law_598 rfl ?_
        refine g_iconst X dL_law_600 (v := 1) (by decide) ?_
        refine g_iadd X dL_law_601 ?_
        obtain ⟨x318, ex318, h319⟩ := g_bd h316; clear h316
        refine g_sld X hX hbl ex318 dL_law_602 ?_
        clear ex318
        refine g_aload_n (j := 1) (r := some b) X dL_law_603 rfl rfl ?_
        refine g_iload (j := 5) X dL_law_604 rfl ?_
        refine g_iconst X dL_law_606 (v := 2) (by decide) ?_
        refine g_iadd X dL_law_607 ?_
        obtain ⟨x320, ex320, h321⟩ := g_bd h319; clear h319
        refine g_sld X hX hbl ex320 dL_law_608 ?_
        clear ex320
        obtain ⟨a322, ea322, ka322, h323⟩ := g_dc h321; clear h321
        obtain ⟨x326, S324, eS324, h325⟩ := g_bi h323; clear h323
        refine g_cV (n := 2) (As := [.int x318, .int x320]) X (c_X8_head hl D eS324) tw866 tw867 tw868 tw51 tw869 (by decide +kernel) rfl rfl ⟨Nat.le_of_ble_eq_true rfl, Nat.le_of_ble_eq_true rfl⟩ (ci := 8) rfl (by decide) ea322 ka322 rfl rfl (Nat.le_of_ble_eq_true rfl) dL_law_609 ⟨g313.1, g313.2⟩ ?_
        clear eS324 ea322 ka322
        refine g_istore (i := 6) (lv' := [(6, .int x326), (5, .int x317), (0, .ref b), (1, va_rf v1), (2, va_rf v2), (3, va_rf v3), (4, .int v4)]) X dL_law_612 (by decide) rfl ?_
        refine g_aload_n (j := 4) X dL_law_614 rfl rfl ?_
        obtain ⟨a327, ea327, ka327, h328⟩ := g_dc h325; clear h325
        obtain ⟨x331, S329, eS329, h330⟩ := g_bi h328; clear h328
        refine g_cV (n := 0) (As := []) X (c_X8_thrown hl D eS329) tw759 tw760 tw761 tw51 tw762 (by decide +kernel) rfl rfl ⟨Nat.le_of_ble_eq_true rfl, Nat.le_of_ble_eq_true rfl⟩ (ci := 8) rfl (by decide) ea327 ka327 rfl rfl (Nat.le_of_ble_eq_true rfl) dL_law_615 ⟨g313.1, g313.2⟩ ?_
        clear eS329 ea327 ka327
        refine g_iload (j := 1) X dL_law_618 rfl ?_
        refine g_icmp_eq (tgt := 625) X dL_law_620 (by decide) (fun c332 => ?_) (fun c332 => ?_)
        · have h333 := g_ip h330 c332; clear h330
          refine g_iload (j := 1) X dL_law_625 rfl ?_
          refine g_if_ne (tgt := 642) X dL_law_627 (by decide) (fun c335 => ?_) (fun c335 => ?_)
          · have h336 := g_in h333 c335; clear h333
            refine g_goto (tgt := 1642) X dL_law_642 (by decide) ?_
            obtain ⟨x338, ex338, h339⟩ := g_let h336; clear h336
            refine g_iinc (j := 6) (v := x338) (lv' := [(4, .int x338), (6, .int x326), (5, .int x317), (0, .ref b), (1, va_rf v1), (2, va_rf v2), (3, va_rf v3)]) X dL_law_1642 rfl (by rw [ex338]; rfl) (by decide) (by simp [g_rfc, g_ci, g_cj, g_cr]) ?_
            clear ex338
            refine g_goto (tgt := 23) X dL_law_1645 (by decide) ?_
            refine g_sub [3, 4, 5, 6, 0] rfl ?_
            exact ih S329 (cu + 2) (su + 12) v1 v2 v3 x338 h339
          · have h337 := g_ip h333 c335; clear h333
            refine g_aload_n (j := 5) X dL_law_630 rfl rfl ?_
            refine g_iconst X dL_law_631 (v := 0) (by decide) ?_
            obtain ⟨x340, ex340, h341⟩ := g_bd h337; clear h337
            refine g_lald X ex340 dL_law_632 ?_
            clear ex340
            refine g_iload (j := 0) X dL_law_633 rfl ?_
            refine g_i2l X dL_law_635 ?_
            refine g_lcmp X dL_law_636 ?_
            refine g_if_eq (tgt := 642) X dL_law_637 (by decide) (fun c342 => ?_) (fun c342 => ?_)
            · have h343 := g_ip h341 c342; clear h341
              refine g_goto (tgt := 1642) X dL_law_642 (by decide) ?_
              obtain ⟨x345, ex345, h346⟩ := g_let h343; clear h343
              refine g_iinc (j := 6) (v := x345) (lv' := [(4, .int x345), (6, .int x326), (5, .int x317), (0, .ref b), (1, va_rf v1), (2, va_rf v2), (3, va_rf v3)]) X dL_law_1642 rfl (by rw [ex345]; rfl) (by decide) (by simp [g_rfc, g_ci, g_cj, g_cr]) ?_
              clear ex345
              refine g_goto (tgt := 23) X dL_law_1645 (by decide) ?_
              refine g_sub [3, 4, 5, 6, 0] rfl ?_
              exact ih S329 (cu + 2) (su + 12) v1 v2 v3 x345 h346
            · have h344 := g_in h341 c342; clear h341
              refine g_iconst X dL_law_640 (v := 0) (by decide) ?_
              cases h344
        · have h334 := g_in h330 c332; clear h330
          refine g_iconst X dL_law_623 (v := 0) (by decide) ?_
          cases h334
      have h308 := g_in h267 c306; clear h267
      by_cases c347 : x24 = 10
      · have h348 := g_ip h308 c347; clear h308; subst c347
        refine g_tableIn (tgt := 645) X dL_law_40 (by decide) (by decide) rfl (by decide) ?_
        refine g_aload_n (j := 1) X dL_law_645 rfl rfl ?_
        refine g_aload_n (j := 0) (r := some b) X dL_law_646 rfl rfl ?_
        refine g_iload (j := 4) X dL_law_647 rfl ?_
        refine g_iconst X dL_law_649 (v := 1) (by decide) ?_
        refine g_iadd X dL_law_650 ?_
        obtain ⟨x350, ex350, h351⟩ := g_bd h348; clear h348
        refine g_sld X hX hbl ex350 dL_law_651 ?_
        clear ex350
        refine g_aload_n (j := 0) (r := some b) X dL_law_652 rfl rfl ?_
        refine g_iload (j := 4) X dL_law_653 rfl ?_
        refine g_iconst X dL_law_655 (v := 2) (by decide) ?_
        refine g_iadd X dL_law_656 ?_
        obtain ⟨x352, ex352, h353⟩ := g_bd h351; clear h351
        refine g_sld X hX hbl ex352 dL_law_657 ?_
        clear ex352
        refine g_aload_n (j := 3) X dL_law_658 rfl rfl ?_
        obtain ⟨g354, h355⟩ := g_gd h353; clear h353
        obtain ⟨x358, S356, eS356, h357⟩ := g_bi h355; clear h355
        refine g_cSW (n := 4) (As := [va_rf v1, .int x350, .int x352, va_rf v3]) X (c_L_entry hl D eS356) tw513 tw514 tw43 tw515 (by decide +kernel) rfl rfl ⟨Nat.le_of_ble_eq_true rfl, Nat.le_of_ble_eq_true rfl⟩ rfl rfl (Nat.le_of_ble_eq_true rfl) dL_law_659 ⟨g354.1, g354.2⟩ ?_
        clear eS356
        refine g_istore (i := 5) (lv' := [(5, .int x358), (0, .ref b), (1, va_rf v1), (2, va_rf v2), (3, va_rf v3), (4, .int v4)]) X dL_law_662 (by decide) rfl ?_
        refine g_aload_n (j := 3) X dL_law_664 rfl rfl ?_
        refine g_aload_n (j := 1) (r := some b) X dL_law_665 rfl rfl ?_
        refine g_iload (j := 5) X dL_law_666 rfl ?_
        refine g_iconst X dL_law_668 (v := 1) (by decide) ?_
        refine g_iadd X dL_law_669 ?_
        obtain ⟨x359, ex359, h360⟩ := g_bd h357; clear h357
        refine g_sld X hX hbl ex359 dL_law_670 ?_
        clear ex359
        refine g_aload_n (j := 1) (r := some b) X dL_law_671 rfl rfl ?_
        refine g_iload (j := 5) X dL_law_672 rfl ?_
        refine g_iconst X dL_law_674 (v := 2) (by decide) ?_
        refine g_iadd X dL_law_675 ?_
        obtain ⟨x361, ex361, h362⟩ := g_bd h360; clear h360
        refine g_sld X hX hbl ex361 dL_law_676 ?_
        clear ex361
        obtain ⟨a363, ea363, ka363, h364⟩ := g_dc h362; clear h362
        obtain ⟨x367, S365, eS365, h366⟩ := g_bi h364; clear h364
        refine g_cV (n := 2) (As := [.int x359, .int x361]) X (c_X8_entry hl D eS365) tw870 tw871 tw872 tw51 tw873 (by decide +kernel) rfl rfl ⟨Nat.le_of_ble_eq_true rfl, Nat.le_of_ble_eq_true rfl⟩ (ci := 8) rfl (by decide) ea363 ka363 rfl rfl (Nat.le_of_ble_eq_true rfl) dL_law_677 ⟨g354.1, g354.2⟩ ?_
        clear eS365 ea363 ka363
        refine g_istore (i := 6) (lv' := [(6, .int x367), (5, .int x358), (0, .ref b), (1, va_rf v1), (2, va_rf v2), (3, va_rf v3), (4, .int v4)]) X dL_law_680 (by decide) rfl ?_
        refine g_aload_n (j := 4) X dL_law_682 rfl rfl ?_
        obtain ⟨a368, ea368, ka368, h369⟩ := g_dc h366; clear h366
        obtain ⟨x372, S370, eS370, h371⟩ := g_bi h369; clear h369
        refine g_cV (n := 0) (As := []) X (c_X8_thrown hl D eS370) tw759 tw760 tw761 tw51 tw762 (by decide +kernel) rfl rfl ⟨Nat.le_of_ble_eq_true rfl, Nat.le_of_ble_eq_true rfl⟩ (ci := 8) rfl (by decide) ea368 ka368 rfl rfl (Nat.le_of_ble_eq_true rfl) dL_law_683 ⟨g354.1, g354.2⟩ ?_
        clear eS370 ea368 ka368
        refine g_iload (j := 1) X dL_law_686 rfl ?_
        refine g_icmp_eq (tgt := 693) X dL_law_688 (by decide) (fun c373 => ?_) (fun c373 => ?_)
        · have h374 := g_ip h371 c373; clear h371
          refine g_iload (j := 1) X dL_law_693 rfl ?_
          refine g_if_ne (tgt := 710) X dL_law_695 (by decide) (fun c376 => ?_) (fun c376 => ?_)
          · have h377 := g_in h374 c376; clear h374
            refine g_goto (tgt := 1642) X dL_law_710 (by decide) ?_
            obtain ⟨x379, ex379, h380⟩ := g_let h377; clear h377
            refine g_iinc (j := 6) (v := x379) (lv' := [(4, .int x379), (6, .int x367), (5, .int x358), (0, .ref b), (1, va_rf v1), (2, va_rf v2), (3, va_rf v3)]) X dL_law_1642 rfl (by rw [ex379]; rfl) (by decide) (by simp [g_rfc, g_ci, g_cj, g_cr]) ?_
            clear ex379
            refine g_goto (tgt := 23) X dL_law_1645 (by decide) ?_
            refine g_sub [3, 4, 5, 6, 0] rfl ?_
            exact ih S370 (cu + 2) (su + 12) v1 v2 v3 x379 h380
          · have h378 := g_ip h374 c376; clear h374
            refine g_aload_n (j := 5) X dL_law_698 rfl rfl ?_
            refine g_iconst X dL_law_699 (v := 0) (by decide) ?_
            obtain ⟨x381, ex381, h382⟩ := g_bd h378; clear h378
            refine g_lald X ex381 dL_law_700 ?_
            clear ex381
            refine g_iload (j := 0) X dL_law_701 rfl ?_
            refine g_i2l X dL_law_703 ?_
            refine g_lcmp X dL_law_704 ?_
            refine g_if_eq (tgt := 710) X dL_law_705 (by decide) (fun c383 => ?_) (fun c383 => ?_)
            · have h384 := g_ip h382 c383; clear h382
              refine g_goto (tgt := 1642) X dL_law_710 (by decide) ?_
              obtain ⟨x386, ex386, h387⟩ := g_let h384; clear h384
              refine g_iinc (j := 6) (v := x386) (lv' := [(4, .int x386), (6, .int x367), (5, .int x358), (0, .ref b), (1, va_rf v1), (2, va_rf v2), (3, va_rf v3)]) X dL_law_1642 rfl (by rw [ex386]; rfl) (by decide) (by simp [g_rfc, g_ci, g_cj, g_cr]) ?_
              clear ex386
              refine g_goto (tgt := 23) X dL_law_1645 (by decide) ?_
              refine g_sub [3, 4, 5, 6, 0] rfl ?_
              exact ih S370 (cu + 2) (su + 12) v1 v2 v3 x386 h387
            · have h385 := g_in h382 c383; clear h382
              refine g_iconst X dL_law_708 (v := 0) (by decide) ?_
              cases h385
        · have h375 := g_in h371 c373; clear h371
          refine g_iconst X dL_law_691 (v := 0) (by decide) ?_
          cases h375
      have h349 := g_in h308 c347; clear h308
      by_cases c388 : x24 = 11
      · have h389 := g_ip h349 c388; clear h349; subst c388
        refine g_tableIn (tgt := 713) X dL_law_40 (by decide) (by decide) rfl (by decide) ?_
        refine g_aload_n (j := 1) X dL_law_713 rfl rfl ?_
        refine g_aload_n (j := 0) (r := some b) X dL_law_714 rfl rfl ?_
        refine g_iload (j := 4) X dL_law_715 rfl ?_
        refine g_iconst X dL_law_717 (v := 1) (by decide) ?_
        refine g_iadd X dL_law_718 ?_
        obtain ⟨x391, ex391, h392⟩ := g_bd h389; clear h389
        refine g_sld X hX hbl ex391 dL_law_719 ?_
        clear ex391
        refine g_aload_n (j := 0) (r := some b) X dL_law_720 rfl rfl ?_
        refine g_iload (j := 4) X dL_law_721 rfl ?_
        refine g_iconst X dL_law_723 (v := 2) (by decide) ?_
        refine g_iadd X dL_law_724 ?_
        obtain ⟨x393, ex393, h394⟩ := g_bd h392; clear h392
        refine g_sld X hX hbl ex393 dL_law_725 ?_
        clear ex393
        refine g_aload_n (j := 3) X dL_law_726 rfl rfl ?_
        obtain ⟨g395, h396⟩ := g_gd h394; clear h394
        obtain ⟨x399, S397, eS397, h398⟩ := g_bi h396; clear h396
        refine g_cSW (n := 4) (As := [va_rf v1, .int x391, .int x393, va_rf v3]) X (c_L_leaf hl D eS397) tw524 tw525 tw43 tw526 (by decide +kernel) rfl rfl ⟨Nat.le_of_ble_eq_true rfl, Nat.le_of_ble_eq_true rfl⟩ rfl rfl (Nat.le_of_ble_eq_true rfl) dL_law_727 ⟨g395.1, g395.2⟩ ?_
        clear eS397
        refine g_istore (i := 5) (lv' := [(5, .int x399), (0, .ref b), (1, va_rf v1), (2, va_rf v2), (3, va_rf v3), (4, .int v4)]) X dL_law_730 (by decide) rfl ?_
        refine g_aload_n (j := 3) X dL_law_732 rfl rfl ?_
        refine g_aload_n (j := 1) (r := some b) X dL_law_733 rfl rfl ?_
        refine g_iload (j := 5) X dL_law_734 rfl ?_
        refine g_iconst X dL_law_736 (v := 1) (by decide) ?_
        refine g_iadd X dL_law_737 ?_
        obtain ⟨x400, ex400, h401⟩ := g_bd h398; clear h398
        refine g_sld X hX hbl ex400 dL_law_738 ?_
        clear ex400
        refine g_aload_n (j := 1) (r := some b) X dL_law_739 rfl rfl ?_
        refine g_iload (j := 5) X dL_law_740 rfl ?_
        refine g_iconst X dL_law_742 (v := 2) (by decide) ?_
        refine g_iadd X dL_law_743 ?_
        obtain ⟨x402, ex402, h403⟩ := g_bd h401; clear h401
        refine g_sld X hX hbl ex402 dL_law_744 ?_
        clear ex402
        obtain ⟨a404, ea404, ka404, h405⟩ := g_dc h403; clear h403
        obtain ⟨g406, h407⟩ := g_gd h405; clear h405
        obtain ⟨x410, S408, eS408, h409⟩ := g_bi h407; clear h407
        refine g_cV (n := 2) (As := [.int x400, .int x402]) X (c_X8_leaf hl D eS408) tw874 tw875 tw876 tw51 tw877 (by decide +kernel) rfl rfl ⟨Nat.le_of_ble_eq_true rfl, Nat.le_of_ble_eq_true rfl⟩ (ci := 8) rfl (by decide) ea404 ka404 rfl rfl (Nat.le_of_ble_eq_true rfl) dL_law_745 ⟨g406.1, g406.2⟩ ?_
        clear eS408 ea404 ka404
        refine g_istore (i := 6) (lv' := [(6, .int x410), (5, .int x399), (0, .ref b), (1, va_rf v1), (2, va_rf v2), (3, va_rf v3), (4, .int v4)]) X dL_law_748 (by decide) rfl ?_
        refine g_aload_n (j := 4) X dL_law_750 rfl rfl ?_
        obtain ⟨a411, ea411, ka411, h412⟩ := g_dc h409; clear h409
        obtain ⟨x415, S413, eS413, h414⟩ := g_bi h412; clear h412
        refine g_cV (n := 0) (As := []) X (c_X8_thrown hl D eS413) tw759 tw760 tw761 tw51 tw762 (by decide +kernel) rfl rfl ⟨Nat.le_of_ble_eq_true rfl, Nat.le_of_ble_eq_true rfl⟩ (ci := 8) rfl (by decide) ea411 ka411 rfl rfl (Nat.le_of_ble_eq_true rfl) dL_law_751 ⟨g406.1, g406.2⟩ ?_
        clear eS413 ea411 ka411
        refine g_iload (j := 1) X dL_law_754 rfl ?_
        refine g_icmp_eq (tgt := 761) X dL_law_756 (by decide) (fun c416 => ?_) (fun c416 => ?_)
        · have h417 := g_ip h414 c416; clear h414
          refine g_iload (j := 1) X dL_law_761 rfl ?_
          refine g_if_ne (tgt := 785) X dL_law_763 (by decide) (fun c419 => ?_) (fun c419 => ?_)
          · have h420 := g_in h417 c419; clear h417
            refine g_goto (tgt := 1642) X dL_law_785 (by decide) ?_
            obtain ⟨x422, ex422, h423⟩ := g_let h420; clear h420
            refine g_iinc (j := 6) (v := x422) (lv' := [(4, .int x422), (6, .int x410), (5, .int x399), (0, .ref b), (1, va_rf v1), (2, va_rf v2), (3, va_rf v3)]) X dL_law_1642 rfl (by rw [ex422]; rfl) (by decide) (by simp [g_rfc, g_ci, g_cj, g_cr]) ?_
            clear ex422
            refine g_goto (tgt := 23) X dL_law_1645 (by decide) ?_
            refine g_sub [3, 4, 5, 6, 0] rfl ?_
            exact ih S413 (cu + 2 + 1) (su + 12 + 8) v1 v2 v3 x422 h423
          · have h421 := g_ip h417 c419; clear h417
            refine g_aload_n (j := 5) X dL_law_766 rfl rfl ?_
            refine g_iconst X dL_law_767 (v := 0) (by decide) ?_
            obtain ⟨x424, ex424, h425⟩ := g_bd h421; clear h421
            refine g_lald X ex424 dL_law_768 ?_
            clear ex424
            refine g_iload (j := 0) X dL_law_769 rfl ?_
            refine g_if_eq (tgt := 778) X dL_law_771 (by decide) (fun c426 => ?_) (fun c426 => ?_)
            · have h427 := g_ip h425 c426; clear h425
              refine g_lconst X dL_law_778 (v := 0) (by decide) ?_
              refine g_lcmp X dL_law_779 ?_
              refine g_if_eq (tgt := 785) X dL_law_780 (by decide) (fun c429 => ?_) (fun c429 => ?_)
              · have h430 := g_ip h427 c429; clear h427
                refine g_goto (tgt := 1642) X dL_law_785 (by decide) ?_
                obtain ⟨x432, ex432, h433⟩ := g_let h430; clear h430
                refine g_iinc (j := 6) (v := x432) (lv' := [(4, .int x432), (6, .int x410), (5, .int x399), (0, .ref b), (1, va_rf v1), (2, va_rf v2), (3, va_rf v3)]) X dL_law_1642 rfl (by rw [ex432]; rfl) (by decide) (by simp [g_rfc, g_ci, g_cj, g_cr]) ?_
                clear ex432
                refine g_goto (tgt := 23) X dL_law_1645 (by decide) ?_
                refine g_sub [3, 4, 5, 6, 0] rfl ?_
                exact ih S413 (cu + 2 + 1) (su + 12 + 8) v1 v2 v3 x432 h433
              · have h431 := g_in h427 c429; clear h427
                refine g_iconst X dL_law_783 (v := 0) (by decide) ?_
                cases h431
            · have h428 := g_in h425 c426; clear h425
              refine g_lconst X dL_law_774 (v := 1) (by decide) ?_
              refine g_goto (tgt := 779) X dL_law_775 (by decide) ?_
              refine g_lcmp X dL_law_779 ?_
              refine g_if_eq (tgt := 785) X dL_law_780 (by decide) (fun c434 => ?_) (fun c434 => ?_)
              · have h435 := g_ip h428 c434; clear h428
                refine g_goto (tgt := 1642) X dL_law_785 (by decide) ?_
                obtain ⟨x437, ex437, h438⟩ := g_let h435; clear h435
                refine g_iinc (j := 6) (v := x437) (lv' := [(4, .int x437), (6, .int x410), (5, .int x399), (0, .ref b), (1, va_rf v1), (2, va_rf v2), (3, va_rf v3)]) X dL_law_1642 rfl (by rw [ex437]; rfl) (by decide) (by simp [g_rfc, g_ci, g_cj, g_cr]) ?_
                clear ex437
                refine g_goto (tgt := 23) X dL_law_1645 (by decide) ?_
                refine g_sub [3, 4, 5, 6, 0] rfl ?_
                exact ih S413 (cu + 2 + 1) (su + 12 + 8) v1 v2 v3 x437 h438
              · have h436 := g_in h428 c434; clear h428
                refine g_iconst X dL_law_783 (v := 0) (by decide) ?_
                cases h436
        · have h418 := g_in h414 c416; clear h414
          refine g_iconst X dL_law_759 (v := 0) (by decide) ?_
          cases h418
      have h390 := g_in h349 c388; clear h349
      by_cases c439 : x24 = 12
      · have h440 := g_ip h390 c439; clear h390; subst c439
        refine g_tableIn (tgt := 788) X dL_law_40 (by decide) (by decide) rfl (by decide) ?_
        refine g_aload_n (j := 1) X dL_law_788 rfl rfl ?_
        refine g_aload_n (j := 0) (r := some b) X dL_law_789 rfl rfl ?_
        refine g_iload (j := 4) X dL_law_790 rfl ?_
        refine g_iconst X dL_law_792 (v := 1) (by decide) ?_
        refine g_iadd X dL_law_793 ?_
        obtain ⟨x442, ex442, h443⟩ := g_bd h440; clear h440
        refine g_sld X hX hbl ex442 dL_law_794 ?_
        clear ex442
        refine g_aload_n (j := 3) X dL_law_795 rfl rfl ?_
        obtain ⟨g444, h445⟩ := g_gd h443; clear h443
        obtain ⟨x448, S446, eS446, h447⟩ := g_bi h445; clear h445
        refine g_cSW (n := 3) (As := [va_rf v1, .int x442, va_rf v3]) X (c_L_find hl D eS446) tw535 tw536 tw43 tw537 (by decide +kernel) rfl rfl ⟨Nat.le_of_ble_eq_true rfl, Nat.le_of_ble_eq_true rfl⟩ rfl rfl (Nat.le_of_ble_eq_true rfl) dL_law_796 ⟨g444.1, g444.2⟩ ?_
        clear eS446
        refine g_istore (i := 5) (lv' := [(5, .int x448), (0, .ref b), (1, va_rf v1), (2, va_rf v2), (3, va_rf v3), (4, .int v4)]) X dL_law_799 (by decide) rfl ?_
        refine g_aload_n (j := 3) X dL_law_801 rfl rfl ?_
        refine g_aload_n (j := 1) (r := some b) X dL_law_802 rfl rfl ?_
        refine g_iload (j := 5) X dL_law_803 rfl ?_
        refine g_iconst X dL_law_805 (v := 1) (by decide) ?_
        refine g_iadd X dL_law_806 ?_
        obtain ⟨x449, ex449, h450⟩ := g_bd h447; clear h447
        refine g_sld X hX hbl ex449 dL_law_807 ?_
        clear ex449
        obtain ⟨a451, ea451, ka451, h452⟩ := g_dc h450; clear h450
        obtain ⟨g453, h454⟩ := g_gd h452; clear h452
        obtain ⟨x457, S455, eS455, h456⟩ := g_bi h454; clear h454
        refine g_cV (n := 1) (As := [.int x449]) X (c_X8_find hl D eS455) tw881 tw882 tw883 tw51 tw884 (by decide +kernel) rfl rfl ⟨Nat.le_of_ble_eq_true rfl, Nat.le_of_ble_eq_true rfl⟩ (ci := 8) rfl (by decide) ea451 ka451 rfl rfl (Nat.le_of_ble_eq_true rfl) dL_law_808 ⟨g453.1, g453.2⟩ ?_
        clear eS455 ea451 ka451
        refine g_istore (i := 6) (lv' := [(6, .int x457), (5, .int x448), (0, .ref b), (1, va_rf v1), (2, va_rf v2), (3, va_rf v3), (4, .int v4)]) X dL_law_811 (by decide) rfl ?_
        refine g_aload_n (j := 4) X dL_law_813 rfl rfl ?_
        obtain ⟨a458, ea458, ka458, h459⟩ := g_dc h456; clear h456
        obtain ⟨x462, S460, eS460, h461⟩ := g_bi h459; clear h459
        refine g_cV (n := 0) (As := []) X (c_X8_thrown hl D eS460) tw759 tw760 tw761 tw51 tw762 (by decide +kernel) rfl rfl ⟨Nat.le_of_ble_eq_true rfl, Nat.le_of_ble_eq_true rfl⟩ (ci := 8) rfl (by decide) ea458 ka458 rfl rfl (Nat.le_of_ble_eq_true rfl) dL_law_814 ⟨g453.1, g453.2⟩ ?_
        clear eS460 ea458 ka458
        refine g_iload (j := 1) X dL_law_817 rfl ?_
        refine g_icmp_eq (tgt := 824) X dL_law_819 (by decide) (fun c463 => ?_) (fun c463 => ?_)
        · have h464 := g_ip h461 c463; clear h461
          refine g_iload (j := 1) X dL_law_824 rfl ?_
          refine g_if_ne (tgt := 841) X dL_law_826 (by decide) (fun c466 => ?_) (fun c466 => ?_)
          · have h467 := g_in h464 c466; clear h464
            refine g_goto (tgt := 1642) X dL_law_841 (by decide) ?_
            obtain ⟨x469, ex469, h470⟩ := g_let h467; clear h467
            refine g_iinc (j := 6) (v := x469) (lv' := [(4, .int x469), (6, .int x457), (5, .int x448), (0, .ref b), (1, va_rf v1), (2, va_rf v2), (3, va_rf v3)]) X dL_law_1642 rfl (by rw [ex469]; rfl) (by decide) (by simp [g_rfc, g_ci, g_cj, g_cr]) ?_
            clear ex469
            refine g_goto (tgt := 23) X dL_law_1645 (by decide) ?_
            refine g_sub [3, 4, 5, 6, 0] rfl ?_
            exact ih S460 (cu + 2 + 200) (su + 12 + 1600) v1 v2 v3 x469 h470
          · have h468 := g_ip h464 c466; clear h464
            refine g_aload_n (j := 5) X dL_law_829 rfl rfl ?_
            refine g_iconst X dL_law_830 (v := 0) (by decide) ?_
            obtain ⟨x471, ex471, h472⟩ := g_bd h468; clear h468
            refine g_lald X ex471 dL_law_831 ?_
            clear ex471
            refine g_iload (j := 0) X dL_law_832 rfl ?_
            refine g_i2l X dL_law_834 ?_
            refine g_lcmp X dL_law_835 ?_
            refine g_if_eq (tgt := 841) X dL_law_836 (by decide) (fun c473 => ?_) (fun c473 => ?_)
            · have h474 := g_ip h472 c473; clear h472
              refine g_goto (tgt := 1642) X dL_law_841 (by decide) ?_
              obtain ⟨x476, ex476, h477⟩ := g_let h474; clear h474
              refine g_iinc (j := 6) (v := x476) (lv' := [(4, .int x476), (6, .int x457), (5, .int x448), (0, .ref b), (1, va_rf v1), (2, va_rf v2), (3, va_rf v3)]) X dL_law_1642 rfl (by rw [ex476]; rfl) (by decide) (by simp [g_rfc, g_ci, g_cj, g_cr]) ?_
              clear ex476
              refine g_goto (tgt := 23) X dL_law_1645 (by decide) ?_
              refine g_sub [3, 4, 5, 6, 0] rfl ?_
              exact ih S460 (cu + 2 + 200) (su + 12 + 1600) v1 v2 v3 x476 h477
            · have h475 := g_in h472 c473; clear h472
              refine g_iconst X dL_law_839 (v := 0) (by decide) ?_
              cases h475
        · have h465 := g_in h461 c463; clear h461
          refine g_iconst X dL_law_822 (v := 0) (by decide) ?_
          cases h465
      have h441 := g_in h390 c439; clear h390
      by_cases c478 : x24 = 13
      · have h479 := g_ip h441 c478; clear h441; subst c478
        refine g_tableIn (tgt := 844) X dL_law_40 (by decide) (by decide) rfl (by decide) ?_
        refine g_aload_n (j := 1) X dL_law_844 rfl rfl ?_
        refine g_aload_n (j := 0) (r := some b) X dL_law_845 rfl rfl ?_
        refine g_iload (j := 4) X dL_law_846 rfl ?_
        refine g_iconst X dL_law_848 (v := 1) (by decide) ?_
        refine g_iadd X dL_law_849 ?_
        obtain ⟨x481, ex481, h482⟩ := g_bd h479; clear h479
        refine g_sld X hX hbl ex481 dL_law_850 ?_
        clear ex481
        refine g_aload_n (j := 0) (r := some b) X dL_law_851 rfl rfl ?_
        refine g_iload (j := 4) X dL_law_852 rfl ?_
        refine g_iconst X dL_law_854 (v := 2) (by decide) ?_
        refine g_iadd X dL_law_855 ?_
        obtain ⟨x483, ex483, h484⟩ := g_bd h482; clear h482
        refine g_sld X hX hbl ex483 dL_law_856 ?_
        clear ex483
        refine g_aload_n (j := 3) X dL_law_857 rfl rfl ?_
        obtain ⟨g485, h486⟩ := g_gd h484; clear h484
        obtain ⟨x489, S487, eS487, h488⟩ := g_bi h486; clear h486
        refine g_cSW (n := 4) (As := [va_rf v1, .int x481, .int x483, va_rf v3]) X (c_L_root hl D eS487) tw547 tw548 tw43 tw549 (by decide +kernel) rfl rfl ⟨Nat.le_of_ble_eq_true rfl, Nat.le_of_ble_eq_true rfl⟩ rfl rfl (Nat.le_of_ble_eq_true rfl) dL_law_858 ⟨g485.1, g485.2⟩ ?_
        clear eS487
        refine g_istore (i := 5) (lv' := [(5, .int x489), (0, .ref b), (1, va_rf v1), (2, va_rf v2), (3, va_rf v3), (4, .int v4)]) X dL_law_861 (by decide) rfl ?_
        refine g_aload_n (j := 3) X dL_law_863 rfl rfl ?_
        refine g_aload_n (j := 1) (r := some b) X dL_law_864 rfl rfl ?_
        refine g_iload (j := 5) X dL_law_865 rfl ?_
        refine g_iconst X dL_law_867 (v := 1) (by decide) ?_
        refine g_iadd X dL_law_868 ?_
        obtain ⟨x490, ex490, h491⟩ := g_bd h488; clear h488
        refine g_sld X hX hbl ex490 dL_law_869 ?_
        clear ex490
        refine g_aload_n (j := 1) (r := some b) X dL_law_870 rfl rfl ?_
        refine g_iload (j := 5) X dL_law_871 rfl ?_
        refine g_iconst X dL_law_873 (v := 2) (by decide) ?_
        refine g_iadd X dL_law_874 ?_
        obtain ⟨x492, ex492, h493⟩ := g_bd h491; clear h491
        refine g_sld X hX hbl ex492 dL_law_875 ?_
        clear ex492
        obtain ⟨a494, ea494, ka494, h495⟩ := g_dc h493; clear h493
        obtain ⟨g496, h497⟩ := g_gd h495; clear h495
        obtain ⟨x500, S498, eS498, h499⟩ := g_bi h497; clear h497
        refine g_cV (n := 2) (As := [.int x490, .int x492]) X (c_X8_root_ hl D eS498) tw891 tw892 tw893 tw51 tw894 (by decide +kernel) rfl rfl ⟨Nat.le_of_ble_eq_true rfl, Nat.le_of_ble_eq_true rfl⟩ (ci := 8) rfl (by decide) ea494 ka494 rfl rfl (Nat.le_of_ble_eq_true rfl) dL_law_876 ⟨g496.1, g496.2⟩ ?_
        clear eS498 ea494 ka494
        refine g_istore (i := 6) (lv' := [(6, .int x500), (5, .int x489), (0, .ref b), (1, va_rf v1), (2, va_rf v2), (3, va_rf v3), (4, .int v4)]) X dL_law_879 (by decide) rfl ?_
        refine g_aload_n (j := 4) X dL_law_881 rfl rfl ?_
        obtain ⟨a501, ea501, ka501, h502⟩ := g_dc h499; clear h499
        obtain ⟨x505, S503, eS503, h504⟩ := g_bi h502; clear h502
        refine g_cV (n := 0) (As := []) X (c_X8_thrown hl D eS503) tw759 tw760 tw761 tw51 tw762 (by decide +kernel) rfl rfl ⟨Nat.le_of_ble_eq_true rfl, Nat.le_of_ble_eq_true rfl⟩ (ci := 8) rfl (by decide) ea501 ka501 rfl rfl (Nat.le_of_ble_eq_true rfl) dL_law_882 ⟨g496.1, g496.2⟩ ?_
        clear eS503 ea501 ka501
        refine g_iload (j := 1) X dL_law_885 rfl ?_
        refine g_icmp_eq (tgt := 892) X dL_law_887 (by decide) (fun c506 => ?_) (fun c506 => ?_)
        · have h507 := g_ip h504 c506; clear h504
          refine g_iload (j := 1) X dL_law_892 rfl ?_
          refine g_if_ne (tgt := 916) X dL_law_894 (by decide) (fun c509 => ?_) (fun c509 => ?_)
          · have h510 := g_in h507 c509; clear h507
            refine g_goto (tgt := 1642) X dL_law_916 (by decide) ?_
            obtain ⟨x512, ex512, h513⟩ := g_let h510; clear h510
            refine g_iinc (j := 6) (v := x512) (lv' := [(4, .int x512), (6, .int x500), (5, .int x489), (0, .ref b), (1, va_rf v1), (2, va_rf v2), (3, va_rf v3)]) X dL_law_1642 rfl (by rw [ex512]; rfl) (by decide) (by simp [g_rfc, g_ci, g_cj, g_cr]) ?_
            clear ex512
            refine g_goto (tgt := 23) X dL_law_1645 (by decide) ?_
            refine g_sub [3, 4, 5, 6, 0] rfl ?_
            exact ih S503 (cu + 2 + 400) (su + 12 + 3200) v1 v2 v3 x512 h513
          · have h511 := g_ip h507 c509; clear h507
            refine g_aload_n (j := 5) X dL_law_897 rfl rfl ?_
            refine g_iconst X dL_law_898 (v := 0) (by decide) ?_
            obtain ⟨x514, ex514, h515⟩ := g_bd h511; clear h511
            refine g_lald X ex514 dL_law_899 ?_
            clear ex514
            refine g_iload (j := 0) X dL_law_900 rfl ?_
            refine g_if_eq (tgt := 909) X dL_law_902 (by decide) (fun c516 => ?_) (fun c516 => ?_)
            · have h517 := g_ip h515 c516; clear h515
              refine g_lconst X dL_law_909 (v := 0) (by decide) ?_
              refine g_lcmp X dL_law_910 ?_
              refine g_if_eq (tgt := 916) X dL_law_911 (by decide) (fun c519 => ?_) (fun c519 => ?_)
              · have h520 := g_ip h517 c519; clear h517
                refine g_goto (tgt := 1642) X dL_law_916 (by decide) ?_
                obtain ⟨x522, ex522, h523⟩ := g_let h520; clear h520
                refine g_iinc (j := 6) (v := x522) (lv' := [(4, .int x522), (6, .int x500), (5, .int x489), (0, .ref b), (1, va_rf v1), (2, va_rf v2), (3, va_rf v3)]) X dL_law_1642 rfl (by rw [ex522]; rfl) (by decide) (by simp [g_rfc, g_ci, g_cj, g_cr]) ?_
                clear ex522
                refine g_goto (tgt := 23) X dL_law_1645 (by decide) ?_
                refine g_sub [3, 4, 5, 6, 0] rfl ?_
                exact ih S503 (cu + 2 + 400) (su + 12 + 3200) v1 v2 v3 x522 h523
              · have h521 := g_in h517 c519; clear h517
                refine g_iconst X dL_law_914 (v := 0) (by decide) ?_
                cases h521
            · have h518 := g_in h515 c516; clear h515
              refine g_lconst X dL_law_905 (v := 1) (by decide) ?_
              refine g_goto (tgt := 910) X dL_law_906 (by decide) ?_
              refine g_lcmp X dL_law_910 ?_
              refine g_if_eq (tgt := 916) X dL_law_911 (by decide) (fun c524 => ?_) (fun c524 => ?_)
              · have h525 := g_ip h518 c524; clear h518
                refine g_goto (tgt := 1642) X dL_law_916 (by decide) ?_
                obtain ⟨x527, ex527, h528⟩ := g_let h525; clear h525
                refine g_iinc (j := 6) (v := x527) (lv' := [(4, .int x527), (6, .int x500), (5, .int x489), (0, .ref b), (1, va_rf v1), (2, va_rf v2), (3, va_rf v3)]) X dL_law_1642 rfl (by rw [ex527]; rfl) (by decide) (by simp [g_rfc, g_ci, g_cj, g_cr]) ?_
                clear ex527
                refine g_goto (tgt := 23) X dL_law_1645 (by decide) ?_
                refine g_sub [3, 4, 5, 6, 0] rfl ?_
                exact ih S503 (cu + 2 + 400) (su + 12 + 3200) v1 v2 v3 x527 h528
              · have h526 := g_in h518 c524; clear h518
                refine g_iconst X dL_law_914 (v := 0) (by decide) ?_
                cases h526
        · have h508 := g_in h504 c506; clear h504
          refine g_iconst X dL_law_890 (v := 0) (by decide) ?_
          cases h508
      have h480 := g_in h441 c478; clear h441
      by_cases c529 : x24 = 14
      · have h530 := g_ip h480 c529; clear h480; subst c529
        refine g_tableIn (tgt := 919) X dL_law_40 (by decide) (by decide) rfl (by decide) ?_
        refine g_aload_n (j := 1) X dL_law_919 rfl rfl ?_
        refine g_aload_n (j := 0) (r := some b) X dL_law_920 rfl rfl ?_
        refine g_iload (j := 4) X dL_law_921 rfl ?_
        refine g_iconst X dL_law_923 (v := 1) (by decide) ?_
        refine g_iadd X dL_law_924 ?_
        obtain ⟨x532, ex532, h533⟩ := g_bd h530; clear h530
        refine g_sld X hX hbl ex532 dL_law_925 ?_
        clear ex532
        refine g_aload_n (j := 0) (r := some b) X dL_law_926 rfl rfl ?_
        refine g_iload (j := 4) X dL_law_927 rfl ?_
        refine g_iconst X dL_law_929 (v := 2) (by decide) ?_
        refine g_iadd X dL_law_930 ?_
        obtain ⟨x534, ex534, h535⟩ := g_bd h533; clear h533
        refine g_sld X hX hbl ex534 dL_law_931 ?_
        clear ex534
        refine g_aload_n (j := 0) (r := some b) X dL_law_932 rfl rfl ?_
        refine g_iload (j := 4) X dL_law_933 rfl ?_
        refine g_iconst X dL_law_935 (v := 3) (by decide) ?_
        refine g_iadd X dL_law_936 ?_
        obtain ⟨x536, ex536, h537⟩ := g_bd h535; clear h535
        refine g_sld X hX hbl ex536 dL_law_937 ?_
        clear ex536
        refine g_aload_n (j := 3) X dL_law_938 rfl rfl ?_
        obtain ⟨g538, h539⟩ := g_gd h537; clear h537
        obtain ⟨x542, S540, eS540, h541⟩ := g_bi h539; clear h539
        refine g_cSW (n := 5) (As := [va_rf v1, .int x532, .int x534, .int x536, va_rf v3]) X (c_L_way hl D eS540) tw555 tw556 tw43 tw557 (by decide +kernel) rfl rfl ⟨Nat.le_of_ble_eq_true rfl, Nat.le_of_ble_eq_true rfl⟩ rfl rfl (Nat.le_of_ble_eq_true rfl) dL_law_939 ⟨g538.1, g538.2⟩ ?_
        clear eS540
        refine g_istore (i := 5) (lv' := [(5, .int x542), (0, .ref b), (1, va_rf v1), (2, va_rf v2), (3, va_rf v3), (4, .int v4)]) X dL_law_942 (by decide) rfl ?_
        refine g_aload_n (j := 3) X dL_law_944 rfl rfl ?_
        refine g_aload_n (j := 1) (r := some b) X dL_law_945 rfl rfl ?_
        refine g_iload (j := 5) X dL_law_946 rfl ?_
        refine g_iconst X dL_law_948 (v := 1) (by decide) ?_
        refine g_iadd X dL_law_949 ?_
        obtain ⟨x543, ex543, h544⟩ := g_bd h541; clear h541
        refine g_sld X hX hbl ex543 dL_law_950 ?_
        clear ex543
        refine g_aload_n (j := 1) (r := some b) X dL_law_951 rfl rfl ?_
        refine g_iload (j := 5) X dL_law_952 rfl ?_
        refine g_iconst X dL_law_954 (v := 2) (by decide) ?_
        refine g_iadd X dL_law_955 ?_
        obtain ⟨x545, ex545, h546⟩ := g_bd h544; clear h544
        refine g_sld X hX hbl ex545 dL_law_956 ?_
        clear ex545
        refine g_aload_n (j := 1) (r := some b) X dL_law_957 rfl rfl ?_
        refine g_iload (j := 5) X dL_law_958 rfl ?_
        refine g_iconst X dL_law_960 (v := 3) (by decide) ?_
        refine g_iadd X dL_law_961 ?_
        obtain ⟨x547, ex547, h548⟩ := g_bd h546; clear h546
        refine g_sld X hX hbl ex547 dL_law_962 ?_
        clear ex547
        obtain ⟨a549, ea549, ka549, h550⟩ := g_dc h548; clear h548
        obtain ⟨g551, h552⟩ := g_gd h550; clear h550
        obtain ⟨x555, S553, eS553, h554⟩ := g_bi h552; clear h552
        refine g_cV (n := 3) (As := [.int x543, .int x545, .int x547]) X (c_X8_way hl D eS553) tw895 tw896 tw897 tw51 tw898 (by decide +kernel) rfl rfl ⟨Nat.le_of_ble_eq_true rfl, Nat.le_of_ble_eq_true rfl⟩ (ci := 8) rfl (by decide) ea549 ka549 rfl rfl (Nat.le_of_ble_eq_true rfl) dL_law_963 ⟨g551.1, g551.2⟩ ?_
        clear eS553 ea549 ka549
        refine g_istore (i := 6) (lv' := [(6, .int x555), (5, .int x542), (0, .ref b), (1, va_rf v1), (2, va_rf v2), (3, va_rf v3), (4, .int v4)]) X dL_law_966 (by decide) rfl ?_
        refine g_aload_n (j := 4) X dL_law_968 rfl rfl ?_
        obtain ⟨a556, ea556, ka556, h557⟩ := g_dc h554; clear h554
        obtain ⟨x560, S558, eS558, h559⟩ := g_bi h557; clear h557
        refine g_cV (n := 0) (As := []) X (c_X8_thrown hl D eS558) tw759 tw760 tw761 tw51 tw762 (by decide +kernel) rfl rfl ⟨Nat.le_of_ble_eq_true rfl, Nat.le_of_ble_eq_true rfl⟩ (ci := 8) rfl (by decide) ea556 ka556 rfl rfl (Nat.le_of_ble_eq_true rfl) dL_law_969 ⟨g551.1, g551.2⟩ ?_
        clear eS558 ea556 ka556
        refine g_iload (j := 1) X dL_law_972 rfl ?_
        refine g_icmp_eq (tgt := 979) X dL_law_974 (by decide) (fun c561 => ?_) (fun c561 => ?_)
        · have h562 := g_ip h559 c561; clear h559
          refine g_iload (j := 1) X dL_law_979 rfl ?_
          refine g_if_ne (tgt := 996) X dL_law_981 (by decide) (fun c564 => ?_) (fun c564 => ?_)
          · have h565 := g_in h562 c564; clear h562
            refine g_goto (tgt := 1642) X dL_law_996 (by decide) ?_
            obtain ⟨x567, ex567, h568⟩ := g_let h565; clear h565
            refine g_iinc (j := 6) (v := x567) (lv' := [(4, .int x567), (6, .int x555), (5, .int x542), (0, .ref b), (1, va_rf v1), (2, va_rf v2), (3, va_rf v3)]) X dL_law_1642 rfl (by rw [ex567]; rfl) (by decide) (by simp [g_rfc, g_ci, g_cj, g_cr]) ?_
            clear ex567
            refine g_goto (tgt := 23) X dL_law_1645 (by decide) ?_
            refine g_sub [3, 4, 5, 6, 0] rfl ?_
            exact ih S558 (cu + 2 + 1000) (su + 12 + 8000) v1 v2 v3 x567 h568
          · have h566 := g_ip h562 c564; clear h562
            refine g_aload_n (j := 5) X dL_law_984 rfl rfl ?_
            refine g_iconst X dL_law_985 (v := 0) (by decide) ?_
            obtain ⟨x569, ex569, h570⟩ := g_bd h566; clear h566
            refine g_lald X ex569 dL_law_986 ?_
            clear ex569
            refine g_iload (j := 0) X dL_law_987 rfl ?_
            refine g_i2l X dL_law_989 ?_
            refine g_lcmp X dL_law_990 ?_
            refine g_if_eq (tgt := 996) X dL_law_991 (by decide) (fun c571 => ?_) (fun c571 => ?_)
            · have h572 := g_ip h570 c571; clear h570
              refine g_goto (tgt := 1642) X dL_law_996 (by decide) ?_
              obtain ⟨x574, ex574, h575⟩ := g_let h572; clear h572
              refine g_iinc (j := 6) (v := x574) (lv' := [(4, .int x574), (6, .int x555), (5, .int x542), (0, .ref b), (1, va_rf v1), (2, va_rf v2), (3, va_rf v3)]) X dL_law_1642 rfl (by rw [ex574]; rfl) (by decide) (by simp [g_rfc, g_ci, g_cj, g_cr]) ?_
              clear ex574
              refine g_goto (tgt := 23) X dL_law_1645 (by decide) ?_
              refine g_sub [3, 4, 5, 6, 0] rfl ?_
              exact ih S558 (cu + 2 + 1000) (su + 12 + 8000) v1 v2 v3 x574 h575
            · have h573 := g_in h570 c571; clear h570
              refine g_iconst X dL_law_994 (v := 0) (by decide) ?_
              cases h573
        · have h563 := g_in h559 c561; clear h559
          refine g_iconst X dL_law_977 (v := 0) (by decide) ?_
          cases h563
      have h531 := g_in h480 c529; clear h480
      by_cases c576 : x24 = 15
      · have h577 := g_ip h531 c576; clear h531; subst c576
        refine g_tableIn (tgt := 999) X dL_law_40 (by decide) (by decide) rfl (by decide) ?_
        refine g_aload_n (j := 1) X dL_law_999 rfl rfl ?_
        refine g_aload_n (j := 0) (r := some b) X dL_law_1000 rfl rfl ?_
        refine g_iload (j := 4) X dL_law_1001 rfl ?_
        refine g_iconst X dL_law_1003 (v := 1) (by decide) ?_
        refine g_iadd X dL_law_1004 ?_
        obtain ⟨x579, ex579, h580⟩ := g_bd h577; clear h577
        refine g_sld X hX hbl ex579 dL_law_1005 ?_
        clear ex579
        refine g_aload_n (j := 0) (r := some b) X dL_law_1006 rfl rfl ?_
        refine g_iload (j := 4) X dL_law_1007 rfl ?_
        refine g_iconst X dL_law_1009 (v := 2) (by decide) ?_
        refine g_iadd X dL_law_1010 ?_
        obtain ⟨x581, ex581, h582⟩ := g_bd h580; clear h580
        refine g_sld X hX hbl ex581 dL_law_1011 ?_
        clear ex581
        refine g_aload_n (j := 0) (r := some b) X dL_law_1012 rfl rfl ?_
        refine g_iload (j := 4) X dL_law_1013 rfl ?_
        refine g_iconst X dL_law_1015 (v := 3) (by decide) ?_
        refine g_iadd X dL_law_1016 ?_
        obtain ⟨x583, ex583, h584⟩ := g_bd h582; clear h582
        refine g_sld X hX hbl ex583 dL_law_1017 ?_
        clear ex583
        refine g_aload_n (j := 3) X dL_law_1018 rfl rfl ?_
        obtain ⟨g585, h586⟩ := g_gd h584; clear h584
        obtain ⟨x589, S587, eS587, h588⟩ := g_bi h586; clear h586
        refine g_cSW (n := 5) (As := [va_rf v1, .int x579, .int x581, .int x583, va_rf v3]) X (c_L_proof hl D eS587) tw568 tw569 tw43 tw570 (by decide +kernel) rfl rfl ⟨Nat.le_of_ble_eq_true rfl, Nat.le_of_ble_eq_true rfl⟩ rfl rfl (Nat.le_of_ble_eq_true rfl) dL_law_1019 ⟨g585.1, g585.2⟩ ?_
        clear eS587
        refine g_istore (i := 5) (lv' := [(5, .int x589), (0, .ref b), (1, va_rf v1), (2, va_rf v2), (3, va_rf v3), (4, .int v4)]) X dL_law_1022 (by decide) rfl ?_
        refine g_aload_n (j := 3) X dL_law_1024 rfl rfl ?_
        refine g_aload_n (j := 1) (r := some b) X dL_law_1025 rfl rfl ?_
        refine g_iload (j := 5) X dL_law_1026 rfl ?_
        refine g_iconst X dL_law_1028 (v := 1) (by decide) ?_
        refine g_iadd X dL_law_1029 ?_
        obtain ⟨x590, ex590, h591⟩ := g_bd h588; clear h588
        refine g_sld X hX hbl ex590 dL_law_1030 ?_
        clear ex590
        refine g_aload_n (j := 1) (r := some b) X dL_law_1031 rfl rfl ?_
        refine g_iload (j := 5) X dL_law_1032 rfl ?_
        refine g_iconst X dL_law_1034 (v := 2) (by decide) ?_
        refine g_iadd X dL_law_1035 ?_
        obtain ⟨x592, ex592, h593⟩ := g_bd h591; clear h591
        refine g_sld X hX hbl ex592 dL_law_1036 ?_
        clear ex592
        refine g_aload_n (j := 1) (r := some b) X dL_law_1037 rfl rfl ?_
        refine g_iload (j := 5) X dL_law_1038 rfl ?_
        refine g_iconst X dL_law_1040 (v := 3) (by decide) ?_
        refine g_iadd X dL_law_1041 ?_
        obtain ⟨x594, ex594, h595⟩ := g_bd h593; clear h593
        refine g_sld X hX hbl ex594 dL_law_1042 ?_
        clear ex594
        obtain ⟨a596, ea596, ka596, h597⟩ := g_dc h595; clear h595
        obtain ⟨g598, h599⟩ := g_gd h597; clear h597
        obtain ⟨x602, S600, eS600, h601⟩ := g_bi h599; clear h599
        refine g_cV (n := 3) (As := [.int x590, .int x592, .int x594]) X (c_X8_proof hl D eS600) tw916 tw917 tw918 tw51 tw919 (by decide +kernel) rfl rfl ⟨Nat.le_of_ble_eq_true rfl, Nat.le_of_ble_eq_true rfl⟩ (ci := 8) rfl (by decide) ea596 ka596 rfl rfl (Nat.le_of_ble_eq_true rfl) dL_law_1043 ⟨g598.1, g598.2⟩ ?_
        clear eS600 ea596 ka596
        refine g_istore (i := 6) (lv' := [(6, .int x602), (5, .int x589), (0, .ref b), (1, va_rf v1), (2, va_rf v2), (3, va_rf v3), (4, .int v4)]) X dL_law_1046 (by decide) rfl ?_
        refine g_aload_n (j := 4) X dL_law_1048 rfl rfl ?_
        obtain ⟨a603, ea603, ka603, h604⟩ := g_dc h601; clear h601
        obtain ⟨x607, S605, eS605, h606⟩ := g_bi h604; clear h604
        refine g_cV (n := 0) (As := []) X (c_X8_thrown hl D eS605) tw759 tw760 tw761 tw51 tw762 (by decide +kernel) rfl rfl ⟨Nat.le_of_ble_eq_true rfl, Nat.le_of_ble_eq_true rfl⟩ (ci := 8) rfl (by decide) ea603 ka603 rfl rfl (Nat.le_of_ble_eq_true rfl) dL_law_1049 ⟨g598.1, g598.2⟩ ?_
        clear eS605 ea603 ka603
        refine g_iload (j := 1) X dL_law_1052 rfl ?_
        refine g_icmp_eq (tgt := 1059) X dL_law_1054 (by decide) (fun c608 => ?_) (fun c608 => ?_)
        · have h609 := g_ip h606 c608; clear h606
          refine g_iload (j := 1) X dL_law_1059 rfl ?_
          refine g_if_ne (tgt := 1076) X dL_law_1061 (by decide) (fun c611 => ?_) (fun c611 => ?_)
          · have h612 := g_in h609 c611; clear h609
            refine g_goto (tgt := 1642) X dL_law_1076 (by decide) ?_
            obtain ⟨x614, ex614, h615⟩ := g_let h612; clear h612
            refine g_iinc (j := 6) (v := x614) (lv' := [(4, .int x614), (6, .int x602), (5, .int x589), (0, .ref b), (1, va_rf v1), (2, va_rf v2), (3, va_rf v3)]) X dL_law_1642 rfl (by rw [ex614]; rfl) (by decide) (by simp [g_rfc, g_ci, g_cj, g_cr]) ?_
            clear ex614
            refine g_goto (tgt := 23) X dL_law_1645 (by decide) ?_
            refine g_sub [3, 4, 5, 6, 0] rfl ?_
            exact ih S605 (cu + 2 + 1000) (su + 12 + 8000) v1 v2 v3 x614 h615
          · have h613 := g_ip h609 c611; clear h609
            refine g_aload_n (j := 5) X dL_law_1064 rfl rfl ?_
            refine g_iconst X dL_law_1065 (v := 0) (by decide) ?_
            obtain ⟨x616, ex616, h617⟩ := g_bd h613; clear h613
            refine g_lald X ex616 dL_law_1066 ?_
            clear ex616
            refine g_iload (j := 0) X dL_law_1067 rfl ?_
            refine g_i2l X dL_law_1069 ?_
            refine g_lcmp X dL_law_1070 ?_
            refine g_if_eq (tgt := 1076) X dL_law_1071 (by decide) (fun c618 => ?_) (fun c618 => ?_)
            · have h619 := g_ip h617 c618; clear h617
              refine g_goto (tgt := 1642) X dL_law_1076 (by decide) ?_
              obtain ⟨x621, ex621, h622⟩ := g_let h619; clear h619
              refine g_iinc (j := 6) (v := x621) (lv' := [(4, .int x621), (6, .int x602), (5, .int x589), (0, .ref b), (1, va_rf v1), (2, va_rf v2), (3, va_rf v3)]) X dL_law_1642 rfl (by rw [ex621]; rfl) (by decide) (by simp [g_rfc, g_ci, g_cj, g_cr]) ?_
              clear ex621
              refine g_goto (tgt := 23) X dL_law_1645 (by decide) ?_
              refine g_sub [3, 4, 5, 6, 0] rfl ?_
              exact ih S605 (cu + 2 + 1000) (su + 12 + 8000) v1 v2 v3 x621 h622
            · have h620 := g_in h617 c618; clear h617
              refine g_iconst X dL_law_1074 (v := 0) (by decide) ?_
              cases h620
        · have h610 := g_in h606 c608; clear h606
          refine g_iconst X dL_law_1057 (v := 0) (by decide) ?_
          cases h610
      have h578 := g_in h531 c576; clear h531
      by_cases c623 : x24 = 16
      · have h624 := g_ip h578 c623; clear h578; subst c623
        refine g_tableIn (tgt := 1079) X dL_law_40 (by decide) (by decide) rfl (by decide) ?_
        refine g_aload_n (j := 1) X dL_law_1079 rfl rfl ?_
        refine g_aload_n (j := 0) (r := some b) X dL_law_1080 rfl rfl ?_
        refine g_iload (j := 4) X dL_law_1081 rfl ?_
        refine g_iconst X dL_law_1083 (v := 1) (by decide) ?_
        refine g_iadd X dL_law_1084 ?_
        obtain ⟨x626, ex626, h627⟩ := g_bd h624; clear h624
        refine g_sld X hX hbl ex626 dL_law_1085 ?_
        clear ex626
        refine g_i2l X dL_law_1086 ?_
        refine g_bipush X dL_law_1087 (v := 32) (by decide) ?_
        refine g_lshl X dL_law_1089 ?_
        refine g_aload_n (j := 0) (r := some b) X dL_law_1090 rfl rfl ?_
        refine g_iload (j := 4) X dL_law_1091 rfl ?_
        refine g_iconst X dL_law_1093 (v := 2) (by decide) ?_
        refine g_iadd X dL_law_1094 ?_
        obtain ⟨x628, ex628, h629⟩ := g_bd h627; clear h627
        refine g_sld X hX hbl ex628 dL_law_1095 ?_
        clear ex628
        refine g_i2l X dL_law_1096 ?_
        refine g_ldc2 X tw984 dL_law_1097 ?_
        refine g_land X dL_law_1100 ?_
        refine g_lor X dL_law_1101 ?_
        refine g_aload_n (j := 0) (r := some b) X dL_law_1102 rfl rfl ?_
        refine g_iload (j := 4) X dL_law_1103 rfl ?_
        refine g_iconst X dL_law_1105 (v := 3) (by decide) ?_
        refine g_iadd X dL_law_1106 ?_
        obtain ⟨x630, ex630, h631⟩ := g_bd h629; clear h629
        refine g_sld X hX hbl ex630 dL_law_1107 ?_
        clear ex630
        refine g_i2l X dL_law_1108 ?_
        refine g_bipush X dL_law_1109 (v := 32) (by decide) ?_
        refine g_lshl X dL_law_1111 ?_
        refine g_aload_n (j := 0) (r := some b) X dL_law_1112 rfl rfl ?_
        refine g_iload (j := 4) X dL_law_1113 rfl ?_
        refine g_iconst X dL_law_1115 (v := 4) (by decide) ?_
        refine g_iadd X dL_law_1116 ?_
        obtain ⟨x632, ex632, h633⟩ := g_bd h631; clear h631
        refine g_sld X hX hbl ex632 dL_law_1117 ?_
        clear ex632
        refine g_i2l X dL_law_1118 ?_
        refine g_ldc2 X tw984 dL_law_1119 ?_
        refine g_land X dL_law_1122 ?_
        refine g_lor X dL_law_1123 ?_
        obtain ⟨a634, ea634, ka634, h635⟩ := g_dc h633; clear h633
        obtain ⟨x638, S636, eS636, h637⟩ := g_bi h635; clear h635
        refine g_cV (n := 2) (As := [.long ((x626.toInt64 <<< ((32 : Int32).toInt64 &&& 63)) ||| (x628.toInt64 &&& 4294967295)), .long ((x630.toInt64 <<< ((32 : Int32).toInt64 &&& 63)) ||| (x632.toInt64 &&& 4294967295))]) X (c_X7_isIn hl D eS636) tw246 tw247 tw248 tw44 tw249 (by decide +kernel) rfl rfl ⟨Nat.le_of_ble_eq_true rfl, Nat.le_of_ble_eq_true rfl⟩ (ci := 7) rfl (by decide) ea634 ka634 rfl rfl (Nat.le_of_ble_eq_true rfl) dL_law_1124 ⟨gu.1, gu.2⟩ ?_
        clear eS636 ea634 ka634
        refine g_aload_n (j := 2) X dL_law_1127 rfl rfl ?_
        refine g_aload_n (j := 0) (r := some b) X dL_law_1128 rfl rfl ?_
        refine g_iload (j := 4) X dL_law_1129 rfl ?_
        refine g_iconst X dL_law_1131 (v := 1) (by decide) ?_
        refine g_iadd X dL_law_1132 ?_
        obtain ⟨x639, ex639, h640⟩ := g_bd h637; clear h637
        refine g_sld X hX hbl ex639 dL_law_1133 ?_
        clear ex639
        refine g_i2l X dL_law_1134 ?_
        refine g_bipush X dL_law_1135 (v := 32) (by decide) ?_
        refine g_lshl X dL_law_1137 ?_
        refine g_aload_n (j := 0) (r := some b) X dL_law_1138 rfl rfl ?_
        refine g_iload (j := 4) X dL_law_1139 rfl ?_
        refine g_iconst X dL_law_1141 (v := 2) (by decide) ?_
        refine g_iadd X dL_law_1142 ?_
        obtain ⟨x641, ex641, h642⟩ := g_bd h640; clear h640
        refine g_sld X hX hbl ex641 dL_law_1143 ?_
        clear ex641
        refine g_i2l X dL_law_1144 ?_
        refine g_ldc2 X tw984 dL_law_1145 ?_
        refine g_land X dL_law_1148 ?_
        refine g_lor X dL_law_1149 ?_
        refine g_aload_n (j := 0) (r := some b) X dL_law_1150 rfl rfl ?_
        refine g_iload (j := 4) X dL_law_1151 rfl ?_
        refine g_iconst X dL_law_1153 (v := 3) (by decide) ?_
        refine g_iadd X dL_law_1154 ?_
        obtain ⟨x643, ex643, h644⟩ := g_bd h642; clear h642
        refine g_sld X hX hbl ex643 dL_law_1155 ?_
        clear ex643
        refine g_i2l X dL_law_1156 ?_
        refine g_bipush X dL_law_1157 (v := 32) (by decide) ?_
        refine g_lshl X dL_law_1159 ?_
        refine g_aload_n (j := 0) (r := some b) X dL_law_1160 rfl rfl ?_
        refine g_iload (j := 4) X dL_law_1161 rfl ?_
        refine g_iconst X dL_law_1163 (v := 4) (by decide) ?_
        refine g_iadd X dL_law_1164 ?_
        obtain ⟨x645, ex645, h646⟩ := g_bd h644; clear h644
        refine g_sld X hX hbl ex645 dL_law_1165 ?_
        clear ex645
        refine g_i2l X dL_law_1166 ?_
        refine g_ldc2 X tw984 dL_law_1167 ?_
        refine g_land X dL_law_1170 ?_
        refine g_lor X dL_law_1171 ?_
        obtain ⟨a647, ea647, ka647, h648⟩ := g_dc h646; clear h646
        obtain ⟨g649, h650⟩ := g_gd h648; clear h648
        obtain ⟨x653, S651, eS651, h652⟩ := g_bi h650; clear h650
        refine g_cV (n := 2) (As := [.long ((x639.toInt64 <<< ((32 : Int32).toInt64 &&& 63)) ||| (x641.toInt64 &&& 4294967295)), .long ((x643.toInt64 <<< ((32 : Int32).toInt64 &&& 63)) ||| (x645.toInt64 &&& 4294967295))]) X (c_X8_isIn hl D eS651) tw926 tw927 tw928 tw51 tw929 (by decide +kernel) rfl rfl ⟨Nat.le_of_ble_eq_true rfl, Nat.le_of_ble_eq_true rfl⟩ (ci := 8) rfl (by decide) ea647 ka647 rfl rfl (Nat.le_of_ble_eq_true rfl) dL_law_1172 ⟨g649.1, g649.2⟩ ?_
        clear eS651 ea647 ka647
        refine g_icmp_eq (tgt := 1642) X dL_law_1175 (by decide) (fun c654 => ?_) (fun c654 => ?_)
        · have h655 := g_ip h652 c654; clear h652
          obtain ⟨x657, ex657, h658⟩ := g_let h655; clear h655
          refine g_iinc (j := 4) (v := x657) (lv' := [(4, .int x657), (0, .ref b), (1, va_rf v1), (2, va_rf v2), (3, va_rf v3)]) X dL_law_1642 rfl (by rw [ex657]; rfl) (by decide) (by simp [g_rfc, g_ci, g_cj, g_cr]) ?_
          clear ex657
          refine g_goto (tgt := 23) X dL_law_1645 (by decide) ?_
          refine g_sub [1, 2, 3, 4, 0] rfl ?_
          exact ih S651 (cu + 70) (su + 560) v1 v2 v3 x657 h658
        · have h656 := g_in h652 c654; clear h652
          refine g_iconst X dL_law_1178 (v := 0) (by decide) ?_
          cases h656
      have h625 := g_in h578 c623; clear h578
      by_cases c659 : x24 = 17
      · have h660 := g_ip h625 c659; clear h625; subst c659
        refine g_tableIn (tgt := 1180) X dL_law_40 (by decide) (by decide) rfl (by decide) ?_
        refine g_aload_n (j := 1) X dL_law_1180 rfl rfl ?_
        refine g_aload_n (j := 0) (r := some b) X dL_law_1181 rfl rfl ?_
        refine g_iload (j := 4) X dL_law_1182 rfl ?_
        refine g_iconst X dL_law_1184 (v := 1) (by decide) ?_
        refine g_iadd X dL_law_1185 ?_
        obtain ⟨x662, ex662, h663⟩ := g_bd h660; clear h660
        refine g_sld X hX hbl ex662 dL_law_1186 ?_
        clear ex662
        refine g_i2l X dL_law_1187 ?_
        refine g_bipush X dL_law_1188 (v := 32) (by decide) ?_
        refine g_lshl X dL_law_1190 ?_
        refine g_aload_n (j := 0) (r := some b) X dL_law_1191 rfl rfl ?_
        refine g_iload (j := 4) X dL_law_1192 rfl ?_
        refine g_iconst X dL_law_1194 (v := 2) (by decide) ?_
        refine g_iadd X dL_law_1195 ?_
        obtain ⟨x664, ex664, h665⟩ := g_bd h663; clear h663
        refine g_sld X hX hbl ex664 dL_law_1196 ?_
        clear ex664
        refine g_i2l X dL_law_1197 ?_
        refine g_ldc2 X tw984 dL_law_1198 ?_
        refine g_land X dL_law_1201 ?_
        refine g_lor X dL_law_1202 ?_
        refine g_aload_n (j := 0) (r := some b) X dL_law_1203 rfl rfl ?_
        refine g_iload (j := 4) X dL_law_1204 rfl ?_
        refine g_iconst X dL_law_1206 (v := 3) (by decide) ?_
        refine g_iadd X dL_law_1207 ?_
        obtain ⟨x666, ex666, h667⟩ := g_bd h665; clear h665
        refine g_sld X hX hbl ex666 dL_law_1208 ?_
        clear ex666
        refine g_i2l X dL_law_1209 ?_
        refine g_bipush X dL_law_1210 (v := 32) (by decide) ?_
        refine g_lshl X dL_law_1212 ?_
        refine g_aload_n (j := 0) (r := some b) X dL_law_1213 rfl rfl ?_
        refine g_iload (j := 4) X dL_law_1214 rfl ?_
        refine g_iconst X dL_law_1216 (v := 4) (by decide) ?_
        refine g_iadd X dL_law_1217 ?_
        obtain ⟨x668, ex668, h669⟩ := g_bd h667; clear h667
        refine g_sld X hX hbl ex668 dL_law_1218 ?_
        clear ex668
        refine g_i2l X dL_law_1219 ?_
        refine g_ldc2 X tw984 dL_law_1220 ?_
        refine g_land X dL_law_1223 ?_
        refine g_lor X dL_law_1224 ?_
        obtain ⟨a670, ea670, ka670, h671⟩ := g_dc h669; clear h669
        obtain ⟨x674, S672, eS672, h673⟩ := g_bi h671; clear h671
        refine g_cV (n := 2) (As := [.long ((x662.toInt64 <<< ((32 : Int32).toInt64 &&& 63)) ||| (x664.toInt64 &&& 4294967295)), .long ((x666.toInt64 <<< ((32 : Int32).toInt64 &&& 63)) ||| (x668.toInt64 &&& 4294967295))]) X (c_X7_isOn hl D eS672) tw324 tw325 tw326 tw44 tw327 (by decide +kernel) rfl rfl ⟨Nat.le_of_ble_eq_true rfl, Nat.le_of_ble_eq_true rfl⟩ (ci := 7) rfl (by decide) ea670 ka670 rfl rfl (Nat.le_of_ble_eq_true rfl) dL_law_1225 ⟨gu.1, gu.2⟩ ?_
        clear eS672 ea670 ka670
        refine g_aload_n (j := 2) X dL_law_1228 rfl rfl ?_
        refine g_aload_n (j := 0) (r := some b) X dL_law_1229 rfl rfl ?_
        refine g_iload (j := 4) X dL_law_1230 rfl ?_
        refine g_iconst X dL_law_1232 (v := 1) (by decide) ?_
        refine g_iadd X dL_law_1233 ?_
        obtain ⟨x675, ex675, h676⟩ := g_bd h673; clear h673
        refine g_sld X hX hbl ex675 dL_law_1234 ?_
        clear ex675
        refine g_i2l X dL_law_1235 ?_
        refine g_bipush X dL_law_1236 (v := 32) (by decide) ?_
        refine g_lshl X dL_law_1238 ?_
        refine g_aload_n (j := 0) (r := some b) X dL_law_1239 rfl rfl ?_
        refine g_iload (j := 4) X dL_law_1240 rfl ?_
        refine g_iconst X dL_law_1242 (v := 2) (by decide) ?_
        refine g_iadd X dL_law_1243 ?_
        obtain ⟨x677, ex677, h678⟩ := g_bd h676; clear h676
        refine g_sld X hX hbl ex677 dL_law_1244 ?_
        clear ex677
        refine g_i2l X dL_law_1245 ?_
        refine g_ldc2 X tw984 dL_law_1246 ?_
        refine g_land X dL_law_1249 ?_
        refine g_lor X dL_law_1250 ?_
        refine g_aload_n (j := 0) (r := some b) X dL_law_1251 rfl rfl ?_
        refine g_iload (j := 4) X dL_law_1252 rfl ?_
        refine g_iconst X dL_law_1254 (v := 3) (by decide) ?_
        refine g_iadd X dL_law_1255 ?_
        obtain ⟨x679, ex679, h680⟩ := g_bd h678; clear h678
        refine g_sld X hX hbl ex679 dL_law_1256 ?_
        clear ex679
        refine g_i2l X dL_law_1257 ?_
        refine g_bipush X dL_law_1258 (v := 32) (by decide) ?_
        refine g_lshl X dL_law_1260 ?_
        refine g_aload_n (j := 0) (r := some b) X dL_law_1261 rfl rfl ?_
        refine g_iload (j := 4) X dL_law_1262 rfl ?_
        refine g_iconst X dL_law_1264 (v := 4) (by decide) ?_
        refine g_iadd X dL_law_1265 ?_
        obtain ⟨x681, ex681, h682⟩ := g_bd h680; clear h680
        refine g_sld X hX hbl ex681 dL_law_1266 ?_
        clear ex681
        refine g_i2l X dL_law_1267 ?_
        refine g_ldc2 X tw984 dL_law_1268 ?_
        refine g_land X dL_law_1271 ?_
        refine g_lor X dL_law_1272 ?_
        obtain ⟨a683, ea683, ka683, h684⟩ := g_dc h682; clear h682
        obtain ⟨g685, h686⟩ := g_gd h684; clear h684
        obtain ⟨x689, S687, eS687, h688⟩ := g_bi h686; clear h686
        refine g_cV (n := 2) (As := [.long ((x675.toInt64 <<< ((32 : Int32).toInt64 &&& 63)) ||| (x677.toInt64 &&& 4294967295)), .long ((x679.toInt64 <<< ((32 : Int32).toInt64 &&& 63)) ||| (x681.toInt64 &&& 4294967295))]) X (c_X8_isOn hl D eS687) tw930 tw931 tw932 tw51 tw933 (by decide +kernel) rfl rfl ⟨Nat.le_of_ble_eq_true rfl, Nat.le_of_ble_eq_true rfl⟩ (ci := 8) rfl (by decide) ea683 ka683 rfl rfl (Nat.le_of_ble_eq_true rfl) dL_law_1273 ⟨g685.1, g685.2⟩ ?_
        clear eS687 ea683 ka683
        refine g_icmp_eq (tgt := 1642) X dL_law_1276 (by decide) (fun c690 => ?_) (fun c690 => ?_)
        · have h691 := g_ip h688 c690; clear h688
          obtain ⟨x693, ex693, h694⟩ := g_let h691; clear h691
          refine g_iinc (j := 4) (v := x693) (lv' := [(4, .int x693), (0, .ref b), (1, va_rf v1), (2, va_rf v2), (3, va_rf v3)]) X dL_law_1642 rfl (by rw [ex693]; rfl) (by decide) (by simp [g_rfc, g_ci, g_cj, g_cr]) ?_
          clear ex693
          refine g_goto (tgt := 23) X dL_law_1645 (by decide) ?_
          refine g_sub [1, 2, 3, 4, 0] rfl ?_
          exact ih S687 (cu + 140) (su + 1120) v1 v2 v3 x693 h694
        · have h692 := g_in h688 c690; clear h688
          refine g_iconst X dL_law_1279 (v := 0) (by decide) ?_
          cases h692
      have h661 := g_in h625 c659; clear h625
      by_cases c695 : x24 = 18
      · have h696 := g_ip h661 c695; clear h661; subst c695
        refine g_tableIn (tgt := 1281) X dL_law_40 (by decide) (by decide) rfl (by decide) ?_
        refine g_aload_n (j := 1) X dL_law_1281 rfl rfl ?_
        refine g_aload_n (j := 0) (r := some b) X dL_law_1282 rfl rfl ?_
        refine g_iload (j := 4) X dL_law_1283 rfl ?_
        refine g_iconst X dL_law_1285 (v := 1) (by decide) ?_
        refine g_iadd X dL_law_1286 ?_
        obtain ⟨x698, ex698, h699⟩ := g_bd h696; clear h696
        refine g_sld X hX hbl ex698 dL_law_1287 ?_
        clear ex698
        refine g_aload_n (j := 3) X dL_law_1288 rfl rfl ?_
        obtain ⟨g700, h701⟩ := g_gd h699; clear h699
        obtain ⟨x704, S702, eS702, h703⟩ := g_bi h701; clear h701
        refine g_cSW (n := 3) (As := [va_rf v1, .int x698, va_rf v3]) X (c_L_isSealed hl D eS702) tw575 tw576 tw43 tw577 (by decide +kernel) rfl rfl ⟨Nat.le_of_ble_eq_true rfl, Nat.le_of_ble_eq_true rfl⟩ rfl rfl (Nat.le_of_ble_eq_true rfl) dL_law_1289 ⟨g700.1, g700.2⟩ ?_
        clear eS702
        refine g_istore (i := 5) (lv' := [(5, .int x704), (0, .ref b), (1, va_rf v1), (2, va_rf v2), (3, va_rf v3), (4, .int v4)]) X dL_law_1292 (by decide) rfl ?_
        refine g_aload_n (j := 3) X dL_law_1294 rfl rfl ?_
        refine g_aload_n (j := 1) (r := some b) X dL_law_1295 rfl rfl ?_
        refine g_iload (j := 5) X dL_law_1296 rfl ?_
        refine g_iconst X dL_law_1298 (v := 1) (by decide) ?_
        refine g_iadd X dL_law_1299 ?_
        obtain ⟨x705, ex705, h706⟩ := g_bd h703; clear h703
        refine g_sld X hX hbl ex705 dL_law_1300 ?_
        clear ex705
        obtain ⟨a707, ea707, ka707, h708⟩ := g_dc h706; clear h706
        obtain ⟨g709, h710⟩ := g_gd h708; clear h708
        obtain ⟨x713, S711, eS711, h712⟩ := g_bi h710; clear h710
        refine g_cV (n := 1) (As := [.int x705]) X (c_X8_isSealed hl D eS711) tw937 tw938 tw939 tw51 tw940 (by decide +kernel) rfl rfl ⟨Nat.le_of_ble_eq_true rfl, Nat.le_of_ble_eq_true rfl⟩ (ci := 8) rfl (by decide) ea707 ka707 rfl rfl (Nat.le_of_ble_eq_true rfl) dL_law_1301 ⟨g709.1, g709.2⟩ ?_
        clear eS711 ea707 ka707
        refine g_istore (i := 6) (lv' := [(6, .int x713), (5, .int x704), (0, .ref b), (1, va_rf v1), (2, va_rf v2), (3, va_rf v3), (4, .int v4)]) X dL_law_1304 (by decide) rfl ?_
        refine g_aload_n (j := 4) X dL_law_1306 rfl rfl ?_
        obtain ⟨a714, ea714, ka714, h715⟩ := g_dc h712; clear h712
        obtain ⟨x718, S716, eS716, h717⟩ := g_bi h715; clear h715
        refine g_cV (n := 0) (As := []) X (c_X8_thrown hl D eS716) tw759 tw760 tw761 tw51 tw762 (by decide +kernel) rfl rfl ⟨Nat.le_of_ble_eq_true rfl, Nat.le_of_ble_eq_true rfl⟩ (ci := 8) rfl (by decide) ea714 ka714 rfl rfl (Nat.le_of_ble_eq_true rfl) dL_law_1307 ⟨g709.1, g709.2⟩ ?_
        clear eS716 ea714 ka714
        refine g_iload (j := 1) X dL_law_1310 rfl ?_
        refine g_icmp_eq (tgt := 1317) X dL_law_1312 (by decide) (fun c719 => ?_) (fun c719 => ?_)
        · have h720 := g_ip h717 c719; clear h717
          refine g_iload (j := 1) X dL_law_1317 rfl ?_
          refine g_if_ne (tgt := 1341) X dL_law_1319 (by decide) (fun c722 => ?_) (fun c722 => ?_)
          · have h723 := g_in h720 c722; clear h720
            refine g_goto (tgt := 1642) X dL_law_1341 (by decide) ?_
            obtain ⟨x725, ex725, h726⟩ := g_let h723; clear h723
            refine g_iinc (j := 6) (v := x725) (lv' := [(4, .int x725), (6, .int x713), (5, .int x704), (0, .ref b), (1, va_rf v1), (2, va_rf v2), (3, va_rf v3)]) X dL_law_1642 rfl (by rw [ex725]; rfl) (by decide) (by simp [g_rfc, g_ci, g_cj, g_cr]) ?_
            clear ex725
            refine g_goto (tgt := 23) X dL_law_1645 (by decide) ?_
            refine g_sub [3, 4, 5, 6, 0] rfl ?_
            exact ih S716 (cu + 2 + 3) (su + 12 + 24) v1 v2 v3 x725 h726
          · have h724 := g_ip h720 c722; clear h720
            refine g_aload_n (j := 5) X dL_law_1322 rfl rfl ?_
            refine g_iconst X dL_law_1323 (v := 0) (by decide) ?_
            obtain ⟨x727, ex727, h728⟩ := g_bd h724; clear h724
            refine g_lald X ex727 dL_law_1324 ?_
            clear ex727
            refine g_iload (j := 0) X dL_law_1325 rfl ?_
            refine g_if_eq (tgt := 1334) X dL_law_1327 (by decide) (fun c729 => ?_) (fun c729 => ?_)
            · have h730 := g_ip h728 c729; clear h728
              refine g_lconst X dL_law_1334 (v := 0) (by decide) ?_
              refine g_lcmp X dL_law_1335 ?_
              refine g_if_eq (tgt := 1341) X dL_law_1336 (by decide) (fun c732 => ?_) (fun c732 => ?_)
              · have h733 := g_ip h730 c732; clear h730
                refine g_goto (tgt := 1642) X dL_law_1341 (by decide) ?_
                obtain ⟨x735, ex735, h736⟩ := g_let h733; clear h733
                refine g_iinc (j := 6) (v := x735) (lv' := [(4, .int x735), (6, .int x713), (5, .int x704), (0, .ref b), (1, va_rf v1), (2, va_rf v2), (3, va_rf v3)]) X dL_law_1642 rfl (by rw [ex735]; rfl) (by decide) (by simp [g_rfc, g_ci, g_cj, g_cr]) ?_
                clear ex735
                refine g_goto (tgt := 23) X dL_law_1645 (by decide) ?_
                refine g_sub [3, 4, 5, 6, 0] rfl ?_
                exact ih S716 (cu + 2 + 3) (su + 12 + 24) v1 v2 v3 x735 h736
              · have h734 := g_in h730 c732; clear h730
                refine g_iconst X dL_law_1339 (v := 0) (by decide) ?_
                cases h734
            · have h731 := g_in h728 c729; clear h728
              refine g_lconst X dL_law_1330 (v := 1) (by decide) ?_
              refine g_goto (tgt := 1335) X dL_law_1331 (by decide) ?_
              refine g_lcmp X dL_law_1335 ?_
              refine g_if_eq (tgt := 1341) X dL_law_1336 (by decide) (fun c737 => ?_) (fun c737 => ?_)
              · have h738 := g_ip h731 c737; clear h731
                refine g_goto (tgt := 1642) X dL_law_1341 (by decide) ?_
                obtain ⟨x740, ex740, h741⟩ := g_let h738; clear h738
                refine g_iinc (j := 6) (v := x740) (lv' := [(4, .int x740), (6, .int x713), (5, .int x704), (0, .ref b), (1, va_rf v1), (2, va_rf v2), (3, va_rf v3)]) X dL_law_1642 rfl (by rw [ex740]; rfl) (by decide) (by simp [g_rfc, g_ci, g_cj, g_cr]) ?_
                clear ex740
                refine g_goto (tgt := 23) X dL_law_1645 (by decide) ?_
                refine g_sub [3, 4, 5, 6, 0] rfl ?_
                exact ih S716 (cu + 2 + 3) (su + 12 + 24) v1 v2 v3 x740 h741
              · have h739 := g_in h731 c737; clear h731
                refine g_iconst X dL_law_1339 (v := 0) (by decide) ?_
                cases h739
        · have h721 := g_in h717 c719; clear h717
          refine g_iconst X dL_law_1315 (v := 0) (by decide) ?_
          cases h721
      have h697 := g_in h661 c695; clear h661
      by_cases c742 : x24 = 19
      · have h743 := g_ip h697 c742; clear h697; subst c742
        refine g_tableIn (tgt := 1344) X dL_law_40 (by decide) (by decide) rfl (by decide) ?_
        refine g_aload_n (j := 1) X dL_law_1344 rfl rfl ?_
        refine g_aload_n (j := 0) (r := some b) X dL_law_1345 rfl rfl ?_
        refine g_iload (j := 4) X dL_law_1346 rfl ?_
        refine g_iconst X dL_law_1348 (v := 1) (by decide) ?_
        refine g_iadd X dL_law_1349 ?_
        obtain ⟨x745, ex745, h746⟩ := g_bd h743; clear h743
        refine g_sld X hX hbl ex745 dL_law_1350 ?_
        clear ex745
        refine g_aload_n (j := 3) X dL_law_1351 rfl rfl ?_
        obtain ⟨g747, h748⟩ := g_gd h746; clear h746
        obtain ⟨x751, S749, eS749, h750⟩ := g_bi h748; clear h748
        refine g_cSW (n := 3) (As := [va_rf v1, .int x745, va_rf v3]) X (c_L_seal hl D eS749) tw586 tw587 tw43 tw588 (by decide +kernel) rfl rfl ⟨Nat.le_of_ble_eq_true rfl, Nat.le_of_ble_eq_true rfl⟩ rfl rfl (Nat.le_of_ble_eq_true rfl) dL_law_1352 ⟨g747.1, g747.2⟩ ?_
        clear eS749
        refine g_istore (i := 5) (lv' := [(5, .int x751), (0, .ref b), (1, va_rf v1), (2, va_rf v2), (3, va_rf v3), (4, .int v4)]) X dL_law_1355 (by decide) rfl ?_
        refine g_aload_n (j := 3) X dL_law_1357 rfl rfl ?_
        refine g_aload_n (j := 1) (r := some b) X dL_law_1358 rfl rfl ?_
        refine g_iload (j := 5) X dL_law_1359 rfl ?_
        refine g_iconst X dL_law_1361 (v := 1) (by decide) ?_
        refine g_iadd X dL_law_1362 ?_
        obtain ⟨x752, ex752, h753⟩ := g_bd h750; clear h750
        refine g_sld X hX hbl ex752 dL_law_1363 ?_
        clear ex752
        obtain ⟨a754, ea754, ka754, h755⟩ := g_dc h753; clear h753
        obtain ⟨g756, h757⟩ := g_gd h755; clear h755
        obtain ⟨x760, S758, eS758, h759⟩ := g_bi h757; clear h757
        refine g_cV (n := 1) (As := [.int x752]) X (c_X8_seal hl D eS758) tw947 tw948 tw949 tw51 tw950 (by decide +kernel) rfl rfl ⟨Nat.le_of_ble_eq_true rfl, Nat.le_of_ble_eq_true rfl⟩ (ci := 8) rfl (by decide) ea754 ka754 rfl rfl (Nat.le_of_ble_eq_true rfl) dL_law_1364 ⟨g756.1, g756.2⟩ ?_
        clear eS758 ea754 ka754
        refine g_istore (i := 6) (lv' := [(6, .int x760), (5, .int x751), (0, .ref b), (1, va_rf v1), (2, va_rf v2), (3, va_rf v3), (4, .int v4)]) X dL_law_1367 (by decide) rfl ?_
        refine g_aload_n (j := 4) X dL_law_1369 rfl rfl ?_
        obtain ⟨a761, ea761, ka761, h762⟩ := g_dc h759; clear h759
        obtain ⟨x765, S763, eS763, h764⟩ := g_bi h762; clear h762
        refine g_cV (n := 0) (As := []) X (c_X8_thrown hl D eS763) tw759 tw760 tw761 tw51 tw762 (by decide +kernel) rfl rfl ⟨Nat.le_of_ble_eq_true rfl, Nat.le_of_ble_eq_true rfl⟩ (ci := 8) rfl (by decide) ea761 ka761 rfl rfl (Nat.le_of_ble_eq_true rfl) dL_law_1370 ⟨g756.1, g756.2⟩ ?_
        clear eS763 ea761 ka761
        refine g_iload (j := 1) X dL_law_1373 rfl ?_
        refine g_icmp_eq (tgt := 1380) X dL_law_1375 (by decide) (fun c766 => ?_) (fun c766 => ?_)
        · have h767 := g_ip h764 c766; clear h764
          refine g_iload (j := 1) X dL_law_1380 rfl ?_
          refine g_if_ne (tgt := 1404) X dL_law_1382 (by decide) (fun c769 => ?_) (fun c769 => ?_)
          · have h770 := g_in h767 c769; clear h767
            refine g_goto (tgt := 1642) X dL_law_1404 (by decide) ?_
            obtain ⟨x772, ex772, h773⟩ := g_let h770; clear h770
            refine g_iinc (j := 6) (v := x772) (lv' := [(4, .int x772), (6, .int x760), (5, .int x751), (0, .ref b), (1, va_rf v1), (2, va_rf v2), (3, va_rf v3)]) X dL_law_1642 rfl (by rw [ex772]; rfl) (by decide) (by simp [g_rfc, g_ci, g_cj, g_cr]) ?_
            clear ex772
            refine g_goto (tgt := 23) X dL_law_1645 (by decide) ?_
            refine g_sub [3, 4, 5, 6, 0] rfl ?_
            exact ih S763 (cu + 2 + 3) (su + 12 + 24) v1 v2 v3 x772 h773
          · have h771 := g_ip h767 c769; clear h767
            refine g_aload_n (j := 5) X dL_law_1385 rfl rfl ?_
            refine g_iconst X dL_law_1386 (v := 0) (by decide) ?_
            obtain ⟨x774, ex774, h775⟩ := g_bd h771; clear h771
            refine g_lald X ex774 dL_law_1387 ?_
            clear ex774
            refine g_iload (j := 0) X dL_law_1388 rfl ?_
            refine g_if_eq (tgt := 1397) X dL_law_1390 (by decide) (fun c776 => ?_) (fun c776 => ?_)
            · have h777 := g_ip h775 c776; clear h775
              refine g_lconst X dL_law_1397 (v := 0) (by decide) ?_
              refine g_lcmp X dL_law_1398 ?_
              refine g_if_eq (tgt := 1404) X dL_law_1399 (by decide) (fun c779 => ?_) (fun c779 => ?_)
              · have h780 := g_ip h777 c779; clear h777
                refine g_goto (tgt := 1642) X dL_law_1404 (by decide) ?_
                obtain ⟨x782, ex782, h783⟩ := g_let h780; clear h780
                refine g_iinc (j := 6) (v := x782) (lv' := [(4, .int x782), (6, .int x760), (5, .int x751), (0, .ref b), (1, va_rf v1), (2, va_rf v2), (3, va_rf v3)]) X dL_law_1642 rfl (by rw [ex782]; rfl) (by decide) (by simp [g_rfc, g_ci, g_cj, g_cr]) ?_
                clear ex782
                refine g_goto (tgt := 23) X dL_law_1645 (by decide) ?_
                refine g_sub [3, 4, 5, 6, 0] rfl ?_
                exact ih S763 (cu + 2 + 3) (su + 12 + 24) v1 v2 v3 x782 h783
              · have h781 := g_in h777 c779; clear h777
                refine g_iconst X dL_law_1402 (v := 0) (by decide) ?_
                cases h781
            · have h778 := g_in h775 c776; clear h775
              refine g_lconst X dL_law_1393 (v := 1) (by decide) ?_
              refine g_goto (tgt := 1398) X dL_law_1394 (by decide) ?_
              refine g_lcmp X dL_law_1398 ?_
              refine g_if_eq (tgt := 1404) X dL_law_1399 (by decide) (fun c784 => ?_) (fun c784 => ?_)
              · have h785 := g_ip h778 c784; clear h778
                refine g_goto (tgt := 1642) X dL_law_1404 (by decide) ?_
                obtain ⟨x787, ex787, h788⟩ := g_let h785; clear h785
                refine g_iinc (j := 6) (v := x787) (lv' := [(4, .int x787), (6, .int x760), (5, .int x751), (0, .ref b), (1, va_rf v1), (2, va_rf v2), (3, va_rf v3)]) X dL_law_1642 rfl (by rw [ex787]; rfl) (by decide) (by simp [g_rfc, g_ci, g_cj, g_cr]) ?_
                clear ex787
                refine g_goto (tgt := 23) X dL_law_1645 (by decide) ?_
                refine g_sub [3, 4, 5, 6, 0] rfl ?_
                exact ih S763 (cu + 2 + 3) (su + 12 + 24) v1 v2 v3 x787 h788
              · have h786 := g_in h778 c784; clear h778
                refine g_iconst X dL_law_1402 (v := 0) (by decide) ?_
                cases h786
        · have h768 := g_in h764 c766; clear h764
          refine g_iconst X dL_law_1378 (v := 0) (by decide) ?_
          cases h768
      have h744 := g_in h697 c742; clear h697
      by_cases c789 : x24 = 20
      · have h790 := g_ip h744 c789; clear h744; subst c789
        refine g_tableIn (tgt := 1407) X dL_law_40 (by decide) (by decide) rfl (by decide) ?_
        refine g_aload_n (j := 1) X dL_law_1407 rfl rfl ?_
        refine g_aload_n (j := 0) (r := some b) X dL_law_1408 rfl rfl ?_
        refine g_iload (j := 4) X dL_law_1409 rfl ?_
        refine g_iconst X dL_law_1411 (v := 1) (by decide) ?_
        refine g_iadd X dL_law_1412 ?_
        obtain ⟨x792, ex792, h793⟩ := g_bd h790; clear h790
        refine g_sld X hX hbl ex792 dL_law_1413 ?_
        clear ex792
        refine g_aload_n (j := 0) (r := some b) X dL_law_1414 rfl rfl ?_
        refine g_iload (j := 4) X dL_law_1415 rfl ?_
        refine g_iconst X dL_law_1417 (v := 2) (by decide) ?_
        refine g_iadd X dL_law_1418 ?_
        obtain ⟨x794, ex794, h795⟩ := g_bd h793; clear h793
        refine g_sld X hX hbl ex794 dL_law_1419 ?_
        clear ex794
        refine g_aload_n (j := 3) X dL_law_1420 rfl rfl ?_
        obtain ⟨g796, h797⟩ := g_gd h795; clear h795
        obtain ⟨x800, S798, eS798, h799⟩ := g_bi h797; clear h797
        refine g_cSW (n := 4) (As := [va_rf v1, .int x792, .int x794, va_rf v3]) X (c_L_follow hl D eS798) tw594 tw595 tw43 tw596 (by decide +kernel) rfl rfl ⟨Nat.le_of_ble_eq_true rfl, Nat.le_of_ble_eq_true rfl⟩ rfl rfl (Nat.le_of_ble_eq_true rfl) dL_law_1421 ⟨g796.1, g796.2⟩ ?_
        clear eS798
        refine g_istore (i := 5) (lv' := [(5, .int x800), (0, .ref b), (1, va_rf v1), (2, va_rf v2), (3, va_rf v3), (4, .int v4)]) X dL_law_1424 (by decide) rfl ?_
        refine g_aload_n (j := 3) X dL_law_1426 rfl rfl ?_
        refine g_aload_n (j := 1) (r := some b) X dL_law_1427 rfl rfl ?_
        refine g_iload (j := 5) X dL_law_1428 rfl ?_
        refine g_iconst X dL_law_1430 (v := 1) (by decide) ?_
        refine g_iadd X dL_law_1431 ?_
        obtain ⟨x801, ex801, h802⟩ := g_bd h799; clear h799
        refine g_sld X hX hbl ex801 dL_law_1432 ?_
        clear ex801
        refine g_aload_n (j := 1) (r := some b) X dL_law_1433 rfl rfl ?_
        refine g_iload (j := 5) X dL_law_1434 rfl ?_
        refine g_iconst X dL_law_1436 (v := 2) (by decide) ?_
        refine g_iadd X dL_law_1437 ?_
        obtain ⟨x803, ex803, h804⟩ := g_bd h802; clear h802
        refine g_sld X hX hbl ex803 dL_law_1438 ?_
        clear ex803
        obtain ⟨a805, ea805, ka805, h806⟩ := g_dc h804; clear h804
        obtain ⟨g807, h808⟩ := g_gd h806; clear h806
        obtain ⟨x811, S809, eS809, h810⟩ := g_bi h808; clear h808
        refine g_cV (n := 2) (As := [.int x801, .int x803]) X (c_X8_follow hl D eS809) tw951 tw952 tw953 tw51 tw954 (by decide +kernel) rfl rfl ⟨Nat.le_of_ble_eq_true rfl, Nat.le_of_ble_eq_true rfl⟩ (ci := 8) rfl (by decide) ea805 ka805 rfl rfl (Nat.le_of_ble_eq_true rfl) dL_law_1439 ⟨g807.1, g807.2⟩ ?_
        clear eS809 ea805 ka805
        refine g_istore (i := 6) (lv' := [(6, .int x811), (5, .int x800), (0, .ref b), (1, va_rf v1), (2, va_rf v2), (3, va_rf v3), (4, .int v4)]) X dL_law_1442 (by decide) rfl ?_
        refine g_aload_n (j := 4) X dL_law_1444 rfl rfl ?_
        obtain ⟨a812, ea812, ka812, h813⟩ := g_dc h810; clear h810
        obtain ⟨x816, S814, eS814, h815⟩ := g_bi h813; clear h813
        refine g_cV (n := 0) (As := []) X (c_X8_thrown hl D eS814) tw759 tw760 tw761 tw51 tw762 (by decide +kernel) rfl rfl ⟨Nat.le_of_ble_eq_true rfl, Nat.le_of_ble_eq_true rfl⟩ (ci := 8) rfl (by decide) ea812 ka812 rfl rfl (Nat.le_of_ble_eq_true rfl) dL_law_1445 ⟨g807.1, g807.2⟩ ?_
        clear eS814 ea812 ka812
        refine g_iload (j := 1) X dL_law_1448 rfl ?_
        refine g_icmp_eq (tgt := 1455) X dL_law_1450 (by decide) (fun c817 => ?_) (fun c817 => ?_)
        · have h818 := g_ip h815 c817; clear h815
          refine g_iload (j := 1) X dL_law_1455 rfl ?_
          refine g_if_ne (tgt := 1472) X dL_law_1457 (by decide) (fun c820 => ?_) (fun c820 => ?_)
          · have h821 := g_in h818 c820; clear h818
            refine g_goto (tgt := 1642) X dL_law_1472 (by decide) ?_
            obtain ⟨x823, ex823, h824⟩ := g_let h821; clear h821
            refine g_iinc (j := 6) (v := x823) (lv' := [(4, .int x823), (6, .int x811), (5, .int x800), (0, .ref b), (1, va_rf v1), (2, va_rf v2), (3, va_rf v3)]) X dL_law_1642 rfl (by rw [ex823]; rfl) (by decide) (by simp [g_rfc, g_ci, g_cj, g_cr]) ?_
            clear ex823
            refine g_goto (tgt := 23) X dL_law_1645 (by decide) ?_
            refine g_sub [3, 4, 5, 6, 0] rfl ?_
            exact ih S814 (cu + 6 + 143) (su + 254 + 1144) v1 v2 v3 x823 h824
          · have h822 := g_ip h818 c820; clear h818
            refine g_aload_n (j := 5) X dL_law_1460 rfl rfl ?_
            refine g_iconst X dL_law_1461 (v := 0) (by decide) ?_
            obtain ⟨x825, ex825, h826⟩ := g_bd h822; clear h822
            refine g_lald X ex825 dL_law_1462 ?_
            clear ex825
            refine g_iload (j := 0) X dL_law_1463 rfl ?_
            refine g_i2l X dL_law_1465 ?_
            refine g_lcmp X dL_law_1466 ?_
            refine g_if_eq (tgt := 1472) X dL_law_1467 (by decide) (fun c827 => ?_) (fun c827 => ?_)
            · have h828 := g_ip h826 c827; clear h826
              refine g_goto (tgt := 1642) X dL_law_1472 (by decide) ?_
              obtain ⟨x830, ex830, h831⟩ := g_let h828; clear h828
              refine g_iinc (j := 6) (v := x830) (lv' := [(4, .int x830), (6, .int x811), (5, .int x800), (0, .ref b), (1, va_rf v1), (2, va_rf v2), (3, va_rf v3)]) X dL_law_1642 rfl (by rw [ex830]; rfl) (by decide) (by simp [g_rfc, g_ci, g_cj, g_cr]) ?_
              clear ex830
              refine g_goto (tgt := 23) X dL_law_1645 (by decide) ?_
              refine g_sub [3, 4, 5, 6, 0] rfl ?_
              exact ih S814 (cu + 6 + 143) (su + 254 + 1144) v1 v2 v3 x830 h831
            · have h829 := g_in h826 c827; clear h826
              refine g_iconst X dL_law_1470 (v := 0) (by decide) ?_
              cases h829
        · have h819 := g_in h815 c817; clear h815
          refine g_iconst X dL_law_1453 (v := 0) (by decide) ?_
          cases h819
      have h791 := g_in h744 c789; clear h744
      by_cases c832 : x24 = 21
      · have h833 := g_ip h791 c832; clear h791; subst c832
        refine g_tableIn (tgt := 1475) X dL_law_40 (by decide) (by decide) rfl (by decide) ?_
        refine g_aload_n (j := 1) X dL_law_1475 rfl rfl ?_
        refine g_aload_n (j := 0) (r := some b) X dL_law_1476 rfl rfl ?_
        refine g_iload (j := 4) X dL_law_1477 rfl ?_
        refine g_iconst X dL_law_1479 (v := 1) (by decide) ?_
        refine g_iadd X dL_law_1480 ?_
        obtain ⟨x835, ex835, h836⟩ := g_bd h833; clear h833
        refine g_sld X hX hbl ex835 dL_law_1481 ?_
        clear ex835
        refine g_aload_n (j := 0) (r := some b) X dL_law_1482 rfl rfl ?_
        refine g_iload (j := 4) X dL_law_1483 rfl ?_
        refine g_iconst X dL_law_1485 (v := 2) (by decide) ?_
        refine g_iadd X dL_law_1486 ?_
        obtain ⟨x837, ex837, h838⟩ := g_bd h836; clear h836
        refine g_sld X hX hbl ex837 dL_law_1487 ?_
        clear ex837
        refine g_aload_n (j := 0) (r := some b) X dL_law_1488 rfl rfl ?_
        refine g_iload (j := 4) X dL_law_1489 rfl ?_
        refine g_iconst X dL_law_1491 (v := 3) (by decide) ?_
        refine g_iadd X dL_law_1492 ?_
        obtain ⟨x839, ex839, h840⟩ := g_bd h838; clear h838
        refine g_sld X hX hbl ex839 dL_law_1493 ?_
        clear ex839
        refine g_aload_n (j := 3) X dL_law_1494 rfl rfl ?_
        obtain ⟨g841, h842⟩ := g_gd h840; clear h840
        obtain ⟨x845, S843, eS843, h844⟩ := g_bi h842; clear h842
        refine g_cSW (n := 5) (As := [va_rf v1, .int x835, .int x837, .int x839, va_rf v3]) X (c_L_gossip hl D eS843) tw620 tw621 tw43 tw622 (by decide +kernel) rfl rfl ⟨Nat.le_of_ble_eq_true rfl, Nat.le_of_ble_eq_true rfl⟩ rfl rfl (Nat.le_of_ble_eq_true rfl) dL_law_1495 ⟨g841.1, g841.2⟩ ?_
        clear eS843
        refine g_istore (i := 5) (lv' := [(5, .int x845), (0, .ref b), (1, va_rf v1), (2, va_rf v2), (3, va_rf v3), (4, .int v4)]) X dL_law_1498 (by decide) rfl ?_
        refine g_aload_n (j := 3) X dL_law_1500 rfl rfl ?_
        refine g_aload_n (j := 1) (r := some b) X dL_law_1501 rfl rfl ?_
        refine g_iload (j := 5) X dL_law_1502 rfl ?_
        refine g_iconst X dL_law_1504 (v := 1) (by decide) ?_
        refine g_iadd X dL_law_1505 ?_
        obtain ⟨x846, ex846, h847⟩ := g_bd h844; clear h844
        refine g_sld X hX hbl ex846 dL_law_1506 ?_
        clear ex846
        refine g_aload_n (j := 1) (r := some b) X dL_law_1507 rfl rfl ?_
        refine g_iload (j := 5) X dL_law_1508 rfl ?_
        refine g_iconst X dL_law_1510 (v := 2) (by decide) ?_
        refine g_iadd X dL_law_1511 ?_
        obtain ⟨x848, ex848, h849⟩ := g_bd h847; clear h847
        refine g_sld X hX hbl ex848 dL_law_1512 ?_
        clear ex848
        refine g_aload_n (j := 1) (r := some b) X dL_law_1513 rfl rfl ?_
        refine g_iload (j := 5) X dL_law_1514 rfl ?_
        refine g_iconst X dL_law_1516 (v := 3) (by decide) ?_
        refine g_iadd X dL_law_1517 ?_
        obtain ⟨x850, ex850, h851⟩ := g_bd h849; clear h849
        refine g_sld X hX hbl ex850 dL_law_1518 ?_
        clear ex850
        obtain ⟨a852, ea852, ka852, h853⟩ := g_dc h851; clear h851
        obtain ⟨x856, S854, eS854, h855⟩ := g_bi h853; clear h853
        refine g_cV (n := 3) (As := [.int x846, .int x848, .int x850]) X (c_X8_gossip hl D eS854) tw973 tw974 tw975 tw51 tw976 (by decide +kernel) rfl rfl ⟨Nat.le_of_ble_eq_true rfl, Nat.le_of_ble_eq_true rfl⟩ (ci := 8) rfl (by decide) ea852 ka852 rfl rfl (Nat.le_of_ble_eq_true rfl) dL_law_1519 ⟨g841.1, g841.2⟩ ?_
        clear eS854 ea852 ka852
        refine g_istore (i := 6) (lv' := [(6, .int x856), (5, .int x845), (0, .ref b), (1, va_rf v1), (2, va_rf v2), (3, va_rf v3), (4, .int v4)]) X dL_law_1522 (by decide) rfl ?_
        refine g_aload_n (j := 4) X dL_law_1524 rfl rfl ?_
        obtain ⟨a857, ea857, ka857, h858⟩ := g_dc h855; clear h855
        obtain ⟨x861, S859, eS859, h860⟩ := g_bi h858; clear h858
        refine g_cV (n := 0) (As := []) X (c_X8_thrown hl D eS859) tw759 tw760 tw761 tw51 tw762 (by decide +kernel) rfl rfl ⟨Nat.le_of_ble_eq_true rfl, Nat.le_of_ble_eq_true rfl⟩ (ci := 8) rfl (by decide) ea857 ka857 rfl rfl (Nat.le_of_ble_eq_true rfl) dL_law_1525 ⟨g841.1, g841.2⟩ ?_
        clear eS859 ea857 ka857
        refine g_iload (j := 1) X dL_law_1528 rfl ?_
        refine g_icmp_eq (tgt := 1535) X dL_law_1530 (by decide) (fun c862 => ?_) (fun c862 => ?_)
        · have h863 := g_ip h860 c862; clear h860
          refine g_iload (j := 1) X dL_law_1535 rfl ?_
          refine g_if_ne (tgt := 1552) X dL_law_1537 (by decide) (fun c865 => ?_) (fun c865 => ?_)
          · have h866 := g_in h863 c865; clear h863
            refine g_goto (tgt := 1642) X dL_law_1552 (by decide) ?_
            obtain ⟨x868, ex868, h869⟩ := g_let h866; clear h866
            refine g_iinc (j := 6) (v := x868) (lv' := [(4, .int x868), (6, .int x856), (5, .int x845), (0, .ref b), (1, va_rf v1), (2, va_rf v2), (3, va_rf v3)]) X dL_law_1642 rfl (by rw [ex868]; rfl) (by decide) (by simp [g_rfc, g_ci, g_cj, g_cr]) ?_
            clear ex868
            refine g_goto (tgt := 23) X dL_law_1645 (by decide) ?_
            refine g_sub [3, 4, 5, 6, 0] rfl ?_
            exact ih S859 (cu + 2) (su + 12) v1 v2 v3 x868 h869
          · have h867 := g_ip h863 c865; clear h863
            refine g_aload_n (j := 5) X dL_law_1540 rfl rfl ?_
            refine g_iconst X dL_law_1541 (v := 0) (by decide) ?_
            obtain ⟨x870, ex870, h871⟩ := g_bd h867; clear h867
            refine g_lald X ex870 dL_law_1542 ?_
            clear ex870
            refine g_iload (j := 0) X dL_law_1543 rfl ?_
            refine g_i2l X dL_law_1545 ?_
            refine g_lcmp X dL_law_1546 ?_
            refine g_if_eq (tgt := 1552) X dL_law_1547 (by decide) (fun c872 => ?_) (fun c872 => ?_)
            · have h873 := g_ip h871 c872; clear h871
              refine g_goto (tgt := 1642) X dL_law_1552 (by decide) ?_
              obtain ⟨x875, ex875, h876⟩ := g_let h873; clear h873
              refine g_iinc (j := 6) (v := x875) (lv' := [(4, .int x875), (6, .int x856), (5, .int x845), (0, .ref b), (1, va_rf v1), (2, va_rf v2), (3, va_rf v3)]) X dL_law_1642 rfl (by rw [ex875]; rfl) (by decide) (by simp [g_rfc, g_ci, g_cj, g_cr]) ?_
              clear ex875
              refine g_goto (tgt := 23) X dL_law_1645 (by decide) ?_
              refine g_sub [3, 4, 5, 6, 0] rfl ?_
              exact ih S859 (cu + 2) (su + 12) v1 v2 v3 x875 h876
            · have h874 := g_in h871 c872; clear h871
              refine g_iconst X dL_law_1550 (v := 0) (by decide) ?_
              cases h874
        · have h864 := g_in h860 c862; clear h860
          refine g_iconst X dL_law_1533 (v := 0) (by decide) ?_
          cases h864
      have h834 := g_in h791 c832; clear h791
      by_cases c877 : x24 = 22
      · have h878 := g_ip h834 c877; clear h834; subst c877
        refine g_tableIn (tgt := 1555) X dL_law_40 (by decide) (by decide) rfl (by decide) ?_
        refine g_aload_n (j := 1) X dL_law_1555 rfl rfl ?_
        refine g_aload_n (j := 0) (r := some b) X dL_law_1556 rfl rfl ?_
        refine g_iload (j := 4) X dL_law_1557 rfl ?_
        refine g_iconst X dL_law_1559 (v := 1) (by decide) ?_
        refine g_iadd X dL_law_1560 ?_
        obtain ⟨x880, ex880, h881⟩ := g_bd h878; clear h878
        refine g_sld X hX hbl ex880 dL_law_1561 ?_
        clear ex880
        refine g_aload_n (j := 0) (r := some b) X dL_law_1562 rfl rfl ?_
        refine g_iload (j := 4) X dL_law_1563 rfl ?_
        refine g_iconst X dL_law_1565 (v := 2) (by decide) ?_
        refine g_iadd X dL_law_1566 ?_
        obtain ⟨x882, ex882, h883⟩ := g_bd h881; clear h881
        refine g_sld X hX hbl ex882 dL_law_1567 ?_
        clear ex882
        refine g_aload_n (j := 0) (r := some b) X dL_law_1568 rfl rfl ?_
        refine g_iload (j := 4) X dL_law_1569 rfl ?_
        refine g_iconst X dL_law_1571 (v := 3) (by decide) ?_
        refine g_iadd X dL_law_1572 ?_
        obtain ⟨x884, ex884, h885⟩ := g_bd h883; clear h883
        refine g_sld X hX hbl ex884 dL_law_1573 ?_
        clear ex884
        refine g_aload_n (j := 3) X dL_law_1574 rfl rfl ?_
        obtain ⟨g886, h887⟩ := g_gd h885; clear h885
        obtain ⟨x890, S888, eS888, h889⟩ := g_bi h887; clear h887
        refine g_cSW (n := 5) (As := [va_rf v1, .int x880, .int x882, .int x884, va_rf v3]) X (c_L_has hl D eS888) tw627 tw628 tw43 tw629 (by decide +kernel) rfl rfl ⟨Nat.le_of_ble_eq_true rfl, Nat.le_of_ble_eq_true rfl⟩ rfl rfl (Nat.le_of_ble_eq_true rfl) dL_law_1575 ⟨g886.1, g886.2⟩ ?_
        clear eS888
        refine g_istore (i := 5) (lv' := [(5, .int x890), (0, .ref b), (1, va_rf v1), (2, va_rf v2), (3, va_rf v3), (4, .int v4)]) X dL_law_1578 (by decide) rfl ?_
        refine g_aload_n (j := 3) X dL_law_1580 rfl rfl ?_
        refine g_aload_n (j := 1) (r := some b) X dL_law_1581 rfl rfl ?_
        refine g_iload (j := 5) X dL_law_1582 rfl ?_
        refine g_iconst X dL_law_1584 (v := 1) (by decide) ?_
        refine g_iadd X dL_law_1585 ?_
        obtain ⟨x891, ex891, h892⟩ := g_bd h889; clear h889
        refine g_sld X hX hbl ex891 dL_law_1586 ?_
        clear ex891
        refine g_aload_n (j := 1) (r := some b) X dL_law_1587 rfl rfl ?_
        refine g_iload (j := 5) X dL_law_1588 rfl ?_
        refine g_iconst X dL_law_1590 (v := 2) (by decide) ?_
        refine g_iadd X dL_law_1591 ?_
        obtain ⟨x893, ex893, h894⟩ := g_bd h892; clear h892
        refine g_sld X hX hbl ex893 dL_law_1592 ?_
        clear ex893
        refine g_aload_n (j := 1) (r := some b) X dL_law_1593 rfl rfl ?_
        refine g_iload (j := 5) X dL_law_1594 rfl ?_
        refine g_iconst X dL_law_1596 (v := 3) (by decide) ?_
        refine g_iadd X dL_law_1597 ?_
        obtain ⟨x895, ex895, h896⟩ := g_bd h894; clear h894
        refine g_sld X hX hbl ex895 dL_law_1598 ?_
        clear ex895
        obtain ⟨a897, ea897, ka897, h898⟩ := g_dc h896; clear h896
        obtain ⟨x901, S899, eS899, h900⟩ := g_bi h898; clear h898
        refine g_cV (n := 3) (As := [.int x891, .int x893, .int x895]) X (c_X8_has hl D eS899) tw980 tw981 tw982 tw51 tw983 (by decide +kernel) rfl rfl ⟨Nat.le_of_ble_eq_true rfl, Nat.le_of_ble_eq_true rfl⟩ (ci := 8) rfl (by decide) ea897 ka897 rfl rfl (Nat.le_of_ble_eq_true rfl) dL_law_1599 ⟨g886.1, g886.2⟩ ?_
        clear eS899 ea897 ka897
        refine g_istore (i := 6) (lv' := [(6, .int x901), (5, .int x890), (0, .ref b), (1, va_rf v1), (2, va_rf v2), (3, va_rf v3), (4, .int v4)]) X dL_law_1602 (by decide) rfl ?_
        refine g_aload_n (j := 4) X dL_law_1604 rfl rfl ?_
        obtain ⟨a902, ea902, ka902, h903⟩ := g_dc h900; clear h900
        obtain ⟨x906, S904, eS904, h905⟩ := g_bi h903; clear h903
        refine g_cV (n := 0) (As := []) X (c_X8_thrown hl D eS904) tw759 tw760 tw761 tw51 tw762 (by decide +kernel) rfl rfl ⟨Nat.le_of_ble_eq_true rfl, Nat.le_of_ble_eq_true rfl⟩ (ci := 8) rfl (by decide) ea902 ka902 rfl rfl (Nat.le_of_ble_eq_true rfl) dL_law_1605 ⟨g886.1, g886.2⟩ ?_
        clear eS904 ea902 ka902
        refine g_iload (j := 1) X dL_law_1608 rfl ?_
        refine g_icmp_eq (tgt := 1615) X dL_law_1610 (by decide) (fun c907 => ?_) (fun c907 => ?_)
        · have h908 := g_ip h905 c907; clear h905
          refine g_iload (j := 1) X dL_law_1615 rfl ?_
          refine g_if_ne (tgt := 1639) X dL_law_1617 (by decide) (fun c910 => ?_) (fun c910 => ?_)
          · have h911 := g_in h908 c910; clear h908
            refine g_goto (tgt := 1642) X dL_law_1639 (by decide) ?_
            obtain ⟨x913, ex913, h914⟩ := g_let h911; clear h911
            refine g_iinc (j := 6) (v := x913) (lv' := [(4, .int x913), (6, .int x901), (5, .int x890), (0, .ref b), (1, va_rf v1), (2, va_rf v2), (3, va_rf v3)]) X dL_law_1642 rfl (by rw [ex913]; rfl) (by decide) (by simp [g_rfc, g_ci, g_cj, g_cr]) ?_
            clear ex913
            refine g_goto (tgt := 23) X dL_law_1645 (by decide) ?_
            refine g_sub [3, 4, 5, 6, 0] rfl ?_
            exact ih S904 (cu + 2) (su + 12) v1 v2 v3 x913 h914
          · have h912 := g_ip h908 c910; clear h908
            refine g_aload_n (j := 5) X dL_law_1620 rfl rfl ?_
            refine g_iconst X dL_law_1621 (v := 0) (by decide) ?_
            obtain ⟨x915, ex915, h916⟩ := g_bd h912; clear h912
            refine g_lald X ex915 dL_law_1622 ?_
            clear ex915
            refine g_iload (j := 0) X dL_law_1623 rfl ?_
            refine g_if_eq (tgt := 1632) X dL_law_1625 (by decide) (fun c917 => ?_) (fun c917 => ?_)
            · have h918 := g_ip h916 c917; clear h916
              refine g_lconst X dL_law_1632 (v := 0) (by decide) ?_
              refine g_lcmp X dL_law_1633 ?_
              refine g_if_eq (tgt := 1639) X dL_law_1634 (by decide) (fun c920 => ?_) (fun c920 => ?_)
              · have h921 := g_ip h918 c920; clear h918
                refine g_goto (tgt := 1642) X dL_law_1639 (by decide) ?_
                obtain ⟨x923, ex923, h924⟩ := g_let h921; clear h921
                refine g_iinc (j := 6) (v := x923) (lv' := [(4, .int x923), (6, .int x901), (5, .int x890), (0, .ref b), (1, va_rf v1), (2, va_rf v2), (3, va_rf v3)]) X dL_law_1642 rfl (by rw [ex923]; rfl) (by decide) (by simp [g_rfc, g_ci, g_cj, g_cr]) ?_
                clear ex923
                refine g_goto (tgt := 23) X dL_law_1645 (by decide) ?_
                refine g_sub [3, 4, 5, 6, 0] rfl ?_
                exact ih S904 (cu + 2) (su + 12) v1 v2 v3 x923 h924
              · have h922 := g_in h918 c920; clear h918
                refine g_iconst X dL_law_1637 (v := 0) (by decide) ?_
                cases h922
            · have h919 := g_in h916 c917; clear h916
              refine g_lconst X dL_law_1628 (v := 1) (by decide) ?_
              refine g_goto (tgt := 1633) X dL_law_1629 (by decide) ?_
              refine g_lcmp X dL_law_1633 ?_
              refine g_if_eq (tgt := 1639) X dL_law_1634 (by decide) (fun c925 => ?_) (fun c925 => ?_)
              · have h926 := g_ip h919 c925; clear h919
                refine g_goto (tgt := 1642) X dL_law_1639 (by decide) ?_
                obtain ⟨x928, ex928, h929⟩ := g_let h926; clear h926
                refine g_iinc (j := 6) (v := x928) (lv' := [(4, .int x928), (6, .int x901), (5, .int x890), (0, .ref b), (1, va_rf v1), (2, va_rf v2), (3, va_rf v3)]) X dL_law_1642 rfl (by rw [ex928]; rfl) (by decide) (by simp [g_rfc, g_ci, g_cj, g_cr]) ?_
                clear ex928
                refine g_goto (tgt := 23) X dL_law_1645 (by decide) ?_
                refine g_sub [3, 4, 5, 6, 0] rfl ?_
                exact ih S904 (cu + 2) (su + 12) v1 v2 v3 x928 h929
              · have h927 := g_in h919 c925; clear h919
                refine g_iconst X dL_law_1637 (v := 0) (by decide) ?_
                cases h927
        · have h909 := g_in h905 c907; clear h905
          refine g_iconst X dL_law_1613 (v := 0) (by decide) ?_
          cases h909
      have h879 := g_in h834 c877; clear h834
      obtain ⟨c933, h930⟩ := g_if h879; clear h879
      refine g_tableOut (tgt := 1642) X dL_law_40 c933 (by decide) ?_
      obtain ⟨x931, ex931, h932⟩ := g_let h930; clear h930
      refine g_iinc (j := 4) (v := x931) (lv' := [(4, .int x931), (0, .ref b), (1, va_rf v1), (2, va_rf v2), (3, va_rf v3)]) X dL_law_1642 rfl (by rw [ex931]; rfl) (by decide) (by simp [g_rfc, g_ci, g_cj, g_cr]) ?_
      clear ex931
      refine g_goto (tgt := 23) X dL_law_1645 (by decide) ?_
      refine g_sub [1, 2, 3, 4, 0] rfl ?_
      exact ih S0 cu su v1 v2 v3 x931 h932
def f_L_law (gw : Int32 → Int32 → Nat → Nat) (gp : Int32 → Int32 → Nat) (gq : Int32 → Int32 → Nat → Nat) (L : Nat) (xs : Nat → Int32) (S0 : gS)  : Option gS :=
  gLet (gZ S0) fun z1 =>
  gLet (gnw S0 7 6) fun S2 =>
  (f_X7_init S2 z1).bind fun S5 =>
  gLet (gZ S5) fun z7 =>
  gLet (gnw S5 8 25) fun S8 =>
  (f_X8_init S8 z7).bind fun S11 =>
  (fnA 1 1).bind fun k13 =>
  gLet (gZ S11) fun z17 =>
  gLet (gnw S11 11 k13) fun S15 =>
  f_L_law_L23 gw gp gq L xs gFuel S15 82 74932 (some z1) (some z7) (some z17) 0
set_option maxRecDepth 100000 in
set_option maxHeartbeats 4000000 in
theorem w_L_law {p : Program} {l : Launch} {e : Env} {s : State} {m : MethodId} {below : List Frame} {meth : Method} {c : Code} {D : gD} {b : Nat} {S9 : gS} {gw : Int32 → Int32 → Nat → Nat} {gp : Int32 → Int32 → Nat} {gq : Int32 → Int32 → Nat → Nat} {L : Nat} {xs : Nat → Int32} (hl : l.stackTraces = false) (X : gX D p l s m #[Value.ref b] meth c cL_law 7 RL) (hr : meth.sig.returnType = ret) (hX : va_X b L xs s (dH D)) (hbl : b < dB D) (hds : dB D = s.heap.size) (S0 : gS) (h0 : f_L_law gw gp gq L xs S0 = some S9) : gJ D p l e room_1 s m #[Value.ref b] below meth c (lw_Z below #[Value.ref b] s) 7 0 0 S0 0 [(0, .ref b)] [] := by
  unfold f_L_law at h0
  refine g_new (ci := 7) X rfl (by decide) il7 tyX7 tyX7_ok (by decide) tw65 tw66 tw44 (by decide) (by decide) dL_law_0 ?_
  obtain ⟨z1, ez1, h4⟩ := g_let h0; clear h0; rw [← ez1]; clear ez1
  obtain ⟨S2, eS2, h3⟩ := g_let h4; clear h4; rw [← eS2]; clear eS2
  refine g_dup X dL_law_3 (g_rfc _) ?_
  obtain ⟨S5, eS5, h6⟩ := g_bd h3; clear h3
  refine g_cI (n := 0) (As := []) X (c_X7_init hl D eS5) tw67 tw68 tw44 tw69 rfl (by decide +kernel) rfl rfl ⟨Nat.le_of_ble_eq_true rfl, Nat.le_of_ble_eq_true rfl⟩ rfl rfl rfl (Nat.le_of_ble_eq_true rfl) dL_law_4 ⟨(by decide), (by decide)⟩ ?_
  clear eS5
  refine g_astore_n (i := 1) (lv' := [(1, va_rf (some z1)), (0, .ref b)]) X dL_law_7 rfl (by decide) rfl ?_
  refine g_new (ci := 8) X rfl (by decide) il8 tyX8 tyX8_ok (by decide) tw638 tw639 tw51 (by decide) (by decide) dL_law_8 ?_
  obtain ⟨z7, ez7, h10⟩ := g_let h6; clear h6; rw [← ez7]; clear ez7
  obtain ⟨S8, eS8, h9⟩ := g_let h10; clear h10; rw [← eS8]; clear eS8
  refine g_dup X dL_law_11 (g_rfc _) ?_
  obtain ⟨S11, eS11, h12⟩ := g_bd h9; clear h9
  refine g_cI (n := 0) (As := []) X (c_X8_init hl D eS11) tw640 tw641 tw51 tw642 rfl (by decide +kernel) rfl rfl ⟨Nat.le_of_ble_eq_true rfl, Nat.le_of_ble_eq_true rfl⟩ rfl rfl rfl (Nat.le_of_ble_eq_true rfl) dL_law_12 ⟨(by decide), (by decide)⟩ ?_
  clear eS11
  refine g_astore_n (i := 2) (lv' := [(2, va_rf (some z7)), (1, va_rf (some z1)), (0, .ref b)]) X dL_law_15 rfl (by decide) rfl ?_
  refine g_iconst X dL_law_16 (v := 1) (by decide) ?_
  obtain ⟨k13, ek13, h14⟩ := g_bd h12; clear h12
  refine g_newa11 (cap := 1) X tw173 ek13 (by decide) (by decide) (by decide) dL_law_17 ?_
  refine g_wid (k := 82) (n := 74932) (Nat.le_refl _) (Nat.add_le_add_left (fnA_s ek13).2.2 _) ?_
  clear ek13
  obtain ⟨z17, ez17, h18⟩ := g_let h14; clear h14; rw [← ez17]; clear ez17
  obtain ⟨S15, eS15, h16⟩ := g_let h18; clear h18; rw [← eS15]; clear eS15
  refine g_astore_n (i := 3) (lv' := [(3, va_rf (some z17)), (2, va_rf (some z7)), (1, va_rf (some z1)), (0, .ref b)]) X dL_law_19 rfl (by decide) rfl ?_
  refine g_iconst X dL_law_20 (v := 0) (by decide) ?_
  refine g_istore (i := 4) (lv' := [(4, .int 0), (3, va_rf (some z17)), (2, va_rf (some z7)), (1, va_rf (some z1)), (0, .ref b)]) X dL_law_21 (by decide) rfl ?_
  refine g_sub [4, 3, 2, 1, 0] rfl ?_
  exact w_L_law_L23 hl X hr hX hbl hds gFuel S15 82 74932 (some z1) (some z7) (some z17) 0 h16
