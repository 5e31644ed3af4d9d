def f_X8_stepsOf_L16 : Nat → gS → Nat → Int64 → Int64 → Option gS
  | 0, _, _, _, _ => none
  | k + 1, S0, a0, v5, v7 =>
    if (lg_cmp v5 v7) = 0 then
      some S0
    else
      gBi (f_X8_front S0 v7) fun x10 S8 =>
      (fgR S8 8 22 (some a0)).bind fun x11 =>
      (fgI S8 8 23 (some a0)).bind fun x13 =>
      if 0 < (lg_cmp v5 x10) then
        (faI S8 x11 x13 1).bind fun S18 =>
        (fgI S18 8 24 (some a0)).bind fun x20 =>
        if x20 = 0 then
          (fpZ S18 8 24 (some a0) 0).bind fun S25 =>
          if 0 < (lg_cmp v5 x10) then
            gLet (v7 - x10) fun x30 =>
            if 0 < (lg_cmp v5 x10) then
              gLet (v5 - x10) fun x35 =>
              (fgI S25 8 23 (some a0)).bind fun x37 =>
              (fpI S25 8 23 (some a0) (x37 + 1)).bind fun S39 =>
              f_X8_stepsOf_L16 k S39 a0 x35 x30
            else
              (fgI S25 8 23 (some a0)).bind fun x41 =>
              (fpI S25 8 23 (some a0) (x41 + 1)).bind fun S43 =>
              f_X8_stepsOf_L16 k S43 a0 v5 x30
          else
            if 0 < (lg_cmp v5 x10) then
              gLet (v5 - x10) fun x48 =>
              (fgI S25 8 23 (some a0)).bind fun x50 =>
              (fpI S25 8 23 (some a0) (x50 + 1)).bind fun S52 =>
              f_X8_stepsOf_L16 k S52 a0 x48 x10
            else
              (fgI S25 8 23 (some a0)).bind fun x54 =>
              (fpI S25 8 23 (some a0) (x54 + 1)).bind fun S56 =>
              f_X8_stepsOf_L16 k S56 a0 v5 x10
        else
          if 0 < (lg_cmp v5 x10) then
            (fpZ S18 8 24 (some a0) 0).bind fun S61 =>
            if 0 < (lg_cmp v5 x10) then
              gLet (v7 - x10) fun x66 =>
              if 0 < (lg_cmp v5 x10) then
                gLet (v5 - x10) fun x71 =>
                (fgI S61 8 23 (some a0)).bind fun x73 =>
                (fpI S61 8 23 (some a0) (x73 + 1)).bind fun S75 =>
                f_X8_stepsOf_L16 k S75 a0 x71 x66
              else
                (fgI S61 8 23 (some a0)).bind fun x77 =>
                (fpI S61 8 23 (some a0) (x77 + 1)).bind fun S79 =>
                f_X8_stepsOf_L16 k S79 a0 v5 x66
            else
              if 0 < (lg_cmp v5 x10) then
                gLet (v5 - x10) fun x84 =>
                (fgI S61 8 23 (some a0)).bind fun x86 =>
                (fpI S61 8 23 (some a0) (x86 + 1)).bind fun S88 =>
                f_X8_stepsOf_L16 k S88 a0 x84 x10
              else
                (fgI S61 8 23 (some a0)).bind fun x90 =>
                (fpI S61 8 23 (some a0) (x90 + 1)).bind fun S92 =>
                f_X8_stepsOf_L16 k S92 a0 v5 x10
          else
            (fpZ S18 8 24 (some a0) 1).bind fun S94 =>
            if 0 < (lg_cmp v5 x10) then
              gLet (v7 - x10) fun x99 =>
              if 0 < (lg_cmp v5 x10) then
                gLet (v5 - x10) fun x104 =>
                (fgI S94 8 23 (some a0)).bind fun x106 =>
                (fpI S94 8 23 (some a0) (x106 + 1)).bind fun S108 =>
                f_X8_stepsOf_L16 k S108 a0 x104 x99
              else
                (fgI S94 8 23 (some a0)).bind fun x110 =>
                (fpI S94 8 23 (some a0) (x110 + 1)).bind fun S112 =>
                f_X8_stepsOf_L16 k S112 a0 v5 x99
            else
              if 0 < (lg_cmp v5 x10) then
                gLet (v5 - x10) fun x117 =>
                (fgI S94 8 23 (some a0)).bind fun x119 =>
                (fpI S94 8 23 (some a0) (x119 + 1)).bind fun S121 =>
                f_X8_stepsOf_L16 k S121 a0 x117 x10
              else
                (fgI S94 8 23 (some a0)).bind fun x123 =>
                (fpI S94 8 23 (some a0) (x123 + 1)).bind fun S125 =>
                f_X8_stepsOf_L16 k S125 a0 v5 x10
      else
        (faI S8 x11 x13 0).bind fun S127 =>
        (fgI S127 8 24 (some a0)).bind fun x129 =>
        if x129 = 0 then
          (fpZ S127 8 24 (some a0) 0).bind fun S134 =>
          if 0 < (lg_cmp v5 x10) then
            gLet (v7 - x10) fun x139 =>
            if 0 < (lg_cmp v5 x10) then
              gLet (v5 - x10) fun x144 =>
              (fgI S134 8 23 (some a0)).bind fun x146 =>
              (fpI S134 8 23 (some a0) (x146 + 1)).bind fun S148 =>
              f_X8_stepsOf_L16 k S148 a0 x144 x139
            else
              (fgI S134 8 23 (some a0)).bind fun x150 =>
              (fpI S134 8 23 (some a0) (x150 + 1)).bind fun S152 =>
              f_X8_stepsOf_L16 k S152 a0 v5 x139
          else
            if 0 < (lg_cmp v5 x10) then
              gLet (v5 - x10) fun x157 =>
              (fgI S134 8 23 (some a0)).bind fun x159 =>
              (fpI S134 8 23 (some a0) (x159 + 1)).bind fun S161 =>
              f_X8_stepsOf_L16 k S161 a0 x157 x10
            else
              (fgI S134 8 23 (some a0)).bind fun x163 =>
              (fpI S134 8 23 (some a0) (x163 + 1)).bind fun S165 =>
              f_X8_stepsOf_L16 k S165 a0 v5 x10
        else
          if 0 < (lg_cmp v5 x10) then
            (fpZ S127 8 24 (some a0) 0).bind fun S170 =>
            if 0 < (lg_cmp v5 x10) then
              gLet (v7 - x10) fun x175 =>
              if 0 < (lg_cmp v5 x10) then
                gLet (v5 - x10) fun x180 =>
                (fgI S170 8 23 (some a0)).bind fun x182 =>
                (fpI S170 8 23 (some a0) (x182 + 1)).bind fun S184 =>
                f_X8_stepsOf_L16 k S184 a0 x180 x175
              else
                (fgI S170 8 23 (some a0)).bind fun x186 =>
                (fpI S170 8 23 (some a0) (x186 + 1)).bind fun S188 =>
                f_X8_stepsOf_L16 k S188 a0 v5 x175
            else
              if 0 < (lg_cmp v5 x10) then
                gLet (v5 - x10) fun x193 =>
                (fgI S170 8 23 (some a0)).bind fun x195 =>
                (fpI S170 8 23 (some a0) (x195 + 1)).bind fun S197 =>
                f_X8_stepsOf_L16 k S197 a0 x193 x10
              else
                (fgI S170 8 23 (some a0)).bind fun x199 =>
                (fpI S170 8 23 (some a0) (x199 + 1)).bind fun S201 =>
                f_X8_stepsOf_L16 k S201 a0 v5 x10
          else
            (fpZ S127 8 24 (some a0) 1).bind fun S203 =>
            if 0 < (lg_cmp v5 x10) then
              gLet (v7 - x10) fun x208 =>
              if 0 < (lg_cmp v5 x10) then
                gLet (v5 - x10) fun x213 =>
                (fgI S203 8 23 (some a0)).bind fun x215 =>
                (fpI S203 8 23 (some a0) (x215 + 1)).bind fun S217 =>
                f_X8_stepsOf_L16 k S217 a0 x213 x208
              else
                (fgI S203 8 23 (some a0)).bind fun x219 =>
                (fpI S203 8 23 (some a0) (x219 + 1)).bind fun S221 =>
                f_X8_stepsOf_L16 k S221 a0 v5 x208
            else
              if 0 < (lg_cmp v5 x10) then
                gLet (v5 - x10) fun x226 =>
                (fgI S203 8 23 (some a0)).bind fun x228 =>
                (fpI S203 8 23 (some a0) (x228 + 1)).bind fun S230 =>
                f_X8_stepsOf_L16 k S230 a0 x226 x10
              else
                (fgI S203 8 23 (some a0)).bind fun x232 =>
                (fpI S203 8 23 (some a0) (x232 + 1)).bind fun S234 =>
                f_X8_stepsOf_L16 k S234 a0 v5 x10
set_option maxRecDepth 100000 in
set_option maxHeartbeats 4000000 in
theorem w_X8_stepsOf_L16 {p : Program} {l : Launch} {e : Env} {s : State} {m : MethodId} {args : Array Value} {below : List Frame} {meth : Method} {c : Code} {D : gD} {S9 : gS}  (hl : l.stackTraces = false) (X : gX D p l s m args meth c cX8_stepsOf 11 RX8) (hr : meth.sig.returnType = none) : ∀ (k : Nat) (S0 : gS) (a0 : Nat) (v5 : Int64) (v7 : Int64), f_X8_stepsOf_L16 k S0 a0 v5 v7 = some S9 → gJ D p l e { frames := 4, cells := 0, slots := 0, locals := 85 } s m args below meth c (MQ below (gQ D none S9) args s (0) (0) (gF D)) 11 (0) (0) S0 16 [(0, va_rf (some a0)), (5, .long v5), (7, .long v7)] [] := by
  intro k
  induction k with
  | zero => intro S0 a0 v5 v7 h0; cases h0
  | succ k ih =>
    intro S0 a0 v5 v7 h0
    have h0 := h0
    unfold f_X8_stepsOf_L16 at h0
    refine g_lload (j := 1) X dX8_stepsOf_16 rfl ?_
    refine g_lload (j := 2) X dX8_stepsOf_18 rfl ?_
    refine g_lcmp X dX8_stepsOf_20 ?_
    refine g_if_eq (tgt := 130) X dX8_stepsOf_21 (by decide) (fun c5 => ?_) (fun c5 => ?_)
    · have h6 := g_ip h0 c5; clear h0
      cases h6
      exact g_vret X hr (by decide) (by decide) dX8_stepsOf_130
    · have h7 := g_in h0 c5; clear h0
      refine g_lload (j := 2) X dX8_stepsOf_24 rfl ?_
      obtain ⟨x10, S8, eS8, h9⟩ := g_bi h7; clear h7
      refine g_cS (n := 1) (As := [.long v7]) X (c_X8_front hl D eS8) tw896 tw897 tw51 tw898 (by decide +kernel) rfl rfl ⟨Nat.le_of_ble_eq_true rfl, Nat.le_of_ble_eq_true rfl⟩ rfl rfl (Nat.le_of_ble_eq_true rfl) dX8_stepsOf_26 ⟨(by decide), (by decide)⟩ ?_
      clear eS8
      refine g_lstore (i := 9) (lv' := [(9, .long x10), (0, va_rf (some a0)), (5, .long v5), (7, .long v7)]) X dX8_stepsOf_29 (by decide) rfl ?_
      refine g_aload_n (j := 1) X dX8_stepsOf_31 rfl rfl ?_
      obtain ⟨x11, ex11, h12⟩ := g_bd h9; clear h9
      refine g_fR (ci := 8) (k := 22) X rfl il8 (by decide) tw725 (by decide) (fun _ _ _ => rfl) ex11 dX8_stepsOf_32 ?_
      clear ex11
      refine g_aload_n (j := 1) X dX8_stepsOf_35 rfl rfl ?_
      obtain ⟨x13, ex13, h14⟩ := g_bd h12; clear h12
      refine g_fI (ci := 8) (k := 23) X rfl il8 (by decide) tw726 (by decide) (fun _ _ _ => rfl) ex13 dX8_stepsOf_36 ?_
      clear ex13
      refine g_lload (j := 2) X dX8_stepsOf_39 rfl ?_
      refine g_lload (j := 0) X dX8_stepsOf_41 rfl ?_
      refine g_lcmp X dX8_stepsOf_43 ?_
      refine g_if_gt (tgt := 51) X dX8_stepsOf_44 (by decide) (fun c15 => ?_) (fun c15 => ?_)
      · have h16 := g_ip h14 c15; clear h14
        refine g_iconst X dX8_stepsOf_51 (v := 1) (by decide) ?_
        obtain ⟨S18, eS18, h19⟩ := g_bd h16; clear h16
        refine g_iast X eS18 dX8_stepsOf_52 ?_
        clear eS18
        refine g_aload_n (j := 1) X dX8_stepsOf_53 rfl rfl ?_
        refine g_aload_n (j := 1) X dX8_stepsOf_54 rfl rfl ?_
        obtain ⟨x20, ex20, h21⟩ := g_bd h19; clear h19
        refine g_fI (ci := 8) (k := 24) X rfl il8 (by decide) tw727 (by decide) (fun _ _ _ => rfl) ex20 dX8_stepsOf_55 ?_
        clear ex20
        refine g_if_eq (tgt := 73) X dX8_stepsOf_58 (by decide) (fun c22 => ?_) (fun c22 => ?_)
        · have h23 := g_ip h21 c22; clear h21
          refine g_iconst X dX8_stepsOf_73 (v := 0) (by decide) ?_
          obtain ⟨S25, eS25, h26⟩ := g_bd h23; clear h23
          refine g_pZ (ci := 8) (k := 24) X rfl il8 tyX8 tyX8_ok nmX8 (by decide) tw727 rfl (by decide) (fun _ _ _ => rfl) rfl eS25 dX8_stepsOf_74 ?_
          clear eS25
          refine g_lload (j := 2) X dX8_stepsOf_77 rfl ?_
          refine g_lload (j := 0) X dX8_stepsOf_79 rfl ?_
          refine g_lcmp X dX8_stepsOf_81 ?_
          refine g_if_gt (tgt := 90) X dX8_stepsOf_82 (by decide) (fun c27 => ?_) (fun c27 => ?_)
          · have h28 := g_ip h26 c27; clear h26
            refine g_lload (j := 3) X dX8_stepsOf_90 rfl ?_
            refine g_lload (j := 0) X dX8_stepsOf_92 rfl ?_
            refine g_lsub X dX8_stepsOf_94 ?_
            obtain ⟨x30, ex30, h31⟩ := g_let h28; clear h28; rw [← ex30]; clear ex30
            refine g_lstore (i := 7) (lv' := [(7, .long x30), (9, .long x10), (0, va_rf (some a0)), (5, .long v5)]) X dX8_stepsOf_95 (by decide) rfl ?_
            refine g_lload (j := 3) X dX8_stepsOf_97 rfl ?_
            refine g_lload (j := 1) X dX8_stepsOf_99 rfl ?_
            refine g_lcmp X dX8_stepsOf_101 ?_
            refine g_if_gt (tgt := 110) X dX8_stepsOf_102 (by decide) (fun c32 => ?_) (fun c32 => ?_)
            · have h33 := g_ip h31 c32; clear h31
              refine g_lload (j := 3) X dX8_stepsOf_110 rfl ?_
              refine g_lload (j := 1) X dX8_stepsOf_112 rfl ?_
              refine g_lsub X dX8_stepsOf_114 ?_
              obtain ⟨x35, ex35, h36⟩ := g_let h33; clear h33; rw [← ex35]; clear ex35
              refine g_lstore (i := 5) (lv' := [(5, .long x35), (7, .long x30), (9, .long x10), (0, va_rf (some a0))]) X dX8_stepsOf_115 (by decide) rfl ?_
              refine g_aload_n (j := 3) X dX8_stepsOf_117 rfl rfl ?_
              refine g_dup X dX8_stepsOf_118 (g_rfc _) ?_
              obtain ⟨x37, ex37, h38⟩ := g_bd h36; clear h36
              refine g_fI (ci := 8) (k := 23) X rfl il8 (by decide) tw726 (by decide) (fun _ _ _ => rfl) ex37 dX8_stepsOf_119 ?_
              clear ex37
              refine g_iconst X dX8_stepsOf_122 (v := 1) (by decide) ?_
              refine g_iadd X dX8_stepsOf_123 ?_
              obtain ⟨S39, eS39, h40⟩ := g_bd h38; clear h38
              refine g_pI (ci := 8) (k := 23) X rfl il8 tyX8 tyX8_ok nmX8 (by decide) tw726 rfl (by decide) (fun _ _ _ => rfl) rfl eS39 dX8_stepsOf_124 ?_
              clear eS39
              refine g_goto (tgt := 16) X dX8_stepsOf_127 (by decide) ?_
              refine g_sub [3, 0, 1] rfl ?_
              exact ih S39 a0 x35 x30 h40
            · have h34 := g_in h31 c32; clear h31
              refine g_lload (j := 3) X dX8_stepsOf_105 rfl ?_
              refine g_goto (tgt := 115) X dX8_stepsOf_107 (by decide) ?_
              refine g_lstore (i := 5) (lv' := [(5, .long v5), (7, .long x30), (9, .long x10), (0, va_rf (some a0))]) X dX8_stepsOf_115 (by decide) rfl ?_
              refine g_aload_n (j := 3) X dX8_stepsOf_117 rfl rfl ?_
              refine g_dup X dX8_stepsOf_118 (g_rfc _) ?_
              obtain ⟨x41, ex41, h42⟩ := g_bd h34; clear h34
              refine g_fI (ci := 8) (k := 23) X rfl il8 (by decide) tw726 (by decide) (fun _ _ _ => rfl) ex41 dX8_stepsOf_119 ?_
              clear ex41
              refine g_iconst X dX8_stepsOf_122 (v := 1) (by decide) ?_
              refine g_iadd X dX8_stepsOf_123 ?_
              obtain ⟨S43, eS43, h44⟩ := g_bd h42; clear h42
              refine g_pI (ci := 8) (k := 23) X rfl il8 tyX8 tyX8_ok nmX8 (by decide) tw726 rfl (by decide) (fun _ _ _ => rfl) rfl eS43 dX8_stepsOf_124 ?_
              clear eS43
              refine g_goto (tgt := 16) X dX8_stepsOf_127 (by decide) ?_
              refine g_sub [3, 0, 1] rfl ?_
              exact ih S43 a0 v5 x30 h44
          · have h29 := g_in h26 c27; clear h26
            refine g_lload (j := 0) X dX8_stepsOf_85 rfl ?_
            refine g_goto (tgt := 95) X dX8_stepsOf_87 (by decide) ?_
            refine g_lstore (i := 7) (lv' := [(7, .long x10), (9, .long x10), (0, va_rf (some a0)), (5, .long v5)]) X dX8_stepsOf_95 (by decide) rfl ?_
            refine g_lload (j := 3) X dX8_stepsOf_97 rfl ?_
            refine g_lload (j := 1) X dX8_stepsOf_99 rfl ?_
            refine g_lcmp X dX8_stepsOf_101 ?_
            refine g_if_gt (tgt := 110) X dX8_stepsOf_102 (by decide) (fun c45 => ?_) (fun c45 => ?_)
            · have h46 := g_ip h29 c45; clear h29
              refine g_lload (j := 3) X dX8_stepsOf_110 rfl ?_
              refine g_lload (j := 1) X dX8_stepsOf_112 rfl ?_
              refine g_lsub X dX8_stepsOf_114 ?_
              obtain ⟨x48, ex48, h49⟩ := g_let h46; clear h46; rw [← ex48]; clear ex48
              refine g_lstore (i := 5) (lv' := [(5, .long x48), (7, .long x10), (9, .long x10), (0, va_rf (some a0))]) X dX8_stepsOf_115 (by decide) rfl ?_
              refine g_aload_n (j := 3) X dX8_stepsOf_117 rfl rfl ?_
              refine g_dup X dX8_stepsOf_118 (g_rfc _) ?_
              obtain ⟨x50, ex50, h51⟩ := g_bd h49; clear h49
              refine g_fI (ci := 8) (k := 23) X rfl il8 (by decide) tw726 (by decide) (fun _ _ _ => rfl) ex50 dX8_stepsOf_119 ?_
              clear ex50
              refine g_iconst X dX8_stepsOf_122 (v := 1) (by decide) ?_
              refine g_iadd X dX8_stepsOf_123 ?_
              obtain ⟨S52, eS52, h53⟩ := g_bd h51; clear h51
              refine g_pI (ci := 8) (k := 23) X rfl il8 tyX8 tyX8_ok nmX8 (by decide) tw726 rfl (by decide) (fun _ _ _ => rfl) rfl eS52 dX8_stepsOf_124 ?_
              clear eS52
              refine g_goto (tgt := 16) X dX8_stepsOf_127 (by decide) ?_
              refine g_sub [3, 0, 1] rfl ?_
              exact ih S52 a0 x48 x10 h53
            · have h47 := g_in h29 c45; clear h29
              refine g_lload (j := 3) X dX8_stepsOf_105 rfl ?_
              refine g_goto (tgt := 115) X dX8_stepsOf_107 (by decide) ?_
              refine g_lstore (i := 5) (lv' := [(5, .long v5), (7, .long x10), (9, .long x10), (0, va_rf (some a0))]) X dX8_stepsOf_115 (by decide) rfl ?_
              refine g_aload_n (j := 3) X dX8_stepsOf_117 rfl rfl ?_
              refine g_dup X dX8_stepsOf_118 (g_rfc _) ?_
              obtain ⟨x54, ex54, h55⟩ := g_bd h47; clear h47
              refine g_fI (ci := 8) (k := 23) X rfl il8 (by decide) tw726 (by decide) (fun _ _ _ => rfl) ex54 dX8_stepsOf_119 ?_
              clear ex54
              refine g_iconst X dX8_stepsOf_122 (v := 1) (by decide) ?_
              refine g_iadd X dX8_stepsOf_123 ?_
              obtain ⟨S56, eS56, h57⟩ := g_bd h55; clear h55
              refine g_pI (ci := 8) (k := 23) X rfl il8 tyX8 tyX8_ok nmX8 (by decide) tw726 rfl (by decide) (fun _ _ _ => rfl) rfl eS56 dX8_stepsOf_124 ?_
              clear eS56
              refine g_goto (tgt := 16) X dX8_stepsOf_127 (by decide) ?_
              refine g_sub [3, 0, 1] rfl ?_
              exact ih S56 a0 v5 x10 h57
        · have h24 := g_in h21 c22; clear h21
          refine g_lload (j := 2) X dX8_stepsOf_61 rfl ?_
          refine g_lload (j := 0) X dX8_stepsOf_63 rfl ?_
          refine g_lcmp X dX8_stepsOf_65 ?_
          refine g_if_gt (tgt := 73) X dX8_stepsOf_66 (by decide) (fun c58 => ?_) (fun c58 => ?_)
          · have h59 := g_ip h24 c58; clear h24
            refine g_iconst X dX8_stepsOf_73 (v := 0) (by decide) ?_
            obtain ⟨S61, eS61, h62⟩ := g_bd h59; clear h59
            refine g_pZ (ci := 8) (k := 24) X rfl il8 tyX8 tyX8_ok nmX8 (by decide) tw727 rfl (by decide) (fun _ _ _ => rfl) rfl eS61 dX8_stepsOf_74 ?_
            clear eS61
            refine g_lload (j := 2) X dX8_stepsOf_77 rfl ?_
            refine g_lload (j := 0) X dX8_stepsOf_79 rfl ?_
            refine g_lcmp X dX8_stepsOf_81 ?_
            refine g_if_gt (tgt := 90) X dX8_stepsOf_82 (by decide) (fun c63 => ?_) (fun c63 => ?_)
            · have h64 := g_ip h62 c63; clear h62
              refine g_lload (j := 3) X dX8_stepsOf_90 rfl ?_
              refine g_lload (j := 0) X dX8_stepsOf_92 rfl ?_
              refine g_lsub X dX8_stepsOf_94 ?_
              obtain ⟨x66, ex66, h67⟩ := g_let h64; clear h64; rw [← ex66]; clear ex66
              refine g_lstore (i := 7) (lv' := [(7, .long x66), (9, .long x10), (0, va_rf (some a0)), (5, .long v5)]) X dX8_stepsOf_95 (by decide) rfl ?_
              refine g_lload (j := 3) X dX8_stepsOf_97 rfl ?_
              refine g_lload (j := 1) X dX8_stepsOf_99 rfl ?_
              refine g_lcmp X dX8_stepsOf_101 ?_
              refine g_if_gt (tgt := 110) X dX8_stepsOf_102 (by decide) (fun c68 => ?_) (fun c68 => ?_)
              · have h69 := g_ip h67 c68; clear h67
                refine g_lload (j := 3) X dX8_stepsOf_110 rfl ?_
                refine g_lload (j := 1) X dX8_stepsOf_112 rfl ?_
                refine g_lsub X dX8_stepsOf_114 ?_
                obtain ⟨x71, ex71, h72⟩ := g_let h69; clear h69; rw [← ex71]; clear ex71
                refine g_lstore (i := 5) (lv' := [(5, .long x71), (7, .long x66), (9, .long x10), (0, va_rf (some a0))]) X dX8_stepsOf_115 (by decide) rfl ?_
                refine g_aload_n (j := 3) X dX8_stepsOf_117 rfl rfl ?_
                refine g_dup X dX8_stepsOf_118 (g_rfc _) ?_
                obtain ⟨x73, ex73, h74⟩ := g_bd h72; clear h72
                refine g_fI (ci := 8) (k := 23) X rfl il8 (by decide) tw726 (by decide) (fun _ _ _ => rfl) ex73 dX8_stepsOf_119 ?_
                clear ex73
                refine g_iconst X dX8_stepsOf_122 (v := 1) (by decide) ?_
                refine g_iadd X dX8_stepsOf_123 ?_
                obtain ⟨S75, eS75, h76⟩ := g_bd h74; clear h74
                refine g_pI (ci := 8) (k := 23) X rfl il8 tyX8 tyX8_ok nmX8 (by decide) tw726 rfl (by decide) (fun _ _ _ => rfl) rfl eS75 dX8_stepsOf_124 ?_
                clear eS75
                refine g_goto (tgt := 16) X dX8_stepsOf_127 (by decide) ?_
                refine g_sub [3, 0, 1] rfl ?_
                exact ih S75 a0 x71 x66 h76
              · have h70 := g_in h67 c68; clear h67
                refine g_lload (j := 3) X dX8_stepsOf_105 rfl ?_
                refine g_goto (tgt := 115) X dX8_stepsOf_107 (by decide) ?_
                refine g_lstore (i := 5) (lv' := [(5, .long v5), (7, .long x66), (9, .long x10), (0, va_rf (some a0))]) X dX8_stepsOf_115 (by decide) rfl ?_
                refine g_aload_n (j := 3) X dX8_stepsOf_117 rfl rfl ?_
                refine g_dup X dX8_stepsOf_118 (g_rfc _) ?_
                obtain ⟨x77, ex77, h78⟩ := g_bd h70; clear h70
                refine g_fI (ci := 8) (k := 23) X rfl il8 (by decide) tw726 (by decide) (fun _ _ _ => rfl) ex77 dX8_stepsOf_119 ?_
                clear ex77
                refine g_iconst X dX8_stepsOf_122 (v := 1) (by decide) ?_
                refine g_iadd X dX8_stepsOf_123 ?_
                obtain ⟨S79, eS79, h80⟩ := g_bd h78; clear h78
                refine g_pI (ci := 8) (k := 23) X rfl il8 tyX8 tyX8_ok nmX8 (by decide) tw726 rfl (by decide) (fun _ _ _ => rfl) rfl eS79 dX8_stepsOf_124 ?_
                clear eS79
                refine g_goto (tgt := 16) X dX8_stepsOf_127 (by decide) ?_
                refine g_sub [3, 0, 1] rfl ?_
                exact ih S79 a0 v5 x66 h80
            · have h65 := g_in h62 c63; clear h62
              refine g_lload (j := 0) X dX8_stepsOf_85 rfl ?_
              refine g_goto (tgt := 95) X dX8_stepsOf_87 (by decide) ?_
              refine g_lstore (i := 7) (lv' := [(7, .long x10), (9, .long x10), (0, va_rf (some a0)), (5, .long v5)]) X dX8_stepsOf_95 (by decide) rfl ?_
              refine g_lload (j := 3) X dX8_stepsOf_97 rfl ?_
              refine g_lload (j := 1) X dX8_stepsOf_99 rfl ?_
              refine g_lcmp X dX8_stepsOf_101 ?_
              refine g_if_gt (tgt := 110) X dX8_stepsOf_102 (by decide) (fun c81 => ?_) (fun c81 => ?_)
              · have h82 := g_ip h65 c81; clear h65
                refine g_lload (j := 3) X dX8_stepsOf_110 rfl ?_
                refine g_lload (j := 1) X dX8_stepsOf_112 rfl ?_
                refine g_lsub X dX8_stepsOf_114 ?_
                obtain ⟨x84, ex84, h85⟩ := g_let h82; clear h82; rw [← ex84]; clear ex84
                refine g_lstore (i := 5) (lv' := [(5, .long x84), (7, .long x10), (9, .long x10), (0, va_rf (some a0))]) X dX8_stepsOf_115 (by decide) rfl ?_
                refine g_aload_n (j := 3) X dX8_stepsOf_117 rfl rfl ?_
                refine g_dup X dX8_stepsOf_118 (g_rfc _) ?_
                obtain ⟨x86, ex86, h87⟩ := g_bd h85; clear h85
                refine g_fI (ci := 8) (k := 23) X rfl il8 (by decide) tw726 (by decide) (fun _ _ _ => rfl) ex86 dX8_stepsOf_119 ?_
                clear ex86
                refine g_iconst X dX8_stepsOf_122 (v := 1) (by decide) ?_
                refine g_iadd X dX8_stepsOf_123 ?_
                obtain ⟨S88, eS88, h89⟩ := g_bd h87; clear h87
                refine g_pI (ci := 8) (k := 23) X rfl il8 tyX8 tyX8_ok nmX8 (by decide) tw726 rfl (by decide) (fun _ _ _ => rfl) rfl eS88 dX8_stepsOf_124 ?_
                clear eS88
                refine g_goto (tgt := 16) X dX8_stepsOf_127 (by decide) ?_
                refine g_sub [3, 0, 1] rfl ?_
                exact ih S88 a0 x84 x10 h89
              · have h83 := g_in h65 c81; clear h65
                refine g_lload (j := 3) X dX8_stepsOf_105 rfl ?_
                refine g_goto (tgt := 115) X dX8_stepsOf_107 (by decide) ?_
                refine g_lstore (i := 5) (lv' := [(5, .long v5), (7, .long x10), (9, .long x10), (0, va_rf (some a0))]) X dX8_stepsOf_115 (by decide) rfl ?_
                refine g_aload_n (j := 3) X dX8_stepsOf_117 rfl rfl ?_
                refine g_dup X dX8_stepsOf_118 (g_rfc _) ?_
                obtain ⟨x90, ex90, h91⟩ := g_bd h83; clear h83
                refine g_fI (ci := 8) (k := 23) X rfl il8 (by decide) tw726 (by decide) (fun _ _ _ => rfl) ex90 dX8_stepsOf_119 ?_
                clear ex90
                refine g_iconst X dX8_stepsOf_122 (v := 1) (by decide) ?_
                refine g_iadd X dX8_stepsOf_123 ?_
                obtain ⟨S92, eS92, h93⟩ := g_bd h91; clear h91
                refine g_pI (ci := 8) (k := 23) X rfl il8 tyX8 tyX8_ok nmX8 (by decide) tw726 rfl (by decide) (fun _ _ _ => rfl) rfl eS92 dX8_stepsOf_124 ?_
                clear eS92
                refine g_goto (tgt := 16) X dX8_stepsOf_127 (by decide) ?_
                refine g_sub [3, 0, 1] rfl ?_
                exact ih S92 a0 v5 x10 h93
          · have h60 := g_in h24 c58; clear h24
            refine g_iconst X dX8_stepsOf_69 (v := 1) (by decide) ?_
            refine g_goto (tgt := 74) X dX8_stepsOf_70 (by decide) ?_
            obtain ⟨S94, eS94, h95⟩ := g_bd h60; clear h60
            refine g_pZ (ci := 8) (k := 24) X rfl il8 tyX8 tyX8_ok nmX8 (by decide) tw727 rfl (by decide) (fun _ _ _ => rfl) rfl eS94 dX8_stepsOf_74 ?_
            clear eS94
            refine g_lload (j := 2) X dX8_stepsOf_77 rfl ?_
            refine g_lload (j := 0) X dX8_stepsOf_79 rfl ?_
            refine g_lcmp X dX8_stepsOf_81 ?_
            refine g_if_gt (tgt := 90) X dX8_stepsOf_82 (by decide) (fun c96 => ?_) (fun c96 => ?_)
            · have h97 := g_ip h95 c96; clear h95
              refine g_lload (j := 3) X dX8_stepsOf_90 rfl ?_
              refine g_lload (j := 0) X dX8_stepsOf_92 rfl ?_
              refine g_lsub X dX8_stepsOf_94 ?_
              obtain ⟨x99, ex99, h100⟩ := g_let h97; clear h97; rw [← ex99]; clear ex99
              refine g_lstore (i := 7) (lv' := [(7, .long x99), (9, .long x10), (0, va_rf (some a0)), (5, .long v5)]) X dX8_stepsOf_95 (by decide) rfl ?_
              refine g_lload (j := 3) X dX8_stepsOf_97 rfl ?_
              refine g_lload (j := 1) X dX8_stepsOf_99 rfl ?_
              refine g_lcmp X dX8_stepsOf_101 ?_
              refine g_if_gt (tgt := 110) X dX8_stepsOf_102 (by decide) (fun c101 => ?_) (fun c101 => ?_)
              · have h102 := g_ip h100 c101; clear h100
                refine g_lload (j := 3) X dX8_stepsOf_110 rfl ?_
                refine g_lload (j := 1) X dX8_stepsOf_112 rfl ?_
                refine g_lsub X dX8_stepsOf_114 ?_
                obtain ⟨x104, ex104, h105⟩ := g_let h102; clear h102; rw [← ex104]; clear ex104
                refine g_lstore (i := 5) (lv' := [(5, .long x104), (7, .long x99), (9, .long x10), (0, va_rf (some a0))]) X dX8_stepsOf_115 (by decide) rfl ?_
                refine g_aload_n (j := 3) X dX8_stepsOf_117 rfl rfl ?_
                refine g_dup X dX8_stepsOf_118 (g_rfc _) ?_
                obtain ⟨x106, ex106, h107⟩ := g_bd h105; clear h105
                refine g_fI (ci := 8) (k := 23) X rfl il8 (by decide) tw726 (by decide) (fun _ _ _ => rfl) ex106 dX8_stepsOf_119 ?_
                clear ex106
                refine g_iconst X dX8_stepsOf_122 (v := 1) (by decide) ?_
                refine g_iadd X dX8_stepsOf_123 ?_
                obtain ⟨S108, eS108, h109⟩ := g_bd h107; clear h107
                refine g_pI (ci := 8) (k := 23) X rfl il8 tyX8 tyX8_ok nmX8 (by decide) tw726 rfl (by decide) (fun _ _ _ => rfl) rfl eS108 dX8_stepsOf_124 ?_
                clear eS108
                refine g_goto (tgt := 16) X dX8_stepsOf_127 (by decide) ?_
                refine g_sub [3, 0, 1] rfl ?_
                exact ih S108 a0 x104 x99 h109
              · have h103 := g_in h100 c101; clear h100
                refine g_lload (j := 3) X dX8_stepsOf_105 rfl ?_
                refine g_goto (tgt := 115) X dX8_stepsOf_107 (by decide) ?_
                refine g_lstore (i := 5) (lv' := [(5, .long v5), (7, .long x99), (9, .long x10), (0, va_rf (some a0))]) X dX8_stepsOf_115 (by decide) rfl ?_
                refine g_aload_n (j := 3) X dX8_stepsOf_117 rfl rfl ?_
                refine g_dup X dX8_stepsOf_118 (g_rfc _) ?_
                obtain ⟨x110, ex110, h111⟩ := g_bd h103; clear h103
                refine g_fI (ci := 8) (k := 23) X rfl il8 (by decide) tw726 (by decide) (fun _ _ _ => rfl) ex110 dX8_stepsOf_119 ?_
                clear ex110
                refine g_iconst X dX8_stepsOf_122 (v := 1) (by decide) ?_
                refine g_iadd X dX8_stepsOf_123 ?_
                obtain ⟨S112, eS112, h113⟩ := g_bd h111; clear h111
                refine g_pI (ci := 8) (k := 23) X rfl il8 tyX8 tyX8_ok nmX8 (by decide) tw726 rfl (by decide) (fun _ _ _ => rfl) rfl eS112 dX8_stepsOf_124 ?_
                clear eS112
                refine g_goto (tgt := 16) X dX8_stepsOf_127 (by decide) ?_
                refine g_sub [3, 0, 1] rfl ?_
                exact ih S112 a0 v5 x99 h113
            · have h98 := g_in h95 c96; clear h95
              refine g_lload (j := 0) X dX8_stepsOf_85 rfl ?_
              refine g_goto (tgt := 95) X dX8_stepsOf_87 (by decide) ?_
              refine g_lstore (i := 7) (lv' := [(7, .long x10), (9, .long x10), (0, va_rf (some a0)), (5, .long v5)]) X dX8_stepsOf_95 (by decide) rfl ?_
              refine g_lload (j := 3) X dX8_stepsOf_97 rfl ?_
              refine g_lload (j := 1) X dX8_stepsOf_99 rfl ?_
              refine g_lcmp X dX8_stepsOf_101 ?_
              refine g_if_gt (tgt := 110) X dX8_stepsOf_102 (by decide) (fun c114 => ?_) (fun c114 => ?_)
              · have h115 := g_ip h98 c114; clear h98
                refine g_lload (j := 3) X dX8_stepsOf_110 rfl ?_
                refine g_lload (j := 1) X dX8_stepsOf_112 rfl ?_
                refine g_lsub X dX8_stepsOf_114 ?_
                obtain ⟨x117, ex117, h118⟩ := g_let h115; clear h115; rw [← ex117]; clear ex117
                refine g_lstore (i := 5) (lv' := [(5, .long x117), (7, .long x10), (9, .long x10), (0, va_rf (some a0))]) X dX8_stepsOf_115 (by decide) rfl ?_
                refine g_aload_n (j := 3) X dX8_stepsOf_117 rfl rfl ?_
                refine g_dup X dX8_stepsOf_118 (g_rfc _) ?_
                obtain ⟨x119, ex119, h120⟩ := g_bd h118; clear h118
                refine g_fI (ci := 8) (k := 23) X rfl il8 (by decide) tw726 (by decide) (fun _ _ _ => rfl) ex119 dX8_stepsOf_119 ?_
                clear ex119
                refine g_iconst X dX8_stepsOf_122 (v := 1) (by decide) ?_
                refine g_iadd X dX8_stepsOf_123 ?_
                obtain ⟨S121, eS121, h122⟩ := g_bd h120; clear h120
                refine g_pI (ci := 8) (k := 23) X rfl il8 tyX8 tyX8_ok nmX8 (by decide) tw726 rfl (by decide) (fun _ _ _ => rfl) rfl eS121 dX8_stepsOf_124 ?_
                clear eS121
                refine g_goto (tgt := 16) X dX8_stepsOf_127 (by decide) ?_
                refine g_sub [3, 0, 1] rfl ?_
                exact ih S121 a0 x117 x10 h122
              · have h116 := g_in h98 c114; clear h98
                refine g_lload (j := 3) X dX8_stepsOf_105 rfl ?_
                refine g_goto (tgt := 115) X dX8_stepsOf_107 (by decide) ?_
                refine g_lstore (i := 5) (lv' := [(5, .long v5), (7, .long x10), (9, .long x10), (0, va_rf (some a0))]) X dX8_stepsOf_115 (by decide) rfl ?_
                refine g_aload_n (j := 3) X dX8_stepsOf_117 rfl rfl ?_
                refine g_dup X dX8_stepsOf_118 (g_rfc _) ?_
                obtain ⟨x123, ex123, h124⟩ := g_bd h116; clear h116
                refine g_fI (ci := 8) (k := 23) X rfl il8 (by decide) tw726 (by decide) (fun _ _ _ => rfl) ex123 dX8_stepsOf_119 ?_
                clear ex123
                refine g_iconst X dX8_stepsOf_122 (v := 1) (by decide) ?_
                refine g_iadd X dX8_stepsOf_123 ?_
                obtain ⟨S125, eS125, h126⟩ := g_bd h124; clear h124
                refine g_pI (ci := 8) (k := 23) X rfl il8 tyX8 tyX8_ok nmX8 (by decide) tw726 rfl (by decide) (fun _ _ _ => rfl) rfl eS125 dX8_stepsOf_124 ?_
                clear eS125
                refine g_goto (tgt := 16) X dX8_stepsOf_127 (by decide) ?_
                refine g_sub [3, 0, 1] rfl ?_
                exact ih S125 a0 v5 x10 h126
      · have h17 := g_in h14 c15; clear h14
        refine g_iconst X dX8_stepsOf_47 (v := 0) (by decide) ?_
        refine g_goto (tgt := 52) X dX8_stepsOf_48 (by decide) ?_
        obtain ⟨S127, eS127, h128⟩ := g_bd h17; clear h17
        refine g_iast X eS127 dX8_stepsOf_52 ?_
        clear eS127
        refine g_aload_n (j := 1) X dX8_stepsOf_53 rfl rfl ?_
        refine g_aload_n (j := 1) X dX8_stepsOf_54 rfl rfl ?_
        obtain ⟨x129, ex129, h130⟩ := g_bd h128; clear h128
        refine g_fI (ci := 8) (k := 24) X rfl il8 (by decide) tw727 (by decide) (fun _ _ _ => rfl) ex129 dX8_stepsOf_55 ?_
        clear ex129
        refine g_if_eq (tgt := 73) X dX8_stepsOf_58 (by decide) (fun c131 => ?_) (fun c131 => ?_)
        · have h132 := g_ip h130 c131; clear h130
          refine g_iconst X dX8_stepsOf_73 (v := 0) (by decide) ?_
          obtain ⟨S134, eS134, h135⟩ := g_bd h132; clear h132
          refine g_pZ (ci := 8) (k := 24) X rfl il8 tyX8 tyX8_ok nmX8 (by decide) tw727 rfl (by decide) (fun _ _ _ => rfl) rfl eS134 dX8_stepsOf_74 ?_
          clear eS134
          refine g_lload (j := 2) X dX8_stepsOf_77 rfl ?_
          refine g_lload (j := 0) X dX8_stepsOf_79 rfl ?_
          refine g_lcmp X dX8_stepsOf_81 ?_
          refine g_if_gt (tgt := 90) X dX8_stepsOf_82 (by decide) (fun c136 => ?_) (fun c136 => ?_)
          · have h137 := g_ip h135 c136; clear h135
            refine g_lload (j := 3) X dX8_stepsOf_90 rfl ?_
            refine g_lload (j := 0) X dX8_stepsOf_92 rfl ?_
            refine g_lsub X dX8_stepsOf_94 ?_
            obtain ⟨x139, ex139, h140⟩ := g_let h137; clear h137; rw [← ex139]; clear ex139
            refine g_lstore (i := 7) (lv' := [(7, .long x139), (9, .long x10), (0, va_rf (some a0)), (5, .long v5)]) X dX8_stepsOf_95 (by decide) rfl ?_
            refine g_lload (j := 3) X dX8_stepsOf_97 rfl ?_
            refine g_lload (j := 1) X dX8_stepsOf_99 rfl ?_
            refine g_lcmp X dX8_stepsOf_101 ?_
            refine g_if_gt (tgt := 110) X dX8_stepsOf_102 (by decide) (fun c141 => ?_) (fun c141 => ?_)
            · have h142 := g_ip h140 c141; clear h140
              refine g_lload (j := 3) X dX8_stepsOf_110 rfl ?_
              refine g_lload (j := 1) X dX8_stepsOf_112 rfl ?_
              refine g_lsub X dX8_stepsOf_114 ?_
              obtain ⟨x144, ex144, h145⟩ := g_let h142; clear h142; rw [← ex144]; clear ex144
              refine g_lstore (i := 5) (lv' := [(5, .long x144), (7, .long x139), (9, .long x10), (0, va_rf (some a0))]) X dX8_stepsOf_115 (by decide) rfl ?_
              refine g_aload_n (j := 3) X dX8_stepsOf_117 rfl rfl ?_
              refine g_dup X dX8_stepsOf_118 (g_rfc _) ?_
              obtain ⟨x146, ex146, h147⟩ := g_bd h145; clear h145
              refine g_fI (ci := 8) (k := 23) X rfl il8 (by decide) tw726 (by decide) (fun _ _ _ => rfl) ex146 dX8_stepsOf_119 ?_
              clear ex146
              refine g_iconst X dX8_stepsOf_122 (v := 1) (by decide) ?_
              refine g_iadd X dX8_stepsOf_123 ?_
              obtain ⟨S148, eS148, h149⟩ := g_bd h147; clear h147
              refine g_pI (ci := 8) (k := 23) X rfl il8 tyX8 tyX8_ok nmX8 (by decide) tw726 rfl (by decide) (fun _ _ _ => rfl) rfl eS148 dX8_stepsOf_124 ?_
              clear eS148
              refine g_goto (tgt := 16) X dX8_stepsOf_127 (by decide) ?_
              refine g_sub [3, 0, 1] rfl ?_
              exact ih S148 a0 x144 x139 h149
            · have h143 := g_in h140 c141; clear h140
              refine g_lload (j := 3) X dX8_stepsOf_105 rfl ?_
              refine g_goto (tgt := 115) X dX8_stepsOf_107 (by decide) ?_
              refine g_lstore (i := 5) (lv' := [(5, .long v5), (7, .long x139), (9, .long x10), (0, va_rf (some a0))]) X dX8_stepsOf_115 (by decide) rfl ?_
              refine g_aload_n (j := 3) X dX8_stepsOf_117 rfl rfl ?_
              refine g_dup X dX8_stepsOf_118 (g_rfc _) ?_
              obtain ⟨x150, ex150, h151⟩ := g_bd h143; clear h143
              refine g_fI (ci := 8) (k := 23) X rfl il8 (by decide) tw726 (by decide) (fun _ _ _ => rfl) ex150 dX8_stepsOf_119 ?_
              clear ex150
              refine g_iconst X dX8_stepsOf_122 (v := 1) (by decide) ?_
              refine g_iadd X dX8_stepsOf_123 ?_
              obtain ⟨S152, eS152, h153⟩ := g_bd h151; clear h151
              refine g_pI (ci := 8) (k := 23) X rfl il8 tyX8 tyX8_ok nmX8 (by decide) tw726 rfl (by decide) (fun _ _ _ => rfl) rfl eS152 dX8_stepsOf_124 ?_
              clear eS152
              refine g_goto (tgt := 16) X dX8_stepsOf_127 (by decide) ?_
              refine g_sub [3, 0, 1] rfl ?_
              exact ih S152 a0 v5 x139 h153
          · have h138 := g_in h135 c136; clear h135
            refine g_lload (j := 0) X dX8_stepsOf_85 rfl ?_
            refine g_goto (tgt := 95) X dX8_stepsOf_87 (by decide) ?_
            refine g_lstore (i := 7) (lv' := [(7, .long x10), (9, .long x10), (0, va_rf (some a0)), (5, .long v5)]) X dX8_stepsOf_95 (by decide) rfl ?_
            refine g_lload (j := 3) X dX8_stepsOf_97 rfl ?_
            refine g_lload (j := 1) X dX8_stepsOf_99 rfl ?_
            refine g_lcmp X dX8_stepsOf_101 ?_
            refine g_if_gt (tgt := 110) X dX8_stepsOf_102 (by decide) (fun c154 => ?_) (fun c154 => ?_)
            · have h155 := g_ip h138 c154; clear h138
              refine g_lload (j := 3) X dX8_stepsOf_110 rfl ?_
              refine g_lload (j := 1) X dX8_stepsOf_112 rfl ?_
              refine g_lsub X dX8_stepsOf_114 ?_
              obtain ⟨x157, ex157, h158⟩ := g_let h155; clear h155; rw [← ex157]; clear ex157
              refine g_lstore (i := 5) (lv' := [(5, .long x157), (7, .long x10), (9, .long x10), (0, va_rf (some a0))]) X dX8_stepsOf_115 (by decide) rfl ?_
              refine g_aload_n (j := 3) X dX8_stepsOf_117 rfl rfl ?_
              refine g_dup X dX8_stepsOf_118 (g_rfc _) ?_
              obtain ⟨x159, ex159, h160⟩ := g_bd h158; clear h158
              refine g_fI (ci := 8) (k := 23) X rfl il8 (by decide) tw726 (by decide) (fun _ _ _ => rfl) ex159 dX8_stepsOf_119 ?_
              clear ex159
              refine g_iconst X dX8_stepsOf_122 (v := 1) (by decide) ?_
              refine g_iadd X dX8_stepsOf_123 ?_
              obtain ⟨S161, eS161, h162⟩ := g_bd h160; clear h160
              refine g_pI (ci := 8) (k := 23) X rfl il8 tyX8 tyX8_ok nmX8 (by decide) tw726 rfl (by decide) (fun _ _ _ => rfl) rfl eS161 dX8_stepsOf_124 ?_
              clear eS161
              refine g_goto (tgt := 16) X dX8_stepsOf_127 (by decide) ?_
              refine g_sub [3, 0, 1] rfl ?_
              exact ih S161 a0 x157 x10 h162
            · have h156 := g_in h138 c154; clear h138
              refine g_lload (j := 3) X dX8_stepsOf_105 rfl ?_
              refine g_goto (tgt := 115) X dX8_stepsOf_107 (by decide) ?_
              refine g_lstore (i := 5) (lv' := [(5, .long v5), (7, .long x10), (9, .long x10), (0, va_rf (some a0))]) X dX8_stepsOf_115 (by decide) rfl ?_
              refine g_aload_n (j := 3) X dX8_stepsOf_117 rfl rfl ?_
              refine g_dup X dX8_stepsOf_118 (g_rfc _) ?_
              obtain ⟨x163, ex163, h164⟩ := g_bd h156; clear h156
              refine g_fI (ci := 8) (k := 23) X rfl il8 (by decide) tw726 (by decide) (fun _ _ _ => rfl) ex163 dX8_stepsOf_119 ?_
              clear ex163
              refine g_iconst X dX8_stepsOf_122 (v := 1) (by decide) ?_
              refine g_iadd X dX8_stepsOf_123 ?_
              obtain ⟨S165, eS165, h166⟩ := g_bd h164; clear h164
              refine g_pI (ci := 8) (k := 23) X rfl il8 tyX8 tyX8_ok nmX8 (by decide) tw726 rfl (by decide) (fun _ _ _ => rfl) rfl eS165 dX8_stepsOf_124 ?_
              clear eS165
              refine g_goto (tgt := 16) X dX8_stepsOf_127 (by decide) ?_
              refine g_sub [3, 0, 1] rfl ?_
              exact ih S165 a0 v5 x10 h166
        · have h133 := g_in h130 c131; clear h130
          refine g_lload (j := 2) X dX8_stepsOf_61 rfl ?_
          refine g_lload (j := 0) X dX8_stepsOf_63 rfl ?_
          refine g_lcmp X dX8_stepsOf_65 ?_
          refine g_if_gt (tgt := 73) X dX8_stepsOf_66 (by decide) (fun c167 => ?_) (fun c167 => ?_)
          · have h168 := g_ip h133 c167; clear h133
            refine g_iconst X dX8_stepsOf_73 (v := 0) (by decide) ?_
            obtain ⟨S170, eS170, h171⟩ := g_bd h168; clear h168
            refine g_pZ (ci := 8) (k := 24) X rfl il8 tyX8 tyX8_ok nmX8 (by decide) tw727 rfl (by decide) (fun _ _ _ => rfl) rfl eS170 dX8_stepsOf_74 ?_
            clear eS170
            refine g_lload (j := 2) X dX8_stepsOf_77 rfl ?_
            refine g_lload (j := 0) X dX8_stepsOf_79 rfl ?_
            refine g_lcmp X dX8_stepsOf_81 ?_
            refine g_if_gt (tgt := 90) X dX8_stepsOf_82 (by decide) (fun c172 => ?_) (fun c172 => ?_)
            · have h173 := g_ip h171 c172; clear h171
              refine g_lload (j := 3) X dX8_stepsOf_90 rfl ?_
              refine g_lload (j := 0) X dX8_stepsOf_92 rfl ?_
              refine g_lsub X dX8_stepsOf_94 ?_
              obtain ⟨x175, ex175, h176⟩ := g_let h173; clear h173; rw [← ex175]; clear ex175
              refine g_lstore (i := 7) (lv' := [(7, .long x175), (9, .long x10), (0, va_rf (some a0)), (5, .long v5)]) X dX8_stepsOf_95 (by decide) rfl ?_
              refine g_lload (j := 3) X dX8_stepsOf_97 rfl ?_
              refine g_lload (j := 1) X dX8_stepsOf_99 rfl ?_
              refine g_lcmp X dX8_stepsOf_101 ?_
              refine g_if_gt (tgt := 110) X dX8_stepsOf_102 (by decide) (fun c177 => ?_) (fun c177 => ?_)
              · have h178 := g_ip h176 c177; clear h176
                refine g_lload (j := 3) X dX8_stepsOf_110 rfl ?_
                refine g_lload (j := 1) X dX8_stepsOf_112 rfl ?_
                refine g_lsub X dX8_stepsOf_114 ?_
                obtain ⟨x180, ex180, h181⟩ := g_let h178; clear h178; rw [← ex180]; clear ex180
                refine g_lstore (i := 5) (lv' := [(5, .long x180), (7, .long x175), (9, .long x10), (0, va_rf (some a0))]) X dX8_stepsOf_115 (by decide) rfl ?_
                refine g_aload_n (j := 3) X dX8_stepsOf_117 rfl rfl ?_
                refine g_dup X dX8_stepsOf_118 (g_rfc _) ?_
                obtain ⟨x182, ex182, h183⟩ := g_bd h181; clear h181
                refine g_fI (ci := 8) (k := 23) X rfl il8 (by decide) tw726 (by decide) (fun _ _ _ => rfl) ex182 dX8_stepsOf_119 ?_
                clear ex182
                refine g_iconst X dX8_stepsOf_122 (v := 1) (by decide) ?_
                refine g_iadd X dX8_stepsOf_123 ?_
                obtain ⟨S184, eS184, h185⟩ := g_bd h183; clear h183
                refine g_pI (ci := 8) (k := 23) X rfl il8 tyX8 tyX8_ok nmX8 (by decide) tw726 rfl (by decide) (fun _ _ _ => rfl) rfl eS184 dX8_stepsOf_124 ?_
                clear eS184
                refine g_goto (tgt := 16) X dX8_stepsOf_127 (by decide) ?_
                refine g_sub [3, 0, 1] rfl ?_
                exact ih S184 a0 x180 x175 h185
              · have h179 := g_in h176 c177; clear h176
                refine g_lload (j := 3) X dX8_stepsOf_105 rfl ?_
                refine g_goto (tgt := 115) X dX8_stepsOf_107 (by decide) ?_
                refine g_lstore (i := 5) (lv' := [(5, .long v5), (7, .long x175), (9, .long x10), (0, va_rf (some a0))]) X dX8_stepsOf_115 (by decide) rfl ?_
                refine g_aload_n (j := 3) X dX8_stepsOf_117 rfl rfl ?_
                refine g_dup X dX8_stepsOf_118 (g_rfc _) ?_
                obtain ⟨x186, ex186, h187⟩ := g_bd h179; clear h179
                refine g_fI (ci := 8) (k := 23) X rfl il8 (by decide) tw726 (by decide) (fun _ _ _ => rfl) ex186 dX8_stepsOf_119 ?_
                clear ex186
                refine g_iconst X dX8_stepsOf_122 (v := 1) (by decide) ?_
                refine g_iadd X dX8_stepsOf_123 ?_
                obtain ⟨S188, eS188, h189⟩ := g_bd h187; clear h187
                refine g_pI (ci := 8) (k := 23) X rfl il8 tyX8 tyX8_ok nmX8 (by decide) tw726 rfl (by decide) (fun _ _ _ => rfl) rfl eS188 dX8_stepsOf_124 ?_
                clear eS188
                refine g_goto (tgt := 16) X dX8_stepsOf_127 (by decide) ?_
                refine g_sub [3, 0, 1] rfl ?_
                exact ih S188 a0 v5 x175 h189
            · have h174 := g_in h171 c172; clear h171
              refine g_lload (j := 0) X dX8_stepsOf_85 rfl ?_
              refine g_goto (tgt := 95) X dX8_stepsOf_87 (by decide) ?_
              refine g_lstore (i := 7) (lv' := [(7, .long x10), (9, .long x10), (0, va_rf (some a0)), (5, .long v5)]) X dX8_stepsOf_95 (by decide) rfl ?_
              refine g_lload (j := 3) X dX8_stepsOf_97 rfl ?_
              refine g_lload (j := 1) X dX8_stepsOf_99 rfl ?_
              refine g_lcmp X dX8_stepsOf_101 ?_
              refine g_if_gt (tgt := 110) X dX8_stepsOf_102 (by decide) (fun c190 => ?_) (fun c190 => ?_)
              · have h191 := g_ip h174 c190; clear h174
                refine g_lload (j := 3) X dX8_stepsOf_110 rfl ?_
                refine g_lload (j := 1) X dX8_stepsOf_112 rfl ?_
                refine g_lsub X dX8_stepsOf_114 ?_
                obtain ⟨x193, ex193, h194⟩ := g_let h191; clear h191; rw [← ex193]; clear ex193
                refine g_lstore (i := 5) (lv' := [(5, .long x193), (7, .long x10), (9, .long x10), (0, va_rf (some a0))]) X dX8_stepsOf_115 (by decide) rfl ?_
                refine g_aload_n (j := 3) X dX8_stepsOf_117 rfl rfl ?_
                refine g_dup X dX8_stepsOf_118 (g_rfc _) ?_
                obtain ⟨x195, ex195, h196⟩ := g_bd h194; clear h194
                refine g_fI (ci := 8) (k := 23) X rfl il8 (by decide) tw726 (by decide) (fun _ _ _ => rfl) ex195 dX8_stepsOf_119 ?_
                clear ex195
                refine g_iconst X dX8_stepsOf_122 (v := 1) (by decide) ?_
                refine g_iadd X dX8_stepsOf_123 ?_
                obtain ⟨S197, eS197, h198⟩ := g_bd h196; clear h196
                refine g_pI (ci := 8) (k := 23) X rfl il8 tyX8 tyX8_ok nmX8 (by decide) tw726 rfl (by decide) (fun _ _ _ => rfl) rfl eS197 dX8_stepsOf_124 ?_
                clear eS197
                refine g_goto (tgt := 16) X dX8_stepsOf_127 (by decide) ?_
                refine g_sub [3, 0, 1] rfl ?_
                exact ih S197 a0 x193 x10 h198
              · have h192 := g_in h174 c190; clear h174
                refine g_lload (j := 3) X dX8_stepsOf_105 rfl ?_
                refine g_goto (tgt := 115) X dX8_stepsOf_107 (by decide) ?_
                refine g_lstore (i := 5) (lv' := [(5, .long v5), (7, .long x10), (9, .long x10), (0, va_rf (some a0))]) X dX8_stepsOf_115 (by decide) rfl ?_
                refine g_aload_n (j := 3) X dX8_stepsOf_117 rfl rfl ?_
                refine g_dup X dX8_stepsOf_118 (g_rfc _) ?_
                obtain ⟨x199, ex199, h200⟩ := g_bd h192; clear h192
                refine g_fI (ci := 8) (k := 23) X rfl il8 (by decide) tw726 (by decide) (fun _ _ _ => rfl) ex199 dX8_stepsOf_119 ?_
                clear ex199
                refine g_iconst X dX8_stepsOf_122 (v := 1) (by decide) ?_
                refine g_iadd X dX8_stepsOf_123 ?_
                obtain ⟨S201, eS201, h202⟩ := g_bd h200; clear h200
                refine g_pI (ci := 8) (k := 23) X rfl il8 tyX8 tyX8_ok nmX8 (by decide) tw726 rfl (by decide) (fun _ _ _ => rfl) rfl eS201 dX8_stepsOf_124 ?_
                clear eS201
                refine g_goto (tgt := 16) X dX8_stepsOf_127 (by decide) ?_
                refine g_sub [3, 0, 1] rfl ?_
                exact ih S201 a0 v5 x10 h202
          · have h169 := g_in h133 c167; clear h133
            refine g_iconst X dX8_stepsOf_69 (v := 1) (by decide) ?_
            refine g_goto (tgt := 74) X dX8_stepsOf_70 (by decide) ?_
            obtain ⟨S203, eS203, h204⟩ := g_bd h169; clear h169
            refine g_pZ (ci := 8) (k := 24) X rfl il8 tyX8 tyX8_ok nmX8 (by decide) tw727 rfl (by decide) (fun _ _ _ => rfl) rfl eS203 dX8_stepsOf_74 ?_
            clear eS203
            refine g_lload (j := 2) X dX8_stepsOf_77 rfl ?_
            refine g_lload (j := 0) X dX8_stepsOf_79 rfl ?_
            refine g_lcmp X dX8_stepsOf_81 ?_
            refine g_if_gt (tgt := 90) X dX8_stepsOf_82 (by decide) (fun c205 => ?_) (fun c205 => ?_)
            · have h206 := g_ip h204 c205; clear h204
              refine g_lload (j := 3) X dX8_stepsOf_90 rfl ?_
              refine g_lload (j := 0) X dX8_stepsOf_92 rfl ?_
              refine g_lsub X dX8_stepsOf_94 ?_
              obtain ⟨x208, ex208, h209⟩ := g_let h206; clear h206; rw [← ex208]; clear ex208
              refine g_lstore (i := 7) (lv' := [(7, .long x208), (9, .long x10), (0, va_rf (some a0)), (5, .long v5)]) X dX8_stepsOf_95 (by decide) rfl ?_
              refine g_lload (j := 3) X dX8_stepsOf_97 rfl ?_
              refine g_lload (j := 1) X dX8_stepsOf_99 rfl ?_
              refine g_lcmp X dX8_stepsOf_101 ?_
              refine g_if_gt (tgt := 110) X dX8_stepsOf_102 (by decide) (fun c210 => ?_) (fun c210 => ?_)
              · have h211 := g_ip h209 c210; clear h209
                refine g_lload (j := 3) X dX8_stepsOf_110 rfl ?_
                refine g_lload (j := 1) X dX8_stepsOf_112 rfl ?_
                refine g_lsub X dX8_stepsOf_114 ?_
                obtain ⟨x213, ex213, h214⟩ := g_let h211; clear h211; rw [← ex213]; clear ex213
                refine g_lstore (i := 5) (lv' := [(5, .long x213), (7, .long x208), (9, .long x10), (0, va_rf (some a0))]) X dX8_stepsOf_115 (by decide) rfl ?_
                refine g_aload_n (j := 3) X dX8_stepsOf_117 rfl rfl ?_
                refine g_dup X dX8_stepsOf_118 (g_rfc _) ?_
                obtain ⟨x215, ex215, h216⟩ := g_bd h214; clear h214
                refine g_fI (ci := 8) (k := 23) X rfl il8 (by decide) tw726 (by decide) (fun _ _ _ => rfl) ex215 dX8_stepsOf_119 ?_
                clear ex215
                refine g_iconst X dX8_stepsOf_122 (v := 1) (by decide) ?_
                refine g_iadd X dX8_stepsOf_123 ?_
                obtain ⟨S217, eS217, h218⟩ := g_bd h216; clear h216
                refine g_pI (ci := 8) (k := 23) X rfl il8 tyX8 tyX8_ok nmX8 (by decide) tw726 rfl (by decide) (fun _ _ _ => rfl) rfl eS217 dX8_stepsOf_124 ?_
                clear eS217
                refine g_goto (tgt := 16) X dX8_stepsOf_127 (by decide) ?_
                refine g_sub [3, 0, 1] rfl ?_
                exact ih S217 a0 x213 x208 h218
              · have h212 := g_in h209 c210; clear h209
                refine g_lload (j := 3) X dX8_stepsOf_105 rfl ?_
                refine g_goto (tgt := 115) X dX8_stepsOf_107 (by decide) ?_
                refine g_lstore (i := 5) (lv' := [(5, .long v5), (7, .long x208), (9, .long x10), (0, va_rf (some a0))]) X dX8_stepsOf_115 (by decide) rfl ?_
                refine g_aload_n (j := 3) X dX8_stepsOf_117 rfl rfl ?_
                refine g_dup X dX8_stepsOf_118 (g_rfc _) ?_
                obtain ⟨x219, ex219, h220⟩ := g_bd h212; clear h212
                refine g_fI (ci := 8) (k := 23) X rfl il8 (by decide) tw726 (by decide) (fun _ _ _ => rfl) ex219 dX8_stepsOf_119 ?_
                clear ex219
                refine g_iconst X dX8_stepsOf_122 (v := 1) (by decide) ?_
                refine g_iadd X dX8_stepsOf_123 ?_
                obtain ⟨S221, eS221, h222⟩ := g_bd h220; clear h220
                refine g_pI (ci := 8) (k := 23) X rfl il8 tyX8 tyX8_ok nmX8 (by decide) tw726 rfl (by decide) (fun _ _ _ => rfl) rfl eS221 dX8_stepsOf_124 ?_
                clear eS221
                refine g_goto (tgt := 16) X dX8_stepsOf_127 (by decide) ?_
                refine g_sub [3, 0, 1] rfl ?_
                exact ih S221 a0 v5 x208 h222
            · have h207 := g_in h204 c205; clear h204
              refine g_lload (j := 0) X dX8_stepsOf_85 rfl ?_
              refine g_goto (tgt := 95) X dX8_stepsOf_87 (by decide) ?_
              refine g_lstore (i := 7) (lv' := [(7, .long x10), (9, .long x10), (0, va_rf (some a0)), (5, .long v5)]) X dX8_stepsOf_95 (by decide) rfl ?_
              refine g_lload (j := 3) X dX8_stepsOf_97 rfl ?_
              refine g_lload (j := 1) X dX8_stepsOf_99 rfl ?_
              refine g_lcmp X dX8_stepsOf_101 ?_
              refine g_if_gt (tgt := 110) X dX8_stepsOf_102 (by decide) (fun c223 => ?_) (fun c223 => ?_)
              · have h224 := g_ip h207 c223; clear h207
                refine g_lload (j := 3) X dX8_stepsOf_110 rfl ?_
                refine g_lload (j := 1) X dX8_stepsOf_112 rfl ?_
                refine g_lsub X dX8_stepsOf_114 ?_
                obtain ⟨x226, ex226, h227⟩ := g_let h224; clear h224; rw [← ex226]; clear ex226
                refine g_lstore (i := 5) (lv' := [(5, .long x226), (7, .long x10), (9, .long x10), (0, va_rf (some a0))]) X dX8_stepsOf_115 (by decide) rfl ?_
                refine g_aload_n (j := 3) X dX8_stepsOf_117 rfl rfl ?_
                refine g_dup X dX8_stepsOf_118 (g_rfc _) ?_
                obtain ⟨x228, ex228, h229⟩ := g_bd h227; clear h227
                refine g_fI (ci := 8) (k := 23) X rfl il8 (by decide) tw726 (by decide) (fun _ _ _ => rfl) ex228 dX8_stepsOf_119 ?_
                clear ex228
                refine g_iconst X dX8_stepsOf_122 (v := 1) (by decide) ?_
                refine g_iadd X dX8_stepsOf_123 ?_
                obtain ⟨S230, eS230, h231⟩ := g_bd h229; clear h229
                refine g_pI (ci := 8) (k := 23) X rfl il8 tyX8 tyX8_ok nmX8 (by decide) tw726 rfl (by decide) (fun _ _ _ => rfl) rfl eS230 dX8_stepsOf_124 ?_
                clear eS230
                refine g_goto (tgt := 16) X dX8_stepsOf_127 (by decide) ?_
                refine g_sub [3, 0, 1] rfl ?_
                exact ih S230 a0 x226 x10 h231
              · have h225 := g_in h207 c223; clear h207
                refine g_lload (j := 3) X dX8_stepsOf_105 rfl ?_
                refine g_goto (tgt := 115) X dX8_stepsOf_107 (by decide) ?_
                refine g_lstore (i := 5) (lv' := [(5, .long v5), (7, .long x10), (9, .long x10), (0, va_rf (some a0))]) X dX8_stepsOf_115 (by decide) rfl ?_
                refine g_aload_n (j := 3) X dX8_stepsOf_117 rfl rfl ?_
                refine g_dup X dX8_stepsOf_118 (g_rfc _) ?_
                obtain ⟨x232, ex232, h233⟩ := g_bd h225; clear h225
                refine g_fI (ci := 8) (k := 23) X rfl il8 (by decide) tw726 (by decide) (fun _ _ _ => rfl) ex232 dX8_stepsOf_119 ?_
                clear ex232
                refine g_iconst X dX8_stepsOf_122 (v := 1) (by decide) ?_
                refine g_iadd X dX8_stepsOf_123 ?_
                obtain ⟨S234, eS234, h235⟩ := g_bd h233; clear h233
                refine g_pI (ci := 8) (k := 23) X rfl il8 tyX8 tyX8_ok nmX8 (by decide) tw726 rfl (by decide) (fun _ _ _ => rfl) rfl eS234 dX8_stepsOf_124 ?_
                clear eS234
                refine g_goto (tgt := 16) X dX8_stepsOf_127 (by decide) ?_
                refine g_sub [3, 0, 1] rfl ?_
                exact ih S234 a0 v5 x10 h235
def f_X8_stepsOf (S0 : gS) (a0 : Nat) (v1 : Int64) (v3 : Int64) : Option gS :=
  (fpI S0 8 23 (some a0) 0).bind fun S1 =>
  (fpZ S1 8 24 (some a0) 1).bind fun S3 =>
  f_X8_stepsOf_L16 gFuel S3 a0 v1 v3
set_option maxRecDepth 100000 in
set_option maxHeartbeats 4000000 in
theorem c_X8_stepsOf {l : Launch} (hl : l.stackTraces = false) (D : gD)  {S0 S9 : gS} {a0 : Nat} {v1 : Int64} {v3 : Int64} (h0 : f_X8_stepsOf S0 a0 v1 v3 = some S9) : Met l yX8_stepsOf (gws yX8_stepsOf cX8_stepsOf 11 none) { frames := 4, cells := 0, slots := 0, locals := 85 } (gPc D S0 [.ref a0, .long v1, .long v3]) (gQ D none S9) (0) (0) (gF D) := by
  refine g_met (lv := [(0, va_rf (some a0)), (1, .long v1), (3, .long v3)]) hl (by decide) (Nat.le_of_ble_eq_true rfl) rfl (fun p e s m args below meth c X hr hn => ?_)
  have X : gX D p l s m args meth c cX8_stepsOf 11 RX8 := X
  unfold f_X8_stepsOf at h0
  refine g_aload_n (j := 0) X dX8_stepsOf_0 rfl rfl ?_
  refine g_iconst X dX8_stepsOf_1 (v := 0) (by decide) ?_
  obtain ⟨S1, eS1, h2⟩ := g_bd h0; clear h0
  refine g_pI (ci := 8) (k := 23) X rfl il8 tyX8 tyX8_ok nmX8 (by decide) tw726 rfl (by decide) (fun _ _ _ => rfl) rfl eS1 dX8_stepsOf_2 ?_
  clear eS1
  refine g_aload_n (j := 0) X dX8_stepsOf_5 rfl rfl ?_
  refine g_iconst X dX8_stepsOf_6 (v := 1) (by decide) ?_
  obtain ⟨S3, eS3, h4⟩ := g_bd h2; clear h2
  refine g_pZ (ci := 8) (k := 24) X rfl il8 tyX8 tyX8_ok nmX8 (by decide) tw727 rfl (by decide) (fun _ _ _ => rfl) rfl eS3 dX8_stepsOf_7 ?_
  clear eS3
  refine g_lload_n (j := 1) X dX8_stepsOf_10 rfl rfl ?_
  refine g_lstore (i := 5) (lv' := [(5, .long v1), (0, va_rf (some a0)), (1, .long v1), (3, .long v3)]) X dX8_stepsOf_11 (by decide) rfl ?_
  refine g_lload_n (j := 3) X dX8_stepsOf_13 rfl rfl ?_
  refine g_lstore (i := 7) (lv' := [(7, .long v3), (5, .long v1), (0, va_rf (some a0)), (1, .long v1), (3, .long v3)]) X dX8_stepsOf_14 (by decide) rfl ?_
  refine g_sub [2, 1, 0] rfl ?_
  exact w_X8_stepsOf_L16 hl X hr gFuel S3 a0 v1 v3 h4
