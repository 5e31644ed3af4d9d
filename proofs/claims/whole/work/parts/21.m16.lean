def f_X8_chainOf_L11 : Nat → gS → Nat → Int64 → Int64 → Option gS
  | 0, _, _, _, _ => none
  | k + 1, S0, a0, v5, v7 =>
    if (lg_cmp v7 1) ≤ 0 then
      some S0
    else
      gBi (f_X8_front S0 v7) fun x8 S6 =>
      (fgR S6 8 22 (some a0)).bind fun x9 =>
      (fgI S6 8 23 (some a0)).bind fun x11 =>
      if 0 ≤ (lg_cmp v5 x8) then
        (faI S6 x9 x11 1).bind fun S16 =>
        if 0 ≤ (lg_cmp v5 x8) then
          gLet (v5 - x8) fun x21 =>
          if (lg_cmp x21 0) < 0 then
            gLet (v7 - x8) fun x26 =>
            (fgI S16 8 23 (some a0)).bind fun x28 =>
            (fpI S16 8 23 (some a0) (x28 + 1)).bind fun S30 =>
            f_X8_chainOf_L11 k S30 a0 x21 x26
          else
            (fgR S16 8 22 (some a0)).bind fun x32 =>
            (fgI S16 8 23 (some a0)).bind fun x34 =>
            (fI S16 10 x32 x34).bind fun x36 =>
            if x36 = 0 then
              (fgI S16 8 23 (some a0)).bind fun x47 =>
              (fpI S16 8 23 (some a0) (x47 + 1)).bind fun S49 =>
              f_X8_chainOf_L11 k S49 a0 x21 x8
            else
              gLet (v7 - x8) fun x41 =>
              (fgI S16 8 23 (some a0)).bind fun x43 =>
              (fpI S16 8 23 (some a0) (x43 + 1)).bind fun S45 =>
              f_X8_chainOf_L11 k S45 a0 x21 x41
        else
          if (lg_cmp v5 0) < 0 then
            gLet (v7 - x8) fun x54 =>
            (fgI S16 8 23 (some a0)).bind fun x56 =>
            (fpI S16 8 23 (some a0) (x56 + 1)).bind fun S58 =>
            f_X8_chainOf_L11 k S58 a0 v5 x54
          else
            (fgR S16 8 22 (some a0)).bind fun x60 =>
            (fgI S16 8 23 (some a0)).bind fun x62 =>
            (fI S16 10 x60 x62).bind fun x64 =>
            if x64 = 0 then
              (fgI S16 8 23 (some a0)).bind fun x75 =>
              (fpI S16 8 23 (some a0) (x75 + 1)).bind fun S77 =>
              f_X8_chainOf_L11 k S77 a0 v5 x8
            else
              gLet (v7 - x8) fun x69 =>
              (fgI S16 8 23 (some a0)).bind fun x71 =>
              (fpI S16 8 23 (some a0) (x71 + 1)).bind fun S73 =>
              f_X8_chainOf_L11 k S73 a0 v5 x69
      else
        (faI S6 x9 x11 0).bind fun S79 =>
        if 0 ≤ (lg_cmp v5 x8) then
          gLet (v5 - x8) fun x84 =>
          if (lg_cmp x84 0) < 0 then
            gLet (v7 - x8) fun x89 =>
            (fgI S79 8 23 (some a0)).bind fun x91 =>
            (fpI S79 8 23 (some a0) (x91 + 1)).bind fun S93 =>
            f_X8_chainOf_L11 k S93 a0 x84 x89
          else
            (fgR S79 8 22 (some a0)).bind fun x95 =>
            (fgI S79 8 23 (some a0)).bind fun x97 =>
            (fI S79 10 x95 x97).bind fun x99 =>
            if x99 = 0 then
              (fgI S79 8 23 (some a0)).bind fun x110 =>
              (fpI S79 8 23 (some a0) (x110 + 1)).bind fun S112 =>
              f_X8_chainOf_L11 k S112 a0 x84 x8
            else
              gLet (v7 - x8) fun x104 =>
              (fgI S79 8 23 (some a0)).bind fun x106 =>
              (fpI S79 8 23 (some a0) (x106 + 1)).bind fun S108 =>
              f_X8_chainOf_L11 k S108 a0 x84 x104
        else
          if (lg_cmp v5 0) < 0 then
            gLet (v7 - x8) fun x117 =>
            (fgI S79 8 23 (some a0)).bind fun x119 =>
            (fpI S79 8 23 (some a0) (x119 + 1)).bind fun S121 =>
            f_X8_chainOf_L11 k S121 a0 v5 x117
          else
            (fgR S79 8 22 (some a0)).bind fun x123 =>
            (fgI S79 8 23 (some a0)).bind fun x125 =>
            (fI S79 10 x123 x125).bind fun x127 =>
            if x127 = 0 then
              (fgI S79 8 23 (some a0)).bind fun x138 =>
              (fpI S79 8 23 (some a0) (x138 + 1)).bind fun S140 =>
              f_X8_chainOf_L11 k S140 a0 v5 x8
            else
              gLet (v7 - x8) fun x132 =>
              (fgI S79 8 23 (some a0)).bind fun x134 =>
              (fpI S79 8 23 (some a0) (x134 + 1)).bind fun S136 =>
              f_X8_chainOf_L11 k S136 a0 v5 x132
set_option maxRecDepth 100000 in
set_option maxHeartbeats 4000000 in
theorem w_X8_chainOf_L11 {p : Program} {l : Launch} {e : Env} {s : State} {m : MethodId} {args : Array Value} {below : List Frame} {meth : Method} {c : Code} {D : gD} {S9 : gS}  (hl : l.stackTraces = false) (X : gX D p l s m args meth c cX8_chainOf 11 RX8) (hr : meth.sig.returnType = none) : ∀ (k : Nat) (S0 : gS) (a0 : Nat) (v5 : Int64) (v7 : Int64), f_X8_chainOf_L11 k S0 a0 v5 v7 = some S9 → gJ D p l e { frames := 4, cells := 0, slots := 0, locals := 85 } s m args below meth c (MQ below (gQ D none S9) args s (0) (0) (gF D)) 11 (0) (0) S0 11 [(0, va_rf (some a0)), (5, .long v5), (7, .long v7)] [] := by
  intro k
  induction k with
  | zero => intro S0 a0 v5 v7 h0; cases h0
  | succ k ih =>
    intro S0 a0 v5 v7 h0
    have h0 := h0
    unfold f_X8_chainOf_L11 at h0
    refine g_lload (j := 2) X dX8_chainOf_11 rfl ?_
    refine g_lconst X dX8_chainOf_13 (v := 1) (by decide) ?_
    refine g_lcmp X dX8_chainOf_14 ?_
    refine g_if_le (tgt := 111) X dX8_chainOf_15 (by decide) (fun c3 => ?_) (fun c3 => ?_)
    · have h4 := g_ip h0 c3; clear h0
      cases h4
      exact g_vret X hr (by decide) (by decide) dX8_chainOf_111
    · have h5 := g_in h0 c3; clear h0
      refine g_lload (j := 2) X dX8_chainOf_18 rfl ?_
      obtain ⟨x8, S6, eS6, h7⟩ := g_bi h5; clear h5
      refine g_cS (n := 1) (As := [.long v7]) X (c_X8_front hl D eS6) tw896 tw897 tw51 tw898 (by decide +kernel) rfl rfl ⟨Nat.le_of_ble_eq_true rfl, Nat.le_of_ble_eq_true rfl⟩ rfl rfl (Nat.le_of_ble_eq_true rfl) dX8_chainOf_20 ⟨(by decide), (by decide)⟩ ?_
      clear eS6
      refine g_lstore (i := 9) (lv' := [(9, .long x8), (0, va_rf (some a0)), (5, .long v5), (7, .long v7)]) X dX8_chainOf_23 (by decide) rfl ?_
      refine g_aload_n (j := 1) X dX8_chainOf_25 rfl rfl ?_
      obtain ⟨x9, ex9, h10⟩ := g_bd h7; clear h7
      refine g_fR (ci := 8) (k := 22) X rfl il8 (by decide) tw725 (by decide) (fun _ _ _ => rfl) ex9 dX8_chainOf_26 ?_
      clear ex9
      refine g_aload_n (j := 1) X dX8_chainOf_29 rfl rfl ?_
      obtain ⟨x11, ex11, h12⟩ := g_bd h10; clear h10
      refine g_fI (ci := 8) (k := 23) X rfl il8 (by decide) tw726 (by decide) (fun _ _ _ => rfl) ex11 dX8_chainOf_30 ?_
      clear ex11
      refine g_lload (j := 2) X dX8_chainOf_33 rfl ?_
      refine g_lload (j := 0) X dX8_chainOf_35 rfl ?_
      refine g_lcmp X dX8_chainOf_37 ?_
      refine g_if_ge (tgt := 45) X dX8_chainOf_38 (by decide) (fun c13 => ?_) (fun c13 => ?_)
      · have h14 := g_ip h12 c13; clear h12
        refine g_iconst X dX8_chainOf_45 (v := 1) (by decide) ?_
        obtain ⟨S16, eS16, h17⟩ := g_bd h14; clear h14
        refine g_iast X eS16 dX8_chainOf_46 ?_
        clear eS16
        refine g_lload (j := 2) X dX8_chainOf_47 rfl ?_
        refine g_lload (j := 0) X dX8_chainOf_49 rfl ?_
        refine g_lcmp X dX8_chainOf_51 ?_
        refine g_if_ge (tgt := 60) X dX8_chainOf_52 (by decide) (fun c18 => ?_) (fun c18 => ?_)
        · have h19 := g_ip h17 c18; clear h17
          refine g_lload (j := 2) X dX8_chainOf_60 rfl ?_
          refine g_lload (j := 0) X dX8_chainOf_62 rfl ?_
          refine g_lsub X dX8_chainOf_64 ?_
          obtain ⟨x21, ex21, h22⟩ := g_let h19; clear h19; rw [← ex21]; clear ex21
          refine g_lstore (i := 5) (lv' := [(5, .long x21), (9, .long x8), (0, va_rf (some a0)), (7, .long v7)]) X dX8_chainOf_65 (by decide) rfl ?_
          refine g_lload (j := 0) X dX8_chainOf_67 rfl ?_
          refine g_lconst X dX8_chainOf_69 (v := 0) (by decide) ?_
          refine g_lcmp X dX8_chainOf_70 ?_
          refine g_if_lt (tgt := 91) X dX8_chainOf_71 (by decide) (fun c23 => ?_) (fun c23 => ?_)
          · have h24 := g_ip h22 c23; clear h22
            refine g_lload (j := 3) X dX8_chainOf_91 rfl ?_
            refine g_lload (j := 1) X dX8_chainOf_93 rfl ?_
            refine g_lsub X dX8_chainOf_95 ?_
            obtain ⟨x26, ex26, h27⟩ := g_let h24; clear h24; rw [← ex26]; clear ex26
            refine g_lstore (i := 7) (lv' := [(7, .long x26), (5, .long x21), (9, .long x8), (0, va_rf (some a0))]) X dX8_chainOf_96 (by decide) rfl ?_
            refine g_aload_n (j := 3) X dX8_chainOf_98 rfl rfl ?_
            refine g_dup X dX8_chainOf_99 (g_rfc _) ?_
            obtain ⟨x28, ex28, h29⟩ := g_bd h27; clear h27
            refine g_fI (ci := 8) (k := 23) X rfl il8 (by decide) tw726 (by decide) (fun _ _ _ => rfl) ex28 dX8_chainOf_100 ?_
            clear ex28
            refine g_iconst X dX8_chainOf_103 (v := 1) (by decide) ?_
            refine g_iadd X dX8_chainOf_104 ?_
            obtain ⟨S30, eS30, h31⟩ := g_bd h29; clear h29
            refine g_pI (ci := 8) (k := 23) X rfl il8 tyX8 tyX8_ok nmX8 (by decide) tw726 rfl (by decide) (fun _ _ _ => rfl) rfl eS30 dX8_chainOf_105 ?_
            clear eS30
            refine g_goto (tgt := 11) X dX8_chainOf_108 (by decide) ?_
            refine g_sub [3, 1, 0] rfl ?_
            exact ih S30 a0 x21 x26 h31
          · have h25 := g_in h22 c23; clear h22
            refine g_aload_n (j := 2) X dX8_chainOf_74 rfl rfl ?_
            obtain ⟨x32, ex32, h33⟩ := g_bd h25; clear h25
            refine g_fR (ci := 8) (k := 22) X rfl il8 (by decide) tw725 (by decide) (fun _ _ _ => rfl) ex32 dX8_chainOf_75 ?_
            clear ex32
            refine g_aload_n (j := 2) X dX8_chainOf_78 rfl rfl ?_
            obtain ⟨x34, ex34, h35⟩ := g_bd h33; clear h33
            refine g_fI (ci := 8) (k := 23) X rfl il8 (by decide) tw726 (by decide) (fun _ _ _ => rfl) ex34 dX8_chainOf_79 ?_
            clear ex34
            obtain ⟨x36, ex36, h37⟩ := g_bd h35; clear h35
            refine g_iald X ex36 dX8_chainOf_82 ?_
            clear ex36
            refine g_if_ne (tgt := 91) X dX8_chainOf_83 (by decide) (fun c38 => ?_) (fun c38 => ?_)
            · have h39 := g_in h37 c38; clear h37
              refine g_lload (j := 3) X dX8_chainOf_91 rfl ?_
              refine g_lload (j := 1) X dX8_chainOf_93 rfl ?_
              refine g_lsub X dX8_chainOf_95 ?_
              obtain ⟨x41, ex41, h42⟩ := g_let h39; clear h39; rw [← ex41]; clear ex41
              refine g_lstore (i := 7) (lv' := [(7, .long x41), (5, .long x21), (9, .long x8), (0, va_rf (some a0))]) X dX8_chainOf_96 (by decide) rfl ?_
              refine g_aload_n (j := 3) X dX8_chainOf_98 rfl rfl ?_
              refine g_dup X dX8_chainOf_99 (g_rfc _) ?_
              obtain ⟨x43, ex43, h44⟩ := g_bd h42; clear h42
              refine g_fI (ci := 8) (k := 23) X rfl il8 (by decide) tw726 (by decide) (fun _ _ _ => rfl) ex43 dX8_chainOf_100 ?_
              clear ex43
              refine g_iconst X dX8_chainOf_103 (v := 1) (by decide) ?_
              refine g_iadd X dX8_chainOf_104 ?_
              obtain ⟨S45, eS45, h46⟩ := g_bd h44; clear h44
              refine g_pI (ci := 8) (k := 23) X rfl il8 tyX8 tyX8_ok nmX8 (by decide) tw726 rfl (by decide) (fun _ _ _ => rfl) rfl eS45 dX8_chainOf_105 ?_
              clear eS45
              refine g_goto (tgt := 11) X dX8_chainOf_108 (by decide) ?_
              refine g_sub [3, 1, 0] rfl ?_
              exact ih S45 a0 x21 x41 h46
            · have h40 := g_ip h37 c38; clear h37
              refine g_lload (j := 1) X dX8_chainOf_86 rfl ?_
              refine g_goto (tgt := 96) X dX8_chainOf_88 (by decide) ?_
              refine g_lstore (i := 7) (lv' := [(7, .long x8), (5, .long x21), (9, .long x8), (0, va_rf (some a0))]) X dX8_chainOf_96 (by decide) rfl ?_
              refine g_aload_n (j := 3) X dX8_chainOf_98 rfl rfl ?_
              refine g_dup X dX8_chainOf_99 (g_rfc _) ?_
              obtain ⟨x47, ex47, h48⟩ := g_bd h40; clear h40
              refine g_fI (ci := 8) (k := 23) X rfl il8 (by decide) tw726 (by decide) (fun _ _ _ => rfl) ex47 dX8_chainOf_100 ?_
              clear ex47
              refine g_iconst X dX8_chainOf_103 (v := 1) (by decide) ?_
              refine g_iadd X dX8_chainOf_104 ?_
              obtain ⟨S49, eS49, h50⟩ := g_bd h48; clear h48
              refine g_pI (ci := 8) (k := 23) X rfl il8 tyX8 tyX8_ok nmX8 (by decide) tw726 rfl (by decide) (fun _ _ _ => rfl) rfl eS49 dX8_chainOf_105 ?_
              clear eS49
              refine g_goto (tgt := 11) X dX8_chainOf_108 (by decide) ?_
              refine g_sub [3, 1, 0] rfl ?_
              exact ih S49 a0 x21 x8 h50
        · have h20 := g_in h17 c18; clear h17
          refine g_lload (j := 2) X dX8_chainOf_55 rfl ?_
          refine g_goto (tgt := 65) X dX8_chainOf_57 (by decide) ?_
          refine g_lstore (i := 5) (lv' := [(5, .long v5), (9, .long x8), (0, va_rf (some a0)), (7, .long v7)]) X dX8_chainOf_65 (by decide) rfl ?_
          refine g_lload (j := 0) X dX8_chainOf_67 rfl ?_
          refine g_lconst X dX8_chainOf_69 (v := 0) (by decide) ?_
          refine g_lcmp X dX8_chainOf_70 ?_
          refine g_if_lt (tgt := 91) X dX8_chainOf_71 (by decide) (fun c51 => ?_) (fun c51 => ?_)
          · have h52 := g_ip h20 c51; clear h20
            refine g_lload (j := 3) X dX8_chainOf_91 rfl ?_
            refine g_lload (j := 1) X dX8_chainOf_93 rfl ?_
            refine g_lsub X dX8_chainOf_95 ?_
            obtain ⟨x54, ex54, h55⟩ := g_let h52; clear h52; rw [← ex54]; clear ex54
            refine g_lstore (i := 7) (lv' := [(7, .long x54), (5, .long v5), (9, .long x8), (0, va_rf (some a0))]) X dX8_chainOf_96 (by decide) rfl ?_
            refine g_aload_n (j := 3) X dX8_chainOf_98 rfl rfl ?_
            refine g_dup X dX8_chainOf_99 (g_rfc _) ?_
            obtain ⟨x56, ex56, h57⟩ := g_bd h55; clear h55
            refine g_fI (ci := 8) (k := 23) X rfl il8 (by decide) tw726 (by decide) (fun _ _ _ => rfl) ex56 dX8_chainOf_100 ?_
            clear ex56
            refine g_iconst X dX8_chainOf_103 (v := 1) (by decide) ?_
            refine g_iadd X dX8_chainOf_104 ?_
            obtain ⟨S58, eS58, h59⟩ := g_bd h57; clear h57
            refine g_pI (ci := 8) (k := 23) X rfl il8 tyX8 tyX8_ok nmX8 (by decide) tw726 rfl (by decide) (fun _ _ _ => rfl) rfl eS58 dX8_chainOf_105 ?_
            clear eS58
            refine g_goto (tgt := 11) X dX8_chainOf_108 (by decide) ?_
            refine g_sub [3, 1, 0] rfl ?_
            exact ih S58 a0 v5 x54 h59
          · have h53 := g_in h20 c51; clear h20
            refine g_aload_n (j := 2) X dX8_chainOf_74 rfl rfl ?_
            obtain ⟨x60, ex60, h61⟩ := g_bd h53; clear h53
            refine g_fR (ci := 8) (k := 22) X rfl il8 (by decide) tw725 (by decide) (fun _ _ _ => rfl) ex60 dX8_chainOf_75 ?_
            clear ex60
            refine g_aload_n (j := 2) X dX8_chainOf_78 rfl rfl ?_
            obtain ⟨x62, ex62, h63⟩ := g_bd h61; clear h61
            refine g_fI (ci := 8) (k := 23) X rfl il8 (by decide) tw726 (by decide) (fun _ _ _ => rfl) ex62 dX8_chainOf_79 ?_
            clear ex62
            obtain ⟨x64, ex64, h65⟩ := g_bd h63; clear h63
            refine g_iald X ex64 dX8_chainOf_82 ?_
            clear ex64
            refine g_if_ne (tgt := 91) X dX8_chainOf_83 (by decide) (fun c66 => ?_) (fun c66 => ?_)
            · have h67 := g_in h65 c66; clear h65
              refine g_lload (j := 3) X dX8_chainOf_91 rfl ?_
              refine g_lload (j := 1) X dX8_chainOf_93 rfl ?_
              refine g_lsub X dX8_chainOf_95 ?_
              obtain ⟨x69, ex69, h70⟩ := g_let h67; clear h67; rw [← ex69]; clear ex69
              refine g_lstore (i := 7) (lv' := [(7, .long x69), (5, .long v5), (9, .long x8), (0, va_rf (some a0))]) X dX8_chainOf_96 (by decide) rfl ?_
              refine g_aload_n (j := 3) X dX8_chainOf_98 rfl rfl ?_
              refine g_dup X dX8_chainOf_99 (g_rfc _) ?_
              obtain ⟨x71, ex71, h72⟩ := g_bd h70; clear h70
              refine g_fI (ci := 8) (k := 23) X rfl il8 (by decide) tw726 (by decide) (fun _ _ _ => rfl) ex71 dX8_chainOf_100 ?_
              clear ex71
              refine g_iconst X dX8_chainOf_103 (v := 1) (by decide) ?_
              refine g_iadd X dX8_chainOf_104 ?_
              obtain ⟨S73, eS73, h74⟩ := g_bd h72; clear h72
              refine g_pI (ci := 8) (k := 23) X rfl il8 tyX8 tyX8_ok nmX8 (by decide) tw726 rfl (by decide) (fun _ _ _ => rfl) rfl eS73 dX8_chainOf_105 ?_
              clear eS73
              refine g_goto (tgt := 11) X dX8_chainOf_108 (by decide) ?_
              refine g_sub [3, 1, 0] rfl ?_
              exact ih S73 a0 v5 x69 h74
            · have h68 := g_ip h65 c66; clear h65
              refine g_lload (j := 1) X dX8_chainOf_86 rfl ?_
              refine g_goto (tgt := 96) X dX8_chainOf_88 (by decide) ?_
              refine g_lstore (i := 7) (lv' := [(7, .long x8), (5, .long v5), (9, .long x8), (0, va_rf (some a0))]) X dX8_chainOf_96 (by decide) rfl ?_
              refine g_aload_n (j := 3) X dX8_chainOf_98 rfl rfl ?_
              refine g_dup X dX8_chainOf_99 (g_rfc _) ?_
              obtain ⟨x75, ex75, h76⟩ := g_bd h68; clear h68
              refine g_fI (ci := 8) (k := 23) X rfl il8 (by decide) tw726 (by decide) (fun _ _ _ => rfl) ex75 dX8_chainOf_100 ?_
              clear ex75
              refine g_iconst X dX8_chainOf_103 (v := 1) (by decide) ?_
              refine g_iadd X dX8_chainOf_104 ?_
              obtain ⟨S77, eS77, h78⟩ := g_bd h76; clear h76
              refine g_pI (ci := 8) (k := 23) X rfl il8 tyX8 tyX8_ok nmX8 (by decide) tw726 rfl (by decide) (fun _ _ _ => rfl) rfl eS77 dX8_chainOf_105 ?_
              clear eS77
              refine g_goto (tgt := 11) X dX8_chainOf_108 (by decide) ?_
              refine g_sub [3, 1, 0] rfl ?_
              exact ih S77 a0 v5 x8 h78
      · have h15 := g_in h12 c13; clear h12
        refine g_iconst X dX8_chainOf_41 (v := 0) (by decide) ?_
        refine g_goto (tgt := 46) X dX8_chainOf_42 (by decide) ?_
        obtain ⟨S79, eS79, h80⟩ := g_bd h15; clear h15
        refine g_iast X eS79 dX8_chainOf_46 ?_
        clear eS79
        refine g_lload (j := 2) X dX8_chainOf_47 rfl ?_
        refine g_lload (j := 0) X dX8_chainOf_49 rfl ?_
        refine g_lcmp X dX8_chainOf_51 ?_
        refine g_if_ge (tgt := 60) X dX8_chainOf_52 (by decide) (fun c81 => ?_) (fun c81 => ?_)
        · have h82 := g_ip h80 c81; clear h80
          refine g_lload (j := 2) X dX8_chainOf_60 rfl ?_
          refine g_lload (j := 0) X dX8_chainOf_62 rfl ?_
          refine g_lsub X dX8_chainOf_64 ?_
          obtain ⟨x84, ex84, h85⟩ := g_let h82; clear h82; rw [← ex84]; clear ex84
          refine g_lstore (i := 5) (lv' := [(5, .long x84), (9, .long x8), (0, va_rf (some a0)), (7, .long v7)]) X dX8_chainOf_65 (by decide) rfl ?_
          refine g_lload (j := 0) X dX8_chainOf_67 rfl ?_
          refine g_lconst X dX8_chainOf_69 (v := 0) (by decide) ?_
          refine g_lcmp X dX8_chainOf_70 ?_
          refine g_if_lt (tgt := 91) X dX8_chainOf_71 (by decide) (fun c86 => ?_) (fun c86 => ?_)
          · have h87 := g_ip h85 c86; clear h85
            refine g_lload (j := 3) X dX8_chainOf_91 rfl ?_
            refine g_lload (j := 1) X dX8_chainOf_93 rfl ?_
            refine g_lsub X dX8_chainOf_95 ?_
            obtain ⟨x89, ex89, h90⟩ := g_let h87; clear h87; rw [← ex89]; clear ex89
            refine g_lstore (i := 7) (lv' := [(7, .long x89), (5, .long x84), (9, .long x8), (0, va_rf (some a0))]) X dX8_chainOf_96 (by decide) rfl ?_
            refine g_aload_n (j := 3) X dX8_chainOf_98 rfl rfl ?_
            refine g_dup X dX8_chainOf_99 (g_rfc _) ?_
            obtain ⟨x91, ex91, h92⟩ := g_bd h90; clear h90
            refine g_fI (ci := 8) (k := 23) X rfl il8 (by decide) tw726 (by decide) (fun _ _ _ => rfl) ex91 dX8_chainOf_100 ?_
            clear ex91
            refine g_iconst X dX8_chainOf_103 (v := 1) (by decide) ?_
            refine g_iadd X dX8_chainOf_104 ?_
            obtain ⟨S93, eS93, h94⟩ := g_bd h92; clear h92
            refine g_pI (ci := 8) (k := 23) X rfl il8 tyX8 tyX8_ok nmX8 (by decide) tw726 rfl (by decide) (fun _ _ _ => rfl) rfl eS93 dX8_chainOf_105 ?_
            clear eS93
            refine g_goto (tgt := 11) X dX8_chainOf_108 (by decide) ?_
            refine g_sub [3, 1, 0] rfl ?_
            exact ih S93 a0 x84 x89 h94
          · have h88 := g_in h85 c86; clear h85
            refine g_aload_n (j := 2) X dX8_chainOf_74 rfl rfl ?_
            obtain ⟨x95, ex95, h96⟩ := g_bd h88; clear h88
            refine g_fR (ci := 8) (k := 22) X rfl il8 (by decide) tw725 (by decide) (fun _ _ _ => rfl) ex95 dX8_chainOf_75 ?_
            clear ex95
            refine g_aload_n (j := 2) X dX8_chainOf_78 rfl rfl ?_
            obtain ⟨x97, ex97, h98⟩ := g_bd h96; clear h96
            refine g_fI (ci := 8) (k := 23) X rfl il8 (by decide) tw726 (by decide) (fun _ _ _ => rfl) ex97 dX8_chainOf_79 ?_
            clear ex97
            obtain ⟨x99, ex99, h100⟩ := g_bd h98; clear h98
            refine g_iald X ex99 dX8_chainOf_82 ?_
            clear ex99
            refine g_if_ne (tgt := 91) X dX8_chainOf_83 (by decide) (fun c101 => ?_) (fun c101 => ?_)
            · have h102 := g_in h100 c101; clear h100
              refine g_lload (j := 3) X dX8_chainOf_91 rfl ?_
              refine g_lload (j := 1) X dX8_chainOf_93 rfl ?_
              refine g_lsub X dX8_chainOf_95 ?_
              obtain ⟨x104, ex104, h105⟩ := g_let h102; clear h102; rw [← ex104]; clear ex104
              refine g_lstore (i := 7) (lv' := [(7, .long x104), (5, .long x84), (9, .long x8), (0, va_rf (some a0))]) X dX8_chainOf_96 (by decide) rfl ?_
              refine g_aload_n (j := 3) X dX8_chainOf_98 rfl rfl ?_
              refine g_dup X dX8_chainOf_99 (g_rfc _) ?_
              obtain ⟨x106, ex106, h107⟩ := g_bd h105; clear h105
              refine g_fI (ci := 8) (k := 23) X rfl il8 (by decide) tw726 (by decide) (fun _ _ _ => rfl) ex106 dX8_chainOf_100 ?_
              clear ex106
              refine g_iconst X dX8_chainOf_103 (v := 1) (by decide) ?_
              refine g_iadd X dX8_chainOf_104 ?_
              obtain ⟨S108, eS108, h109⟩ := g_bd h107; clear h107
              refine g_pI (ci := 8) (k := 23) X rfl il8 tyX8 tyX8_ok nmX8 (by decide) tw726 rfl (by decide) (fun _ _ _ => rfl) rfl eS108 dX8_chainOf_105 ?_
              clear eS108
              refine g_goto (tgt := 11) X dX8_chainOf_108 (by decide) ?_
              refine g_sub [3, 1, 0] rfl ?_
              exact ih S108 a0 x84 x104 h109
            · have h103 := g_ip h100 c101; clear h100
              refine g_lload (j := 1) X dX8_chainOf_86 rfl ?_
              refine g_goto (tgt := 96) X dX8_chainOf_88 (by decide) ?_
              refine g_lstore (i := 7) (lv' := [(7, .long x8), (5, .long x84), (9, .long x8), (0, va_rf (some a0))]) X dX8_chainOf_96 (by decide) rfl ?_
              refine g_aload_n (j := 3) X dX8_chainOf_98 rfl rfl ?_
              refine g_dup X dX8_chainOf_99 (g_rfc _) ?_
              obtain ⟨x110, ex110, h111⟩ := g_bd h103; clear h103
              refine g_fI (ci := 8) (k := 23) X rfl il8 (by decide) tw726 (by decide) (fun _ _ _ => rfl) ex110 dX8_chainOf_100 ?_
              clear ex110
              refine g_iconst X dX8_chainOf_103 (v := 1) (by decide) ?_
              refine g_iadd X dX8_chainOf_104 ?_
              obtain ⟨S112, eS112, h113⟩ := g_bd h111; clear h111
              refine g_pI (ci := 8) (k := 23) X rfl il8 tyX8 tyX8_ok nmX8 (by decide) tw726 rfl (by decide) (fun _ _ _ => rfl) rfl eS112 dX8_chainOf_105 ?_
              clear eS112
              refine g_goto (tgt := 11) X dX8_chainOf_108 (by decide) ?_
              refine g_sub [3, 1, 0] rfl ?_
              exact ih S112 a0 x84 x8 h113
        · have h83 := g_in h80 c81; clear h80
          refine g_lload (j := 2) X dX8_chainOf_55 rfl ?_
          refine g_goto (tgt := 65) X dX8_chainOf_57 (by decide) ?_
          refine g_lstore (i := 5) (lv' := [(5, .long v5), (9, .long x8), (0, va_rf (some a0)), (7, .long v7)]) X dX8_chainOf_65 (by decide) rfl ?_
          refine g_lload (j := 0) X dX8_chainOf_67 rfl ?_
          refine g_lconst X dX8_chainOf_69 (v := 0) (by decide) ?_
          refine g_lcmp X dX8_chainOf_70 ?_
          refine g_if_lt (tgt := 91) X dX8_chainOf_71 (by decide) (fun c114 => ?_) (fun c114 => ?_)
          · have h115 := g_ip h83 c114; clear h83
            refine g_lload (j := 3) X dX8_chainOf_91 rfl ?_
            refine g_lload (j := 1) X dX8_chainOf_93 rfl ?_
            refine g_lsub X dX8_chainOf_95 ?_
            obtain ⟨x117, ex117, h118⟩ := g_let h115; clear h115; rw [← ex117]; clear ex117
            refine g_lstore (i := 7) (lv' := [(7, .long x117), (5, .long v5), (9, .long x8), (0, va_rf (some a0))]) X dX8_chainOf_96 (by decide) rfl ?_
            refine g_aload_n (j := 3) X dX8_chainOf_98 rfl rfl ?_
            refine g_dup X dX8_chainOf_99 (g_rfc _) ?_
            obtain ⟨x119, ex119, h120⟩ := g_bd h118; clear h118
            refine g_fI (ci := 8) (k := 23) X rfl il8 (by decide) tw726 (by decide) (fun _ _ _ => rfl) ex119 dX8_chainOf_100 ?_
            clear ex119
            refine g_iconst X dX8_chainOf_103 (v := 1) (by decide) ?_
            refine g_iadd X dX8_chainOf_104 ?_
            obtain ⟨S121, eS121, h122⟩ := g_bd h120; clear h120
            refine g_pI (ci := 8) (k := 23) X rfl il8 tyX8 tyX8_ok nmX8 (by decide) tw726 rfl (by decide) (fun _ _ _ => rfl) rfl eS121 dX8_chainOf_105 ?_
            clear eS121
            refine g_goto (tgt := 11) X dX8_chainOf_108 (by decide) ?_
            refine g_sub [3, 1, 0] rfl ?_
            exact ih S121 a0 v5 x117 h122
          · have h116 := g_in h83 c114; clear h83
            refine g_aload_n (j := 2) X dX8_chainOf_74 rfl rfl ?_
            obtain ⟨x123, ex123, h124⟩ := g_bd h116; clear h116
            refine g_fR (ci := 8) (k := 22) X rfl il8 (by decide) tw725 (by decide) (fun _ _ _ => rfl) ex123 dX8_chainOf_75 ?_
            clear ex123
            refine g_aload_n (j := 2) X dX8_chainOf_78 rfl rfl ?_
            obtain ⟨x125, ex125, h126⟩ := g_bd h124; clear h124
            refine g_fI (ci := 8) (k := 23) X rfl il8 (by decide) tw726 (by decide) (fun _ _ _ => rfl) ex125 dX8_chainOf_79 ?_
            clear ex125
            obtain ⟨x127, ex127, h128⟩ := g_bd h126; clear h126
            refine g_iald X ex127 dX8_chainOf_82 ?_
            clear ex127
            refine g_if_ne (tgt := 91) X dX8_chainOf_83 (by decide) (fun c129 => ?_) (fun c129 => ?_)
            · have h130 := g_in h128 c129; clear h128
              refine g_lload (j := 3) X dX8_chainOf_91 rfl ?_
              refine g_lload (j := 1) X dX8_chainOf_93 rfl ?_
              refine g_lsub X dX8_chainOf_95 ?_
              obtain ⟨x132, ex132, h133⟩ := g_let h130; clear h130; rw [← ex132]; clear ex132
              refine g_lstore (i := 7) (lv' := [(7, .long x132), (5, .long v5), (9, .long x8), (0, va_rf (some a0))]) X dX8_chainOf_96 (by decide) rfl ?_
              refine g_aload_n (j := 3) X dX8_chainOf_98 rfl rfl ?_
              refine g_dup X dX8_chainOf_99 (g_rfc _) ?_
              obtain ⟨x134, ex134, h135⟩ := g_bd h133; clear h133
              refine g_fI (ci := 8) (k := 23) X rfl il8 (by decide) tw726 (by decide) (fun _ _ _ => rfl) ex134 dX8_chainOf_100 ?_
              clear ex134
              refine g_iconst X dX8_chainOf_103 (v := 1) (by decide) ?_
              refine g_iadd X dX8_chainOf_104 ?_
              obtain ⟨S136, eS136, h137⟩ := g_bd h135; clear h135
              refine g_pI (ci := 8) (k := 23) X rfl il8 tyX8 tyX8_ok nmX8 (by decide) tw726 rfl (by decide) (fun _ _ _ => rfl) rfl eS136 dX8_chainOf_105 ?_
              clear eS136
              refine g_goto (tgt := 11) X dX8_chainOf_108 (by decide) ?_
              refine g_sub [3, 1, 0] rfl ?_
              exact ih S136 a0 v5 x132 h137
            · have h131 := g_ip h128 c129; clear h128
              refine g_lload (j := 1) X dX8_chainOf_86 rfl ?_
              refine g_goto (tgt := 96) X dX8_chainOf_88 (by decide) ?_
              refine g_lstore (i := 7) (lv' := [(7, .long x8), (5, .long v5), (9, .long x8), (0, va_rf (some a0))]) X dX8_chainOf_96 (by decide) rfl ?_
              refine g_aload_n (j := 3) X dX8_chainOf_98 rfl rfl ?_
              refine g_dup X dX8_chainOf_99 (g_rfc _) ?_
              obtain ⟨x138, ex138, h139⟩ := g_bd h131; clear h131
              refine g_fI (ci := 8) (k := 23) X rfl il8 (by decide) tw726 (by decide) (fun _ _ _ => rfl) ex138 dX8_chainOf_100 ?_
              clear ex138
              refine g_iconst X dX8_chainOf_103 (v := 1) (by decide) ?_
              refine g_iadd X dX8_chainOf_104 ?_
              obtain ⟨S140, eS140, h141⟩ := g_bd h139; clear h139
              refine g_pI (ci := 8) (k := 23) X rfl il8 tyX8 tyX8_ok nmX8 (by decide) tw726 rfl (by decide) (fun _ _ _ => rfl) rfl eS140 dX8_chainOf_105 ?_
              clear eS140
              refine g_goto (tgt := 11) X dX8_chainOf_108 (by decide) ?_
              refine g_sub [3, 1, 0] rfl ?_
              exact ih S140 a0 v5 x8 h141
def f_X8_chainOf (S0 : gS) (a0 : Nat) (v1 : Int64) (v3 : Int64) : Option gS :=
  (fpI S0 8 23 (some a0) 0).bind fun S1 =>
  f_X8_chainOf_L11 gFuel S1 a0 v1 v3
set_option maxRecDepth 100000 in
set_option maxHeartbeats 4000000 in
theorem c_X8_chainOf {l : Launch} (hl : l.stackTraces = false) (D : gD)  {S0 S9 : gS} {a0 : Nat} {v1 : Int64} {v3 : Int64} (h0 : f_X8_chainOf S0 a0 v1 v3 = some S9) : Met l yX8_chainOf (gws yX8_chainOf cX8_chainOf 11 none) { frames := 4, cells := 0, slots := 0, locals := 85 } (gPc D S0 [.ref a0, .long v1, .long v3]) (gQ D none S9) (0) (0) (gF D) := by
  refine g_met (lv := [(0, va_rf (some a0)), (1, .long v1), (3, .long v3)]) hl (by decide) (Nat.le_of_ble_eq_true rfl) rfl (fun p e s m args below meth c X hr hn => ?_)
  have X : gX D p l s m args meth c cX8_chainOf 11 RX8 := X
  unfold f_X8_chainOf at h0
  refine g_aload_n (j := 0) X dX8_chainOf_0 rfl rfl ?_
  refine g_iconst X dX8_chainOf_1 (v := 0) (by decide) ?_
  obtain ⟨S1, eS1, h2⟩ := g_bd h0; clear h0
  refine g_pI (ci := 8) (k := 23) X rfl il8 tyX8 tyX8_ok nmX8 (by decide) tw726 rfl (by decide) (fun _ _ _ => rfl) rfl eS1 dX8_chainOf_2 ?_
  clear eS1
  refine g_lload_n (j := 1) X dX8_chainOf_5 rfl rfl ?_
  refine g_lstore (i := 5) (lv' := [(5, .long v1), (0, va_rf (some a0)), (1, .long v1), (3, .long v3)]) X dX8_chainOf_6 (by decide) rfl ?_
  refine g_lload_n (j := 3) X dX8_chainOf_8 rfl rfl ?_
  refine g_lstore (i := 7) (lv' := [(7, .long v3), (5, .long v1), (0, va_rf (some a0)), (1, .long v1), (3, .long v3)]) X dX8_chainOf_9 (by decide) rfl ?_
  refine g_sub [2, 1, 0] rfl ?_
  exact w_X8_chainOf_L11 hl X hr gFuel S1 a0 v1 v3 h2
def f_X8_other_L9 (bo : Nat) : Nat → gS → Nat → Nat → Nat → Int32 → Int32 → Int32 → Int32 → Int32 → Option gS
  | 0, _, _, _, _, _, _, _, _, _ => none
  | k + 1, S0, cu, su, a0, v1, v3, v4, v5, v6 =>
    gGd (cu ≤ bo ∧ su ≤ 8 * bo) <|
    if v3 ≤ v6 then
      gBi (f_X8_front S0 v5.toInt64) fun x6 S4 =>
      gLet x6.toInt32 fun x7 =>
      (fgR S4 8 22 (some a0)).bind fun x9 =>
      (fI S4 10 x9 v3).bind fun x11 =>
      if x11 = 0 then
        gGd (cu + (gRb (v5 - x7)) ≤ bo ∧ su + (8 * gRb (v5 - x7)) ≤ 8 * bo) <|
        (f_X8_root 10 S4 (some a0) v1 (v4 + x7) (v5 - x7) 0).bind fun S22 =>
        some S22
      else
        gGd (cu + (gRb x7) ≤ bo ∧ su + (8 * gRb x7) ≤ 8 * bo) <|
        (f_X8_root 10 S4 (some a0) v1 v4 x7 0).bind fun S18 =>
        some S18
    else
      gBi (f_X8_front S0 v5.toInt64) fun x26 S24 =>
      gLet x26.toInt32 fun x27 =>
      (fgR S24 8 22 (some a0)).bind fun x29 =>
      (fI S24 10 x29 v6).bind fun x31 =>
      if x31 = 0 then
        gLet (v4 + 0) fun x51 =>
        (fgR S24 8 22 (some a0)).bind fun x53 =>
        (fI S24 10 x53 v6).bind fun x55 =>
        if x55 = 0 then
          gLet (v6 + 1) fun x64 =>
          f_X8_other_L9 bo k S24 cu su a0 v1 v3 x51 x27 x64
        else
          gLet (v5 - x27) fun x60 =>
          gLet (v6 + 1) fun x62 =>
          f_X8_other_L9 bo k S24 cu su a0 v1 v3 x51 x60 x62
      else
        gLet (v4 + x27) fun x36 =>
        (fgR S24 8 22 (some a0)).bind fun x38 =>
        (fI S24 10 x38 v6).bind fun x40 =>
        if x40 = 0 then
          gLet (v6 + 1) fun x49 =>
          f_X8_other_L9 bo k S24 cu su a0 v1 v3 x36 x27 x49
        else
          gLet (v5 - x27) fun x45 =>
          gLet (v6 + 1) fun x47 =>
          f_X8_other_L9 bo k S24 cu su a0 v1 v3 x36 x45 x47
set_option maxRecDepth 100000 in
set_option maxHeartbeats 4000000 in
theorem w_X8_other_L9 {p : Program} {l : Launch} {e : Env} {s : State} {m : MethodId} {args : Array Value} {below : List Frame} {meth : Method} {c : Code} {D : gD} {S9 : gS} {bo : Nat} (hl : l.stackTraces = false) (X : gX D p l s m args meth c cX8_other 8 RX8) (hr : meth.sig.returnType = none) : ∀ (k : Nat) (S0 : gS) (cu su : Nat) (a0 : Nat) (v1 : Int32) (v3 : Int32) (v4 : Int32) (v5 : Int32) (v6 : Int32), f_X8_other_L9 bo k S0 cu su a0 v1 v3 v4 v5 v6 = some S9 → gJ D p l e { frames := 19, cells := bo, slots := 8 * bo, locals := 475 } s m args below meth c (MQ below (gQ D none S9) args s (bo) (8 * bo) (gF D)) 8 (cu) (su) S0 9 [(0, va_rf (some a0)), (1, .int v1), (3, .int v3), (4, .int v4), (5, .int v5), (6, .int v6)] [] := by
  intro k
  induction k with
  | zero => intro S0 cu su a0 v1 v3 v4 v5 v6 h0; cases h0
  | succ k ih =>
    intro S0 cu su a0 v1 v3 v4 v5 v6 h0
    have h0 := h0
    unfold f_X8_other_L9 at h0
    obtain ⟨gu, hu⟩ := g_gd h0; clear h0
    refine g_iload (j := 5) X dX8_other_9 rfl ?_
    refine g_iload_n (j := 2) X dX8_other_11 rfl rfl ?_
    refine g_icmp_ge (tgt := 73) X dX8_other_12 (by decide) (fun c1 => ?_) (fun c1 => ?_)
    · have h2 := g_ip hu c1; clear hu
      refine g_iload (j := 4) X dX8_other_73 rfl ?_
      refine g_i2l X dX8_other_75 ?_
      obtain ⟨x6, S4, eS4, h5⟩ := g_bi h2; clear h2
      refine g_cS (n := 1) (As := [.long v5.toInt64]) X (c_X8_front hl D eS4) tw896 tw897 tw51 tw898 (by decide +kernel) rfl rfl ⟨Nat.le_of_ble_eq_true rfl, Nat.le_of_ble_eq_true rfl⟩ rfl rfl (Nat.le_of_ble_eq_true rfl) dX8_other_76 ⟨gu.1, gu.2⟩ ?_
      clear eS4
      refine g_l2i X dX8_other_79 ?_
      obtain ⟨x7, ex7, h8⟩ := g_let h5; clear h5; rw [← ex7]; clear ex7
      refine g_istore (i := 6) (lv' := [(6, .int x7), (0, va_rf (some a0)), (1, .int v1), (3, .int v3), (4, .int v4), (5, .int v5)]) X dX8_other_80 (by decide) rfl ?_
      refine g_aload_n (j := 1) X dX8_other_82 rfl rfl ?_
      obtain ⟨x9, ex9, h10⟩ := g_bd h8; clear h8
      refine g_fR (ci := 8) (k := 22) X rfl il8 (by decide) tw725 (by decide) (fun _ _ _ => rfl) ex9 dX8_other_83 ?_
      clear ex9
      refine g_iload_n (j := 3) X dX8_other_86 rfl rfl ?_
      obtain ⟨x11, ex11, h12⟩ := g_bd h10; clear h10
      refine g_iald X ex11 dX8_other_87 ?_
      clear ex11
      refine g_if_ne (tgt := 110) X dX8_other_88 (by decide) (fun c13 => ?_) (fun c13 => ?_)
      · have h14 := g_in h12 c13; clear h12
        refine g_aload_n (j := 1) X dX8_other_110 rfl rfl ?_
        refine g_iload_n (j := 2) X dX8_other_111 rfl rfl ?_
        refine g_iload (j := 4) X dX8_other_112 rfl ?_
        refine g_iload (j := 0) X dX8_other_114 rfl ?_
        refine g_iconst X dX8_other_116 (v := 0) (by decide) ?_
        obtain ⟨g16, h17⟩ := g_gd h14; clear h14
        obtain ⟨S18, eS18, h19⟩ := g_bd h17; clear h17
        refine g_cS (n := 5) (As := [va_rf (some a0), .int v1, .int v4, .int x7, .int 0]) X (c_X8_root hl D 10 eS18) tw801 tw802 tw51 tw803 (by decide +kernel) rfl rfl ⟨Nat.le_of_ble_eq_true rfl, Nat.le_of_ble_eq_true rfl⟩ rfl rfl (Nat.le_of_ble_eq_true rfl) dX8_other_117 ⟨g16.1, g16.2⟩ ?_
        clear eS18
        cases h19
        exact g_vret X hr g16.1 g16.2 dX8_other_120
      · have h15 := g_ip h12 c13; clear h12
        refine g_aload_n (j := 1) X dX8_other_91 rfl rfl ?_
        refine g_iload_n (j := 2) X dX8_other_92 rfl rfl ?_
        refine g_iload (j := 4) X dX8_other_93 rfl ?_
        refine g_iload (j := 0) X dX8_other_95 rfl ?_
        refine g_iadd X dX8_other_97 ?_
        refine g_iload (j := 5) X dX8_other_98 rfl ?_
        refine g_iload (j := 0) X dX8_other_100 rfl ?_
        refine g_isub X dX8_other_102 ?_
        refine g_iconst X dX8_other_103 (v := 0) (by decide) ?_
        obtain ⟨g20, h21⟩ := g_gd h15; clear h15
        obtain ⟨S22, eS22, h23⟩ := g_bd h21; clear h21
        refine g_cS (n := 5) (As := [va_rf (some a0), .int v1, .int (v4 + x7), .int (v5 - x7), .int 0]) X (c_X8_root hl D 10 eS22) tw801 tw802 tw51 tw803 (by decide +kernel) rfl rfl ⟨Nat.le_of_ble_eq_true rfl, Nat.le_of_ble_eq_true rfl⟩ rfl rfl (Nat.le_of_ble_eq_true rfl) dX8_other_104 ⟨g20.1, g20.2⟩ ?_
        clear eS22
        refine g_goto (tgt := 120) X dX8_other_107 (by decide) ?_
        cases h23
        exact g_vret X hr g20.1 g20.2 dX8_other_120
    · have h3 := g_in hu c1; clear hu
      refine g_iload (j := 4) X dX8_other_15 rfl ?_
      refine g_i2l X dX8_other_17 ?_
      obtain ⟨x26, S24, eS24, h25⟩ := g_bi h3; clear h3
      refine g_cS (n := 1) (As := [.long v5.toInt64]) X (c_X8_front hl D eS24) tw896 tw897 tw51 tw898 (by decide +kernel) rfl rfl ⟨Nat.le_of_ble_eq_true rfl, Nat.le_of_ble_eq_true rfl⟩ rfl rfl (Nat.le_of_ble_eq_true rfl) dX8_other_18 ⟨gu.1, gu.2⟩ ?_
      clear eS24
      refine g_l2i X dX8_other_21 ?_
      obtain ⟨x27, ex27, h28⟩ := g_let h25; clear h25; rw [← ex27]; clear ex27
      refine g_istore (i := 7) (lv' := [(7, .int x27), (0, va_rf (some a0)), (1, .int v1), (3, .int v3), (4, .int v4), (5, .int v5), (6, .int v6)]) X dX8_other_22 (by decide) rfl ?_
      refine g_iload (j := 4) X dX8_other_24 rfl ?_
      refine g_aload_n (j := 1) X dX8_other_26 rfl rfl ?_
      obtain ⟨x29, ex29, h30⟩ := g_bd h28; clear h28
      refine g_fR (ci := 8) (k := 22) X rfl il8 (by decide) tw725 (by decide) (fun _ _ _ => rfl) ex29 dX8_other_27 ?_
      clear ex29
      refine g_iload (j := 6) X dX8_other_30 rfl ?_
      obtain ⟨x31, ex31, h32⟩ := g_bd h30; clear h30
      refine g_iald X ex31 dX8_other_32 ?_
      clear ex31
      refine g_if_ne (tgt := 40) X dX8_other_33 (by decide) (fun c33 => ?_) (fun c33 => ?_)
      · have h34 := g_in h32 c33; clear h32
        refine g_iload (j := 0) X dX8_other_40 rfl ?_
        refine g_iadd X dX8_other_42 ?_
        obtain ⟨x36, ex36, h37⟩ := g_let h34; clear h34; rw [← ex36]; clear ex36
        refine g_istore (i := 4) (lv' := [(4, .int x36), (7, .int x27), (0, va_rf (some a0)), (1, .int v1), (3, .int v3), (5, .int v5), (6, .int v6)]) X dX8_other_43 (by decide) rfl ?_
        refine g_aload_n (j := 2) X dX8_other_45 rfl rfl ?_
        obtain ⟨x38, ex38, h39⟩ := g_bd h37; clear h37
        refine g_fR (ci := 8) (k := 22) X rfl il8 (by decide) tw725 (by decide) (fun _ _ _ => rfl) ex38 dX8_other_46 ?_
        clear ex38
        refine g_iload (j := 6) X dX8_other_49 rfl ?_
        obtain ⟨x40, ex40, h41⟩ := g_bd h39; clear h39
        refine g_iald X ex40 dX8_other_51 ?_
        clear ex40
        refine g_if_ne (tgt := 60) X dX8_other_52 (by decide) (fun c42 => ?_) (fun c42 => ?_)
        · have h43 := g_in h41 c42; clear h41
          refine g_iload (j := 5) X dX8_other_60 rfl ?_
          refine g_iload (j := 1) X dX8_other_62 rfl ?_
          refine g_isub X dX8_other_64 ?_
          obtain ⟨x45, ex45, h46⟩ := g_let h43; clear h43; rw [← ex45]; clear ex45
          refine g_istore (i := 5) (lv' := [(5, .int x45), (4, .int x36), (7, .int x27), (0, va_rf (some a0)), (1, .int v1), (3, .int v3), (6, .int v6)]) X dX8_other_65 (by decide) rfl ?_
          obtain ⟨x47, ex47, h48⟩ := g_let h46; clear h46
          refine g_iinc (j := 6) (v := x47) (lv' := [(6, .int x47), (5, .int x45), (4, .int x36), (7, .int x27), (0, va_rf (some a0)), (1, .int v1), (3, .int v3)]) X dX8_other_67 rfl (by rw [ex47]; rfl) (by decide) rfl ?_
          clear ex47
          refine g_goto (tgt := 9) X dX8_other_70 (by decide) ?_
          refine g_sub [4, 5, 6, 2, 1, 0] rfl ?_
          exact ih S24 cu su a0 v1 v3 x36 x45 x47 h48
        · have h44 := g_ip h41 c42; clear h41
          refine g_iload (j := 1) X dX8_other_55 rfl ?_
          refine g_goto (tgt := 65) X dX8_other_57 (by decide) ?_
          refine g_istore (i := 5) (lv' := [(5, .int x27), (4, .int x36), (7, .int x27), (0, va_rf (some a0)), (1, .int v1), (3, .int v3), (6, .int v6)]) X dX8_other_65 (by decide) rfl ?_
          obtain ⟨x49, ex49, h50⟩ := g_let h44; clear h44
          refine g_iinc (j := 6) (v := x49) (lv' := [(6, .int x49), (5, .int x27), (4, .int x36), (7, .int x27), (0, va_rf (some a0)), (1, .int v1), (3, .int v3)]) X dX8_other_67 rfl (by rw [ex49]; rfl) (by decide) rfl ?_
          clear ex49
          refine g_goto (tgt := 9) X dX8_other_70 (by decide) ?_
          refine g_sub [4, 5, 6, 2, 1, 0] rfl ?_
          exact ih S24 cu su a0 v1 v3 x36 x27 x49 h50
      · have h35 := g_ip h32 c33; clear h32
        refine g_iconst X dX8_other_36 (v := 0) (by decide) ?_
        refine g_goto (tgt := 42) X dX8_other_37 (by decide) ?_
        refine g_iadd X dX8_other_42 ?_
        obtain ⟨x51, ex51, h52⟩ := g_let h35; clear h35; rw [← ex51]; clear ex51
        refine g_istore (i := 4) (lv' := [(4, .int x51), (7, .int x27), (0, va_rf (some a0)), (1, .int v1), (3, .int v3), (5, .int v5), (6, .int v6)]) X dX8_other_43 (by decide) rfl ?_
        refine g_aload_n (j := 2) X dX8_other_45 rfl rfl ?_
        obtain ⟨x53, ex53, h54⟩ := g_bd h52; clear h52
        refine g_fR (ci := 8) (k := 22) X rfl il8 (by decide) tw725 (by decide) (fun _ _ _ => rfl) ex53 dX8_other_46 ?_
        clear ex53
        refine g_iload (j := 6) X dX8_other_49 rfl ?_
        obtain ⟨x55, ex55, h56⟩ := g_bd h54; clear h54
        refine g_iald X ex55 dX8_other_51 ?_
        clear ex55
        refine g_if_ne (tgt := 60) X dX8_other_52 (by decide) (fun c57 => ?_) (fun c57 => ?_)
        · have h58 := g_in h56 c57; clear h56
          refine g_iload (j := 5) X dX8_other_60 rfl ?_
          refine g_iload (j := 1) X dX8_other_62 rfl ?_
          refine g_isub X dX8_other_64 ?_
          obtain ⟨x60, ex60, h61⟩ := g_let h58; clear h58; rw [← ex60]; clear ex60
          refine g_istore (i := 5) (lv' := [(5, .int x60), (4, .int x51), (7, .int x27), (0, va_rf (some a0)), (1, .int v1), (3, .int v3), (6, .int v6)]) X dX8_other_65 (by decide) rfl ?_
          obtain ⟨x62, ex62, h63⟩ := g_let h61; clear h61
          refine g_iinc (j := 6) (v := x62) (lv' := [(6, .int x62), (5, .int x60), (4, .int x51), (7, .int x27), (0, va_rf (some a0)), (1, .int v1), (3, .int v3)]) X dX8_other_67 rfl (by rw [ex62]; rfl) (by decide) rfl ?_
          clear ex62
          refine g_goto (tgt := 9) X dX8_other_70 (by decide) ?_
          refine g_sub [4, 5, 6, 2, 1, 0] rfl ?_
          exact ih S24 cu su a0 v1 v3 x51 x60 x62 h63
        · have h59 := g_ip h56 c57; clear h56
          refine g_iload (j := 1) X dX8_other_55 rfl ?_
          refine g_goto (tgt := 65) X dX8_other_57 (by decide) ?_
          refine g_istore (i := 5) (lv' := [(5, .int x27), (4, .int x51), (7, .int x27), (0, va_rf (some a0)), (1, .int v1), (3, .int v3), (6, .int v6)]) X dX8_other_65 (by decide) rfl ?_
          obtain ⟨x64, ex64, h65⟩ := g_let h59; clear h59
          refine g_iinc (j := 6) (v := x64) (lv' := [(6, .int x64), (5, .int x27), (4, .int x51), (7, .int x27), (0, va_rf (some a0)), (1, .int v1), (3, .int v3)]) X dX8_other_67 rfl (by rw [ex64]; rfl) (by decide) rfl ?_
          clear ex64
          refine g_goto (tgt := 9) X dX8_other_70 (by decide) ?_
          refine g_sub [4, 5, 6, 2, 1, 0] rfl ?_
          exact ih S24 cu su a0 v1 v3 x51 x27 x64 h65
def f_X8_other (bo : Nat) (S0 : gS) (a0 : Nat) (v1 : Int32) (v2 : Int32) (v3 : Int32) : Option gS :=
  f_X8_other_L9 bo gFuel S0 0 0 a0 v1 v3 0 v2 0
set_option maxRecDepth 100000 in
set_option maxHeartbeats 4000000 in
theorem c_X8_other {l : Launch} (hl : l.stackTraces = false) (D : gD) {bo : Nat} {S0 S9 : gS} {a0 : Nat} {v1 : Int32} {v2 : Int32} {v3 : Int32} (h0 : f_X8_other bo S0 a0 v1 v2 v3 = some S9) : Met l yX8_other (gws yX8_other cX8_other 8 none) { frames := 19, cells := bo, slots := 8 * bo, locals := 475 } (gPc D S0 [.ref a0, .int v1, .int v2, .int v3]) (gQ D none S9) (bo) (8 * bo) (gF D) := by
  refine g_met (lv := [(0, va_rf (some a0)), (1, .int v1), (2, .int v2), (3, .int v3)]) hl (by decide) (Nat.le_of_ble_eq_true rfl) rfl (fun p e s m args below meth c X hr hn => ?_)
  have X : gX D p l s m args meth c cX8_other 8 RX8 := X
  unfold f_X8_other at h0
  refine g_iconst X dX8_other_0 (v := 0) (by decide) ?_
  refine g_istore (i := 4) (lv' := [(4, .int 0), (0, va_rf (some a0)), (1, .int v1), (2, .int v2), (3, .int v3)]) X dX8_other_1 (by decide) rfl ?_
  refine g_iload_n (j := 3) X dX8_other_3 rfl rfl ?_
  refine g_istore (i := 5) (lv' := [(5, .int v2), (4, .int 0), (0, va_rf (some a0)), (1, .int v1), (2, .int v2), (3, .int v3)]) X dX8_other_4 (by decide) rfl ?_
  refine g_iconst X dX8_other_6 (v := 0) (by decide) ?_
  refine g_istore (i := 6) (lv' := [(6, .int 0), (5, .int v2), (4, .int 0), (0, va_rf (some a0)), (1, .int v1), (2, .int v2), (3, .int v3)]) X dX8_other_7 (by decide) rfl ?_
  refine g_sub [3, 4, 6, 2, 1, 0] rfl ?_
  exact w_X8_other_L9 hl X hr gFuel S0 0 0 a0 v1 v3 0 v2 0 h0
def f_X8_way_L69 (gh : Nat → Nat) : Nat → gS → Nat → Nat → Nat → Int32 → Int32 → Int32 → Option (Int32 × gS)
  | 0, _, _, _, _, _, _, _ => none
  | k + 1, S0, cu, su, a0, v1, v3, v4 =>
    gGd (cu ≤ 1000 ∧ su ≤ 8000) <|
    if v4 < 0 then
      (fgI S0 8 23 (some a0)).bind fun x30 =>
      some (x30, S0)
    else
      gDc S0 8 (some a0) fun a32 =>
      gGd (cu + ((gh (v4).toNatClampNeg)) ≤ 1000 ∧ su + (8 * (gh (v4).toNatClampNeg)) ≤ 8000) <|
      (f_X8_other (gh (v4).toNatClampNeg) S0 a32 v1 v3 v4).bind fun S36 =>
      gDc S36 8 (some a0) fun a38 =>
      (f_X8_outSlot S36 a38 0).bind fun S40 =>
      gLet (v4 + (-1)) fun x42 =>
      f_X8_way_L69 gh k S40 (cu + ((gh (v4).toNatClampNeg))) (su + (8 * (gh (v4).toNatClampNeg))) a0 v1 v3 x42
set_option maxRecDepth 100000 in
set_option maxHeartbeats 4000000 in
theorem w_X8_way_L69 {p : Program} {l : Launch} {e : Env} {s : State} {m : MethodId} {args : Array Value} {below : List Frame} {meth : Method} {c : Code} {D : gD} {S9 : gS} {res : Int32} {gh : Nat → Nat} (hl : l.stackTraces = false) (X : gX D p l s m args meth c cX8_way 5 RX8) (hr : meth.sig.returnType = (some .int)) : ∀ (k : Nat) (S0 : gS) (cu su : Nat) (a0 : Nat) (v1 : Int32) (v3 : Int32) (v4 : Int32), f_X8_way_L69 gh k S0 cu su a0 v1 v3 v4 = some (res, S9) → gJ D p l e { frames := 20, cells := 1000, slots := 8000, locals := 502 } s m args below meth c (MQ below (gQ D (some (.int res)) S9) args s (1000) (8000) (gF D)) 5 (cu) (su) S0 69 [(0, va_rf (some a0)), (1, .int v1), (3, .int v3), (4, .int v4)] [] := by
  intro k
  induction k with
  | zero => intro S0 cu su a0 v1 v3 v4 h0; cases h0
  | succ k ih =>
    intro S0 cu su a0 v1 v3 v4 h0
    have h0 := h0
    unfold f_X8_way_L69 at h0
    obtain ⟨gu, hu⟩ := g_gd h0; clear h0
    refine g_iload (j := 3) X dX8_way_69 rfl ?_
    refine g_if_lt (tgt := 93) X dX8_way_71 (by decide) (fun c27 => ?_) (fun c27 => ?_)
    · have h28 := g_ip hu c27; clear hu
      refine g_aload_n (j := 0) X dX8_way_93 rfl rfl ?_
      obtain ⟨x30, ex30, h31⟩ := g_bd h28; clear h28
      refine g_fI (ci := 8) (k := 23) X rfl il8 (by decide) tw726 (by decide) (fun _ _ _ => rfl) ex30 dX8_way_94 ?_
      clear ex30
      obtain ⟨rfl, rfl⟩ := g_end h31
      exact g_iret X hr gu.1 gu.2 dX8_way_97
    · have h29 := g_in hu c27; clear hu
      refine g_aload_n (j := 0) X dX8_way_74 rfl rfl ?_
      refine g_iload_n (j := 1) X dX8_way_75 rfl rfl ?_
      refine g_iload_n (j := 2) X dX8_way_76 rfl rfl ?_
      refine g_iload (j := 3) X dX8_way_77 rfl ?_
      obtain ⟨a32, ea32, ka32, h33⟩ := g_dc h29; clear h29
      obtain ⟨g34, h35⟩ := g_gd h33; clear h33
      obtain ⟨S36, eS36, h37⟩ := g_bd h35; clear h35
      refine g_cV (n := 3) (As := [.int v1, .int v3, .int v4]) X (c_X8_other hl D eS36) tw907 tw908 tw32 tw51 tw909 (by decide +kernel) rfl rfl ⟨Nat.le_of_ble_eq_true rfl, Nat.le_of_ble_eq_true rfl⟩ (ci := 8) rfl (by decide) ea32 ka32 rfl rfl (Nat.le_of_ble_eq_true rfl) dX8_way_79 ⟨g34.1, g34.2⟩ ?_
      clear eS36 ea32 ka32
      refine g_aload_n (j := 0) X dX8_way_82 rfl rfl ?_
      refine g_iconst X dX8_way_83 (v := 0) (by decide) ?_
      obtain ⟨a38, ea38, ka38, h39⟩ := g_dc h37; clear h37
      obtain ⟨S40, eS40, h41⟩ := g_bd h39; clear h39
      refine g_cV (n := 1) (As := [.int 0]) X (c_X8_outSlot hl D eS40) tw872 tw873 tw28 tw51 tw874 (by decide +kernel) rfl rfl ⟨Nat.le_of_ble_eq_true rfl, Nat.le_of_ble_eq_true rfl⟩ (ci := 8) rfl (by decide) ea38 ka38 rfl rfl (Nat.le_of_ble_eq_true rfl) dX8_way_84 ⟨g34.1, g34.2⟩ ?_
      clear eS40 ea38 ka38
      obtain ⟨x42, ex42, h43⟩ := g_let h41; clear h41
      refine g_iinc (j := 3) (v := x42) (lv' := [(4, .int x42), (0, va_rf (some a0)), (1, .int v1), (3, .int v3)]) X dX8_way_87 rfl (by rw [ex42]; rfl) (by decide) rfl ?_
      clear ex42
      refine g_goto (tgt := 69) X dX8_way_90 (by decide) ?_
      refine g_sub [1, 2, 3, 0] rfl ?_
      exact ih S40 (cu + ((gh (v4).toNatClampNeg))) (su + (8 * (gh (v4).toNatClampNeg))) a0 v1 v3 x42 h43
def f_X8_way_B36 (gh : Nat → Nat) (S0 : gS) (cu su : Nat) (a0 : Nat) (v1 : Int32) (v2 : Int32) (v3 : Int32) (t0 : Int32) (t1 : Option Nat) : Option (Int32 × gS) :=
  gGd (cu ≤ 1000 ∧ su ≤ 8000) <|
  (fpI S0 8 0 t1 t0).bind fun S10 =>
  (fgI S10 8 0 (some a0)).bind fun x12 =>
  if x12 ≤ 0 then
    gDc S10 8 (some a0) fun a17 =>
    (f_X8_chainOf S10 a17 v2.toInt64 v3.toInt64).bind fun S19 =>
    (fpI S19 8 4 (some a0) 0).bind fun S21 =>
    (fgI S21 8 23 (some a0)).bind fun x23 =>
    gLet (x23 - 1) fun x25 =>
    f_X8_way_L69 gh gFuel S21 cu su a0 v1 v3 x25
  else
    some (0, S10)
set_option maxRecDepth 100000 in
set_option maxHeartbeats 4000000 in
theorem w_X8_way_B36 {p : Program} {l : Launch} {e : Env} {s : State} {m : MethodId} {args : Array Value} {below : List Frame} {meth : Method} {c : Code} {D : gD} {S9 : gS} {res : Int32} {gh : Nat → Nat} (hl : l.stackTraces = false) (X : gX D p l s m args meth c cX8_way 5 RX8) (hr : meth.sig.returnType = (some .int)) (S0 : gS) (cu su : Nat) (a0 : Nat) (v1 : Int32) (v2 : Int32) (v3 : Int32) (t0 : Int32) (t1 : Option Nat) (h0 : f_X8_way_B36 gh S0 cu su a0 v1 v2 v3 t0 t1 = some (res, S9)) : gJ D p l e { frames := 20, cells := 1000, slots := 8000, locals := 502 } s m args below meth c (MQ below (gQ D (some (.int res)) S9) args s (1000) (8000) (gF D)) 5 (cu) (su) S0 36 [(0, va_rf (some a0)), (1, .int v1), (2, .int v2), (3, .int v3)] [.int t0, va_rf t1] := by
  unfold f_X8_way_B36 at h0
  obtain ⟨gu, hu⟩ := g_gd h0; clear h0
  obtain ⟨S10, eS10, h11⟩ := g_bd hu; clear hu
  refine g_pI (ci := 8) (k := 0) X rfl il8 tyX8 tyX8_ok nmX8 (by decide) tw703 rfl (by decide) (fun _ _ _ => rfl) rfl eS10 dX8_way_36 ?_
  clear eS10
  refine g_aload_n (j := 0) X dX8_way_39 rfl rfl ?_
  obtain ⟨x12, ex12, h13⟩ := g_bd h11; clear h11
  refine g_fI (ci := 8) (k := 0) X rfl il8 (by decide) tw703 (by decide) (fun _ _ _ => rfl) ex12 dX8_way_40 ?_
  clear ex12
  refine g_if_le (tgt := 48) X dX8_way_43 (by decide) (fun c14 => ?_) (fun c14 => ?_)
  · have h15 := g_ip h13 c14; clear h13
    refine g_aload_n (j := 0) X dX8_way_48 rfl rfl ?_
    refine g_iload_n (j := 2) X dX8_way_49 rfl rfl ?_
    refine g_i2l X dX8_way_50 ?_
    refine g_iload_n (j := 3) X dX8_way_51 rfl rfl ?_
    refine g_i2l X dX8_way_52 ?_
    obtain ⟨a17, ea17, ka17, h18⟩ := g_dc h15; clear h15
    obtain ⟨S19, eS19, h20⟩ := g_bd h18; clear h18
    refine g_cV (n := 2) (As := [.long v2.toInt64, .long v3.toInt64]) X (c_X8_chainOf hl D eS19) tw893 tw894 tw31 tw51 tw895 (by decide +kernel) rfl rfl ⟨Nat.le_of_ble_eq_true rfl, Nat.le_of_ble_eq_true rfl⟩ (ci := 8) rfl (by decide) ea17 ka17 rfl rfl (Nat.le_of_ble_eq_true rfl) dX8_way_53 ⟨gu.1, gu.2⟩ ?_
    clear eS19 ea17 ka17
    refine g_aload_n (j := 0) X dX8_way_56 rfl rfl ?_
    refine g_iconst X dX8_way_57 (v := 0) (by decide) ?_
    obtain ⟨S21, eS21, h22⟩ := g_bd h20; clear h20
    refine g_pI (ci := 8) (k := 4) X rfl il8 tyX8 tyX8_ok nmX8 (by decide) tw707 rfl (by decide) (fun _ _ _ => rfl) rfl eS21 dX8_way_58 ?_
    clear eS21
    refine g_aload_n (j := 0) X dX8_way_61 rfl rfl ?_
    obtain ⟨x23, ex23, h24⟩ := g_bd h22; clear h22
    refine g_fI (ci := 8) (k := 23) X rfl il8 (by decide) tw726 (by decide) (fun _ _ _ => rfl) ex23 dX8_way_62 ?_
    clear ex23
    refine g_iconst X dX8_way_65 (v := 1) (by decide) ?_
    refine g_isub X dX8_way_66 ?_
    obtain ⟨x25, ex25, h26⟩ := g_let h24; clear h24; rw [← ex25]; clear ex25
    refine g_istore (i := 4) (lv' := [(4, .int x25), (0, va_rf (some a0)), (1, .int v1), (2, .int v2), (3, .int v3)]) X dX8_way_67 (by decide) rfl ?_
    refine g_sub [1, 2, 4, 0] rfl ?_
    exact w_X8_way_L69 hl X hr gFuel S21 cu su a0 v1 v3 x25 h26
  · have h16 := g_in h13 c14; clear h13
    refine g_iconst X dX8_way_46 (v := 0) (by decide) ?_
    obtain ⟨rfl, rfl⟩ := g_end h16
    exact g_iret X hr gu.1 gu.2 dX8_way_47
def f_X8_way_B31 (gh : Nat → Nat) (S0 : gS) (cu su : Nat) (a0 : Nat) (v1 : Int32) (v2 : Int32) (v3 : Int32) (t0 : Option Nat) : Option (Int32 × gS) :=
  gGd (cu ≤ 1000 ∧ su ≤ 8000) <|
  f_X8_way_B36 gh S0 cu su a0 v1 v2 v3 2 t0
set_option maxRecDepth 100000 in
set_option maxHeartbeats 4000000 in
theorem w_X8_way_B31 {p : Program} {l : Launch} {e : Env} {s : State} {m : MethodId} {args : Array Value} {below : List Frame} {meth : Method} {c : Code} {D : gD} {S9 : gS} {res : Int32} {gh : Nat → Nat} (hl : l.stackTraces = false) (X : gX D p l s m args meth c cX8_way 5 RX8) (hr : meth.sig.returnType = (some .int)) (S0 : gS) (cu su : Nat) (a0 : Nat) (v1 : Int32) (v2 : Int32) (v3 : Int32) (t0 : Option Nat) (h0 : f_X8_way_B31 gh S0 cu su a0 v1 v2 v3 t0 = some (res, S9)) : gJ D p l e { frames := 20, cells := 1000, slots := 8000, locals := 502 } s m args below meth c (MQ below (gQ D (some (.int res)) S9) args s (1000) (8000) (gF D)) 5 (cu) (su) S0 31 [(0, va_rf (some a0)), (1, .int v1), (2, .int v2), (3, .int v3)] [va_rf t0] := by
  unfold f_X8_way_B31 at h0
  obtain ⟨gu, hu⟩ := g_gd h0; clear h0
  refine g_iconst X dX8_way_31 (v := 2) (by decide) ?_
  refine g_goto (tgt := 36) X dX8_way_32 (by decide) ?_
  refine g_sub [0, 1, 2, 3] rfl ?_
  exact w_X8_way_B36 hl X hr S0 cu su a0 v1 v2 v3 2 t0 hu
def f_X8_way (gh : Nat → Nat) (S0 : gS) (a0 : Nat) (v1 : Int32) (v2 : Int32) (v3 : Int32) : Option (Int32 × gS) :=
  gBi (f_X8_isLog S0 v1) fun x3 S1 =>
  if x3 = 0 then
    f_X8_way_B36 gh S1 0 0 a0 v1 v2 v3 1 (some a0)
  else
    if v2 < 0 then
      f_X8_way_B31 gh S1 0 0 a0 v1 v2 v3 (some a0)
    else
      if v3 ≤ v2 then
        f_X8_way_B31 gh S1 0 0 a0 v1 v2 v3 (some a0)
      else
        (fgR S1 8 10 (some a0)).bind fun x47 =>
        (fI S1 10 x47 v1).bind fun x49 =>
        if v3 ≤ x49 then
          f_X8_way_B36 gh S1 0 0 a0 v1 v2 v3 0 (some a0)
        else
          f_X8_way_B31 gh S1 0 0 a0 v1 v2 v3 (some a0)
set_option maxRecDepth 100000 in
set_option maxHeartbeats 4000000 in
theorem c_X8_way {l : Launch} (hl : l.stackTraces = false) (D : gD) {gh : Nat → Nat} {S0 S9 : gS} {a0 : Nat} {v1 : Int32} {v2 : Int32} {v3 : Int32} {res : Int32} (h0 : f_X8_way gh S0 a0 v1 v2 v3 = some (res, S9)) : Met l yX8_way (gws yX8_way cX8_way 5 (some .int)) { frames := 20, cells := 1000, slots := 8000, locals := 502 } (gPc D S0 [.ref a0, .int v1, .int v2, .int v3]) (gQ D (some (.int res)) S9) (1000) (8000) (gF D) := by
  refine g_met (lv := [(0, va_rf (some a0)), (1, .int v1), (2, .int v2), (3, .int v3)]) hl (by decide) (Nat.le_of_ble_eq_true rfl) rfl (fun p e s m args below meth c X hr hn => ?_)
  have X : gX D p l s m args meth c cX8_way 5 RX8 := X
  unfold f_X8_way at h0
  refine g_aload_n (j := 0) X dX8_way_0 rfl rfl ?_
  refine g_iload_n (j := 1) X dX8_way_1 rfl rfl ?_
  obtain ⟨x3, S1, eS1, h2⟩ := g_bi h0; clear h0
  refine g_cS (n := 1) (As := [.int v1]) X (c_X8_isLog hl D eS1) tw787 tw788 tw51 tw789 (by decide +kernel) rfl rfl ⟨Nat.le_of_ble_eq_true rfl, Nat.le_of_ble_eq_true rfl⟩ rfl rfl (Nat.le_of_ble_eq_true rfl) dX8_way_2 ⟨(by decide), (by decide)⟩ ?_
  clear eS1
  refine g_if_ne (tgt := 12) X dX8_way_5 (by decide) (fun c4 => ?_) (fun c4 => ?_)
  · have h5 := g_in h2 c4; clear h2
    refine g_iload_n (j := 2) X dX8_way_12 rfl rfl ?_
    refine g_if_lt (tgt := 31) X dX8_way_13 (by decide) (fun c7 => ?_) (fun c7 => ?_)
    · have h8 := g_ip h5 c7; clear h5
      refine g_sub [0, 1, 2, 3] rfl ?_
      exact w_X8_way_B31 hl X hr S1 0 0 a0 v1 v2 v3 (some a0) h8
    · have h9 := g_in h5 c7; clear h5
      refine g_iload_n (j := 2) X dX8_way_16 rfl rfl ?_
      refine g_iload_n (j := 3) X dX8_way_17 rfl rfl ?_
      refine g_icmp_ge (tgt := 31) X dX8_way_18 (by decide) (fun c44 => ?_) (fun c44 => ?_)
      · have h45 := g_ip h9 c44; clear h9
        refine g_sub [0, 1, 2, 3] rfl ?_
        exact w_X8_way_B31 hl X hr S1 0 0 a0 v1 v2 v3 (some a0) h45
      · have h46 := g_in h9 c44; clear h9
        refine g_iload_n (j := 3) X dX8_way_21 rfl rfl ?_
        refine g_aload_n (j := 0) X dX8_way_22 rfl rfl ?_
        obtain ⟨x47, ex47, h48⟩ := g_bd h46; clear h46
        refine g_fR (ci := 8) (k := 10) X rfl il8 (by decide) tw713 (by decide) (fun _ _ _ => rfl) ex47 dX8_way_23 ?_
        clear ex47
        refine g_iload_n (j := 1) X dX8_way_26 rfl rfl ?_
        obtain ⟨x49, ex49, h50⟩ := g_bd h48; clear h48
        refine g_iald X ex49 dX8_way_27 ?_
        clear ex49
        refine g_icmp_le (tgt := 35) X dX8_way_28 (by decide) (fun c51 => ?_) (fun c51 => ?_)
        · have h52 := g_ip h50 c51; clear h50
          refine g_iconst X dX8_way_35 (v := 0) (by decide) ?_
          refine g_sub [0, 1, 2, 3] rfl ?_
          exact w_X8_way_B36 hl X hr S1 0 0 a0 v1 v2 v3 0 (some a0) h52
        · have h53 := g_in h50 c51; clear h50
          refine g_sub [0, 1, 2, 3] rfl ?_
          exact w_X8_way_B31 hl X hr S1 0 0 a0 v1 v2 v3 (some a0) h53
  · have h6 := g_ip h2 c4; clear h2
    refine g_iconst X dX8_way_8 (v := 1) (by decide) ?_
    refine g_goto (tgt := 36) X dX8_way_9 (by decide) ?_
    refine g_sub [0, 1, 2, 3] rfl ?_
    exact w_X8_way_B36 hl X hr S1 0 0 a0 v1 v2 v3 1 (some a0) h6
