def f_X7_gossip (S0 : gS) (a0 : Nat) (v1 : Int32) (v2 : Int32) (v3 : Int32) : Option ((String ⊕ Int32) × gS) :=
  gDc S0 7 (some a0) fun a1 =>
  gBx (f_X7_viewOf S0 a1 v1 v3) (fun E6 S7 => some (.inl E6, S7)) fun x5 S3 =>
  gDc S3 7 (some a0) fun a9 =>
  gBx (f_X7_viewOf S3 a9 v2 v3) (fun E14 S15 => some (.inl E14, S15)) fun x13 S11 =>
  (fgR S11 6 0 x5).bind fun x17 =>
  (fgR S11 6 0 x13).bind fun x19 =>
  gnl x17 (
    some (.inr 0, S11)
  ) (
    gnl x19 (
      some (.inr 0, S11)
    ) (
      gDc S11 3 x17 fun a29 =>
      gBi (f_X3_longAt S11 a29 8) fun x33 S31 =>
      gDc S31 3 x19 fun a34 =>
      gBi (f_X3_longAt S31 a34 8) fun x38 S36 =>
      if (lg_cmp x33 x38) = 0 then
        (fgR S36 3 0 x17).bind fun x42 =>
        (fgR S36 3 0 x19).bind fun x44 =>
        gBi (f_X3_same S36 x42 16 x44 16 32) fun x48 S46 =>
        if x48 = 0 then
          gDc S46 6 x5 fun a52 =>
          (f_X6_keepEvidence S46 a52 x17 x19).bind fun S54 =>
          gDc S54 6 x13 fun a56 =>
          (f_X6_keepEvidence S54 a56 x17 x19).bind fun S58 =>
          some (.inr 3, S58)
        else
          some (.inr 0, S46)
      else
        if (lg_cmp x33 x38) ≤ 0 then
          some (.inr 2, S36)
        else
          some (.inr 1, S36)
    )
  )
set_option maxRecDepth 100000 in
set_option maxHeartbeats 4000000 in
theorem c_X7_gossip {l : Launch} (hl : l.stackTraces = false) (D : gD)  {S0 S9 : gS} {a0 : Nat} {v1 : Int32} {v2 : Int32} {v3 : Int32} {res : String ⊕ Int32} (h0 : f_X7_gossip S0 a0 v1 v2 v3 = some (res, S9)) : vx_Met l yX7_gossip (gws yX7_gossip cX7_gossip 12 (some .int)) { frames := 7, cells := 2, slots := 12, locals := 106 } (gPc D S0 [.ref a0, .int v1, .int v2, .int v3]) (gQX D (fun x : Int32 => Value.int x) res S9) (gXX D res S9) (2) (12) (gF D) := by
  refine g_xmet (lv := [(0, va_rf (some a0)), (1, .int v1), (2, .int v2), (3, .int v3)]) hl (by decide) (Nat.le_of_ble_eq_true rfl) rfl (fun p e s m args below meth c X hr ht => ?_)
  have X : gX D p l s m args meth c cX7_gossip 12 RX7 := X
  unfold f_X7_gossip at h0
  refine g_aload_n (j := 0) X dX7_gossip_0 rfl rfl ?_
  refine g_iload_n (j := 1) X dX7_gossip_1 rfl rfl ?_
  refine g_iload_n (j := 3) X dX7_gossip_2 rfl rfl ?_
  obtain ⟨a1, ea1, ka1, h2⟩ := g_dc h0; clear h0
  rcases g_bx h2 with ⟨x5, S3, eS3, h4⟩ | ⟨E6, S7, eS3, h8⟩
  · refine g_xV (n := 2) (As := [.int v1, .int v3]) X (c_X7_viewOf hl D eS3) tw595 tw596 tw12 tw44 tw597 (by decide +kernel) rfl rfl ⟨Nat.le_of_ble_eq_true rfl, Nat.le_of_ble_eq_true rfl⟩ (ci := 7) rfl (by decide) ea1 ka1 rfl rfl (Nat.le_of_ble_eq_true rfl) dX7_gossip_3 ⟨(by decide), (by decide)⟩ (fun x' hx' => ?_) (fun _ hx' => by cases hx')
    cases hx'; clear h2 eS3 ea1 ka1
    refine g_astore (i := 4) (lv' := [(4, va_rf x5), (0, va_rf (some a0)), (1, .int v1), (2, .int v2), (3, .int v3)]) X dX7_gossip_6 (by decide) rfl ?_
    refine g_aload_n (j := 1) X dX7_gossip_8 rfl rfl ?_
    refine g_iload_n (j := 3) X dX7_gossip_9 rfl rfl ?_
    refine g_iload_n (j := 4) X dX7_gossip_10 rfl rfl ?_
    obtain ⟨a9, ea9, ka9, h10⟩ := g_dc h4; clear h4
    rcases g_bx h10 with ⟨x13, S11, eS11, h12⟩ | ⟨E14, S15, eS11, h16⟩
    · refine g_xV (n := 2) (As := [.int v2, .int v3]) X (c_X7_viewOf hl D eS11) tw595 tw596 tw12 tw44 tw597 (by decide +kernel) rfl rfl ⟨Nat.le_of_ble_eq_true rfl, Nat.le_of_ble_eq_true rfl⟩ (ci := 7) rfl (by decide) ea9 ka9 rfl rfl (Nat.le_of_ble_eq_true rfl) dX7_gossip_11 ⟨(by decide), (by decide)⟩ (fun x' hx' => ?_) (fun _ hx' => by cases hx')
      cases hx'; clear h10 eS11 ea9 ka9
      refine g_astore (i := 5) (lv' := [(5, va_rf x13), (4, va_rf x5), (0, va_rf (some a0)), (1, .int v1), (2, .int v2), (3, .int v3)]) X dX7_gossip_14 (by decide) (by simp [g_rfc, g_ci, g_cj, g_cr]) ?_
      refine g_aload (j := 1) X dX7_gossip_16 rfl ?_
      obtain ⟨x17, ex17, h18⟩ := g_bd h12; clear h12
      refine g_fR (ci := 6) (k := 0) X rfl il6 (by decide) tw138 (by decide) (fun _ _ _ => rfl) ex17 dX7_gossip_18 ?_
      clear ex17
      refine g_astore (i := 6) (lv' := [(6, va_rf x17), (5, va_rf x13), (4, va_rf x5), (0, va_rf (some a0)), (1, .int v1), (2, .int v2), (3, .int v3)]) X dX7_gossip_21 (by decide) (by simp [g_rfc, g_ci, g_cj, g_cr]) ?_
      refine g_aload (j := 1) X dX7_gossip_23 rfl ?_
      obtain ⟨x19, ex19, h20⟩ := g_bd h18; clear h18
      refine g_fR (ci := 6) (k := 0) X rfl il6 (by decide) tw138 (by decide) (fun _ _ _ => rfl) ex19 dX7_gossip_25 ?_
      clear ex19
      refine g_astore (i := 7) (lv' := [(7, va_rf x19), (6, va_rf x17), (5, va_rf x13), (4, va_rf x5), (0, va_rf (some a0)), (1, .int v1), (2, .int v2), (3, .int v3)]) X dX7_gossip_28 (by decide) (by simp [g_rfc, g_ci, g_cj, g_cr]) ?_
      refine g_aload (j := 1) X dX7_gossip_30 rfl ?_
      refine g_ifnull (tgt := 40) X dX7_gossip_32 (by decide) (fun c23 => ?_) (fun q24 c23 => ?_)
      · have h21 := g_nln h20 c23; clear h20
        refine g_iconst X dX7_gossip_40 (v := 0) (by decide) ?_
        obtain ⟨rfl, rfl⟩ := g_end h21
        exact g_xr (g_iret X hr (by decide) (by decide) dX7_gossip_41)
      · have h22 := g_nls h20 c23; clear h20
        refine g_aload (j := 0) X dX7_gossip_35 rfl ?_
        refine g_ifnonnull (tgt := 42) X dX7_gossip_37 (by decide) (fun c27 => ?_) (fun q28 c27 => ?_)
        · have h25 := g_nln h22 c27; clear h22
          refine g_iconst X dX7_gossip_40 (v := 0) (by decide) ?_
          obtain ⟨rfl, rfl⟩ := g_end h25
          exact g_xr (g_iret X hr (by decide) (by decide) dX7_gossip_41)
        · have h26 := g_nls h22 c27; clear h22
          refine g_aload (j := 1) X dX7_gossip_42 rfl ?_
          refine g_bipush X dX7_gossip_44 (v := 8) (by decide) ?_
          obtain ⟨a29, ea29, ka29, h30⟩ := g_dc h26; clear h26
          obtain ⟨x33, S31, eS31, h32⟩ := g_bi h30; clear h30
          refine g_cV (n := 1) (As := [.int 8]) X (c_X3_longAt hl D eS31) tw506 tw453 tw454 tw52 tw455 (by decide +kernel) rfl rfl ⟨Nat.le_of_ble_eq_true rfl, Nat.le_of_ble_eq_true rfl⟩ (ci := 3) rfl (by decide) ea29 ka29 rfl rfl (Nat.le_of_ble_eq_true rfl) dX7_gossip_46 ⟨(by decide), (by decide)⟩ ?_
          clear eS31 ea29 ka29
          refine g_lstore (i := 8) (lv' := [(8, .long x33), (7, va_rf x19), (6, va_rf x17), (5, va_rf x13), (4, va_rf x5), (0, va_rf (some a0)), (1, .int v1), (2, .int v2), (3, .int v3)]) X dX7_gossip_49 (by decide) (by simp [g_rfc, g_ci, g_cj, g_cr]) ?_
          refine g_aload (j := 1) X dX7_gossip_51 rfl ?_
          refine g_bipush X dX7_gossip_53 (v := 8) (by decide) ?_
          obtain ⟨a34, ea34, ka34, h35⟩ := g_dc h32; clear h32
          obtain ⟨x38, S36, eS36, h37⟩ := g_bi h35; clear h35
          refine g_cV (n := 1) (As := [.int 8]) X (c_X3_longAt hl D eS36) tw506 tw453 tw454 tw52 tw455 (by decide +kernel) rfl rfl ⟨Nat.le_of_ble_eq_true rfl, Nat.le_of_ble_eq_true rfl⟩ (ci := 3) rfl (by decide) ea34 ka34 rfl rfl (Nat.le_of_ble_eq_true rfl) dX7_gossip_55 ⟨(by decide), (by decide)⟩ ?_
          clear eS36 ea34 ka34
          refine g_lstore (i := 10) (lv' := [(10, .long x38), (8, .long x33), (7, va_rf x19), (6, va_rf x17), (5, va_rf x13), (4, va_rf x5), (0, va_rf (some a0)), (1, .int v1), (2, .int v2), (3, .int v3)]) X dX7_gossip_58 (by decide) rfl ?_
          refine g_lload (j := 1) X dX7_gossip_60 rfl ?_
          refine g_lload (j := 0) X dX7_gossip_62 rfl ?_
          refine g_lcmp X dX7_gossip_64 ?_
          refine g_if_eq (tgt := 82) X dX7_gossip_65 (by decide) (fun c39 => ?_) (fun c39 => ?_)
          · have h40 := g_ip h37 c39; clear h37
            refine g_aload (j := 3) X dX7_gossip_82 rfl ?_
            obtain ⟨x42, ex42, h43⟩ := g_bd h40; clear h40
            refine g_fR (ci := 3) (k := 0) X rfl il3 (by decide) tw424 (by decide) (fun _ _ _ => rfl) ex42 dX7_gossip_84 ?_
            clear ex42
            refine g_bipush X dX7_gossip_87 (v := 16) (by decide) ?_
            refine g_aload (j := 2) X dX7_gossip_89 rfl ?_
            obtain ⟨x44, ex44, h45⟩ := g_bd h43; clear h43
            refine g_fR (ci := 3) (k := 0) X rfl il3 (by decide) tw424 (by decide) (fun _ _ _ => rfl) ex44 dX7_gossip_91 ?_
            clear ex44
            refine g_bipush X dX7_gossip_94 (v := 16) (by decide) ?_
            refine g_bipush X dX7_gossip_96 (v := 32) (by decide) ?_
            obtain ⟨x48, S46, eS46, h47⟩ := g_bi h45; clear h45
            refine g_cS (n := 5) (As := [va_rf x42, .int 16, va_rf x44, .int 16, .int 32]) X (c_X3_same hl D eS46) tw602 tw321 tw52 tw322 (by decide +kernel) rfl rfl ⟨Nat.le_of_ble_eq_true rfl, Nat.le_of_ble_eq_true rfl⟩ rfl rfl (Nat.le_of_ble_eq_true rfl) dX7_gossip_98 ⟨(by decide), (by decide)⟩ ?_
            clear eS46
            refine g_if_eq (tgt := 106) X dX7_gossip_101 (by decide) (fun c49 => ?_) (fun c49 => ?_)
            · have h50 := g_ip h47 c49; clear h47
              refine g_aload (j := 5) X dX7_gossip_106 rfl ?_
              refine g_aload (j := 3) X dX7_gossip_108 rfl ?_
              refine g_aload (j := 2) X dX7_gossip_110 rfl ?_
              obtain ⟨a52, ea52, ka52, h53⟩ := g_dc h50; clear h50
              obtain ⟨S54, eS54, h55⟩ := g_bd h53; clear h53
              refine g_cV (n := 2) (As := [va_rf x17, va_rf x19]) X (c_X6_keepEvidence hl D eS54) tw609 tw610 tw611 tw48 tw612 (by decide +kernel) rfl rfl ⟨Nat.le_of_ble_eq_true rfl, Nat.le_of_ble_eq_true rfl⟩ (ci := 6) rfl (by decide) ea52 ka52 rfl rfl (Nat.le_of_ble_eq_true rfl) dX7_gossip_112 ⟨(by decide), (by decide)⟩ ?_
              clear eS54 ea52 ka52
              refine g_aload (j := 4) X dX7_gossip_115 rfl ?_
              refine g_aload (j := 3) X dX7_gossip_117 rfl ?_
              refine g_aload (j := 2) X dX7_gossip_119 rfl ?_
              obtain ⟨a56, ea56, ka56, h57⟩ := g_dc h55; clear h55
              obtain ⟨S58, eS58, h59⟩ := g_bd h57; clear h57
              refine g_cV (n := 2) (As := [va_rf x17, va_rf x19]) X (c_X6_keepEvidence hl D eS58) tw609 tw610 tw611 tw48 tw612 (by decide +kernel) rfl rfl ⟨Nat.le_of_ble_eq_true rfl, Nat.le_of_ble_eq_true rfl⟩ (ci := 6) rfl (by decide) ea56 ka56 rfl rfl (Nat.le_of_ble_eq_true rfl) dX7_gossip_121 ⟨(by decide), (by decide)⟩ ?_
              clear eS58 ea56 ka56
              refine g_iconst X dX7_gossip_124 (v := 3) (by decide) ?_
              obtain ⟨rfl, rfl⟩ := g_end h59
              exact g_xr (g_iret X hr (by decide) (by decide) dX7_gossip_125)
            · have h51 := g_in h47 c49; clear h47
              refine g_iconst X dX7_gossip_104 (v := 0) (by decide) ?_
              obtain ⟨rfl, rfl⟩ := g_end h51
              exact g_xr (g_iret X hr (by decide) (by decide) dX7_gossip_105)
          · have h41 := g_in h37 c39; clear h37
            refine g_lload (j := 1) X dX7_gossip_68 rfl ?_
            refine g_lload (j := 0) X dX7_gossip_70 rfl ?_
            refine g_lcmp X dX7_gossip_72 ?_
            refine g_if_le (tgt := 80) X dX7_gossip_73 (by decide) (fun c60 => ?_) (fun c60 => ?_)
            · have h61 := g_ip h41 c60; clear h41
              refine g_iconst X dX7_gossip_80 (v := 2) (by decide) ?_
              obtain ⟨rfl, rfl⟩ := g_end h61
              exact g_xr (g_iret X hr (by decide) (by decide) dX7_gossip_81)
            · have h62 := g_in h41 c60; clear h41
              refine g_iconst X dX7_gossip_76 (v := 1) (by decide) ?_
              refine g_goto (tgt := 81) X dX7_gossip_77 (by decide) ?_
              obtain ⟨rfl, rfl⟩ := g_end h62
              exact g_xr (g_iret X hr (by decide) (by decide) dX7_gossip_81)
    · refine g_xV (n := 2) (As := [.int v2, .int v3]) X (c_X7_viewOf hl D eS11) tw595 tw596 tw12 tw44 tw597 (by decide +kernel) rfl rfl ⟨Nat.le_of_ble_eq_true rfl, Nat.le_of_ble_eq_true rfl⟩ (ci := 7) rfl (by decide) ea9 ka9 rfl rfl (Nat.le_of_ble_eq_true rfl) dX7_gossip_11 ⟨(by decide), (by decide)⟩ (fun _ hx' => by cases hx') (fun E' hx' => ?_)
      cases hx'; obtain ⟨rfl, rfl⟩ := g_end h16; exact g_out X ht (by decide) (by decide)
  · refine g_xV (n := 2) (As := [.int v1, .int v3]) X (c_X7_viewOf hl D eS3) tw595 tw596 tw12 tw44 tw597 (by decide +kernel) rfl rfl ⟨Nat.le_of_ble_eq_true rfl, Nat.le_of_ble_eq_true rfl⟩ (ci := 7) rfl (by decide) ea1 ka1 rfl rfl (Nat.le_of_ble_eq_true rfl) dX7_gossip_3 ⟨(by decide), (by decide)⟩ (fun _ hx' => by cases hx') (fun E' hx' => ?_)
    cases hx'; obtain ⟨rfl, rfl⟩ := g_end h8; exact g_out X ht (by decide) (by decide)
def f_X7_has (S0 : gS) (a0 : Nat) (v1 : Int32) (v2 : Int32) (v3 : Int32) : Option ((String ⊕ Int32) × gS) :=
  gDc S0 7 (some a0) fun a1 =>
  gBx (f_X7_viewOf S0 a1 v1 v2) (fun E6 S7 => some (.inl E6, S7)) fun x5 S3 =>
  gDc S3 6 x5 fun a9 =>
  gBi (f_X6_rowAt S3 a9 v3) fun x13 S11 =>
  gnl x13 (
    some (.inl "java/util/NoSuchElementException", gsZ S11 (gZ S11 + 1))
  ) (
    (fgR S11 7 1 (some a0)).bind fun x18 =>
    (fgR S11 3 0 x13).bind fun x20 =>
    (fgR S11 3 0 x13).bind fun x22 =>
    (fN S11 x22).bind fun x24 =>
    gDc S11 5 x18 fun a26 =>
    (f_X5_become S11 a26 x20 x24).bind fun S28 =>
    some (.inr 1, S28)
  )
set_option maxRecDepth 100000 in
set_option maxHeartbeats 4000000 in
theorem c_X7_has {l : Launch} (hl : l.stackTraces = false) (D : gD)  {S0 S9 : gS} {a0 : Nat} {v1 : Int32} {v2 : Int32} {v3 : Int32} {res : String ⊕ Int32} (h0 : f_X7_has S0 a0 v1 v2 v3 = some (res, S9)) : vx_Met l yX7_has (gws yX7_has cX7_has 5 (some .boolean)) { frames := 7, cells := 2, slots := 12, locals := 109 } (gPc D S0 [.ref a0, .int v1, .int v2, .int v3]) (gQX D (fun x : Int32 => Value.int x) res S9) (gXX D res S9) (2) (12) (gF D) := by
  refine g_xmet (lv := [(0, va_rf (some a0)), (1, .int v1), (2, .int v2), (3, .int v3)]) hl (by decide) (Nat.le_of_ble_eq_true rfl) rfl (fun p e s m args below meth c X hr ht => ?_)
  have X : gX D p l s m args meth c cX7_has 5 RX7 := X
  unfold f_X7_has at h0
  refine g_aload_n (j := 0) X dX7_has_0 rfl rfl ?_
  refine g_iload_n (j := 1) X dX7_has_1 rfl rfl ?_
  refine g_iload_n (j := 2) X dX7_has_2 rfl rfl ?_
  obtain ⟨a1, ea1, ka1, h2⟩ := g_dc h0; clear h0
  rcases g_bx h2 with ⟨x5, S3, eS3, h4⟩ | ⟨E6, S7, eS3, h8⟩
  · refine g_xV (n := 2) (As := [.int v1, .int v2]) X (c_X7_viewOf hl D eS3) tw595 tw596 tw12 tw44 tw597 (by decide +kernel) rfl rfl ⟨Nat.le_of_ble_eq_true rfl, Nat.le_of_ble_eq_true rfl⟩ (ci := 7) rfl (by decide) ea1 ka1 rfl rfl (Nat.le_of_ble_eq_true rfl) dX7_has_3 ⟨(by decide), (by decide)⟩ (fun x' hx' => ?_) (fun _ hx' => by cases hx')
    cases hx'; clear h2 eS3 ea1 ka1
    refine g_iload_n (j := 3) X dX7_has_6 rfl rfl ?_
    obtain ⟨a9, ea9, ka9, h10⟩ := g_dc h4; clear h4
    obtain ⟨x13, S11, eS11, h12⟩ := g_bi h10; clear h10
    refine g_cV (n := 1) (As := [.int v3]) X (c_X6_rowAt hl D eS11) tw628 tw629 tw630 tw48 tw631 (by decide +kernel) rfl rfl ⟨Nat.le_of_ble_eq_true rfl, Nat.le_of_ble_eq_true rfl⟩ (ci := 6) rfl (by decide) ea9 ka9 rfl rfl (Nat.le_of_ble_eq_true rfl) dX7_has_7 ⟨(by decide), (by decide)⟩ ?_
    clear eS11 ea9 ka9
    refine g_astore (i := 4) (lv' := [(4, va_rf x13), (0, va_rf (some a0)), (1, .int v1), (2, .int v2), (3, .int v3)]) X dX7_has_10 (by decide) rfl ?_
    refine g_aload (j := 0) X dX7_has_12 rfl ?_
    refine g_ifnonnull (tgt := 27) X dX7_has_14 (by decide) (fun c16 => ?_) (fun q17 c16 => ?_)
    · have h14 := g_nln h12 c16; clear h12
      obtain ⟨rfl, rfl⟩ := g_end h14
      exact g_throwN (is := 249) (text := "the WITNESS has no such HEAD") X ht rfl tw485 tw62 (by decide +kernel) tx_135_1 tx_135_2 tx_135_131_3 dX7_has_17 dX7_has_20 dX7_has_21 dX7_has_23 dX7_has_26 (by decide) (Nat.le_of_ble_eq_true rfl) (by decide) (by decide) (by decide) (by decide)
    · have h15 := g_nls h12 c16; clear h12
      refine g_aload_n (j := 1) X dX7_has_27 rfl rfl ?_
      obtain ⟨x18, ex18, h19⟩ := g_bd h15; clear h15
      refine g_fR (ci := 7) (k := 1) X rfl il7 (by decide) tw187 (by decide) (fun _ _ _ => rfl) ex18 dX7_has_28 ?_
      clear ex18
      refine g_aload (j := 0) X dX7_has_31 rfl ?_
      obtain ⟨x20, ex20, h21⟩ := g_bd h19; clear h19
      refine g_fR (ci := 3) (k := 0) X rfl il3 (by decide) tw424 (by decide) (fun _ _ _ => rfl) ex20 dX7_has_33 ?_
      clear ex20
      refine g_aload (j := 0) X dX7_has_36 rfl ?_
      obtain ⟨x22, ex22, h23⟩ := g_bd h21; clear h21
      refine g_fR (ci := 3) (k := 0) X rfl il3 (by decide) tw424 (by decide) (fun _ _ _ => rfl) ex22 dX7_has_38 ?_
      clear ex22
      obtain ⟨x24, ex24, h25⟩ := g_bd h23; clear h23
      refine g_alen X ex24 dX7_has_41 ?_
      clear ex24
      obtain ⟨a26, ea26, ka26, h27⟩ := g_dc h25; clear h25
      obtain ⟨S28, eS28, h29⟩ := g_bd h27; clear h27
      refine g_cV (n := 2) (As := [va_rf x20, .int x24]) X (c_X5_become hl D eS28) tw501 tw502 tw503 tw45 tw504 (by decide +kernel) rfl rfl ⟨Nat.le_of_ble_eq_true rfl, Nat.le_of_ble_eq_true rfl⟩ (ci := 5) rfl (by decide) ea26 ka26 rfl rfl (Nat.le_of_ble_eq_true rfl) dX7_has_42 ⟨(by decide), (by decide)⟩ ?_
      clear eS28 ea26 ka26
      refine g_iconst X dX7_has_45 (v := 1) (by decide) ?_
      obtain ⟨rfl, rfl⟩ := g_end h29
      exact g_xr (g_zret X hr (Or.inr rfl) (by decide) (by decide) dX7_has_46)
  · refine g_xV (n := 2) (As := [.int v1, .int v2]) X (c_X7_viewOf hl D eS3) tw595 tw596 tw12 tw44 tw597 (by decide +kernel) rfl rfl ⟨Nat.le_of_ble_eq_true rfl, Nat.le_of_ble_eq_true rfl⟩ (ci := 7) rfl (by decide) ea1 ka1 rfl rfl (Nat.le_of_ble_eq_true rfl) dX7_has_3 ⟨(by decide), (by decide)⟩ (fun _ hx' => by cases hx') (fun E' hx' => ?_)
    cases hx'; obtain ⟨rfl, rfl⟩ := g_end h8; exact g_out X ht (by decide) (by decide)
def f_X8_init (S0 : gS) (a0 : Nat) : Option gS :=
  (fnA 2220 2220).bind fun k1 =>
  gLet (gZ S0) fun z5 =>
  gLet (gnw S0 10 k1) fun S3 =>
  (fpR S3 8 1 (some a0) (some z5)).bind fun S7 =>
  (fnA 2400 2400).bind fun k9 =>
  gLet (gZ S7) fun z13 =>
  gLet (gnw S7 10 k9) fun S11 =>
  (fpR S11 8 3 (some a0) (some z13)).bind fun S15 =>
  (fnA 200 200).bind fun k17 =>
  gLet (gZ S15) fun z21 =>
  gLet (gnw S15 10 k17) fun S19 =>
  (fpR S19 8 5 (some a0) (some z21)).bind fun S23 =>
  (fnA 2 2).bind fun k25 =>
  gLet (gZ S23) fun z29 =>
  gLet (gnw S23 10 k25) fun S27 =>
  (fpR S27 8 6 (some a0) (some z29)).bind fun S31 =>
  (fnA 48000 48000).bind fun k33 =>
  gLet (gZ S31) fun z37 =>
  gLet (gnw S31 10 k33) fun S35 =>
  (fpR S35 8 7 (some a0) (some z37)).bind fun S39 =>
  (fnA 400 400).bind fun k41 =>
  gLet (gZ S39) fun z45 =>
  gLet (gnw S39 10 k41) fun S43 =>
  (fpR S43 8 8 (some a0) (some z45)).bind fun S47 =>
  (fnA 2 2).bind fun k49 =>
  gLet (gZ S47) fun z53 =>
  gLet (gnw S47 10 k49) fun S51 =>
  (fpR S51 8 9 (some a0) (some z53)).bind fun S55 =>
  (fnA 2 2).bind fun k57 =>
  gLet (gZ S55) fun z61 =>
  gLet (gnw S55 10 k57) fun S59 =>
  (fpR S59 8 10 (some a0) (some z61)).bind fun S63 =>
  (fnA 6400 6400).bind fun k65 =>
  gLet (gZ S63) fun z69 =>
  gLet (gnw S63 10 k65) fun S67 =>
  (fpR S67 8 11 (some a0) (some z69)).bind fun S71 =>
  (fnA 2 2).bind fun k73 =>
  gLet (gZ S71) fun z77 =>
  gLet (gnw S71 11 k73) fun S75 =>
  (fpR S75 8 12 (some a0) (some z77)).bind fun S79 =>
  (fnA 2 2).bind fun k81 =>
  gLet (gZ S79) fun z85 =>
  gLet (gnw S79 10 k81) fun S83 =>
  (fpR S83 8 13 (some a0) (some z85)).bind fun S87 =>
  (fnA 1920 1920).bind fun k89 =>
  gLet (gZ S87) fun z93 =>
  gLet (gnw S87 10 k89) fun S91 =>
  (fpR S91 8 14 (some a0) (some z93)).bind fun S95 =>
  (fnA 24 24).bind fun k97 =>
  gLet (gZ S95) fun z101 =>
  gLet (gnw S95 12 k97) fun S99 =>
  (fpR S99 8 15 (some a0) (some z101)).bind fun S103 =>
  (fnA 320 320).bind fun k105 =>
  gLet (gZ S103) fun z109 =>
  gLet (gnw S103 10 k105) fun S107 =>
  (fpR S107 8 16 (some a0) (some z109)).bind fun S111 =>
  (fnA 8 8).bind fun k113 =>
  gLet (gZ S111) fun z117 =>
  gLet (gnw S111 10 k113) fun S115 =>
  (fpR S115 8 18 (some a0) (some z117)).bind fun S119 =>
  (fnA 64 64).bind fun k121 =>
  gLet (gZ S119) fun z125 =>
  gLet (gnw S119 10 k121) fun S123 =>
  (fpR S123 8 19 (some a0) (some z125)).bind fun S127 =>
  (fnA 64 64).bind fun k129 =>
  gLet (gZ S127) fun z133 =>
  gLet (gnw S127 10 k129) fun S131 =>
  (faI S131 (some z133) 0 1116352408).bind fun S135 =>
  (faI S135 (some z133) 1 1899447441).bind fun S137 =>
  (faI S137 (some z133) 2 (-1245643825)).bind fun S139 =>
  (faI S139 (some z133) 3 (-373957723)).bind fun S141 =>
  (faI S141 (some z133) 4 961987163).bind fun S143 =>
  (faI S143 (some z133) 5 1508970993).bind fun S145 =>
  (faI S145 (some z133) 6 (-1841331548)).bind fun S147 =>
  (faI S147 (some z133) 7 (-1424204075)).bind fun S149 =>
  (faI S149 (some z133) 8 (-670586216)).bind fun S151 =>
  (faI S151 (some z133) 9 310598401).bind fun S153 =>
  (faI S153 (some z133) 10 607225278).bind fun S155 =>
  (faI S155 (some z133) 11 1426881987).bind fun S157 =>
  (faI S157 (some z133) 12 1925078388).bind fun S159 =>
  (faI S159 (some z133) 13 (-2132889090)).bind fun S161 =>
  (faI S161 (some z133) 14 (-1680079193)).bind fun S163 =>
  (faI S163 (some z133) 15 (-1046744716)).bind fun S165 =>
  (faI S165 (some z133) 16 (-459576895)).bind fun S167 =>
  (faI S167 (some z133) 17 (-272742522)).bind fun S169 =>
  (faI S169 (some z133) 18 264347078).bind fun S171 =>
  (faI S171 (some z133) 19 604807628).bind fun S173 =>
  (faI S173 (some z133) 20 770255983).bind fun S175 =>
  (faI S175 (some z133) 21 1249150122).bind fun S177 =>
  (faI S177 (some z133) 22 1555081692).bind fun S179 =>
  (faI S179 (some z133) 23 1996064986).bind fun S181 =>
  (faI S181 (some z133) 24 (-1740746414)).bind fun S183 =>
  (faI S183 (some z133) 25 (-1473132947)).bind fun S185 =>
  (faI S185 (some z133) 26 (-1341970488)).bind fun S187 =>
  (faI S187 (some z133) 27 (-1084653625)).bind fun S189 =>
  (faI S189 (some z133) 28 (-958395405)).bind fun S191 =>
  (faI S191 (some z133) 29 (-710438585)).bind fun S193 =>
  (faI S193 (some z133) 30 113926993).bind fun S195 =>
  (faI S195 (some z133) 31 338241895).bind fun S197 =>
  (faI S197 (some z133) 32 666307205).bind fun S199 =>
  (faI S199 (some z133) 33 773529912).bind fun S201 =>
  (faI S201 (some z133) 34 1294757372).bind fun S203 =>
  (faI S203 (some z133) 35 1396182291).bind fun S205 =>
  (faI S205 (some z133) 36 1695183700).bind fun S207 =>
  (faI S207 (some z133) 37 1986661051).bind fun S209 =>
  (faI S209 (some z133) 38 (-2117940946)).bind fun S211 =>
  (faI S211 (some z133) 39 (-1838011259)).bind fun S213 =>
  (faI S213 (some z133) 40 (-1564481375)).bind fun S215 =>
  (faI S215 (some z133) 41 (-1474664885)).bind fun S217 =>
  (faI S217 (some z133) 42 (-1035236496)).bind fun S219 =>
  (faI S219 (some z133) 43 (-949202525)).bind fun S221 =>
  (faI S221 (some z133) 44 (-778901479)).bind fun S223 =>
  (faI S223 (some z133) 45 (-694614492)).bind fun S225 =>
  (faI S225 (some z133) 46 (-200395387)).bind fun S227 =>
  (faI S227 (some z133) 47 275423344).bind fun S229 =>
  (faI S229 (some z133) 48 430227734).bind fun S231 =>
  (faI S231 (some z133) 49 506948616).bind fun S233 =>
  (faI S233 (some z133) 50 659060556).bind fun S235 =>
  (faI S235 (some z133) 51 883997877).bind fun S237 =>
  (faI S237 (some z133) 52 958139571).bind fun S239 =>
  (faI S239 (some z133) 53 1322822218).bind fun S241 =>
  (faI S241 (some z133) 54 1537002063).bind fun S243 =>
  (faI S243 (some z133) 55 1747873779).bind fun S245 =>
  (faI S245 (some z133) 56 1955562222).bind fun S247 =>
  (faI S247 (some z133) 57 2024104815).bind fun S249 =>
  (faI S249 (some z133) 58 (-2067236844)).bind fun S251 =>
  (faI S251 (some z133) 59 (-1933114872)).bind fun S253 =>
  (faI S253 (some z133) 60 (-1866530822)).bind fun S255 =>
  (faI S255 (some z133) 61 (-1538233109)).bind fun S257 =>
  (faI S257 (some z133) 62 (-1090935817)).bind fun S259 =>
  (faI S259 (some z133) 63 (-965641998)).bind fun S261 =>
  (fpR S261 8 20 (some a0) (some z133)).bind fun S263 =>
  (fnA 800 800).bind fun k265 =>
  gLet (gZ S263) fun z269 =>
  gLet (gnw S263 10 k265) fun S267 =>
  (fpR S267 8 21 (some a0) (some z269)).bind fun S271 =>
  (fnA 70 70).bind fun k273 =>
  gLet (gZ S271) fun z277 =>
  gLet (gnw S271 10 k273) fun S275 =>
  (fpR S275 8 22 (some a0) (some z277)).bind fun S279 =>
  some S279
set_option maxRecDepth 100000 in
set_option maxHeartbeats 4000000 in
theorem c_X8_init {l : Launch} (hl : l.stackTraces = false) (D : gD)  {S0 S9 : gS} {a0 : Nat} (h0 : f_X8_init S0 a0 = some S9) : Met l yX8_init (gws yX8_init cX8_init 1 none) { frames := 1, cells := 19, slots := 62900, locals := 12 } (gPc D S0 [.ref a0]) (gQ D none S9) (19) (62900) (gF D) := by
  refine g_met (lv := [(0, va_rf (some a0))]) hl (by decide) (Nat.le_of_ble_eq_true rfl) rfl (fun p e s m args below meth c X hr hn => ?_)
  have X : gX D p l s m args meth c cX8_init 1 RX8 := X
  have hin : meth.name = "<init>" := hn
  unfold f_X8_init at h0
  refine g_aload_n (j := 0) X dX8_init_0 rfl rfl ?_
  refine g_obji X rfl tw637 tw70 tw71 dX8_init_1 (by decide) (Nat.le_of_ble_eq_true rfl) ?_
  refine g_aload_n (j := 0) X dX8_init_4 rfl rfl ?_
  refine g_sipush X dX8_init_5 (v := 2220) (by decide) ?_
  obtain ⟨k1, ek1, h2⟩ := g_bd h0; clear h0
  refine g_newa10 (cap := 2220) X tw104 ek1 (by decide) (by decide) (by decide) dX8_init_8 ?_
  refine g_wid (k := 1) (n := 2220) (Nat.le_refl _) (Nat.add_le_add_left (fnA_s ek1).2.2 _) ?_
  clear ek1
  obtain ⟨z5, ez5, h6⟩ := g_let h2; clear h2; rw [← ez5]; clear ez5
  obtain ⟨S3, eS3, h4⟩ := g_let h6; clear h6; rw [← eS3]; clear eS3
  obtain ⟨S7, eS7, h8⟩ := g_bd h4; clear h4
  refine g_pFa (ci := 8) (k := 1) X hin rfl il8 tyX8 tyX8_ok nmX8 (by decide) tw704 rfl rfl (by decide) (fun _ _ _ => rfl) rfl eS7 dX8_init_10 ?_
  clear eS7
  refine g_aload_n (j := 0) X dX8_init_13 rfl rfl ?_
  refine g_sipush X dX8_init_14 (v := 2400) (by decide) ?_
  obtain ⟨k9, ek9, h10⟩ := g_bd h8; clear h8
  refine g_newa10 (cap := 2400) X tw104 ek9 (by decide) (by decide) (by decide) dX8_init_17 ?_
  refine g_wid (k := 2) (n := 4620) (Nat.le_refl _) (Nat.add_le_add_left (fnA_s ek9).2.2 _) ?_
  clear ek9
  obtain ⟨z13, ez13, h14⟩ := g_let h10; clear h10; rw [← ez13]; clear ez13
  obtain ⟨S11, eS11, h12⟩ := g_let h14; clear h14; rw [← eS11]; clear eS11
  obtain ⟨S15, eS15, h16⟩ := g_bd h12; clear h12
  refine g_pFa (ci := 8) (k := 3) X hin rfl il8 tyX8 tyX8_ok nmX8 (by decide) tw706 rfl rfl (by decide) (fun _ _ _ => rfl) rfl eS15 dX8_init_19 ?_
  clear eS15
  refine g_aload_n (j := 0) X dX8_init_22 rfl rfl ?_
  refine g_sipush X dX8_init_23 (v := 200) (by decide) ?_
  obtain ⟨k17, ek17, h18⟩ := g_bd h16; clear h16
  refine g_newa10 (cap := 200) X tw104 ek17 (by decide) (by decide) (by decide) dX8_init_26 ?_
  refine g_wid (k := 3) (n := 4820) (Nat.le_refl _) (Nat.add_le_add_left (fnA_s ek17).2.2 _) ?_
  clear ek17
  obtain ⟨z21, ez21, h22⟩ := g_let h18; clear h18; rw [← ez21]; clear ez21
  obtain ⟨S19, eS19, h20⟩ := g_let h22; clear h22; rw [← eS19]; clear eS19
  obtain ⟨S23, eS23, h24⟩ := g_bd h20; clear h20
  refine g_pFa (ci := 8) (k := 5) X hin rfl il8 tyX8 tyX8_ok nmX8 (by decide) tw708 rfl rfl (by decide) (fun _ _ _ => rfl) rfl eS23 dX8_init_28 ?_
  clear eS23
  refine g_aload_n (j := 0) X dX8_init_31 rfl rfl ?_
  refine g_iconst X dX8_init_32 (v := 2) (by decide) ?_
  obtain ⟨k25, ek25, h26⟩ := g_bd h24; clear h24
  refine g_newa10 (cap := 2) X tw104 ek25 (by decide) (by decide) (by decide) dX8_init_33 ?_
  refine g_wid (k := 4) (n := 4822) (Nat.le_refl _) (Nat.add_le_add_left (fnA_s ek25).2.2 _) ?_
  clear ek25
  obtain ⟨z29, ez29, h30⟩ := g_let h26; clear h26; rw [← ez29]; clear ez29
  obtain ⟨S27, eS27, h28⟩ := g_let h30; clear h30; rw [← eS27]; clear eS27
  obtain ⟨S31, eS31, h32⟩ := g_bd h28; clear h28
  refine g_pFa (ci := 8) (k := 6) X hin rfl il8 tyX8 tyX8_ok nmX8 (by decide) tw709 rfl rfl (by decide) (fun _ _ _ => rfl) rfl eS31 dX8_init_35 ?_
  clear eS31
  refine g_aload_n (j := 0) X dX8_init_38 rfl rfl ?_
  refine g_ldc X tw638 dX8_init_39 ?_
  obtain ⟨k33, ek33, h34⟩ := g_bd h32; clear h32
  refine g_newa10 (cap := 48000) X tw104 ek33 (by decide) (by decide) (by decide) dX8_init_41 ?_
  refine g_wid (k := 5) (n := 52822) (Nat.le_refl _) (Nat.add_le_add_left (fnA_s ek33).2.2 _) ?_
  clear ek33
  obtain ⟨z37, ez37, h38⟩ := g_let h34; clear h34; rw [← ez37]; clear ez37
  obtain ⟨S35, eS35, h36⟩ := g_let h38; clear h38; rw [← eS35]; clear eS35
  obtain ⟨S39, eS39, h40⟩ := g_bd h36; clear h36
  refine g_pFa (ci := 8) (k := 7) X hin rfl il8 tyX8 tyX8_ok nmX8 (by decide) tw710 rfl rfl (by decide) (fun _ _ _ => rfl) rfl eS39 dX8_init_43 ?_
  clear eS39
  refine g_aload_n (j := 0) X dX8_init_46 rfl rfl ?_
  refine g_sipush X dX8_init_47 (v := 400) (by decide) ?_
  obtain ⟨k41, ek41, h42⟩ := g_bd h40; clear h40
  refine g_newa10 (cap := 400) X tw104 ek41 (by decide) (by decide) (by decide) dX8_init_50 ?_
  refine g_wid (k := 6) (n := 53222) (Nat.le_refl _) (Nat.add_le_add_left (fnA_s ek41).2.2 _) ?_
  clear ek41
  obtain ⟨z45, ez45, h46⟩ := g_let h42; clear h42; rw [← ez45]; clear ez45
  obtain ⟨S43, eS43, h44⟩ := g_let h46; clear h46; rw [← eS43]; clear eS43
  obtain ⟨S47, eS47, h48⟩ := g_bd h44; clear h44
  refine g_pFa (ci := 8) (k := 8) X hin rfl il8 tyX8 tyX8_ok nmX8 (by decide) tw711 rfl rfl (by decide) (fun _ _ _ => rfl) rfl eS47 dX8_init_52 ?_
  clear eS47
  refine g_aload_n (j := 0) X dX8_init_55 rfl rfl ?_
  refine g_iconst X dX8_init_56 (v := 2) (by decide) ?_
  obtain ⟨k49, ek49, h50⟩ := g_bd h48; clear h48
  refine g_newa10 (cap := 2) X tw104 ek49 (by decide) (by decide) (by decide) dX8_init_57 ?_
  refine g_wid (k := 7) (n := 53224) (Nat.le_refl _) (Nat.add_le_add_left (fnA_s ek49).2.2 _) ?_
  clear ek49
  obtain ⟨z53, ez53, h54⟩ := g_let h50; clear h50; rw [← ez53]; clear ez53
  obtain ⟨S51, eS51, h52⟩ := g_let h54; clear h54; rw [← eS51]; clear eS51
  obtain ⟨S55, eS55, h56⟩ := g_bd h52; clear h52
  refine g_pFa (ci := 8) (k := 9) X hin rfl il8 tyX8 tyX8_ok nmX8 (by decide) tw712 rfl rfl (by decide) (fun _ _ _ => rfl) rfl eS55 dX8_init_59 ?_
  clear eS55
  refine g_aload_n (j := 0) X dX8_init_62 rfl rfl ?_
  refine g_iconst X dX8_init_63 (v := 2) (by decide) ?_
  obtain ⟨k57, ek57, h58⟩ := g_bd h56; clear h56
  refine g_newa10 (cap := 2) X tw104 ek57 (by decide) (by decide) (by decide) dX8_init_64 ?_
  refine g_wid (k := 8) (n := 53226) (Nat.le_refl _) (Nat.add_le_add_left (fnA_s ek57).2.2 _) ?_
  clear ek57
  obtain ⟨z61, ez61, h62⟩ := g_let h58; clear h58; rw [← ez61]; clear ez61
  obtain ⟨S59, eS59, h60⟩ := g_let h62; clear h62; rw [← eS59]; clear eS59
  obtain ⟨S63, eS63, h64⟩ := g_bd h60; clear h60
  refine g_pFa (ci := 8) (k := 10) X hin rfl il8 tyX8 tyX8_ok nmX8 (by decide) tw713 rfl rfl (by decide) (fun _ _ _ => rfl) rfl eS63 dX8_init_66 ?_
  clear eS63
  refine g_aload_n (j := 0) X dX8_init_69 rfl rfl ?_
  refine g_sipush X dX8_init_70 (v := 6400) (by decide) ?_
  obtain ⟨k65, ek65, h66⟩ := g_bd h64; clear h64
  refine g_newa10 (cap := 6400) X tw104 ek65 (by decide) (by decide) (by decide) dX8_init_73 ?_
  refine g_wid (k := 9) (n := 59626) (Nat.le_refl _) (Nat.add_le_add_left (fnA_s ek65).2.2 _) ?_
  clear ek65
  obtain ⟨z69, ez69, h70⟩ := g_let h66; clear h66; rw [← ez69]; clear ez69
  obtain ⟨S67, eS67, h68⟩ := g_let h70; clear h70; rw [← eS67]; clear eS67
  obtain ⟨S71, eS71, h72⟩ := g_bd h68; clear h68
  refine g_pFa (ci := 8) (k := 11) X hin rfl il8 tyX8 tyX8_ok nmX8 (by decide) tw714 rfl rfl (by decide) (fun _ _ _ => rfl) rfl eS71 dX8_init_75 ?_
  clear eS71
  refine g_aload_n (j := 0) X dX8_init_78 rfl rfl ?_
  refine g_iconst X dX8_init_79 (v := 2) (by decide) ?_
  obtain ⟨k73, ek73, h74⟩ := g_bd h72; clear h72
  refine g_newa11 (cap := 2) X tw172 ek73 (by decide) (by decide) (by decide) dX8_init_80 ?_
  refine g_wid (k := 10) (n := 59628) (Nat.le_refl _) (Nat.add_le_add_left (fnA_s ek73).2.2 _) ?_
  clear ek73
  obtain ⟨z77, ez77, h78⟩ := g_let h74; clear h74; rw [← ez77]; clear ez77
  obtain ⟨S75, eS75, h76⟩ := g_let h78; clear h78; rw [← eS75]; clear eS75
  obtain ⟨S79, eS79, h80⟩ := g_bd h76; clear h76
  refine g_pFa (ci := 8) (k := 12) X hin rfl il8 tyX8 tyX8_ok nmX8 (by decide) tw715 rfl rfl (by decide) (fun _ _ _ => rfl) rfl eS79 dX8_init_82 ?_
  clear eS79
  refine g_aload_n (j := 0) X dX8_init_85 rfl rfl ?_
  refine g_iconst X dX8_init_86 (v := 2) (by decide) ?_
  obtain ⟨k81, ek81, h82⟩ := g_bd h80; clear h80
  refine g_newa10 (cap := 2) X tw104 ek81 (by decide) (by decide) (by decide) dX8_init_87 ?_
  refine g_wid (k := 11) (n := 59630) (Nat.le_refl _) (Nat.add_le_add_left (fnA_s ek81).2.2 _) ?_
  clear ek81
  obtain ⟨z85, ez85, h86⟩ := g_let h82; clear h82; rw [← ez85]; clear ez85
  obtain ⟨S83, eS83, h84⟩ := g_let h86; clear h86; rw [← eS83]; clear eS83
  obtain ⟨S87, eS87, h88⟩ := g_bd h84; clear h84
  refine g_pFa (ci := 8) (k := 13) X hin rfl il8 tyX8 tyX8_ok nmX8 (by decide) tw716 rfl rfl (by decide) (fun _ _ _ => rfl) rfl eS87 dX8_init_89 ?_
  clear eS87
  refine g_aload_n (j := 0) X dX8_init_92 rfl rfl ?_
  refine g_sipush X dX8_init_93 (v := 1920) (by decide) ?_
  obtain ⟨k89, ek89, h90⟩ := g_bd h88; clear h88
  refine g_newa10 (cap := 1920) X tw104 ek89 (by decide) (by decide) (by decide) dX8_init_96 ?_
  refine g_wid (k := 12) (n := 61550) (Nat.le_refl _) (Nat.add_le_add_left (fnA_s ek89).2.2 _) ?_
  clear ek89
  obtain ⟨z93, ez93, h94⟩ := g_let h90; clear h90; rw [← ez93]; clear ez93
  obtain ⟨S91, eS91, h92⟩ := g_let h94; clear h94; rw [← eS91]; clear eS91
  obtain ⟨S95, eS95, h96⟩ := g_bd h92; clear h92
  refine g_pFa (ci := 8) (k := 14) X hin rfl il8 tyX8 tyX8_ok nmX8 (by decide) tw717 rfl rfl (by decide) (fun _ _ _ => rfl) rfl eS95 dX8_init_98 ?_
  clear eS95
  refine g_aload_n (j := 0) X dX8_init_101 rfl rfl ?_
  refine g_bipush X dX8_init_102 (v := 24) (by decide) ?_
  obtain ⟨k97, ek97, h98⟩ := g_bd h96; clear h96
  refine g_newa12 (cap := 24) X tw173 ek97 (by decide) (by decide) (by decide) dX8_init_104 ?_
  refine g_wid (k := 13) (n := 61574) (Nat.le_refl _) (Nat.add_le_add_left (fnA_s ek97).2.2 _) ?_
  clear ek97
  obtain ⟨z101, ez101, h102⟩ := g_let h98; clear h98; rw [← ez101]; clear ez101
  obtain ⟨S99, eS99, h100⟩ := g_let h102; clear h102; rw [← eS99]; clear eS99
  obtain ⟨S103, eS103, h104⟩ := g_bd h100; clear h100
  refine g_pFa (ci := 8) (k := 15) X hin rfl il8 tyX8 tyX8_ok nmX8 (by decide) tw718 rfl rfl (by decide) (fun _ _ _ => rfl) rfl eS103 dX8_init_106 ?_
  clear eS103
  refine g_aload_n (j := 0) X dX8_init_109 rfl rfl ?_
  refine g_sipush X dX8_init_110 (v := 320) (by decide) ?_
  obtain ⟨k105, ek105, h106⟩ := g_bd h104; clear h104
  refine g_newa10 (cap := 320) X tw104 ek105 (by decide) (by decide) (by decide) dX8_init_113 ?_
  refine g_wid (k := 14) (n := 61894) (Nat.le_refl _) (Nat.add_le_add_left (fnA_s ek105).2.2 _) ?_
  clear ek105
  obtain ⟨z109, ez109, h110⟩ := g_let h106; clear h106; rw [← ez109]; clear ez109
  obtain ⟨S107, eS107, h108⟩ := g_let h110; clear h110; rw [← eS107]; clear eS107
  obtain ⟨S111, eS111, h112⟩ := g_bd h108; clear h108
  refine g_pFa (ci := 8) (k := 16) X hin rfl il8 tyX8 tyX8_ok nmX8 (by decide) tw719 rfl rfl (by decide) (fun _ _ _ => rfl) rfl eS111 dX8_init_115 ?_
  clear eS111
  refine g_aload_n (j := 0) X dX8_init_118 rfl rfl ?_
  refine g_bipush X dX8_init_119 (v := 8) (by decide) ?_
  obtain ⟨k113, ek113, h114⟩ := g_bd h112; clear h112
  refine g_newa10 (cap := 8) X tw104 ek113 (by decide) (by decide) (by decide) dX8_init_121 ?_
  refine g_wid (k := 15) (n := 61902) (Nat.le_refl _) (Nat.add_le_add_left (fnA_s ek113).2.2 _) ?_
  clear ek113
  obtain ⟨z117, ez117, h118⟩ := g_let h114; clear h114; rw [← ez117]; clear ez117
  obtain ⟨S115, eS115, h116⟩ := g_let h118; clear h118; rw [← eS115]; clear eS115
  obtain ⟨S119, eS119, h120⟩ := g_bd h116; clear h116
  refine g_pFa (ci := 8) (k := 18) X hin rfl il8 tyX8 tyX8_ok nmX8 (by decide) tw721 rfl rfl (by decide) (fun _ _ _ => rfl) rfl eS119 dX8_init_123 ?_
  clear eS119
  refine g_aload_n (j := 0) X dX8_init_126 rfl rfl ?_
  refine g_bipush X dX8_init_127 (v := 64) (by decide) ?_
  obtain ⟨k121, ek121, h122⟩ := g_bd h120; clear h120
  refine g_newa10 (cap := 64) X tw104 ek121 (by decide) (by decide) (by decide) dX8_init_129 ?_
  refine g_wid (k := 16) (n := 61966) (Nat.le_refl _) (Nat.add_le_add_left (fnA_s ek121).2.2 _) ?_
  clear ek121
  obtain ⟨z125, ez125, h126⟩ := g_let h122; clear h122; rw [← ez125]; clear ez125
  obtain ⟨S123, eS123, h124⟩ := g_let h126; clear h126; rw [← eS123]; clear eS123
  obtain ⟨S127, eS127, h128⟩ := g_bd h124; clear h124
  refine g_pFa (ci := 8) (k := 19) X hin rfl il8 tyX8 tyX8_ok nmX8 (by decide) tw722 rfl rfl (by decide) (fun _ _ _ => rfl) rfl eS127 dX8_init_131 ?_
  clear eS127
  refine g_aload_n (j := 0) X dX8_init_134 rfl rfl ?_
  refine g_bipush X dX8_init_135 (v := 64) (by decide) ?_
  obtain ⟨k129, ek129, h130⟩ := g_bd h128; clear h128
  refine g_newa10 (cap := 64) X tw104 ek129 (by decide) (by decide) (by decide) dX8_init_137 ?_
  refine g_wid (k := 17) (n := 62030) (Nat.le_refl _) (Nat.add_le_add_left (fnA_s ek129).2.2 _) ?_
  clear ek129
  obtain ⟨z133, ez133, h134⟩ := g_let h130; clear h130; rw [← ez133]; clear ez133
  obtain ⟨S131, eS131, h132⟩ := g_let h134; clear h134; rw [← eS131]; clear eS131
  refine g_dup X dX8_init_139 (g_rfc _) ?_
  refine g_iconst X dX8_init_140 (v := 0) (by decide) ?_
  refine g_ldc X tw639 dX8_init_141 ?_
  obtain ⟨S135, eS135, h136⟩ := g_bd h132; clear h132
  refine g_iast X eS135 dX8_init_143 ?_
  clear eS135
  refine g_dup X dX8_init_144 (g_rfc _) ?_
  refine g_iconst X dX8_init_145 (v := 1) (by decide) ?_
  refine g_ldc X tw640 dX8_init_146 ?_
  obtain ⟨S137, eS137, h138⟩ := g_bd h136; clear h136
  refine g_iast X eS137 dX8_init_148 ?_
  clear eS137
  refine g_dup X dX8_init_149 (g_rfc _) ?_
  refine g_iconst X dX8_init_150 (v := 2) (by decide) ?_
  refine g_ldc X tw641 dX8_init_151 ?_
  obtain ⟨S139, eS139, h140⟩ := g_bd h138; clear h138
  refine g_iast X eS139 dX8_init_153 ?_
  clear eS139
  refine g_dup X dX8_init_154 (g_rfc _) ?_
  refine g_iconst X dX8_init_155 (v := 3) (by decide) ?_
  refine g_ldc X tw642 dX8_init_156 ?_
  obtain ⟨S141, eS141, h142⟩ := g_bd h140; clear h140
  refine g_iast X eS141 dX8_init_158 ?_
  clear eS141
  refine g_dup X dX8_init_159 (g_rfc _) ?_
  refine g_iconst X dX8_init_160 (v := 4) (by decide) ?_
  refine g_ldc X tw643 dX8_init_161 ?_
  obtain ⟨S143, eS143, h144⟩ := g_bd h142; clear h142
  refine g_iast X eS143 dX8_init_163 ?_
  clear eS143
  refine g_dup X dX8_init_164 (g_rfc _) ?_
  refine g_iconst X dX8_init_165 (v := 5) (by decide) ?_
  refine g_ldc X tw644 dX8_init_166 ?_
  obtain ⟨S145, eS145, h146⟩ := g_bd h144; clear h144
  refine g_iast X eS145 dX8_init_168 ?_
  clear eS145
  refine g_dup X dX8_init_169 (g_rfc _) ?_
  refine g_bipush X dX8_init_170 (v := 6) (by decide) ?_
  refine g_ldc X tw645 dX8_init_172 ?_
  obtain ⟨S147, eS147, h148⟩ := g_bd h146; clear h146
  refine g_iast X eS147 dX8_init_174 ?_
  clear eS147
  refine g_dup X dX8_init_175 (g_rfc _) ?_
  refine g_bipush X dX8_init_176 (v := 7) (by decide) ?_
  refine g_ldc X tw646 dX8_init_178 ?_
  obtain ⟨S149, eS149, h150⟩ := g_bd h148; clear h148
  refine g_iast X eS149 dX8_init_180 ?_
  clear eS149
  refine g_dup X dX8_init_181 (g_rfc _) ?_
  refine g_bipush X dX8_init_182 (v := 8) (by decide) ?_
  refine g_ldc X tw647 dX8_init_184 ?_
  obtain ⟨S151, eS151, h152⟩ := g_bd h150; clear h150
  refine g_iast X eS151 dX8_init_186 ?_
  clear eS151
  refine g_dup X dX8_init_187 (g_rfc _) ?_
  refine g_bipush X dX8_init_188 (v := 9) (by decide) ?_
  refine g_ldc X tw648 dX8_init_190 ?_
  obtain ⟨S153, eS153, h154⟩ := g_bd h152; clear h152
  refine g_iast X eS153 dX8_init_192 ?_
  clear eS153
  refine g_dup X dX8_init_193 (g_rfc _) ?_
  refine g_bipush X dX8_init_194 (v := 10) (by decide) ?_
  refine g_ldc X tw649 dX8_init_196 ?_
  obtain ⟨S155, eS155, h156⟩ := g_bd h154; clear h154
  refine g_iast X eS155 dX8_init_198 ?_
  clear eS155
  refine g_dup X dX8_init_199 (g_rfc _) ?_
  refine g_bipush X dX8_init_200 (v := 11) (by decide) ?_
  refine g_ldc X tw650 dX8_init_202 ?_
  obtain ⟨S157, eS157, h158⟩ := g_bd h156; clear h156
  refine g_iast X eS157 dX8_init_204 ?_
  clear eS157
  refine g_dup X dX8_init_205 (g_rfc _) ?_
  refine g_bipush X dX8_init_206 (v := 12) (by decide) ?_
  refine g_ldc X tw651 dX8_init_208 ?_
  obtain ⟨S159, eS159, h160⟩ := g_bd h158; clear h158
  refine g_iast X eS159 dX8_init_210 ?_
  clear eS159
  refine g_dup X dX8_init_211 (g_rfc _) ?_
  refine g_bipush X dX8_init_212 (v := 13) (by decide) ?_
  refine g_ldc X tw652 dX8_init_214 ?_
  obtain ⟨S161, eS161, h162⟩ := g_bd h160; clear h160
  refine g_iast X eS161 dX8_init_216 ?_
  clear eS161
  refine g_dup X dX8_init_217 (g_rfc _) ?_
  refine g_bipush X dX8_init_218 (v := 14) (by decide) ?_
  refine g_ldc X tw653 dX8_init_220 ?_
  obtain ⟨S163, eS163, h164⟩ := g_bd h162; clear h162
  refine g_iast X eS163 dX8_init_222 ?_
  clear eS163
  refine g_dup X dX8_init_223 (g_rfc _) ?_
  refine g_bipush X dX8_init_224 (v := 15) (by decide) ?_
  refine g_ldc X tw654 dX8_init_226 ?_
  obtain ⟨S165, eS165, h166⟩ := g_bd h164; clear h164
  refine g_iast X eS165 dX8_init_228 ?_
  clear eS165
  refine g_dup X dX8_init_229 (g_rfc _) ?_
  refine g_bipush X dX8_init_230 (v := 16) (by decide) ?_
  refine g_ldc X tw655 dX8_init_232 ?_
  obtain ⟨S167, eS167, h168⟩ := g_bd h166; clear h166
  refine g_iast X eS167 dX8_init_234 ?_
  clear eS167
  refine g_dup X dX8_init_235 (g_rfc _) ?_
  refine g_bipush X dX8_init_236 (v := 17) (by decide) ?_
  refine g_ldc X tw656 dX8_init_238 ?_
  obtain ⟨S169, eS169, h170⟩ := g_bd h168; clear h168
  refine g_iast X eS169 dX8_init_240 ?_
  clear eS169
  refine g_dup X dX8_init_241 (g_rfc _) ?_
  refine g_bipush X dX8_init_242 (v := 18) (by decide) ?_
  refine g_ldc X tw657 dX8_init_244 ?_
  obtain ⟨S171, eS171, h172⟩ := g_bd h170; clear h170
  refine g_iast X eS171 dX8_init_246 ?_
  clear eS171
  refine g_dup X dX8_init_247 (g_rfc _) ?_
  refine g_bipush X dX8_init_248 (v := 19) (by decide) ?_
  refine g_ldc X tw658 dX8_init_250 ?_
  obtain ⟨S173, eS173, h174⟩ := g_bd h172; clear h172
  refine g_iast X eS173 dX8_init_252 ?_
  clear eS173
  refine g_dup X dX8_init_253 (g_rfc _) ?_
  refine g_bipush X dX8_init_254 (v := 20) (by decide) ?_
  refine g_ldc X tw659 dX8_init_256 ?_
  obtain ⟨S175, eS175, h176⟩ := g_bd h174; clear h174
  refine g_iast X eS175 dX8_init_258 ?_
  clear eS175
  refine g_dup X dX8_init_259 (g_rfc _) ?_
  refine g_bipush X dX8_init_260 (v := 21) (by decide) ?_
  refine g_ldc X tw660 dX8_init_262 ?_
  obtain ⟨S177, eS177, h178⟩ := g_bd h176; clear h176
  refine g_iast X eS177 dX8_init_264 ?_
  clear eS177
  refine g_dup X dX8_init_265 (g_rfc _) ?_
  refine g_bipush X dX8_init_266 (v := 22) (by decide) ?_
  refine g_ldc X tw661 dX8_init_268 ?_
  obtain ⟨S179, eS179, h180⟩ := g_bd h178; clear h178
  refine g_iast X eS179 dX8_init_270 ?_
  clear eS179
  refine g_dup X dX8_init_271 (g_rfc _) ?_
  refine g_bipush X dX8_init_272 (v := 23) (by decide) ?_
  refine g_ldc X tw662 dX8_init_274 ?_
  obtain ⟨S181, eS181, h182⟩ := g_bd h180; clear h180
  refine g_iast X eS181 dX8_init_276 ?_
  clear eS181
  refine g_dup X dX8_init_277 (g_rfc _) ?_
  refine g_bipush X dX8_init_278 (v := 24) (by decide) ?_
  refine g_ldc X tw663 dX8_init_280 ?_
  obtain ⟨S183, eS183, h184⟩ := g_bd h182; clear h182
  refine g_iast X eS183 dX8_init_282 ?_
  clear eS183
  refine g_dup X dX8_init_283 (g_rfc _) ?_
  refine g_bipush X dX8_init_284 (v := 25) (by decide) ?_
  refine g_ldc X tw664 dX8_init_286 ?_
  obtain ⟨S185, eS185, h186⟩ := g_bd h184; clear h184
  refine g_iast X eS185 dX8_init_288 ?_
  clear eS185
  refine g_dup X dX8_init_289 (g_rfc _) ?_
  refine g_bipush X dX8_init_290 (v := 26) (by decide) ?_
  refine g_ldc X tw665 dX8_init_292 ?_
  obtain ⟨S187, eS187, h188⟩ := g_bd h186; clear h186
  refine g_iast X eS187 dX8_init_294 ?_
  clear eS187
  refine g_dup X dX8_init_295 (g_rfc _) ?_
  refine g_bipush X dX8_init_296 (v := 27) (by decide) ?_
  refine g_ldc X tw666 dX8_init_298 ?_
  obtain ⟨S189, eS189, h190⟩ := g_bd h188; clear h188
  refine g_iast X eS189 dX8_init_300 ?_
  clear eS189
  refine g_dup X dX8_init_301 (g_rfc _) ?_
  refine g_bipush X dX8_init_302 (v := 28) (by decide) ?_
  refine g_ldc X tw667 dX8_init_304 ?_
  obtain ⟨S191, eS191, h192⟩ := g_bd h190; clear h190
  refine g_iast X eS191 dX8_init_306 ?_
  clear eS191
  refine g_dup X dX8_init_307 (g_rfc _) ?_
  refine g_bipush X dX8_init_308 (v := 29) (by decide) ?_
  refine g_ldc X tw668 dX8_init_310 ?_
  obtain ⟨S193, eS193, h194⟩ := g_bd h192; clear h192
  refine g_iast X eS193 dX8_init_312 ?_
  clear eS193
  refine g_dup X dX8_init_313 (g_rfc _) ?_
  refine g_bipush X dX8_init_314 (v := 30) (by decide) ?_
  refine g_ldc X tw669 dX8_init_316 ?_
  obtain ⟨S195, eS195, h196⟩ := g_bd h194; clear h194
  refine g_iast X eS195 dX8_init_318 ?_
  clear eS195
  refine g_dup X dX8_init_319 (g_rfc _) ?_
  refine g_bipush X dX8_init_320 (v := 31) (by decide) ?_
  refine g_ldc X tw670 dX8_init_322 ?_
  obtain ⟨S197, eS197, h198⟩ := g_bd h196; clear h196
  refine g_iast X eS197 dX8_init_324 ?_
  clear eS197
  refine g_dup X dX8_init_325 (g_rfc _) ?_
  refine g_bipush X dX8_init_326 (v := 32) (by decide) ?_
  refine g_ldc X tw671 dX8_init_328 ?_
  obtain ⟨S199, eS199, h200⟩ := g_bd h198; clear h198
  refine g_iast X eS199 dX8_init_330 ?_
  clear eS199
  refine g_dup X dX8_init_331 (g_rfc _) ?_
  refine g_bipush X dX8_init_332 (v := 33) (by decide) ?_
  refine g_ldc X tw672 dX8_init_334 ?_
  obtain ⟨S201, eS201, h202⟩ := g_bd h200; clear h200
  refine g_iast X eS201 dX8_init_336 ?_
  clear eS201
  refine g_dup X dX8_init_337 (g_rfc _) ?_
  refine g_bipush X dX8_init_338 (v := 34) (by decide) ?_
  refine g_ldc X tw673 dX8_init_340 ?_
  obtain ⟨S203, eS203, h204⟩ := g_bd h202; clear h202
  refine g_iast X eS203 dX8_init_342 ?_
  clear eS203
  refine g_dup X dX8_init_343 (g_rfc _) ?_
  refine g_bipush X dX8_init_344 (v := 35) (by decide) ?_
  refine g_ldc X tw674 dX8_init_346 ?_
  obtain ⟨S205, eS205, h206⟩ := g_bd h204; clear h204
  refine g_iast X eS205 dX8_init_348 ?_
  clear eS205
  refine g_dup X dX8_init_349 (g_rfc _) ?_
  refine g_bipush X dX8_init_350 (v := 36) (by decide) ?_
  refine g_ldc X tw675 dX8_init_352 ?_
  obtain ⟨S207, eS207, h208⟩ := g_bd h206; clear h206
  refine g_iast X eS207 dX8_init_354 ?_
  clear eS207
  refine g_dup X dX8_init_355 (g_rfc _) ?_
  refine g_bipush X dX8_init_356 (v := 37) (by decide) ?_
  refine g_ldc X tw676 dX8_init_358 ?_
  obtain ⟨S209, eS209, h210⟩ := g_bd h208; clear h208
  refine g_iast X eS209 dX8_init_360 ?_
  clear eS209
  refine g_dup X dX8_init_361 (g_rfc _) ?_
  refine g_bipush X dX8_init_362 (v := 38) (by decide) ?_
  refine g_ldc X tw677 dX8_init_364 ?_
  obtain ⟨S211, eS211, h212⟩ := g_bd h210; clear h210
  refine g_iast X eS211 dX8_init_366 ?_
  clear eS211
  refine g_dup X dX8_init_367 (g_rfc _) ?_
  refine g_bipush X dX8_init_368 (v := 39) (by decide) ?_
  refine g_ldc X tw678 dX8_init_370 ?_
  obtain ⟨S213, eS213, h214⟩ := g_bd h212; clear h212
  refine g_iast X eS213 dX8_init_372 ?_
  clear eS213
  refine g_dup X dX8_init_373 (g_rfc _) ?_
  refine g_bipush X dX8_init_374 (v := 40) (by decide) ?_
  refine g_ldc X tw679 dX8_init_376 ?_
  obtain ⟨S215, eS215, h216⟩ := g_bd h214; clear h214
  refine g_iast X eS215 dX8_init_378 ?_
  clear eS215
  refine g_dup X dX8_init_379 (g_rfc _) ?_
  refine g_bipush X dX8_init_380 (v := 41) (by decide) ?_
  refine g_ldc X tw680 dX8_init_382 ?_
  obtain ⟨S217, eS217, h218⟩ := g_bd h216; clear h216
  refine g_iast X eS217 dX8_init_384 ?_
  clear eS217
  refine g_dup X dX8_init_385 (g_rfc _) ?_
  refine g_bipush X dX8_init_386 (v := 42) (by decide) ?_
  refine g_ldc X tw681 dX8_init_388 ?_
  obtain ⟨S219, eS219, h220⟩ := g_bd h218; clear h218
  refine g_iast X eS219 dX8_init_390 ?_
  clear eS219
  refine g_dup X dX8_init_391 (g_rfc _) ?_
  refine g_bipush X dX8_init_392 (v := 43) (by decide) ?_
  refine g_ldc X tw682 dX8_init_394 ?_
  obtain ⟨S221, eS221, h222⟩ := g_bd h220; clear h220
  refine g_iast X eS221 dX8_init_396 ?_
  clear eS221
  refine g_dup X dX8_init_397 (g_rfc _) ?_
  refine g_bipush X dX8_init_398 (v := 44) (by decide) ?_
  refine g_ldc X tw683 dX8_init_400 ?_
  obtain ⟨S223, eS223, h224⟩ := g_bd h222; clear h222
  refine g_iast X eS223 dX8_init_402 ?_
  clear eS223
  refine g_dup X dX8_init_403 (g_rfc _) ?_
  refine g_bipush X dX8_init_404 (v := 45) (by decide) ?_
  refine g_ldc X tw684 dX8_init_406 ?_
  obtain ⟨S225, eS225, h226⟩ := g_bd h224; clear h224
  refine g_iast X eS225 dX8_init_408 ?_
  clear eS225
  refine g_dup X dX8_init_409 (g_rfc _) ?_
  refine g_bipush X dX8_init_410 (v := 46) (by decide) ?_
  refine g_ldc X tw685 dX8_init_412 ?_
  obtain ⟨S227, eS227, h228⟩ := g_bd h226; clear h226
  refine g_iast X eS227 dX8_init_414 ?_
  clear eS227
  refine g_dup X dX8_init_415 (g_rfc _) ?_
  refine g_bipush X dX8_init_416 (v := 47) (by decide) ?_
  refine g_ldc X tw686 dX8_init_418 ?_
  obtain ⟨S229, eS229, h230⟩ := g_bd h228; clear h228
  refine g_iast X eS229 dX8_init_420 ?_
  clear eS229
  refine g_dup X dX8_init_421 (g_rfc _) ?_
  refine g_bipush X dX8_init_422 (v := 48) (by decide) ?_
  refine g_ldc X tw687 dX8_init_424 ?_
  obtain ⟨S231, eS231, h232⟩ := g_bd h230; clear h230
  refine g_iast X eS231 dX8_init_426 ?_
  clear eS231
  refine g_dup X dX8_init_427 (g_rfc _) ?_
  refine g_bipush X dX8_init_428 (v := 49) (by decide) ?_
  refine g_ldc X tw688 dX8_init_430 ?_
  obtain ⟨S233, eS233, h234⟩ := g_bd h232; clear h232
  refine g_iast X eS233 dX8_init_432 ?_
  clear eS233
  refine g_dup X dX8_init_433 (g_rfc _) ?_
  refine g_bipush X dX8_init_434 (v := 50) (by decide) ?_
  refine g_ldc X tw689 dX8_init_436 ?_
  obtain ⟨S235, eS235, h236⟩ := g_bd h234; clear h234
  refine g_iast X eS235 dX8_init_438 ?_
  clear eS235
  refine g_dup X dX8_init_439 (g_rfc _) ?_
  refine g_bipush X dX8_init_440 (v := 51) (by decide) ?_
  refine g_ldc X tw690 dX8_init_442 ?_
  obtain ⟨S237, eS237, h238⟩ := g_bd h236; clear h236
  refine g_iast X eS237 dX8_init_444 ?_
  clear eS237
  refine g_dup X dX8_init_445 (g_rfc _) ?_
  refine g_bipush X dX8_init_446 (v := 52) (by decide) ?_
  refine g_ldc X tw691 dX8_init_448 ?_
  obtain ⟨S239, eS239, h240⟩ := g_bd h238; clear h238
  refine g_iast X eS239 dX8_init_450 ?_
  clear eS239
  refine g_dup X dX8_init_451 (g_rfc _) ?_
  refine g_bipush X dX8_init_452 (v := 53) (by decide) ?_
  refine g_ldc X tw692 dX8_init_454 ?_
  obtain ⟨S241, eS241, h242⟩ := g_bd h240; clear h240
  refine g_iast X eS241 dX8_init_456 ?_
  clear eS241
  refine g_dup X dX8_init_457 (g_rfc _) ?_
  refine g_bipush X dX8_init_458 (v := 54) (by decide) ?_
  refine g_ldc X tw693 dX8_init_460 ?_
  obtain ⟨S243, eS243, h244⟩ := g_bd h242; clear h242
  refine g_iast X eS243 dX8_init_462 ?_
  clear eS243
  refine g_dup X dX8_init_463 (g_rfc _) ?_
  refine g_bipush X dX8_init_464 (v := 55) (by decide) ?_
  refine g_ldc X tw694 dX8_init_466 ?_
  obtain ⟨S245, eS245, h246⟩ := g_bd h244; clear h244
  refine g_iast X eS245 dX8_init_468 ?_
  clear eS245
  refine g_dup X dX8_init_469 (g_rfc _) ?_
  refine g_bipush X dX8_init_470 (v := 56) (by decide) ?_
  refine g_ldc X tw695 dX8_init_472 ?_
  obtain ⟨S247, eS247, h248⟩ := g_bd h246; clear h246
  refine g_iast X eS247 dX8_init_474 ?_
  clear eS247
  refine g_dup X dX8_init_475 (g_rfc _) ?_
  refine g_bipush X dX8_init_476 (v := 57) (by decide) ?_
  refine g_ldc X tw696 dX8_init_478 ?_
  obtain ⟨S249, eS249, h250⟩ := g_bd h248; clear h248
  refine g_iast X eS249 dX8_init_480 ?_
  clear eS249
  refine g_dup X dX8_init_481 (g_rfc _) ?_
  refine g_bipush X dX8_init_482 (v := 58) (by decide) ?_
  refine g_ldc X tw697 dX8_init_484 ?_
  obtain ⟨S251, eS251, h252⟩ := g_bd h250; clear h250
  refine g_iast X eS251 dX8_init_486 ?_
  clear eS251
  refine g_dup X dX8_init_487 (g_rfc _) ?_
  refine g_bipush X dX8_init_488 (v := 59) (by decide) ?_
  refine g_ldc X tw698 dX8_init_490 ?_
  obtain ⟨S253, eS253, h254⟩ := g_bd h252; clear h252
  refine g_iast X eS253 dX8_init_492 ?_
  clear eS253
  refine g_dup X dX8_init_493 (g_rfc _) ?_
  refine g_bipush X dX8_init_494 (v := 60) (by decide) ?_
  refine g_ldc X tw699 dX8_init_496 ?_
  obtain ⟨S255, eS255, h256⟩ := g_bd h254; clear h254
  refine g_iast X eS255 dX8_init_498 ?_
  clear eS255
  refine g_dup X dX8_init_499 (g_rfc _) ?_
  refine g_bipush X dX8_init_500 (v := 61) (by decide) ?_
  refine g_ldc X tw700 dX8_init_502 ?_
  obtain ⟨S257, eS257, h258⟩ := g_bd h256; clear h256
  refine g_iast X eS257 dX8_init_504 ?_
  clear eS257
  refine g_dup X dX8_init_505 (g_rfc _) ?_
  refine g_bipush X dX8_init_506 (v := 62) (by decide) ?_
  refine g_ldc X tw701 dX8_init_508 ?_
  obtain ⟨S259, eS259, h260⟩ := g_bd h258; clear h258
  refine g_iast X eS259 dX8_init_510 ?_
  clear eS259
  refine g_dup X dX8_init_511 (g_rfc _) ?_
  refine g_bipush X dX8_init_512 (v := 63) (by decide) ?_
  refine g_ldc X tw702 dX8_init_514 ?_
  obtain ⟨S261, eS261, h262⟩ := g_bd h260; clear h260
  refine g_iast X eS261 dX8_init_516 ?_
  clear eS261
  obtain ⟨S263, eS263, h264⟩ := g_bd h262; clear h262
  refine g_pFa (ci := 8) (k := 20) X hin rfl il8 tyX8 tyX8_ok nmX8 (by decide) tw723 rfl rfl (by decide) (fun _ _ _ => rfl) rfl eS263 dX8_init_517 ?_
  clear eS263
  refine g_aload_n (j := 0) X dX8_init_520 rfl rfl ?_
  refine g_sipush X dX8_init_521 (v := 800) (by decide) ?_
  obtain ⟨k265, ek265, h266⟩ := g_bd h264; clear h264
  refine g_newa10 (cap := 800) X tw104 ek265 (by decide) (by decide) (by decide) dX8_init_524 ?_
  refine g_wid (k := 18) (n := 62830) (Nat.le_refl _) (Nat.add_le_add_left (fnA_s ek265).2.2 _) ?_
  clear ek265
  obtain ⟨z269, ez269, h270⟩ := g_let h266; clear h266; rw [← ez269]; clear ez269
  obtain ⟨S267, eS267, h268⟩ := g_let h270; clear h270; rw [← eS267]; clear eS267
  obtain ⟨S271, eS271, h272⟩ := g_bd h268; clear h268
  refine g_pFa (ci := 8) (k := 21) X hin rfl il8 tyX8 tyX8_ok nmX8 (by decide) tw724 rfl rfl (by decide) (fun _ _ _ => rfl) rfl eS271 dX8_init_526 ?_
  clear eS271
  refine g_aload_n (j := 0) X dX8_init_529 rfl rfl ?_
  refine g_bipush X dX8_init_530 (v := 70) (by decide) ?_
  obtain ⟨k273, ek273, h274⟩ := g_bd h272; clear h272
  refine g_newa10 (cap := 70) X tw104 ek273 (by decide) (by decide) (by decide) dX8_init_532 ?_
  refine g_wid (k := 19) (n := 62900) (Nat.le_refl _) (Nat.add_le_add_left (fnA_s ek273).2.2 _) ?_
  clear ek273
  obtain ⟨z277, ez277, h278⟩ := g_let h274; clear h274; rw [← ez277]; clear ez277
  obtain ⟨S275, eS275, h276⟩ := g_let h278; clear h278; rw [← eS275]; clear eS275
  obtain ⟨S279, eS279, h280⟩ := g_bd h276; clear h276
  refine g_pFa (ci := 8) (k := 22) X hin rfl il8 tyX8 tyX8_ok nmX8 (by decide) tw725 rfl rfl (by decide) (fun _ _ _ => rfl) rfl eS279 dX8_init_534 ?_
  clear eS279
  cases h280
  exact g_vret X hr (by decide) (by decide) dX8_init_537
def f_X8_thrown (S0 : gS) (a0 : Nat) : Option (Int32 × gS) :=
  (fgI S0 8 0 (some a0)).bind fun x1 =>
  some (x1, S0)
set_option maxRecDepth 100000 in
set_option maxHeartbeats 4000000 in
theorem c_X8_thrown {l : Launch} (hl : l.stackTraces = false) (D : gD)  {S0 S9 : gS} {a0 : Nat} {res : Int32} (h0 : f_X8_thrown S0 a0 = some (res, S9)) : Met l yX8_thrown (gws yX8_thrown cX8_thrown 1 (some .int)) { frames := 0, cells := 0, slots := 0, locals := 0 } (gPc D S0 [.ref a0]) (gQ D (some (.int res)) S9) (0) (0) (gF D) := by
  refine g_met (lv := [(0, va_rf (some a0))]) hl (by decide) (Nat.le_of_ble_eq_true rfl) rfl (fun p e s m args below meth c X hr hn => ?_)
  have X : gX D p l s m args meth c cX8_thrown 1 RX8 := X
  unfold f_X8_thrown at h0
  refine g_aload_n (j := 0) X dX8_thrown_0 rfl rfl ?_
  obtain ⟨x1, ex1, h2⟩ := g_bd h0; clear h0
  refine g_fI (ci := 8) (k := 0) X rfl il8 (by decide) tw703 (by decide) (fun _ _ _ => rfl) ex1 dX8_thrown_1 ?_
  clear ex1
  obtain ⟨rfl, rfl⟩ := g_end h2
  exact g_iret X hr (by decide) (by decide) dX8_thrown_4
