def f_X7_leaf (S0 : gS) (a0 : Nat) (v1 : Int32) (v2 : Int32) : Option ((String ⊕ Int32) × gS) :=
  gDc S0 7 (some a0) fun a1 =>
  gBx (f_X7_logOf S0 a1 v1) (fun E6 S7 => some (.inl E6, S7)) fun x5 S3 =>
  if v2 < 0 then
    some (.inl "java/util/NoSuchElementException", gsZ S3 (gZ S3 + 1))
  else
    (fgI S3 1 4 x5).bind fun x12 =>
    if v2 < x12 then
      (fgR S3 7 1 (some a0)).bind fun x17 =>
      gDc S3 1 x5 fun a19 =>
      gBi (f_X1_leafAt S3 a19 v2) fun x23 S21 =>
      gDc S21 5 x17 fun a24 =>
      (f_X5_become S21 a24 x23 32).bind fun S26 =>
      (fgI S26 1 6 x5).bind fun x28 =>
      if x28 ≤ v2 then
        some (.inr 0, S26)
      else
        some (.inr 1, S26)
    else
      some (.inl "java/util/NoSuchElementException", gsZ S3 (gZ S3 + 1))
set_option maxRecDepth 100000 in
set_option maxHeartbeats 4000000 in
theorem c_X7_leaf {l : Launch} (hl : l.stackTraces = false) (D : gD)  {S0 S9 : gS} {a0 : Nat} {v1 : Int32} {v2 : Int32} {res : String ⊕ Int32} (h0 : f_X7_leaf S0 a0 v1 v2 = some (res, S9)) : vx_Met l yX7_leaf (gws yX7_leaf cX7_leaf 4 (some .boolean)) { frames := 7, cells := 2, slots := 12, locals := 109 } (gPc D S0 [.ref a0, .int v1, .int v2]) (gQX D (fun x : Int32 => Value.int x) res S9) (gXX D res S9) (2) (12) (gF D) := by
  refine g_xmet (lv := [(0, va_rf (some a0)), (1, .int v1), (2, .int v2)]) hl (by decide) (Nat.le_of_ble_eq_true rfl) rfl (fun p e s m args below meth c X hr ht => ?_)
  have X : gX D p l s m args meth c cX7_leaf 4 RX7 := X
  unfold f_X7_leaf at h0
  refine g_aload_n (j := 0) X dX7_leaf_0 rfl rfl ?_
  refine g_iload_n (j := 1) X dX7_leaf_1 rfl rfl ?_
  obtain ⟨a1, ea1, ka1, h2⟩ := g_dc h0; clear h0
  rcases g_bx h2 with ⟨x5, S3, eS3, h4⟩ | ⟨E6, S7, eS3, h8⟩
  · refine g_xV (n := 1) (As := [.int v1]) X (c_X7_logOf hl D eS3) tw348 tw349 tw7 tw44 tw350 (by decide +kernel) rfl rfl ⟨Nat.le_of_ble_eq_true rfl, Nat.le_of_ble_eq_true rfl⟩ (ci := 7) rfl (by decide) ea1 ka1 rfl rfl (Nat.le_of_ble_eq_true rfl) dX7_leaf_2 ⟨(by decide), (by decide)⟩ (fun x' hx' => ?_) (fun _ hx' => by cases hx')
    cases hx'; clear h2 eS3 ea1 ka1
    refine g_astore_n (i := 3) (lv' := [(3, va_rf x5), (0, va_rf (some a0)), (1, .int v1), (2, .int v2)]) X dX7_leaf_5 rfl (by decide) rfl ?_
    refine g_iload_n (j := 3) X dX7_leaf_6 rfl rfl ?_
    refine g_if_lt (tgt := 18) X dX7_leaf_7 (by decide) (fun c9 => ?_) (fun c9 => ?_)
    · have h10 := g_ip h4 c9; clear h4
      obtain ⟨rfl, rfl⟩ := g_end h10
      exact g_throwN (is := 155) (text := "there is no such ENTRY") X ht rfl tw485 tw62 (by decide +kernel) tx_135_1 tx_135_2 tx_135_131_3 dX7_leaf_18 dX7_leaf_21 dX7_leaf_22 dX7_leaf_24 dX7_leaf_27 (by decide) (Nat.le_of_ble_eq_true rfl) (by decide) (by decide) (by decide) (by decide)
    · have h11 := g_in h4 c9; clear h4
      refine g_iload_n (j := 3) X dX7_leaf_10 rfl rfl ?_
      refine g_aload_n (j := 0) X dX7_leaf_11 rfl rfl ?_
      obtain ⟨x12, ex12, h13⟩ := g_bd h11; clear h11
      refine g_fI (ci := 1) (k := 4) X rfl il1 (by decide) tw112 (by decide) (fun _ _ _ => rfl) ex12 dX7_leaf_12 ?_
      clear ex12
      refine g_icmp_lt (tgt := 28) X dX7_leaf_15 (by decide) (fun c14 => ?_) (fun c14 => ?_)
      · have h15 := g_ip h13 c14; clear h13
        refine g_aload_n (j := 1) X dX7_leaf_28 rfl rfl ?_
        obtain ⟨x17, ex17, h18⟩ := g_bd h15; clear h15
        refine g_fR (ci := 7) (k := 1) X rfl il7 (by decide) tw187 (by decide) (fun _ _ _ => rfl) ex17 dX7_leaf_29 ?_
        clear ex17
        refine g_aload_n (j := 0) X dX7_leaf_32 rfl rfl ?_
        refine g_iload_n (j := 3) X dX7_leaf_33 rfl rfl ?_
        obtain ⟨a19, ea19, ka19, h20⟩ := g_dc h18; clear h18
        obtain ⟨x23, S21, eS21, h22⟩ := g_bi h20; clear h20
        refine g_cV (n := 1) (As := [.int v2]) X (c_X1_leafAt hl D eS21) tw525 tw526 tw527 tw46 tw528 (by decide +kernel) rfl rfl ⟨Nat.le_of_ble_eq_true rfl, Nat.le_of_ble_eq_true rfl⟩ (ci := 1) rfl (by decide) ea19 ka19 rfl rfl (by simp [g_rfc, g_ci, g_cj, g_cr]) dX7_leaf_34 ⟨(by decide), (by decide)⟩ ?_
        clear eS21 ea19 ka19
        refine g_bipush X dX7_leaf_37 (v := 32) (by decide) ?_
        obtain ⟨a24, ea24, ka24, h25⟩ := g_dc h22; clear h22
        obtain ⟨S26, eS26, h27⟩ := g_bd h25; clear h25
        refine g_cV (n := 2) (As := [va_rf x23, .int 32]) X (c_X5_become hl D eS26) tw501 tw502 tw503 tw45 tw504 (by decide +kernel) rfl rfl ⟨Nat.le_of_ble_eq_true rfl, Nat.le_of_ble_eq_true rfl⟩ (ci := 5) rfl (by decide) ea24 ka24 rfl rfl (Nat.le_of_ble_eq_true rfl) dX7_leaf_39 ⟨(by decide), (by decide)⟩ ?_
        clear eS26 ea24 ka24
        refine g_iload_n (j := 3) X dX7_leaf_42 rfl rfl ?_
        refine g_aload_n (j := 0) X dX7_leaf_43 rfl rfl ?_
        obtain ⟨x28, ex28, h29⟩ := g_bd h27; clear h27
        refine g_fI (ci := 1) (k := 6) X rfl il1 (by decide) tw115 (by decide) (fun _ _ _ => rfl) ex28 dX7_leaf_44 ?_
        clear ex28
        refine g_icmp_ge (tgt := 54) X dX7_leaf_47 (by decide) (fun c30 => ?_) (fun c30 => ?_)
        · have h31 := g_ip h29 c30; clear h29
          refine g_iconst X dX7_leaf_54 (v := 0) (by decide) ?_
          obtain ⟨rfl, rfl⟩ := g_end h31
          exact g_xr (g_zret X hr (Or.inl rfl) (by decide) (by decide) dX7_leaf_55)
        · have h32 := g_in h29 c30; clear h29
          refine g_iconst X dX7_leaf_50 (v := 1) (by decide) ?_
          refine g_goto (tgt := 55) X dX7_leaf_51 (by decide) ?_
          obtain ⟨rfl, rfl⟩ := g_end h32
          exact g_xr (g_zret X hr (Or.inr rfl) (by decide) (by decide) dX7_leaf_55)
      · have h16 := g_in h13 c14; clear h13
        obtain ⟨rfl, rfl⟩ := g_end h16
        exact g_throwN (is := 155) (text := "there is no such ENTRY") X ht rfl tw485 tw62 (by decide +kernel) tx_135_1 tx_135_2 tx_135_131_3 dX7_leaf_18 dX7_leaf_21 dX7_leaf_22 dX7_leaf_24 dX7_leaf_27 (by decide) (Nat.le_of_ble_eq_true rfl) (by decide) (by decide) (by decide) (by decide)
  · refine g_xV (n := 1) (As := [.int v1]) X (c_X7_logOf hl D eS3) tw348 tw349 tw7 tw44 tw350 (by decide +kernel) rfl rfl ⟨Nat.le_of_ble_eq_true rfl, Nat.le_of_ble_eq_true rfl⟩ (ci := 7) rfl (by decide) ea1 ka1 rfl rfl (Nat.le_of_ble_eq_true rfl) dX7_leaf_2 ⟨(by decide), (by decide)⟩ (fun _ hx' => by cases hx') (fun E' hx' => ?_)
    cases hx'; obtain ⟨rfl, rfl⟩ := g_end h8; exact g_out X ht (by decide) (by decide)
def f_X7_find (S0 : gS) (a0 : Nat) (v1 : Int32) : Option ((String ⊕ Int32) × gS) :=
  (fgR S0 7 0 (some a0)).bind fun x1 =>
  gDc S0 5 x1 fun a3 =>
  gBi (f_X5_useUp S0 a3) fun x7 S5 =>
  gDc S5 7 (some a0) fun a8 =>
  gBx (f_X7_logOf S5 a8 v1) (fun E13 S14 => some (.inl E13, S14)) fun x12 S10 =>
  if x7 = 32 then
    (fgR S10 7 0 (some a0)).bind fun x19 =>
    (fgR S10 5 0 x19).bind fun x21 =>
    gDc S10 1 x12 fun a23 =>
    gBi (f_X1_numberOfLeaf S10 a23 x21) fun x27 S25 =>
    some (.inr x27, S25)
  else
    some (.inl "java/lang/IllegalArgumentException", gsZ S10 (gZ S10 + 1))
set_option maxRecDepth 100000 in
set_option maxHeartbeats 4000000 in
theorem c_X7_find {l : Launch} (hl : l.stackTraces = false) (D : gD)  {S0 S9 : gS} {a0 : Nat} {v1 : Int32} {res : String ⊕ Int32} (h0 : f_X7_find S0 a0 v1 = some (res, S9)) : vx_Met l yX7_find (gws yX7_find cX7_find 4 (some .int)) { frames := 7, cells := 2, slots := 12, locals := 105 } (gPc D S0 [.ref a0, .int v1]) (gQX D (fun x : Int32 => Value.int x) res S9) (gXX D res S9) (2) (12) (gF D) := by
  refine g_xmet (lv := [(0, va_rf (some a0)), (1, .int v1)]) hl (by decide) (Nat.le_of_ble_eq_true rfl) rfl (fun p e s m args below meth c X hr ht => ?_)
  have X : gX D p l s m args meth c cX7_find 4 RX7 := X
  unfold f_X7_find at h0
  refine g_aload_n (j := 0) X dX7_find_0 rfl rfl ?_
  obtain ⟨x1, ex1, h2⟩ := g_bd h0; clear h0
  refine g_fR (ci := 7) (k := 0) X rfl il7 (by decide) tw186 (by decide) (fun _ _ _ => rfl) ex1 dX7_find_1 ?_
  clear ex1
  obtain ⟨a3, ea3, ka3, h4⟩ := g_dc h2; clear h2
  obtain ⟨x7, S5, eS5, h6⟩ := g_bi h4; clear h4
  refine g_cV (n := 0) (As := []) X (c_X5_useUp hl D eS5) tw249 tw250 tw251 tw45 tw252 (by decide +kernel) rfl rfl ⟨Nat.le_of_ble_eq_true rfl, Nat.le_of_ble_eq_true rfl⟩ (ci := 5) rfl (by decide) ea3 ka3 rfl rfl (Nat.le_of_ble_eq_true rfl) dX7_find_4 ⟨(by decide), (by decide)⟩ ?_
  clear eS5 ea3 ka3
  refine g_istore_n (i := 2) (lv' := [(2, .int x7), (0, va_rf (some a0)), (1, .int v1)]) X dX7_find_7 rfl (by decide) rfl ?_
  refine g_aload_n (j := 1) X dX7_find_8 rfl rfl ?_
  refine g_iload_n (j := 2) X dX7_find_9 rfl rfl ?_
  obtain ⟨a8, ea8, ka8, h9⟩ := g_dc h6; clear h6
  rcases g_bx h9 with ⟨x12, S10, eS10, h11⟩ | ⟨E13, S14, eS10, h15⟩
  · refine g_xV (n := 1) (As := [.int v1]) X (c_X7_logOf hl D eS10) tw348 tw349 tw7 tw44 tw350 (by decide +kernel) rfl rfl ⟨Nat.le_of_ble_eq_true rfl, Nat.le_of_ble_eq_true rfl⟩ (ci := 7) rfl (by decide) ea8 ka8 rfl rfl (Nat.le_of_ble_eq_true rfl) dX7_find_10 ⟨(by decide), (by decide)⟩ (fun x' hx' => ?_) (fun _ hx' => by cases hx')
    cases hx'; clear h9 eS10 ea8 ka8
    refine g_astore_n (i := 3) (lv' := [(3, va_rf x12), (2, .int x7), (0, va_rf (some a0)), (1, .int v1)]) X dX7_find_13 rfl (by decide) rfl ?_
    refine g_iload_n (j := 1) X dX7_find_14 rfl rfl ?_
    refine g_bipush X dX7_find_15 (v := 32) (by decide) ?_
    refine g_icmp_eq (tgt := 30) X dX7_find_17 (by decide) (fun c16 => ?_) (fun c16 => ?_)
    · have h17 := g_ip h11 c16; clear h11
      refine g_aload_n (j := 0) X dX7_find_30 rfl rfl ?_
      refine g_aload_n (j := 2) X dX7_find_31 rfl rfl ?_
      obtain ⟨x19, ex19, h20⟩ := g_bd h17; clear h17
      refine g_fR (ci := 7) (k := 0) X rfl il7 (by decide) tw186 (by decide) (fun _ _ _ => rfl) ex19 dX7_find_32 ?_
      clear ex19
      obtain ⟨x21, ex21, h22⟩ := g_bd h20; clear h20
      refine g_fR (ci := 5) (k := 0) X rfl il5 (by decide) tw79 (by decide) (fun _ _ _ => rfl) ex21 dX7_find_35 ?_
      clear ex21
      obtain ⟨a23, ea23, ka23, h24⟩ := g_dc h22; clear h22
      obtain ⟨x27, S25, eS25, h26⟩ := g_bi h24; clear h24
      refine g_cV (n := 1) (As := [va_rf x21]) X (c_X1_numberOfLeaf hl D eS25) tw536 tw537 tw538 tw46 tw539 (by decide +kernel) rfl rfl ⟨Nat.le_of_ble_eq_true rfl, Nat.le_of_ble_eq_true rfl⟩ (ci := 1) rfl (by decide) ea23 ka23 rfl rfl (Nat.le_of_ble_eq_true rfl) dX7_find_38 ⟨(by decide), (by decide)⟩ ?_
      clear eS25 ea23 ka23
      obtain ⟨rfl, rfl⟩ := g_end h26
      exact g_xr (g_iret X hr (by decide) (by decide) dX7_find_41)
    · have h18 := g_in h11 c16; clear h11
      obtain ⟨rfl, rfl⟩ := g_end h18
      exact g_throw (is := 161) (text := "a LEAF has 32 bytes") X ht rfl (by decide +kernel) tw373 tw58 (by decide +kernel) tx_84_1 tx_84_2 tx_84_80_3 dX7_find_20 dX7_find_23 dX7_find_24 dX7_find_26 dX7_find_29 (by decide) (Nat.le_of_ble_eq_true rfl) (by decide) (by decide) (by decide) (by decide)
  · refine g_xV (n := 1) (As := [.int v1]) X (c_X7_logOf hl D eS10) tw348 tw349 tw7 tw44 tw350 (by decide +kernel) rfl rfl ⟨Nat.le_of_ble_eq_true rfl, Nat.le_of_ble_eq_true rfl⟩ (ci := 7) rfl (by decide) ea8 ka8 rfl rfl (Nat.le_of_ble_eq_true rfl) dX7_find_10 ⟨(by decide), (by decide)⟩ (fun _ hx' => by cases hx') (fun E' hx' => ?_)
    cases hx'; obtain ⟨rfl, rfl⟩ := g_end h15; exact g_out X ht (by decide) (by decide)
def f_X7_root (S0 : gS) (a0 : Nat) (v1 : Int32) (v2 : Int32) : Option ((String ⊕ Int32) × gS) :=
  gDc S0 7 (some a0) fun a1 =>
  gBx (f_X7_logOf S0 a1 v1) (fun E6 S7 => some (.inl E6, S7)) fun x5 S3 =>
  if v2 < 0 then
    some (.inl "java/util/NoSuchElementException", gsZ S3 (gZ S3 + 1))
  else
    (fgI S3 1 6 x5).bind fun x12 =>
    if v2 ≤ x12 then
      (fgR S3 7 1 (some a0)).bind fun x17 =>
      gDc S3 1 x5 fun a19 =>
      gBi (f_X1_rootOf S3 a19 0 v2) fun x23 S21 =>
      gDc S21 5 x17 fun a24 =>
      (f_X5_become S21 a24 x23 32).bind fun S26 =>
      some (.inr 1, S26)
    else
      some (.inl "java/util/NoSuchElementException", gsZ S3 (gZ S3 + 1))
set_option maxRecDepth 100000 in
set_option maxHeartbeats 4000000 in
theorem c_X7_root {l : Launch} (hl : l.stackTraces = false) (D : gD)  {S0 S9 : gS} {a0 : Nat} {v1 : Int32} {v2 : Int32} {res : String ⊕ Int32} (h0 : f_X7_root S0 a0 v1 v2 = some (res, S9)) : vx_Met l yX7_root (gws yX7_root cX7_root 4 (some .boolean)) { frames := 7, cells := 2, slots := 12, locals := 110 } (gPc D S0 [.ref a0, .int v1, .int v2]) (gQX D (fun x : Int32 => Value.int x) res S9) (gXX D res S9) (2) (12) (gF D) := by
  refine g_xmet (lv := [(0, va_rf (some a0)), (1, .int v1), (2, .int v2)]) hl (by decide) (Nat.le_of_ble_eq_true rfl) rfl (fun p e s m args below meth c X hr ht => ?_)
  have X : gX D p l s m args meth c cX7_root 4 RX7 := X
  unfold f_X7_root at h0
  refine g_aload_n (j := 0) X dX7_root_0 rfl rfl ?_
  refine g_iload_n (j := 1) X dX7_root_1 rfl rfl ?_
  obtain ⟨a1, ea1, ka1, h2⟩ := g_dc h0; clear h0
  rcases g_bx h2 with ⟨x5, S3, eS3, h4⟩ | ⟨E6, S7, eS3, h8⟩
  · refine g_xV (n := 1) (As := [.int v1]) X (c_X7_logOf hl D eS3) tw348 tw349 tw7 tw44 tw350 (by decide +kernel) rfl rfl ⟨Nat.le_of_ble_eq_true rfl, Nat.le_of_ble_eq_true rfl⟩ (ci := 7) rfl (by decide) ea1 ka1 rfl rfl (Nat.le_of_ble_eq_true rfl) dX7_root_2 ⟨(by decide), (by decide)⟩ (fun x' hx' => ?_) (fun _ hx' => by cases hx')
    cases hx'; clear h2 eS3 ea1 ka1
    refine g_astore_n (i := 3) (lv' := [(3, va_rf x5), (0, va_rf (some a0)), (1, .int v1), (2, .int v2)]) X dX7_root_5 rfl (by decide) rfl ?_
    refine g_iload_n (j := 3) X dX7_root_6 rfl rfl ?_
    refine g_if_lt (tgt := 18) X dX7_root_7 (by decide) (fun c9 => ?_) (fun c9 => ?_)
    · have h10 := g_ip h4 c9; clear h4
      obtain ⟨rfl, rfl⟩ := g_end h10
      exact g_throwN (is := 167) (text := "the TREE has no such first LEAVES") X ht rfl tw485 tw62 (by decide +kernel) tx_135_1 tx_135_2 tx_135_131_3 dX7_root_18 dX7_root_21 dX7_root_22 dX7_root_24 dX7_root_27 (by decide) (Nat.le_of_ble_eq_true rfl) (by decide) (by decide) (by decide) (by decide)
    · have h11 := g_in h4 c9; clear h4
      refine g_iload_n (j := 3) X dX7_root_10 rfl rfl ?_
      refine g_aload_n (j := 0) X dX7_root_11 rfl rfl ?_
      obtain ⟨x12, ex12, h13⟩ := g_bd h11; clear h11
      refine g_fI (ci := 1) (k := 6) X rfl il1 (by decide) tw115 (by decide) (fun _ _ _ => rfl) ex12 dX7_root_12 ?_
      clear ex12
      refine g_icmp_le (tgt := 28) X dX7_root_15 (by decide) (fun c14 => ?_) (fun c14 => ?_)
      · have h15 := g_ip h13 c14; clear h13
        refine g_aload_n (j := 1) X dX7_root_28 rfl rfl ?_
        obtain ⟨x17, ex17, h18⟩ := g_bd h15; clear h15
        refine g_fR (ci := 7) (k := 1) X rfl il7 (by decide) tw187 (by decide) (fun _ _ _ => rfl) ex17 dX7_root_29 ?_
        clear ex17
        refine g_aload_n (j := 0) X dX7_root_32 rfl rfl ?_
        refine g_iconst X dX7_root_33 (v := 0) (by decide) ?_
        refine g_iload_n (j := 3) X dX7_root_34 rfl rfl ?_
        obtain ⟨a19, ea19, ka19, h20⟩ := g_dc h18; clear h18
        obtain ⟨x23, S21, eS21, h22⟩ := g_bi h20; clear h20
        refine g_cV (n := 2) (As := [.int 0, .int v2]) X (c_X1_rootOf hl D eS21) tw548 tw467 tw468 tw46 tw469 (by decide +kernel) rfl rfl ⟨Nat.le_of_ble_eq_true rfl, Nat.le_of_ble_eq_true rfl⟩ (ci := 1) rfl (by decide) ea19 ka19 rfl rfl (by simp [g_rfc, g_ci, g_cj, g_cr]) dX7_root_35 ⟨(by decide), (by decide)⟩ ?_
        clear eS21 ea19 ka19
        refine g_bipush X dX7_root_38 (v := 32) (by decide) ?_
        obtain ⟨a24, ea24, ka24, h25⟩ := g_dc h22; clear h22
        obtain ⟨S26, eS26, h27⟩ := g_bd h25; clear h25
        refine g_cV (n := 2) (As := [va_rf x23, .int 32]) X (c_X5_become hl D eS26) tw501 tw502 tw503 tw45 tw504 (by decide +kernel) rfl rfl ⟨Nat.le_of_ble_eq_true rfl, Nat.le_of_ble_eq_true rfl⟩ (ci := 5) rfl (by decide) ea24 ka24 rfl rfl (Nat.le_of_ble_eq_true rfl) dX7_root_40 ⟨(by decide), (by decide)⟩ ?_
        clear eS26 ea24 ka24
        refine g_iconst X dX7_root_43 (v := 1) (by decide) ?_
        obtain ⟨rfl, rfl⟩ := g_end h27
        exact g_xr (g_zret X hr (Or.inr rfl) (by decide) (by decide) dX7_root_44)
      · have h16 := g_in h13 c14; clear h13
        obtain ⟨rfl, rfl⟩ := g_end h16
        exact g_throwN (is := 167) (text := "the TREE has no such first LEAVES") X ht rfl tw485 tw62 (by decide +kernel) tx_135_1 tx_135_2 tx_135_131_3 dX7_root_18 dX7_root_21 dX7_root_22 dX7_root_24 dX7_root_27 (by decide) (Nat.le_of_ble_eq_true rfl) (by decide) (by decide) (by decide) (by decide)
  · refine g_xV (n := 1) (As := [.int v1]) X (c_X7_logOf hl D eS3) tw348 tw349 tw7 tw44 tw350 (by decide +kernel) rfl rfl ⟨Nat.le_of_ble_eq_true rfl, Nat.le_of_ble_eq_true rfl⟩ (ci := 7) rfl (by decide) ea1 ka1 rfl rfl (Nat.le_of_ble_eq_true rfl) dX7_root_2 ⟨(by decide), (by decide)⟩ (fun _ hx' => by cases hx') (fun E' hx' => ?_)
    cases hx'; obtain ⟨rfl, rfl⟩ := g_end h8; exact g_out X ht (by decide) (by decide)
def f_X7_way (S0 : gS) (a0 : Nat) (v1 : Int32) (v2 : Int32) (v3 : Int32) : Option ((String ⊕ Int32) × gS) :=
  gDc S0 7 (some a0) fun a1 =>
  gBx (f_X7_logOf S0 a1 v1) (fun E6 S7 => some (.inl E6, S7)) fun x5 S3 =>
  if v2 < 0 then
    some (.inl "java/util/NoSuchElementException", gsZ S3 (gZ S3 + 1))
  else
    if v3 ≤ v2 then
      some (.inl "java/util/NoSuchElementException", gsZ S3 (gZ S3 + 1))
    else
      (fgI S3 1 6 x5).bind fun x15 =>
      if v3 ≤ x15 then
        (fgR S3 7 4 (some a0)).bind fun x20 =>
        gDc S3 2 x20 fun a22 =>
        (f_X2_goToLeaf S3 a22 v2.toInt64 v3.toInt64).bind fun S24 =>
        (fgR S24 7 4 (some a0)).bind fun x26 =>
        (fgR S24 7 1 (some a0)).bind fun x28 =>
        gDc S24 1 x5 fun a30 =>
        gBi (f_X1_writeDigests S24 a30 x26 x28) fun x34 S32 =>
        some (.inr x34, S32)
      else
        some (.inl "java/util/NoSuchElementException", gsZ S3 (gZ S3 + 1))
set_option maxRecDepth 100000 in
set_option maxHeartbeats 4000000 in
theorem c_X7_way {l : Launch} (hl : l.stackTraces = false) (D : gD)  {S0 S9 : gS} {a0 : Nat} {v1 : Int32} {v2 : Int32} {v3 : Int32} {res : String ⊕ Int32} (h0 : f_X7_way S0 a0 v1 v2 v3 = some (res, S9)) : vx_Met l yX7_way (gws yX7_way cX7_way 5 (some .int)) { frames := 7, cells := 2, slots := 12, locals := 133 } (gPc D S0 [.ref a0, .int v1, .int v2, .int v3]) (gQX D (fun x : Int32 => Value.int x) res S9) (gXX D res S9) (2) (12) (gF D) := by
  refine g_xmet (lv := [(0, va_rf (some a0)), (1, .int v1), (2, .int v2), (3, .int v3)]) hl (by decide) (Nat.le_of_ble_eq_true rfl) rfl (fun p e s m args below meth c X hr ht => ?_)
  have X : gX D p l s m args meth c cX7_way 5 RX7 := X
  unfold f_X7_way at h0
  refine g_aload_n (j := 0) X dX7_way_0 rfl rfl ?_
  refine g_iload_n (j := 1) X dX7_way_1 rfl rfl ?_
  obtain ⟨a1, ea1, ka1, h2⟩ := g_dc h0; clear h0
  rcases g_bx h2 with ⟨x5, S3, eS3, h4⟩ | ⟨E6, S7, eS3, h8⟩
  · refine g_xV (n := 1) (As := [.int v1]) X (c_X7_logOf hl D eS3) tw348 tw349 tw7 tw44 tw350 (by decide +kernel) rfl rfl ⟨Nat.le_of_ble_eq_true rfl, Nat.le_of_ble_eq_true rfl⟩ (ci := 7) rfl (by decide) ea1 ka1 rfl rfl (Nat.le_of_ble_eq_true rfl) dX7_way_2 ⟨(by decide), (by decide)⟩ (fun x' hx' => ?_) (fun _ hx' => by cases hx')
    cases hx'; clear h2 eS3 ea1 ka1
    refine g_astore (i := 4) (lv' := [(4, va_rf x5), (0, va_rf (some a0)), (1, .int v1), (2, .int v2), (3, .int v3)]) X dX7_way_5 (by decide) rfl ?_
    refine g_iload_n (j := 3) X dX7_way_7 rfl rfl ?_
    refine g_if_lt (tgt := 25) X dX7_way_8 (by decide) (fun c9 => ?_) (fun c9 => ?_)
    · have h10 := g_ip h4 c9; clear h4
      obtain ⟨rfl, rfl⟩ := g_end h10
      exact g_throwN (is := 173) (text := "the TREE has no such WAY") X ht rfl tw485 tw62 (by decide +kernel) tx_135_1 tx_135_2 tx_135_131_3 dX7_way_25 dX7_way_28 dX7_way_29 dX7_way_31 dX7_way_34 (by decide) (Nat.le_of_ble_eq_true rfl) (by decide) (by decide) (by decide) (by decide)
    · have h11 := g_in h4 c9; clear h4
      refine g_iload_n (j := 3) X dX7_way_11 rfl rfl ?_
      refine g_iload_n (j := 4) X dX7_way_12 rfl rfl ?_
      refine g_icmp_ge (tgt := 25) X dX7_way_13 (by decide) (fun c12 => ?_) (fun c12 => ?_)
      · have h13 := g_ip h11 c12; clear h11
        obtain ⟨rfl, rfl⟩ := g_end h13
        exact g_throwN (is := 173) (text := "the TREE has no such WAY") X ht rfl tw485 tw62 (by decide +kernel) tx_135_1 tx_135_2 tx_135_131_3 dX7_way_25 dX7_way_28 dX7_way_29 dX7_way_31 dX7_way_34 (by decide) (Nat.le_of_ble_eq_true rfl) (by decide) (by decide) (by decide) (by decide)
      · have h14 := g_in h11 c12; clear h11
        refine g_iload_n (j := 4) X dX7_way_16 rfl rfl ?_
        refine g_aload (j := 0) X dX7_way_17 rfl ?_
        obtain ⟨x15, ex15, h16⟩ := g_bd h14; clear h14
        refine g_fI (ci := 1) (k := 6) X rfl il1 (by decide) tw115 (by decide) (fun _ _ _ => rfl) ex15 dX7_way_19 ?_
        clear ex15
        refine g_icmp_le (tgt := 35) X dX7_way_22 (by decide) (fun c17 => ?_) (fun c17 => ?_)
        · have h18 := g_ip h16 c17; clear h16
          refine g_aload_n (j := 1) X dX7_way_35 rfl rfl ?_
          obtain ⟨x20, ex20, h21⟩ := g_bd h18; clear h18
          refine g_fR (ci := 7) (k := 4) X rfl il7 (by decide) tw190 (by decide) (fun _ _ _ => rfl) ex20 dX7_way_36 ?_
          clear ex20
          refine g_iload_n (j := 3) X dX7_way_39 rfl rfl ?_
          refine g_i2l X dX7_way_40 ?_
          refine g_iload_n (j := 4) X dX7_way_41 rfl rfl ?_
          refine g_i2l X dX7_way_42 ?_
          obtain ⟨a22, ea22, ka22, h23⟩ := g_dc h21; clear h21
          obtain ⟨S24, eS24, h25⟩ := g_bd h23; clear h23
          refine g_cV (n := 2) (As := [.long v2.toInt64, .long v3.toInt64]) X (c_X2_goToLeaf hl D eS24) tw253 tw254 tw255 tw49 tw256 (by decide +kernel) rfl rfl ⟨Nat.le_of_ble_eq_true rfl, Nat.le_of_ble_eq_true rfl⟩ (ci := 2) rfl (by decide) ea22 ka22 rfl rfl (Nat.le_of_ble_eq_true rfl) dX7_way_43 ⟨(by decide), (by decide)⟩ ?_
          clear eS24 ea22 ka22
          refine g_aload (j := 0) X dX7_way_46 rfl ?_
          refine g_aload_n (j := 1) X dX7_way_48 rfl rfl ?_
          obtain ⟨x26, ex26, h27⟩ := g_bd h25; clear h25
          refine g_fR (ci := 7) (k := 4) X rfl il7 (by decide) tw190 (by decide) (fun _ _ _ => rfl) ex26 dX7_way_49 ?_
          clear ex26
          refine g_aload_n (j := 1) X dX7_way_52 rfl rfl ?_
          obtain ⟨x28, ex28, h29⟩ := g_bd h27; clear h27
          refine g_fR (ci := 7) (k := 1) X rfl il7 (by decide) tw187 (by decide) (fun _ _ _ => rfl) ex28 dX7_way_53 ?_
          clear ex28
          obtain ⟨a30, ea30, ka30, h31⟩ := g_dc h29; clear h29
          obtain ⟨x34, S32, eS32, h33⟩ := g_bi h31; clear h31
          refine g_cV (n := 2) (As := [va_rf x26, va_rf x28]) X (c_X1_writeDigests hl D eS32) tw556 tw557 tw558 tw46 tw559 (by decide +kernel) rfl rfl ⟨Nat.le_of_ble_eq_true rfl, Nat.le_of_ble_eq_true rfl⟩ (ci := 1) rfl (by decide) ea30 ka30 rfl rfl (Nat.le_of_ble_eq_true rfl) dX7_way_56 ⟨(by decide), (by decide)⟩ ?_
          clear eS32 ea30 ka30
          obtain ⟨rfl, rfl⟩ := g_end h33
          exact g_xr (g_iret X hr (by decide) (by decide) dX7_way_59)
        · have h19 := g_in h16 c17; clear h16
          obtain ⟨rfl, rfl⟩ := g_end h19
          exact g_throwN (is := 173) (text := "the TREE has no such WAY") X ht rfl tw485 tw62 (by decide +kernel) tx_135_1 tx_135_2 tx_135_131_3 dX7_way_25 dX7_way_28 dX7_way_29 dX7_way_31 dX7_way_34 (by decide) (Nat.le_of_ble_eq_true rfl) (by decide) (by decide) (by decide) (by decide)
  · refine g_xV (n := 1) (As := [.int v1]) X (c_X7_logOf hl D eS3) tw348 tw349 tw7 tw44 tw350 (by decide +kernel) rfl rfl ⟨Nat.le_of_ble_eq_true rfl, Nat.le_of_ble_eq_true rfl⟩ (ci := 7) rfl (by decide) ea1 ka1 rfl rfl (Nat.le_of_ble_eq_true rfl) dX7_way_2 ⟨(by decide), (by decide)⟩ (fun _ hx' => by cases hx') (fun E' hx' => ?_)
    cases hx'; obtain ⟨rfl, rfl⟩ := g_end h8; exact g_out X ht (by decide) (by decide)
def f_X7_proof (S0 : gS) (a0 : Nat) (v1 : Int32) (v2 : Int32) (v3 : Int32) : Option ((String ⊕ Int32) × gS) :=
  gDc S0 7 (some a0) fun a1 =>
  gBx (f_X7_logOf S0 a1 v1) (fun E6 S7 => some (.inl E6, S7)) fun x5 S3 =>
  if v2 ≤ 0 then
    some (.inl "java/util/NoSuchElementException", gsZ S3 (gZ S3 + 1))
  else
    if v3 < v2 then
      some (.inl "java/util/NoSuchElementException", gsZ S3 (gZ S3 + 1))
    else
      (fgI S3 1 6 x5).bind fun x15 =>
      if v3 ≤ x15 then
        (fgR S3 7 4 (some a0)).bind fun x20 =>
        gDc S3 2 x20 fun a22 =>
        (f_X2_goToSize S3 a22 v2.toInt64 v3.toInt64).bind fun S24 =>
        (fgR S24 7 4 (some a0)).bind fun x26 =>
        (fgR S24 7 1 (some a0)).bind fun x28 =>
        gDc S24 1 x5 fun a30 =>
        gBi (f_X1_writeDigests S24 a30 x26 x28) fun x34 S32 =>
        some (.inr x34, S32)
      else
        some (.inl "java/util/NoSuchElementException", gsZ S3 (gZ S3 + 1))
set_option maxRecDepth 100000 in
set_option maxHeartbeats 4000000 in
theorem c_X7_proof {l : Launch} (hl : l.stackTraces = false) (D : gD)  {S0 S9 : gS} {a0 : Nat} {v1 : Int32} {v2 : Int32} {v3 : Int32} {res : String ⊕ Int32} (h0 : f_X7_proof S0 a0 v1 v2 v3 = some (res, S9)) : vx_Met l yX7_proof (gws yX7_proof cX7_proof 5 (some .int)) { frames := 7, cells := 2, slots := 12, locals := 133 } (gPc D S0 [.ref a0, .int v1, .int v2, .int v3]) (gQX D (fun x : Int32 => Value.int x) res S9) (gXX D res S9) (2) (12) (gF D) := by
  refine g_xmet (lv := [(0, va_rf (some a0)), (1, .int v1), (2, .int v2), (3, .int v3)]) hl (by decide) (Nat.le_of_ble_eq_true rfl) rfl (fun p e s m args below meth c X hr ht => ?_)
  have X : gX D p l s m args meth c cX7_proof 5 RX7 := X
  unfold f_X7_proof at h0
  refine g_aload_n (j := 0) X dX7_proof_0 rfl rfl ?_
  refine g_iload_n (j := 1) X dX7_proof_1 rfl rfl ?_
  obtain ⟨a1, ea1, ka1, h2⟩ := g_dc h0; clear h0
  rcases g_bx h2 with ⟨x5, S3, eS3, h4⟩ | ⟨E6, S7, eS3, h8⟩
  · refine g_xV (n := 1) (As := [.int v1]) X (c_X7_logOf hl D eS3) tw348 tw349 tw7 tw44 tw350 (by decide +kernel) rfl rfl ⟨Nat.le_of_ble_eq_true rfl, Nat.le_of_ble_eq_true rfl⟩ (ci := 7) rfl (by decide) ea1 ka1 rfl rfl (Nat.le_of_ble_eq_true rfl) dX7_proof_2 ⟨(by decide), (by decide)⟩ (fun x' hx' => ?_) (fun _ hx' => by cases hx')
    cases hx'; clear h2 eS3 ea1 ka1
    refine g_astore (i := 4) (lv' := [(4, va_rf x5), (0, va_rf (some a0)), (1, .int v1), (2, .int v2), (3, .int v3)]) X dX7_proof_5 (by decide) rfl ?_
    refine g_iload_n (j := 3) X dX7_proof_7 rfl rfl ?_
    refine g_if_le (tgt := 25) X dX7_proof_8 (by decide) (fun c9 => ?_) (fun c9 => ?_)
    · have h10 := g_ip h4 c9; clear h4
      obtain ⟨rfl, rfl⟩ := g_end h10
      exact g_throwN (is := 183) (text := "the TREE has no such PROOF") X ht rfl tw485 tw62 (by decide +kernel) tx_135_1 tx_135_2 tx_135_131_3 dX7_proof_25 dX7_proof_28 dX7_proof_29 dX7_proof_31 dX7_proof_34 (by decide) (Nat.le_of_ble_eq_true rfl) (by decide) (by decide) (by decide) (by decide)
    · have h11 := g_in h4 c9; clear h4
      refine g_iload_n (j := 3) X dX7_proof_11 rfl rfl ?_
      refine g_iload_n (j := 4) X dX7_proof_12 rfl rfl ?_
      refine g_icmp_gt (tgt := 25) X dX7_proof_13 (by decide) (fun c12 => ?_) (fun c12 => ?_)
      · have h13 := g_ip h11 c12; clear h11
        obtain ⟨rfl, rfl⟩ := g_end h13
        exact g_throwN (is := 183) (text := "the TREE has no such PROOF") X ht rfl tw485 tw62 (by decide +kernel) tx_135_1 tx_135_2 tx_135_131_3 dX7_proof_25 dX7_proof_28 dX7_proof_29 dX7_proof_31 dX7_proof_34 (by decide) (Nat.le_of_ble_eq_true rfl) (by decide) (by decide) (by decide) (by decide)
      · have h14 := g_in h11 c12; clear h11
        refine g_iload_n (j := 4) X dX7_proof_16 rfl rfl ?_
        refine g_aload (j := 0) X dX7_proof_17 rfl ?_
        obtain ⟨x15, ex15, h16⟩ := g_bd h14; clear h14
        refine g_fI (ci := 1) (k := 6) X rfl il1 (by decide) tw115 (by decide) (fun _ _ _ => rfl) ex15 dX7_proof_19 ?_
        clear ex15
        refine g_icmp_le (tgt := 35) X dX7_proof_22 (by decide) (fun c17 => ?_) (fun c17 => ?_)
        · have h18 := g_ip h16 c17; clear h16
          refine g_aload_n (j := 1) X dX7_proof_35 rfl rfl ?_
          obtain ⟨x20, ex20, h21⟩ := g_bd h18; clear h18
          refine g_fR (ci := 7) (k := 4) X rfl il7 (by decide) tw190 (by decide) (fun _ _ _ => rfl) ex20 dX7_proof_36 ?_
          clear ex20
          refine g_iload_n (j := 3) X dX7_proof_39 rfl rfl ?_
          refine g_i2l X dX7_proof_40 ?_
          refine g_iload_n (j := 4) X dX7_proof_41 rfl rfl ?_
          refine g_i2l X dX7_proof_42 ?_
          obtain ⟨a22, ea22, ka22, h23⟩ := g_dc h21; clear h21
          obtain ⟨S24, eS24, h25⟩ := g_bd h23; clear h23
          refine g_cV (n := 2) (As := [.long v2.toInt64, .long v3.toInt64]) X (c_X2_goToSize hl D eS24) tw330 tw331 tw332 tw49 tw333 (by decide +kernel) rfl rfl ⟨Nat.le_of_ble_eq_true rfl, Nat.le_of_ble_eq_true rfl⟩ (ci := 2) rfl (by decide) ea22 ka22 rfl rfl (Nat.le_of_ble_eq_true rfl) dX7_proof_43 ⟨(by decide), (by decide)⟩ ?_
          clear eS24 ea22 ka22
          refine g_aload (j := 0) X dX7_proof_46 rfl ?_
          refine g_aload_n (j := 1) X dX7_proof_48 rfl rfl ?_
          obtain ⟨x26, ex26, h27⟩ := g_bd h25; clear h25
          refine g_fR (ci := 7) (k := 4) X rfl il7 (by decide) tw190 (by decide) (fun _ _ _ => rfl) ex26 dX7_proof_49 ?_
          clear ex26
          refine g_aload_n (j := 1) X dX7_proof_52 rfl rfl ?_
          obtain ⟨x28, ex28, h29⟩ := g_bd h27; clear h27
          refine g_fR (ci := 7) (k := 1) X rfl il7 (by decide) tw187 (by decide) (fun _ _ _ => rfl) ex28 dX7_proof_53 ?_
          clear ex28
          obtain ⟨a30, ea30, ka30, h31⟩ := g_dc h29; clear h29
          obtain ⟨x34, S32, eS32, h33⟩ := g_bi h31; clear h31
          refine g_cV (n := 2) (As := [va_rf x26, va_rf x28]) X (c_X1_writeDigests hl D eS32) tw556 tw557 tw558 tw46 tw559 (by decide +kernel) rfl rfl ⟨Nat.le_of_ble_eq_true rfl, Nat.le_of_ble_eq_true rfl⟩ (ci := 1) rfl (by decide) ea30 ka30 rfl rfl (Nat.le_of_ble_eq_true rfl) dX7_proof_56 ⟨(by decide), (by decide)⟩ ?_
          clear eS32 ea30 ka30
          obtain ⟨rfl, rfl⟩ := g_end h33
          exact g_xr (g_iret X hr (by decide) (by decide) dX7_proof_59)
        · have h19 := g_in h16 c17; clear h16
          obtain ⟨rfl, rfl⟩ := g_end h19
          exact g_throwN (is := 183) (text := "the TREE has no such PROOF") X ht rfl tw485 tw62 (by decide +kernel) tx_135_1 tx_135_2 tx_135_131_3 dX7_proof_25 dX7_proof_28 dX7_proof_29 dX7_proof_31 dX7_proof_34 (by decide) (Nat.le_of_ble_eq_true rfl) (by decide) (by decide) (by decide) (by decide)
  · refine g_xV (n := 1) (As := [.int v1]) X (c_X7_logOf hl D eS3) tw348 tw349 tw7 tw44 tw350 (by decide +kernel) rfl rfl ⟨Nat.le_of_ble_eq_true rfl, Nat.le_of_ble_eq_true rfl⟩ (ci := 7) rfl (by decide) ea1 ka1 rfl rfl (Nat.le_of_ble_eq_true rfl) dX7_proof_2 ⟨(by decide), (by decide)⟩ (fun _ hx' => by cases hx') (fun E' hx' => ?_)
    cases hx'; obtain ⟨rfl, rfl⟩ := g_end h8; exact g_out X ht (by decide) (by decide)
def f_X7_isIn (S0 : gS) (a0 : Nat) (v1 : Int64) (v3 : Int64) : Option (Int32 × gS) :=
  (fgR S0 7 0 (some a0)).bind fun x1 =>
  gDc S0 5 x1 fun a3 =>
  gBi (f_X5_useUp S0 a3) fun x7 S5 =>
  if (lg_cmp v1 0) < 0 then
    some (0, S5)
  else
    if (lg_cmp v1 v3) < 0 then
      (fgR S5 7 4 (some a0)).bind fun x14 =>
      gDc S5 2 x14 fun a16 =>
      (f_X2_goToLeaf S5 a16 v1 v3).bind fun S18 =>
      (fgR S18 7 4 (some a0)).bind fun x20 =>
      gDc S18 2 x20 fun a22 =>
      gBi (f_X2_digests S18 a22) fun x26 S24 =>
      if x7 = (64 + (x26 * 32)) then
        (fgR S24 7 5 (some a0)).bind fun x30 =>
        (fgR S24 7 0 (some a0)).bind fun x32 =>
        (fgR S24 5 0 x32).bind fun x34 =>
        gDc S24 0 x30 fun a36 =>
        (f_X0_start S24 a36 x34 32).bind fun S38 =>
        (fgR S38 7 5 (some a0)).bind fun x40 =>
        (fgR S38 7 4 (some a0)).bind fun x42 =>
        (fgR S38 7 0 (some a0)).bind fun x44 =>
        (fgR S38 5 0 x44).bind fun x46 =>
        gDc S38 0 x40 fun a48 =>
        (f_X0_climb S38 a48 x42 x46 64).bind fun S50 =>
        (fgR S50 7 5 (some a0)).bind fun x52 =>
        (fgR S50 7 0 (some a0)).bind fun x54 =>
        (fgR S50 5 0 x54).bind fun x56 =>
        gDc S50 0 x52 fun a58 =>
        gBi (f_X0_cameTo S50 a58 x56 0) fun x62 S60 =>
        if x62 = 0 ∨ x62 = 1 then
          some (x62, S60)
        else none
      else
        some (0, S24)
    else
      some (0, S5)
set_option maxRecDepth 100000 in
set_option maxHeartbeats 4000000 in
theorem c_X7_isIn {l : Launch} (hl : l.stackTraces = false) (D : gD)  {S0 S9 : gS} {a0 : Nat} {v1 : Int64} {v3 : Int64} {res : Int32} (h0 : f_X7_isIn S0 a0 v1 v3 = some (res, S9)) : Met l yX7_isIn (gws yX7_isIn cX7_isIn 7 (some .boolean)) { frames := 4, cells := 0, slots := 0, locals := 111 } (gPc D S0 [.ref a0, .long v1, .long v3]) (gQ D (some (.int res)) S9) (0) (0) (gF D) := by
  refine g_met (lv := [(0, va_rf (some a0)), (1, .long v1), (3, .long v3)]) hl (by decide) (Nat.le_of_ble_eq_true rfl) rfl (fun p e s m args below meth c X hr hn => ?_)
  have X : gX D p l s m args meth c cX7_isIn 7 RX7 := X
  unfold f_X7_isIn at h0
  refine g_aload_n (j := 0) X dX7_isIn_0 rfl rfl ?_
  obtain ⟨x1, ex1, h2⟩ := g_bd h0; clear h0
  refine g_fR (ci := 7) (k := 0) X rfl il7 (by decide) tw186 (by decide) (fun _ _ _ => rfl) ex1 dX7_isIn_1 ?_
  clear ex1
  obtain ⟨a3, ea3, ka3, h4⟩ := g_dc h2; clear h2
  obtain ⟨x7, S5, eS5, h6⟩ := g_bi h4; clear h4
  refine g_cV (n := 0) (As := []) X (c_X5_useUp hl D eS5) tw249 tw250 tw251 tw45 tw252 (by decide +kernel) rfl rfl ⟨Nat.le_of_ble_eq_true rfl, Nat.le_of_ble_eq_true rfl⟩ (ci := 5) rfl (by decide) ea3 ka3 rfl rfl (Nat.le_of_ble_eq_true rfl) dX7_isIn_4 ⟨(by decide), (by decide)⟩ ?_
  clear eS5 ea3 ka3
  refine g_istore (i := 5) (lv' := [(5, .int x7), (0, va_rf (some a0)), (1, .long v1), (3, .long v3)]) X dX7_isIn_7 (by decide) rfl ?_
  refine g_lload_n (j := 2) X dX7_isIn_9 rfl rfl ?_
  refine g_lconst X dX7_isIn_10 (v := 0) (by decide) ?_
  refine g_lcmp X dX7_isIn_11 ?_
  refine g_if_lt (tgt := 21) X dX7_isIn_12 (by decide) (fun c8 => ?_) (fun c8 => ?_)
  · have h9 := g_ip h6 c8; clear h6
    refine g_iconst X dX7_isIn_21 (v := 0) (by decide) ?_
    obtain ⟨rfl, rfl⟩ := g_end h9
    exact g_zret X hr (Or.inl rfl) (by decide) (by decide) dX7_isIn_22
  · have h10 := g_in h6 c8; clear h6
    refine g_lload_n (j := 2) X dX7_isIn_15 rfl rfl ?_
    refine g_lload_n (j := 3) X dX7_isIn_16 rfl rfl ?_
    refine g_lcmp X dX7_isIn_17 ?_
    refine g_if_lt (tgt := 23) X dX7_isIn_18 (by decide) (fun c11 => ?_) (fun c11 => ?_)
    · have h12 := g_ip h10 c11; clear h10
      refine g_aload_n (j := 1) X dX7_isIn_23 rfl rfl ?_
      obtain ⟨x14, ex14, h15⟩ := g_bd h12; clear h12
      refine g_fR (ci := 7) (k := 4) X rfl il7 (by decide) tw190 (by decide) (fun _ _ _ => rfl) ex14 dX7_isIn_24 ?_
      clear ex14
      refine g_lload_n (j := 2) X dX7_isIn_27 rfl rfl ?_
      refine g_lload_n (j := 3) X dX7_isIn_28 rfl rfl ?_
      obtain ⟨a16, ea16, ka16, h17⟩ := g_dc h15; clear h15
      obtain ⟨S18, eS18, h19⟩ := g_bd h17; clear h17
      refine g_cV (n := 2) (As := [.long v1, .long v3]) X (c_X2_goToLeaf hl D eS18) tw253 tw254 tw255 tw49 tw256 (by decide +kernel) rfl rfl ⟨Nat.le_of_ble_eq_true rfl, Nat.le_of_ble_eq_true rfl⟩ (ci := 2) rfl (by decide) ea16 ka16 rfl rfl (Nat.le_of_ble_eq_true rfl) dX7_isIn_29 ⟨(by decide), (by decide)⟩ ?_
      clear eS18 ea16 ka16
      refine g_bipush X dX7_isIn_32 (v := 64) (by decide) ?_
      refine g_istore (i := 6) (lv' := [(6, .int 64), (5, .int x7), (0, va_rf (some a0)), (1, .long v1), (3, .long v3)]) X dX7_isIn_34 (by decide) rfl ?_
      refine g_iload (j := 1) X dX7_isIn_36 rfl ?_
      refine g_iload (j := 0) X dX7_isIn_38 rfl ?_
      refine g_aload_n (j := 2) X dX7_isIn_40 rfl rfl ?_
      obtain ⟨x20, ex20, h21⟩ := g_bd h19; clear h19
      refine g_fR (ci := 7) (k := 4) X rfl il7 (by decide) tw190 (by decide) (fun _ _ _ => rfl) ex20 dX7_isIn_41 ?_
      clear ex20
      obtain ⟨a22, ea22, ka22, h23⟩ := g_dc h21; clear h21
      obtain ⟨x26, S24, eS24, h25⟩ := g_bi h23; clear h23
      refine g_cV (n := 0) (As := []) X (c_X2_digests hl D eS24) tw272 tw273 tw274 tw49 tw275 (by decide +kernel) rfl rfl ⟨Nat.le_of_ble_eq_true rfl, Nat.le_of_ble_eq_true rfl⟩ (ci := 2) rfl (by decide) ea22 ka22 rfl rfl (Nat.le_of_ble_eq_true rfl) dX7_isIn_44 ⟨(by decide), (by decide)⟩ ?_
      clear eS24 ea22 ka22
      refine g_bipush X dX7_isIn_47 (v := 32) (by decide) ?_
      refine g_imul X dX7_isIn_49 ?_
      refine g_iadd X dX7_isIn_50 ?_
      refine g_icmp_eq (tgt := 56) X dX7_isIn_51 (by decide) (fun c27 => ?_) (fun c27 => ?_)
      · have h28 := g_ip h25 c27; clear h25
        refine g_aload_n (j := 2) X dX7_isIn_56 rfl rfl ?_
        obtain ⟨x30, ex30, h31⟩ := g_bd h28; clear h28
        refine g_fR (ci := 7) (k := 5) X rfl il7 (by decide) tw191 (by decide) (fun _ _ _ => rfl) ex30 dX7_isIn_57 ?_
        clear ex30
        refine g_aload_n (j := 2) X dX7_isIn_60 rfl rfl ?_
        obtain ⟨x32, ex32, h33⟩ := g_bd h31; clear h31
        refine g_fR (ci := 7) (k := 0) X rfl il7 (by decide) tw186 (by decide) (fun _ _ _ => rfl) ex32 dX7_isIn_61 ?_
        clear ex32
        obtain ⟨x34, ex34, h35⟩ := g_bd h33; clear h33
        refine g_fR (ci := 5) (k := 0) X rfl il5 (by decide) tw79 (by decide) (fun _ _ _ => rfl) ex34 dX7_isIn_64 ?_
        clear ex34
        refine g_bipush X dX7_isIn_67 (v := 32) (by decide) ?_
        obtain ⟨a36, ea36, ka36, h37⟩ := g_dc h35; clear h35
        obtain ⟨S38, eS38, h39⟩ := g_bd h37; clear h37
        refine g_cV (n := 2) (As := [va_rf x34, .int 32]) X (c_X0_start hl D eS38) tw276 tw277 tw278 tw50 tw279 (by decide +kernel) rfl rfl ⟨Nat.le_of_ble_eq_true rfl, Nat.le_of_ble_eq_true rfl⟩ (ci := 0) rfl (by decide) ea36 ka36 rfl rfl (Nat.le_of_ble_eq_true rfl) dX7_isIn_69 ⟨(by decide), (by decide)⟩ ?_
        clear eS38 ea36 ka36
        refine g_aload_n (j := 2) X dX7_isIn_72 rfl rfl ?_
        obtain ⟨x40, ex40, h41⟩ := g_bd h39; clear h39
        refine g_fR (ci := 7) (k := 5) X rfl il7 (by decide) tw191 (by decide) (fun _ _ _ => rfl) ex40 dX7_isIn_73 ?_
        clear ex40
        refine g_aload_n (j := 2) X dX7_isIn_76 rfl rfl ?_
        obtain ⟨x42, ex42, h43⟩ := g_bd h41; clear h41
        refine g_fR (ci := 7) (k := 4) X rfl il7 (by decide) tw190 (by decide) (fun _ _ _ => rfl) ex42 dX7_isIn_77 ?_
        clear ex42
        refine g_aload_n (j := 2) X dX7_isIn_80 rfl rfl ?_
        obtain ⟨x44, ex44, h45⟩ := g_bd h43; clear h43
        refine g_fR (ci := 7) (k := 0) X rfl il7 (by decide) tw186 (by decide) (fun _ _ _ => rfl) ex44 dX7_isIn_81 ?_
        clear ex44
        obtain ⟨x46, ex46, h47⟩ := g_bd h45; clear h45
        refine g_fR (ci := 5) (k := 0) X rfl il5 (by decide) tw79 (by decide) (fun _ _ _ => rfl) ex46 dX7_isIn_84 ?_
        clear ex46
        refine g_iload (j := 0) X dX7_isIn_87 rfl ?_
        obtain ⟨a48, ea48, ka48, h49⟩ := g_dc h47; clear h47
        obtain ⟨S50, eS50, h51⟩ := g_bd h49; clear h49
        refine g_cV (n := 3) (As := [va_rf x42, va_rf x46, .int 64]) X (c_X0_climb hl D eS50) tw281 tw282 tw283 tw50 tw284 (by decide +kernel) rfl rfl ⟨Nat.le_of_ble_eq_true rfl, Nat.le_of_ble_eq_true rfl⟩ (ci := 0) rfl (by decide) ea48 ka48 rfl rfl (Nat.le_of_ble_eq_true rfl) dX7_isIn_89 ⟨(by decide), (by decide)⟩ ?_
        clear eS50 ea48 ka48
        refine g_aload_n (j := 2) X dX7_isIn_92 rfl rfl ?_
        obtain ⟨x52, ex52, h53⟩ := g_bd h51; clear h51
        refine g_fR (ci := 7) (k := 5) X rfl il7 (by decide) tw191 (by decide) (fun _ _ _ => rfl) ex52 dX7_isIn_93 ?_
        clear ex52
        refine g_aload_n (j := 2) X dX7_isIn_96 rfl rfl ?_
        obtain ⟨x54, ex54, h55⟩ := g_bd h53; clear h53
        refine g_fR (ci := 7) (k := 0) X rfl il7 (by decide) tw186 (by decide) (fun _ _ _ => rfl) ex54 dX7_isIn_97 ?_
        clear ex54
        obtain ⟨x56, ex56, h57⟩ := g_bd h55; clear h55
        refine g_fR (ci := 5) (k := 0) X rfl il5 (by decide) tw79 (by decide) (fun _ _ _ => rfl) ex56 dX7_isIn_100 ?_
        clear ex56
        refine g_iconst X dX7_isIn_103 (v := 0) (by decide) ?_
        obtain ⟨a58, ea58, ka58, h59⟩ := g_dc h57; clear h57
        obtain ⟨x62, S60, eS60, h61⟩ := g_bi h59; clear h59
        refine g_cV (n := 2) (As := [va_rf x56, .int 0]) X (c_X0_cameTo hl D eS60) tw316 tw317 tw318 tw50 tw319 (by decide +kernel) rfl rfl ⟨Nat.le_of_ble_eq_true rfl, Nat.le_of_ble_eq_true rfl⟩ (ci := 0) rfl (by decide) ea58 ka58 rfl rfl (Nat.le_of_ble_eq_true rfl) dX7_isIn_104 ⟨(by decide), (by decide)⟩ ?_
        clear eS60 ea58 ka58
        obtain ⟨c63, h64⟩ := g_if h61; clear h61
        obtain ⟨rfl, rfl⟩ := g_end h64
        exact g_zret X hr c63 (by decide) (by decide) dX7_isIn_107
      · have h29 := g_in h25 c27; clear h25
        refine g_iconst X dX7_isIn_54 (v := 0) (by decide) ?_
        obtain ⟨rfl, rfl⟩ := g_end h29
        exact g_zret X hr (Or.inl rfl) (by decide) (by decide) dX7_isIn_55
    · have h13 := g_in h10 c11; clear h10
      refine g_iconst X dX7_isIn_21 (v := 0) (by decide) ?_
      obtain ⟨rfl, rfl⟩ := g_end h13
      exact g_zret X hr (Or.inl rfl) (by decide) (by decide) dX7_isIn_22
def f_X7_goesOn (S0 : gS) (a0 : Nat) (v1 : Int64) (v3 : Int64) (v5 : Option Nat) (v6 : Int32) (v7 : Int32) (v8 : Int32) (v9 : Int32) : Option (Int32 × gS) :=
  (fgR S0 7 4 (some a0)).bind fun x1 =>
  gDc S0 2 x1 fun a3 =>
  (f_X2_goToSize S0 a3 v1 v3).bind fun S5 =>
  (fgR S5 7 4 (some a0)).bind fun x7 =>
  gDc S5 2 x7 fun a9 =>
  gBi (f_X2_digests S5 a9) fun x13 S11 =>
  if v8 = (x13 * 32) then
    (fgR S11 7 5 (some a0)).bind fun x17 =>
    gDc S11 0 x17 fun a19 =>
    (f_X0_start S11 a19 v5 v6).bind fun S21 =>
    (fgR S21 7 5 (some a0)).bind fun x23 =>
    (fgR S21 7 4 (some a0)).bind fun x25 =>
    (fgR S21 7 0 (some a0)).bind fun x27 =>
    (fgR S21 5 0 x27).bind fun x29 =>
    gDc S21 0 x23 fun a31 =>
    (f_X0_climb S21 a31 x25 x29 v9).bind fun S33 =>
    (fgR S33 7 5 (some a0)).bind fun x35 =>
    gDc S33 0 x35 fun a37 =>
    gBi (f_X0_leftFrom S33 a37 v5 v6) fun x41 S39 =>
    if x41 = 0 then
      some (0, S39)
    else
      (fgR S39 7 5 (some a0)).bind fun x45 =>
      (fgR S39 7 0 (some a0)).bind fun x47 =>
      (fgR S39 5 0 x47).bind fun x49 =>
      gDc S39 0 x45 fun a51 =>
      gBi (f_X0_cameTo S39 a51 x49 v7) fun x55 S53 =>
      if x55 = 0 then
        some (0, S53)
      else
        some (1, S53)
  else
    some (0, S11)
set_option maxRecDepth 100000 in
set_option maxHeartbeats 4000000 in
theorem c_X7_goesOn {l : Launch} (hl : l.stackTraces = false) (D : gD)  {S0 S9 : gS} {a0 : Nat} {v1 : Int64} {v3 : Int64} {v5 : Option Nat} {v6 : Int32} {v7 : Int32} {v8 : Int32} {v9 : Int32} {res : Int32} (h0 : f_X7_goesOn S0 a0 v1 v3 v5 v6 v7 v8 v9 = some (res, S9)) : Met l yX7_goesOn (gws yX7_goesOn cX7_goesOn 10 (some .boolean)) { frames := 4, cells := 0, slots := 0, locals := 111 } (gPc D S0 [.ref a0, .long v1, .long v3, va_rf v5, .int v6, .int v7, .int v8, .int v9]) (gQ D (some (.int res)) S9) (0) (0) (gF D) := by
  refine g_met (lv := [(0, va_rf (some a0)), (1, .long v1), (3, .long v3), (5, va_rf v5), (6, .int v6), (7, .int v7), (8, .int v8), (9, .int v9)]) hl (by decide) (by simp [lg_sl, g_rfc, g_ci, g_cj, g_cr]) (by simp [lv_args, g_rfc, g_ci, g_cj, g_cr]; try rfl) (fun p e s m args below meth c X hr hn => ?_)
  have X : gX D p l s m args meth c cX7_goesOn 10 RX7 := X
  unfold f_X7_goesOn at h0
  refine g_aload_n (j := 0) X dX7_goesOn_0 rfl rfl ?_
  obtain ⟨x1, ex1, h2⟩ := g_bd h0; clear h0
  refine g_fR (ci := 7) (k := 4) X rfl il7 (by decide) tw190 (by decide) (fun _ _ _ => rfl) ex1 dX7_goesOn_1 ?_
  clear ex1
  refine g_lload_n (j := 1) X dX7_goesOn_4 rfl rfl ?_
  refine g_lload_n (j := 2) X dX7_goesOn_5 rfl rfl ?_
  obtain ⟨a3, ea3, ka3, h4⟩ := g_dc h2; clear h2
  obtain ⟨S5, eS5, h6⟩ := g_bd h4; clear h4
  refine g_cV (n := 2) (As := [.long v1, .long v3]) X (c_X2_goToSize hl D eS5) tw330 tw331 tw332 tw49 tw333 (by decide +kernel) rfl rfl ⟨Nat.le_of_ble_eq_true rfl, Nat.le_of_ble_eq_true rfl⟩ (ci := 2) rfl (by decide) ea3 ka3 rfl rfl (Nat.le_of_ble_eq_true rfl) dX7_goesOn_6 ⟨(by decide), (by decide)⟩ ?_
  clear eS5 ea3 ka3
  refine g_iload (j := 6) X dX7_goesOn_9 rfl ?_
  refine g_aload_n (j := 0) X dX7_goesOn_11 rfl rfl ?_
  obtain ⟨x7, ex7, h8⟩ := g_bd h6; clear h6
  refine g_fR (ci := 7) (k := 4) X rfl il7 (by decide) tw190 (by decide) (fun _ _ _ => rfl) ex7 dX7_goesOn_12 ?_
  clear ex7
  obtain ⟨a9, ea9, ka9, h10⟩ := g_dc h8; clear h8
  obtain ⟨x13, S11, eS11, h12⟩ := g_bi h10; clear h10
  refine g_cV (n := 0) (As := []) X (c_X2_digests hl D eS11) tw272 tw273 tw274 tw49 tw275 (by decide +kernel) rfl rfl ⟨Nat.le_of_ble_eq_true rfl, Nat.le_of_ble_eq_true rfl⟩ (ci := 2) rfl (by decide) ea9 ka9 rfl rfl (Nat.le_of_ble_eq_true rfl) dX7_goesOn_15 ⟨(by decide), (by decide)⟩ ?_
  clear eS11 ea9 ka9
  refine g_bipush X dX7_goesOn_18 (v := 32) (by decide) ?_
  refine g_imul X dX7_goesOn_20 ?_
  refine g_icmp_eq (tgt := 26) X dX7_goesOn_21 (by decide) (fun c14 => ?_) (fun c14 => ?_)
  · have h15 := g_ip h12 c14; clear h12
    refine g_aload_n (j := 0) X dX7_goesOn_26 rfl rfl ?_
    obtain ⟨x17, ex17, h18⟩ := g_bd h15; clear h15
    refine g_fR (ci := 7) (k := 5) X rfl il7 (by decide) tw191 (by decide) (fun _ _ _ => rfl) ex17 dX7_goesOn_27 ?_
    clear ex17
    refine g_aload (j := 3) X dX7_goesOn_30 rfl ?_
    refine g_iload (j := 4) X dX7_goesOn_32 rfl ?_
    obtain ⟨a19, ea19, ka19, h20⟩ := g_dc h18; clear h18
    obtain ⟨S21, eS21, h22⟩ := g_bd h20; clear h20
    refine g_cV (n := 2) (As := [va_rf v5, .int v6]) X (c_X0_start hl D eS21) tw276 tw277 tw278 tw50 tw279 (by decide +kernel) rfl rfl ⟨Nat.le_of_ble_eq_true rfl, Nat.le_of_ble_eq_true rfl⟩ (ci := 0) rfl (by decide) ea19 ka19 rfl rfl (Nat.le_of_ble_eq_true rfl) dX7_goesOn_34 ⟨(by decide), (by decide)⟩ ?_
    clear eS21 ea19 ka19
    refine g_aload_n (j := 0) X dX7_goesOn_37 rfl rfl ?_
    obtain ⟨x23, ex23, h24⟩ := g_bd h22; clear h22
    refine g_fR (ci := 7) (k := 5) X rfl il7 (by decide) tw191 (by decide) (fun _ _ _ => rfl) ex23 dX7_goesOn_38 ?_
    clear ex23
    refine g_aload_n (j := 0) X dX7_goesOn_41 rfl rfl ?_
    obtain ⟨x25, ex25, h26⟩ := g_bd h24; clear h24
    refine g_fR (ci := 7) (k := 4) X rfl il7 (by decide) tw190 (by decide) (fun _ _ _ => rfl) ex25 dX7_goesOn_42 ?_
    clear ex25
    refine g_aload_n (j := 0) X dX7_goesOn_45 rfl rfl ?_
    obtain ⟨x27, ex27, h28⟩ := g_bd h26; clear h26
    refine g_fR (ci := 7) (k := 0) X rfl il7 (by decide) tw186 (by decide) (fun _ _ _ => rfl) ex27 dX7_goesOn_46 ?_
    clear ex27
    obtain ⟨x29, ex29, h30⟩ := g_bd h28; clear h28
    refine g_fR (ci := 5) (k := 0) X rfl il5 (by decide) tw79 (by decide) (fun _ _ _ => rfl) ex29 dX7_goesOn_49 ?_
    clear ex29
    refine g_iload (j := 7) X dX7_goesOn_52 rfl ?_
    obtain ⟨a31, ea31, ka31, h32⟩ := g_dc h30; clear h30
    obtain ⟨S33, eS33, h34⟩ := g_bd h32; clear h32
    refine g_cV (n := 3) (As := [va_rf x25, va_rf x29, .int v9]) X (c_X0_climb hl D eS33) tw281 tw282 tw283 tw50 tw284 (by decide +kernel) rfl rfl ⟨Nat.le_of_ble_eq_true rfl, Nat.le_of_ble_eq_true rfl⟩ (ci := 0) rfl (by decide) ea31 ka31 rfl rfl (Nat.le_of_ble_eq_true rfl) dX7_goesOn_54 ⟨(by decide), (by decide)⟩ ?_
    clear eS33 ea31 ka31
    refine g_aload_n (j := 0) X dX7_goesOn_57 rfl rfl ?_
    obtain ⟨x35, ex35, h36⟩ := g_bd h34; clear h34
    refine g_fR (ci := 7) (k := 5) X rfl il7 (by decide) tw191 (by decide) (fun _ _ _ => rfl) ex35 dX7_goesOn_58 ?_
    clear ex35
    refine g_aload (j := 3) X dX7_goesOn_61 rfl ?_
    refine g_iload (j := 4) X dX7_goesOn_63 rfl ?_
    obtain ⟨a37, ea37, ka37, h38⟩ := g_dc h36; clear h36
    obtain ⟨x41, S39, eS39, h40⟩ := g_bi h38; clear h38
    refine g_cV (n := 2) (As := [va_rf v5, .int v6]) X (c_X0_leftFrom hl D eS39) tw334 tw335 tw336 tw50 tw337 (by decide +kernel) rfl rfl ⟨Nat.le_of_ble_eq_true rfl, Nat.le_of_ble_eq_true rfl⟩ (ci := 0) rfl (by decide) ea37 ka37 rfl rfl (Nat.le_of_ble_eq_true rfl) dX7_goesOn_65 ⟨(by decide), (by decide)⟩ ?_
    clear eS39 ea37 ka37
    refine g_if_eq (tgt := 94) X dX7_goesOn_68 (by decide) (fun c42 => ?_) (fun c42 => ?_)
    · have h43 := g_ip h40 c42; clear h40
      refine g_iconst X dX7_goesOn_94 (v := 0) (by decide) ?_
      obtain ⟨rfl, rfl⟩ := g_end h43
      exact g_zret X hr (Or.inl rfl) (by decide) (by decide) dX7_goesOn_95
    · have h44 := g_in h40 c42; clear h40
      refine g_aload_n (j := 0) X dX7_goesOn_71 rfl rfl ?_
      obtain ⟨x45, ex45, h46⟩ := g_bd h44; clear h44
      refine g_fR (ci := 7) (k := 5) X rfl il7 (by decide) tw191 (by decide) (fun _ _ _ => rfl) ex45 dX7_goesOn_72 ?_
      clear ex45
      refine g_aload_n (j := 0) X dX7_goesOn_75 rfl rfl ?_
      obtain ⟨x47, ex47, h48⟩ := g_bd h46; clear h46
      refine g_fR (ci := 7) (k := 0) X rfl il7 (by decide) tw186 (by decide) (fun _ _ _ => rfl) ex47 dX7_goesOn_76 ?_
      clear ex47
      obtain ⟨x49, ex49, h50⟩ := g_bd h48; clear h48
      refine g_fR (ci := 5) (k := 0) X rfl il5 (by decide) tw79 (by decide) (fun _ _ _ => rfl) ex49 dX7_goesOn_79 ?_
      clear ex49
      refine g_iload (j := 5) X dX7_goesOn_82 rfl ?_
      obtain ⟨a51, ea51, ka51, h52⟩ := g_dc h50; clear h50
      obtain ⟨x55, S53, eS53, h54⟩ := g_bi h52; clear h52
      refine g_cV (n := 2) (As := [va_rf x49, .int v7]) X (c_X0_cameTo hl D eS53) tw316 tw317 tw318 tw50 tw319 (by decide +kernel) rfl rfl ⟨Nat.le_of_ble_eq_true rfl, Nat.le_of_ble_eq_true rfl⟩ (ci := 0) rfl (by decide) ea51 ka51 rfl rfl (Nat.le_of_ble_eq_true rfl) dX7_goesOn_84 ⟨(by decide), (by decide)⟩ ?_
      clear eS53 ea51 ka51
      refine g_if_eq (tgt := 94) X dX7_goesOn_87 (by decide) (fun c56 => ?_) (fun c56 => ?_)
      · have h57 := g_ip h54 c56; clear h54
        refine g_iconst X dX7_goesOn_94 (v := 0) (by decide) ?_
        obtain ⟨rfl, rfl⟩ := g_end h57
        exact g_zret X hr (Or.inl rfl) (by decide) (by decide) dX7_goesOn_95
      · have h58 := g_in h54 c56; clear h54
        refine g_iconst X dX7_goesOn_90 (v := 1) (by decide) ?_
        refine g_goto (tgt := 95) X dX7_goesOn_91 (by decide) ?_
        obtain ⟨rfl, rfl⟩ := g_end h58
        exact g_zret X hr (Or.inr rfl) (by decide) (by decide) dX7_goesOn_95
  · have h16 := g_in h12 c14; clear h12
    refine g_iconst X dX7_goesOn_24 (v := 0) (by decide) ?_
    obtain ⟨rfl, rfl⟩ := g_end h16
    exact g_zret X hr (Or.inl rfl) (by decide) (by decide) dX7_goesOn_25
def f_X7_isOn (S0 : gS) (a0 : Nat) (v1 : Int64) (v3 : Int64) : Option (Int32 × gS) :=
  (fgR S0 7 0 (some a0)).bind fun x1 =>
  gDc S0 5 x1 fun a3 =>
  gBi (f_X5_useUp S0 a3) fun x7 S5 =>
  if (lg_cmp v1 0) ≤ 0 then
    some (0, S5)
  else
    if (lg_cmp v1 v3) ≤ 0 then
      (fgR S5 7 0 (some a0)).bind fun x14 =>
      (fgR S5 5 0 x14).bind fun x16 =>
      gDc S5 7 (some a0) fun a18 =>
      gBi (f_X7_goesOn S5 a18 v1 v3 x16 0 32 (x7 - 64) 64) fun x22 S20 =>
      if x22 = 0 ∨ x22 = 1 then
        some (x22, S20)
      else none
    else
      some (0, S5)
set_option maxRecDepth 100000 in
set_option maxHeartbeats 4000000 in
theorem c_X7_isOn {l : Launch} (hl : l.stackTraces = false) (D : gD)  {S0 S9 : gS} {a0 : Nat} {v1 : Int64} {v3 : Int64} {res : Int32} (h0 : f_X7_isOn S0 a0 v1 v3 = some (res, S9)) : Met l yX7_isOn (gws yX7_isOn cX7_isOn 6 (some .boolean)) { frames := 5, cells := 0, slots := 0, locals := 140 } (gPc D S0 [.ref a0, .long v1, .long v3]) (gQ D (some (.int res)) S9) (0) (0) (gF D) := by
  refine g_met (lv := [(0, va_rf (some a0)), (1, .long v1), (3, .long v3)]) hl (by decide) (Nat.le_of_ble_eq_true rfl) rfl (fun p e s m args below meth c X hr hn => ?_)
  have X : gX D p l s m args meth c cX7_isOn 6 RX7 := X
  unfold f_X7_isOn at h0
  refine g_aload_n (j := 0) X dX7_isOn_0 rfl rfl ?_
  obtain ⟨x1, ex1, h2⟩ := g_bd h0; clear h0
  refine g_fR (ci := 7) (k := 0) X rfl il7 (by decide) tw186 (by decide) (fun _ _ _ => rfl) ex1 dX7_isOn_1 ?_
  clear ex1
  obtain ⟨a3, ea3, ka3, h4⟩ := g_dc h2; clear h2
  obtain ⟨x7, S5, eS5, h6⟩ := g_bi h4; clear h4
  refine g_cV (n := 0) (As := []) X (c_X5_useUp hl D eS5) tw249 tw250 tw251 tw45 tw252 (by decide +kernel) rfl rfl ⟨Nat.le_of_ble_eq_true rfl, Nat.le_of_ble_eq_true rfl⟩ (ci := 5) rfl (by decide) ea3 ka3 rfl rfl (Nat.le_of_ble_eq_true rfl) dX7_isOn_4 ⟨(by decide), (by decide)⟩ ?_
  clear eS5 ea3 ka3
  refine g_istore (i := 5) (lv' := [(5, .int x7), (0, va_rf (some a0)), (1, .long v1), (3, .long v3)]) X dX7_isOn_7 (by decide) rfl ?_
  refine g_lload_n (j := 2) X dX7_isOn_9 rfl rfl ?_
  refine g_lconst X dX7_isOn_10 (v := 0) (by decide) ?_
  refine g_lcmp X dX7_isOn_11 ?_
  refine g_if_le (tgt := 21) X dX7_isOn_12 (by decide) (fun c8 => ?_) (fun c8 => ?_)
  · have h9 := g_ip h6 c8; clear h6
    refine g_iconst X dX7_isOn_21 (v := 0) (by decide) ?_
    obtain ⟨rfl, rfl⟩ := g_end h9
    exact g_zret X hr (Or.inl rfl) (by decide) (by decide) dX7_isOn_22
  · have h10 := g_in h6 c8; clear h6
    refine g_lload_n (j := 2) X dX7_isOn_15 rfl rfl ?_
    refine g_lload_n (j := 3) X dX7_isOn_16 rfl rfl ?_
    refine g_lcmp X dX7_isOn_17 ?_
    refine g_if_le (tgt := 23) X dX7_isOn_18 (by decide) (fun c11 => ?_) (fun c11 => ?_)
    · have h12 := g_ip h10 c11; clear h10
      refine g_aload_n (j := 1) X dX7_isOn_23 rfl rfl ?_
      refine g_lload_n (j := 2) X dX7_isOn_24 rfl rfl ?_
      refine g_lload_n (j := 3) X dX7_isOn_25 rfl rfl ?_
      refine g_aload_n (j := 1) X dX7_isOn_26 rfl rfl ?_
      obtain ⟨x14, ex14, h15⟩ := g_bd h12; clear h12
      refine g_fR (ci := 7) (k := 0) X rfl il7 (by decide) tw186 (by decide) (fun _ _ _ => rfl) ex14 dX7_isOn_27 ?_
      clear ex14
      obtain ⟨x16, ex16, h17⟩ := g_bd h15; clear h15
      refine g_fR (ci := 5) (k := 0) X rfl il5 (by decide) tw79 (by decide) (fun _ _ _ => rfl) ex16 dX7_isOn_30 ?_
      clear ex16
      refine g_iconst X dX7_isOn_33 (v := 0) (by decide) ?_
      refine g_bipush X dX7_isOn_34 (v := 32) (by decide) ?_
      refine g_iload (j := 0) X dX7_isOn_36 rfl ?_
      refine g_bipush X dX7_isOn_38 (v := 64) (by decide) ?_
      refine g_isub X dX7_isOn_40 ?_
      refine g_bipush X dX7_isOn_41 (v := 64) (by decide) ?_
      obtain ⟨a18, ea18, ka18, h19⟩ := g_dc h17; clear h17
      obtain ⟨x22, S20, eS20, h21⟩ := g_bi h19; clear h19
      refine g_cV (n := 7) (As := [.long v1, .long v3, va_rf x16, .int 0, .int 32, .int (x7 - 64), .int 64]) X (c_X7_goesOn hl D eS20) tw327 tw328 tw6 tw44 tw329 (by decide +kernel) rfl rfl ⟨Nat.le_of_ble_eq_true rfl, Nat.le_of_ble_eq_true rfl⟩ (ci := 7) rfl (by decide) ea18 ka18 rfl rfl (Nat.le_of_ble_eq_true rfl) dX7_isOn_43 ⟨(by decide), (by decide)⟩ ?_
      clear eS20 ea18 ka18
      obtain ⟨c23, h24⟩ := g_if h21; clear h21
      obtain ⟨rfl, rfl⟩ := g_end h24
      exact g_zret X hr c23 (by decide) (by decide) dX7_isOn_46
    · have h13 := g_in h10 c11; clear h10
      refine g_iconst X dX7_isOn_21 (v := 0) (by decide) ?_
      obtain ⟨rfl, rfl⟩ := g_end h13
      exact g_zret X hr (Or.inl rfl) (by decide) (by decide) dX7_isOn_22
def f_X7_isSealed (S0 : gS) (a0 : Nat) (v1 : Int32) : Option ((String ⊕ Int32) × gS) :=
  (fgR S0 7 0 (some a0)).bind fun x1 =>
  gDc S0 5 x1 fun a3 =>
  gBi (f_X5_useUp S0 a3) fun x7 S5 =>
  gDc S5 7 (some a0) fun a8 =>
  gBx (f_X7_logOf S5 a8 v1) (fun E13 S14 => some (.inl E13, S14)) fun x12 S10 =>
  if x7 = 80 then
    (fgR S10 7 0 (some a0)).bind fun x19 =>
    (fgR S10 5 0 x19).bind fun x21 =>
    gDc S10 1 x12 fun a23 =>
    gBi (f_X1_hasSealed S10 a23 x21) fun x27 S25 =>
    if x27 = 0 ∨ x27 = 1 then
      some (.inr x27, S25)
    else none
  else
    some (.inl "java/lang/IllegalArgumentException", gsZ S10 (gZ S10 + 1))
set_option maxRecDepth 100000 in
set_option maxHeartbeats 4000000 in
theorem c_X7_isSealed {l : Launch} (hl : l.stackTraces = false) (D : gD)  {S0 S9 : gS} {a0 : Nat} {v1 : Int32} {res : String ⊕ Int32} (h0 : f_X7_isSealed S0 a0 v1 = some (res, S9)) : vx_Met l yX7_isSealed (gws yX7_isSealed cX7_isSealed 4 (some .boolean)) { frames := 7, cells := 2, slots := 12, locals := 124 } (gPc D S0 [.ref a0, .int v1]) (gQX D (fun x : Int32 => Value.int x) res S9) (gXX D res S9) (2) (12) (gF D) := by
  refine g_xmet (lv := [(0, va_rf (some a0)), (1, .int v1)]) hl (by decide) (Nat.le_of_ble_eq_true rfl) rfl (fun p e s m args below meth c X hr ht => ?_)
  have X : gX D p l s m args meth c cX7_isSealed 4 RX7 := X
  unfold f_X7_isSealed at h0
  refine g_aload_n (j := 0) X dX7_isSealed_0 rfl rfl ?_
  obtain ⟨x1, ex1, h2⟩ := g_bd h0; clear h0
  refine g_fR (ci := 7) (k := 0) X rfl il7 (by decide) tw186 (by decide) (fun _ _ _ => rfl) ex1 dX7_isSealed_1 ?_
  clear ex1
  obtain ⟨a3, ea3, ka3, h4⟩ := g_dc h2; clear h2
  obtain ⟨x7, S5, eS5, h6⟩ := g_bi h4; clear h4
  refine g_cV (n := 0) (As := []) X (c_X5_useUp hl D eS5) tw249 tw250 tw251 tw45 tw252 (by decide +kernel) rfl rfl ⟨Nat.le_of_ble_eq_true rfl, Nat.le_of_ble_eq_true rfl⟩ (ci := 5) rfl (by decide) ea3 ka3 rfl rfl (Nat.le_of_ble_eq_true rfl) dX7_isSealed_4 ⟨(by decide), (by decide)⟩ ?_
  clear eS5 ea3 ka3
  refine g_istore_n (i := 2) (lv' := [(2, .int x7), (0, va_rf (some a0)), (1, .int v1)]) X dX7_isSealed_7 rfl (by decide) rfl ?_
  refine g_aload_n (j := 1) X dX7_isSealed_8 rfl rfl ?_
  refine g_iload_n (j := 2) X dX7_isSealed_9 rfl rfl ?_
  obtain ⟨a8, ea8, ka8, h9⟩ := g_dc h6; clear h6
  rcases g_bx h9 with ⟨x12, S10, eS10, h11⟩ | ⟨E13, S14, eS10, h15⟩
  · refine g_xV (n := 1) (As := [.int v1]) X (c_X7_logOf hl D eS10) tw348 tw349 tw7 tw44 tw350 (by decide +kernel) rfl rfl ⟨Nat.le_of_ble_eq_true rfl, Nat.le_of_ble_eq_true rfl⟩ (ci := 7) rfl (by decide) ea8 ka8 rfl rfl (Nat.le_of_ble_eq_true rfl) dX7_isSealed_10 ⟨(by decide), (by decide)⟩ (fun x' hx' => ?_) (fun _ hx' => by cases hx')
    cases hx'; clear h9 eS10 ea8 ka8
    refine g_astore_n (i := 3) (lv' := [(3, va_rf x12), (2, .int x7), (0, va_rf (some a0)), (1, .int v1)]) X dX7_isSealed_13 rfl (by decide) rfl ?_
    refine g_iload_n (j := 1) X dX7_isSealed_14 rfl rfl ?_
    refine g_bipush X dX7_isSealed_15 (v := 80) (by decide) ?_
    refine g_icmp_eq (tgt := 30) X dX7_isSealed_17 (by decide) (fun c16 => ?_) (fun c16 => ?_)
    · have h17 := g_ip h11 c16; clear h11
      refine g_aload_n (j := 0) X dX7_isSealed_30 rfl rfl ?_
      refine g_aload_n (j := 2) X dX7_isSealed_31 rfl rfl ?_
      obtain ⟨x19, ex19, h20⟩ := g_bd h17; clear h17
      refine g_fR (ci := 7) (k := 0) X rfl il7 (by decide) tw186 (by decide) (fun _ _ _ => rfl) ex19 dX7_isSealed_32 ?_
      clear ex19
      obtain ⟨x21, ex21, h22⟩ := g_bd h20; clear h20
      refine g_fR (ci := 5) (k := 0) X rfl il5 (by decide) tw79 (by decide) (fun _ _ _ => rfl) ex21 dX7_isSealed_35 ?_
      clear ex21
      obtain ⟨a23, ea23, ka23, h24⟩ := g_dc h22; clear h22
      obtain ⟨x27, S25, eS25, h26⟩ := g_bi h24; clear h24
      refine g_cV (n := 1) (As := [va_rf x21]) X (c_X1_hasSealed hl D eS25) tw576 tw577 tw578 tw46 tw579 (by decide +kernel) rfl rfl ⟨Nat.le_of_ble_eq_true rfl, Nat.le_of_ble_eq_true rfl⟩ (ci := 1) rfl (by decide) ea23 ka23 rfl rfl (Nat.le_of_ble_eq_true rfl) dX7_isSealed_38 ⟨(by decide), (by decide)⟩ ?_
      clear eS25 ea23 ka23
      obtain ⟨c28, h29⟩ := g_if h26; clear h26
      obtain ⟨rfl, rfl⟩ := g_end h29
      exact g_xr (g_zret X hr c28 (by decide) (by decide) dX7_isSealed_41)
    · have h18 := g_in h11 c16; clear h11
      obtain ⟨rfl, rfl⟩ := g_end h18
      exact g_throw (is := 206) (text := "a HEAD has 80 bytes") X ht rfl (by decide +kernel) tw373 tw58 (by decide +kernel) tx_84_1 tx_84_2 tx_84_80_3 dX7_isSealed_20 dX7_isSealed_23 dX7_isSealed_24 dX7_isSealed_26 dX7_isSealed_29 (by decide) (Nat.le_of_ble_eq_true rfl) (by decide) (by decide) (by decide) (by decide)
  · refine g_xV (n := 1) (As := [.int v1]) X (c_X7_logOf hl D eS10) tw348 tw349 tw7 tw44 tw350 (by decide +kernel) rfl rfl ⟨Nat.le_of_ble_eq_true rfl, Nat.le_of_ble_eq_true rfl⟩ (ci := 7) rfl (by decide) ea8 ka8 rfl rfl (Nat.le_of_ble_eq_true rfl) dX7_isSealed_10 ⟨(by decide), (by decide)⟩ (fun _ hx' => by cases hx') (fun E' hx' => ?_)
    cases hx'; obtain ⟨rfl, rfl⟩ := g_end h15; exact g_out X ht (by decide) (by decide)
