def f_L_entry (S0 : gS) (v0 : Option Nat) (v1 : Int32) (v2 : Int32) (v3 : Option Nat) : Option (Int32 × gS) :=
  gDc S0 7 v0 fun a1 =>
  gBx (f_X7_entry S0 a1 v1 v2) (fun E6 S7 =>
    if E6 = "java/lang/IndexOutOfBoundsException" then
      some (1, S7)
    else
    if E6 = "java/util/NoSuchElementException" then
      some (2, S7)
    else
      none) fun x5 S3 =>
  (faL S3 v3 0 x5.toInt64).bind fun S9 =>
  some (0, S9)
set_option maxRecDepth 100000 in
set_option maxHeartbeats 4000000 in
theorem c_L_entry {l : Launch} (hl : l.stackTraces = false) (D : gD)  {S0 S9 : gS} {v0 : Option Nat} {v1 : Int32} {v2 : Int32} {v3 : Option Nat} {res : Int32} (h0 : f_L_entry S0 v0 v1 v2 v3 = some (res, S9)) : Met l yL_entry (gwW yL_entry cL_entry 5 (some .int) [(0, 10, 13, 13), (0, 10, 17, 30)]) { frames := 8, cells := 2, slots := 12, locals := 132 } (gPc D S0 [va_rf v0, .int v1, .int v2, va_rf v3]) (gQ D (some (.int res)) S9) (2) (12) (gF D) := by
  refine g_metW (hh := [(0, 10, 13, 13), (0, 10, 17, 30)]) (lv := [(0, va_rf v0), (1, .int v1), (2, .int v2), (3, va_rf v3)]) hl (by decide) (by simp [lg_sl, g_rfc, g_ci, g_cj, g_cr]) (by simp [lv_args, g_rfc, g_ci, g_cj, g_cr]; try rfl) (fun p e s m args below meth c X hr ht => ?_)
  have X : gX D p l s m args meth c cL_entry 5 RL := X
  unfold f_L_entry at h0
  refine g_aload_n (j := 3) X dL_entry_0 rfl rfl ?_
  refine g_iconst X dL_entry_1 (v := 0) (by decide) ?_
  refine g_aload_n (j := 0) X dL_entry_2 rfl rfl ?_
  refine g_iload_n (j := 1) X dL_entry_3 rfl rfl ?_
  refine g_iload_n (j := 2) X dL_entry_4 rfl rfl ?_
  obtain ⟨a1, ea1, ka1, h2⟩ := g_dc h0; clear h0
  rcases g_bx h2 with ⟨x5, S3, eS3, h4⟩ | ⟨E6, S7, eS3, h8⟩
  · refine g_xV (n := 2) (As := [.int v1, .int v2]) X (c_X7_entry hl D eS3) tw510 tw511 tw512 tw44 tw513 (by decide +kernel) rfl rfl ⟨Nat.le_of_ble_eq_true rfl, Nat.le_of_ble_eq_true rfl⟩ (ci := 7) rfl (by decide) ea1 ka1 rfl rfl (by simp [g_rfc, g_ci, g_cj, g_cr]) dL_entry_5 ⟨(by decide), (by decide)⟩ (fun x' hx' => ?_) (fun _ hx' => by cases hx')
    cases hx'; clear h2 eS3 ea1 ka1
    refine g_i2l X dL_entry_8 ?_
    obtain ⟨S9, eS9, h10⟩ := g_bd h4; clear h4
    refine g_last X eS9 dL_entry_9 ?_
    clear eS9
    refine g_goto (tgt := 21) X dL_entry_10 (by decide) ?_
    refine g_iconst X dL_entry_21 (v := 0) (by decide) ?_
    obtain ⟨rfl, rfl⟩ := g_end h10
    exact g_iret X hr (by decide) (by decide) dL_entry_22
  · clear h2
    by_cases c13 : E6 = "java/lang/IndexOutOfBoundsException"
    · have h11 := g_ip h8 c13; clear h8; subst c13
      refine g_xV (n := 2) (As := [.int v1, .int v2]) X (c_X7_entry hl D eS3) tw510 tw511 tw512 tw44 tw513 (by decide +kernel) rfl rfl ⟨Nat.le_of_ble_eq_true rfl, Nat.le_of_ble_eq_true rfl⟩ (ci := 7) rfl (by decide) ea1 ka1 rfl rfl (by simp [g_rfc, g_ci, g_cj, g_cr]) dL_entry_5 ⟨(by decide), (by decide)⟩ (fun _ hx' => by cases hx') (fun E' hx' => ?_)
      cases hx'
      refine g_catch X [] ⟨0, 10, 13, 13⟩ [⟨0, 10, 17, 30⟩] ht (fun z hz => by cases hz) (by decide) (by decide) tw341 (by decide +kernel) (fun q9 => ?_)
      refine g_astore (i := 4) (lv' := [(4, va_rf (some q9)), (0, va_rf v0), (1, .int v1), (2, .int v2), (3, va_rf v3)]) X dL_entry_13 (by decide) (by simp [g_rfc, g_ci, g_cj, g_cr]) ?_
      refine g_iconst X dL_entry_15 (v := 1) (by decide) ?_
      obtain ⟨rfl, rfl⟩ := g_end h11
      exact g_iret X hr (by decide) (by decide) dL_entry_16
    have h12 := g_in h8 c13; clear h8
    by_cases c16 : E6 = "java/util/NoSuchElementException"
    · have h14 := g_ip h12 c16; clear h12; subst c16
      refine g_xV (n := 2) (As := [.int v1, .int v2]) X (c_X7_entry hl D eS3) tw510 tw511 tw512 tw44 tw513 (by decide +kernel) rfl rfl ⟨Nat.le_of_ble_eq_true rfl, Nat.le_of_ble_eq_true rfl⟩ (ci := 7) rfl (by decide) ea1 ka1 rfl rfl (by simp [g_rfc, g_ci, g_cj, g_cr]) dL_entry_5 ⟨(by decide), (by decide)⟩ (fun _ hx' => by cases hx') (fun E' hx' => ?_)
      cases hx'
      refine g_catch X [⟨0, 10, 13, 13⟩] ⟨0, 10, 17, 30⟩ [] ht (by intro z hz; simp only [List.mem_cons, List.not_mem_nil, or_false] at hz; rcases hz with rfl; exact ⟨by decide, _, tw341, by decide +kernel⟩) (by decide) (by decide) tw480 (by decide +kernel) (fun q9 => ?_)
      refine g_astore (i := 4) (lv' := [(4, va_rf (some q9)), (0, va_rf v0), (1, .int v1), (2, .int v2), (3, va_rf v3)]) X dL_entry_17 (by decide) (by simp [g_rfc, g_ci, g_cj, g_cr]) ?_
      refine g_iconst X dL_entry_19 (v := 2) (by decide) ?_
      obtain ⟨rfl, rfl⟩ := g_end h14
      exact g_iret X hr (by decide) (by decide) dL_entry_20
    have h15 := g_in h12 c16; clear h12
    cases h15
def f_L_leaf (S0 : gS) (v0 : Option Nat) (v1 : Int32) (v2 : Int32) (v3 : Option Nat) : Option (Int32 × gS) :=
  gDc S0 7 v0 fun a1 =>
  gBx (f_X7_leaf S0 a1 v1 v2) (fun E6 S7 =>
    if E6 = "java/lang/IndexOutOfBoundsException" then
      some (1, S7)
    else
    if E6 = "java/util/NoSuchElementException" then
      some (2, S7)
    else
      none) fun x5 S3 =>
  if x5 = 0 then
    (faL S3 v3 0 0).bind fun S12 =>
    some (0, S12)
  else
    (faL S3 v3 0 1).bind fun S14 =>
    some (0, S14)
set_option maxRecDepth 100000 in
set_option maxHeartbeats 4000000 in
theorem c_L_leaf {l : Launch} (hl : l.stackTraces = false) (D : gD)  {S0 S9 : gS} {v0 : Option Nat} {v1 : Int32} {v2 : Int32} {v3 : Option Nat} {res : Int32} (h0 : f_L_leaf S0 v0 v1 v2 v3 = some (res, S9)) : Met l yL_leaf (gwW yL_leaf cL_leaf 5 (some .int) [(0, 17, 20, 13), (0, 17, 24, 30)]) { frames := 8, cells := 2, slots := 12, locals := 132 } (gPc D S0 [va_rf v0, .int v1, .int v2, va_rf v3]) (gQ D (some (.int res)) S9) (2) (12) (gF D) := by
  refine g_metW (hh := [(0, 17, 20, 13), (0, 17, 24, 30)]) (lv := [(0, va_rf v0), (1, .int v1), (2, .int v2), (3, va_rf v3)]) hl (by decide) (by simp [lg_sl, g_rfc, g_ci, g_cj, g_cr]) (by simp [lv_args, g_rfc, g_ci, g_cj, g_cr]; try rfl) (fun p e s m args below meth c X hr ht => ?_)
  have X : gX D p l s m args meth c cL_leaf 5 RL := X
  unfold f_L_leaf at h0
  refine g_aload_n (j := 3) X dL_leaf_0 rfl rfl ?_
  refine g_iconst X dL_leaf_1 (v := 0) (by decide) ?_
  refine g_aload_n (j := 0) X dL_leaf_2 rfl rfl ?_
  refine g_iload_n (j := 1) X dL_leaf_3 rfl rfl ?_
  refine g_iload_n (j := 2) X dL_leaf_4 rfl rfl ?_
  obtain ⟨a1, ea1, ka1, h2⟩ := g_dc h0; clear h0
  rcases g_bx h2 with ⟨x5, S3, eS3, h4⟩ | ⟨E6, S7, eS3, h8⟩
  · refine g_xV (n := 2) (As := [.int v1, .int v2]) X (c_X7_leaf hl D eS3) tw521 tw522 tw523 tw44 tw524 (by decide +kernel) rfl rfl ⟨Nat.le_of_ble_eq_true rfl, Nat.le_of_ble_eq_true rfl⟩ (ci := 7) rfl (by decide) ea1 ka1 rfl rfl (by simp [g_rfc, g_ci, g_cj, g_cr]) dL_leaf_5 ⟨(by decide), (by decide)⟩ (fun x' hx' => ?_) (fun _ hx' => by cases hx')
    cases hx'; clear h2 eS3 ea1 ka1
    refine g_if_eq (tgt := 15) X dL_leaf_8 (by decide) (fun c9 => ?_) (fun c9 => ?_)
    · have h10 := g_ip h4 c9; clear h4
      refine g_lconst X dL_leaf_15 (v := 0) (by decide) ?_
      obtain ⟨S12, eS12, h13⟩ := g_bd h10; clear h10
      refine g_last X eS12 dL_leaf_16 ?_
      clear eS12
      refine g_goto (tgt := 28) X dL_leaf_17 (by decide) ?_
      refine g_iconst X dL_leaf_28 (v := 0) (by decide) ?_
      obtain ⟨rfl, rfl⟩ := g_end h13
      exact g_iret X hr (by decide) (by decide) dL_leaf_29
    · have h11 := g_in h4 c9; clear h4
      refine g_lconst X dL_leaf_11 (v := 1) (by decide) ?_
      refine g_goto (tgt := 16) X dL_leaf_12 (by decide) ?_
      obtain ⟨S14, eS14, h15⟩ := g_bd h11; clear h11
      refine g_last X eS14 dL_leaf_16 ?_
      clear eS14
      refine g_goto (tgt := 28) X dL_leaf_17 (by decide) ?_
      refine g_iconst X dL_leaf_28 (v := 0) (by decide) ?_
      obtain ⟨rfl, rfl⟩ := g_end h15
      exact g_iret X hr (by decide) (by decide) dL_leaf_29
  · clear h2
    by_cases c18 : E6 = "java/lang/IndexOutOfBoundsException"
    · have h16 := g_ip h8 c18; clear h8; subst c18
      refine g_xV (n := 2) (As := [.int v1, .int v2]) X (c_X7_leaf hl D eS3) tw521 tw522 tw523 tw44 tw524 (by decide +kernel) rfl rfl ⟨Nat.le_of_ble_eq_true rfl, Nat.le_of_ble_eq_true rfl⟩ (ci := 7) rfl (by decide) ea1 ka1 rfl rfl (by simp [g_rfc, g_ci, g_cj, g_cr]) dL_leaf_5 ⟨(by decide), (by decide)⟩ (fun _ hx' => by cases hx') (fun E' hx' => ?_)
      cases hx'
      refine g_catch X [] ⟨0, 17, 20, 13⟩ [⟨0, 17, 24, 30⟩] ht (fun z hz => by cases hz) (by decide) (by decide) tw341 (by decide +kernel) (fun q9 => ?_)
      refine g_astore (i := 4) (lv' := [(4, va_rf (some q9)), (0, va_rf v0), (1, .int v1), (2, .int v2), (3, va_rf v3)]) X dL_leaf_20 (by decide) (by simp [g_rfc, g_ci, g_cj, g_cr]) ?_
      refine g_iconst X dL_leaf_22 (v := 1) (by decide) ?_
      obtain ⟨rfl, rfl⟩ := g_end h16
      exact g_iret X hr (by decide) (by decide) dL_leaf_23
    have h17 := g_in h8 c18; clear h8
    by_cases c21 : E6 = "java/util/NoSuchElementException"
    · have h19 := g_ip h17 c21; clear h17; subst c21
      refine g_xV (n := 2) (As := [.int v1, .int v2]) X (c_X7_leaf hl D eS3) tw521 tw522 tw523 tw44 tw524 (by decide +kernel) rfl rfl ⟨Nat.le_of_ble_eq_true rfl, Nat.le_of_ble_eq_true rfl⟩ (ci := 7) rfl (by decide) ea1 ka1 rfl rfl (by simp [g_rfc, g_ci, g_cj, g_cr]) dL_leaf_5 ⟨(by decide), (by decide)⟩ (fun _ hx' => by cases hx') (fun E' hx' => ?_)
      cases hx'
      refine g_catch X [⟨0, 17, 20, 13⟩] ⟨0, 17, 24, 30⟩ [] ht (by intro z hz; simp only [List.mem_cons, List.not_mem_nil, or_false] at hz; rcases hz with rfl; exact ⟨by decide, _, tw341, by decide +kernel⟩) (by decide) (by decide) tw480 (by decide +kernel) (fun q9 => ?_)
      refine g_astore (i := 4) (lv' := [(4, va_rf (some q9)), (0, va_rf v0), (1, .int v1), (2, .int v2), (3, va_rf v3)]) X dL_leaf_24 (by decide) (by simp [g_rfc, g_ci, g_cj, g_cr]) ?_
      refine g_iconst X dL_leaf_26 (v := 2) (by decide) ?_
      obtain ⟨rfl, rfl⟩ := g_end h19
      exact g_iret X hr (by decide) (by decide) dL_leaf_27
    have h20 := g_in h17 c21; clear h17
    cases h20
def f_L_find (S0 : gS) (v0 : Option Nat) (v1 : Int32) (v2 : Option Nat) : Option (Int32 × gS) :=
  gDc S0 7 v0 fun a1 =>
  gBx (f_X7_find S0 a1 v1) (fun E6 S7 =>
    if E6 = "java/lang/IndexOutOfBoundsException" then
      some (1, S7)
    else
    if E6 = "java/lang/IllegalArgumentException" then
      some (2, S7)
    else
      none) fun x5 S3 =>
  (faL S3 v2 0 x5.toInt64).bind fun S9 =>
  some (0, S9)
set_option maxRecDepth 100000 in
set_option maxHeartbeats 4000000 in
theorem c_L_find {l : Launch} (hl : l.stackTraces = false) (D : gD)  {S0 S9 : gS} {v0 : Option Nat} {v1 : Int32} {v2 : Option Nat} {res : Int32} (h0 : f_L_find S0 v0 v1 v2 = some (res, S9)) : Met l yL_find (gwW yL_find cL_find 4 (some .int) [(0, 9, 12, 13), (0, 9, 15, 15)]) { frames := 8, cells := 2, slots := 12, locals := 128 } (gPc D S0 [va_rf v0, .int v1, va_rf v2]) (gQ D (some (.int res)) S9) (2) (12) (gF D) := by
  refine g_metW (hh := [(0, 9, 12, 13), (0, 9, 15, 15)]) (lv := [(0, va_rf v0), (1, .int v1), (2, va_rf v2)]) hl (by decide) (by simp [lg_sl, g_rfc, g_ci, g_cj, g_cr]) (by simp [lv_args, g_rfc, g_ci, g_cj, g_cr]; try rfl) (fun p e s m args below meth c X hr ht => ?_)
  have X : gX D p l s m args meth c cL_find 4 RL := X
  unfold f_L_find at h0
  refine g_aload_n (j := 2) X dL_find_0 rfl rfl ?_
  refine g_iconst X dL_find_1 (v := 0) (by decide) ?_
  refine g_aload_n (j := 0) X dL_find_2 rfl rfl ?_
  refine g_iload_n (j := 1) X dL_find_3 rfl rfl ?_
  obtain ⟨a1, ea1, ka1, h2⟩ := g_dc h0; clear h0
  rcases g_bx h2 with ⟨x5, S3, eS3, h4⟩ | ⟨E6, S7, eS3, h8⟩
  · refine g_xV (n := 1) (As := [.int v1]) X (c_X7_find hl D eS3) tw532 tw533 tw534 tw44 tw535 (by decide +kernel) rfl rfl ⟨Nat.le_of_ble_eq_true rfl, Nat.le_of_ble_eq_true rfl⟩ (ci := 7) rfl (by decide) ea1 ka1 rfl rfl (by simp [g_rfc, g_ci, g_cj, g_cr]) dL_find_4 ⟨(by decide), (by decide)⟩ (fun x' hx' => ?_) (fun _ hx' => by cases hx')
    cases hx'; clear h2 eS3 ea1 ka1
    refine g_i2l X dL_find_7 ?_
    obtain ⟨S9, eS9, h10⟩ := g_bd h4; clear h4
    refine g_last X eS9 dL_find_8 ?_
    clear eS9
    refine g_goto (tgt := 18) X dL_find_9 (by decide) ?_
    refine g_iconst X dL_find_18 (v := 0) (by decide) ?_
    obtain ⟨rfl, rfl⟩ := g_end h10
    exact g_iret X hr (by decide) (by decide) dL_find_19
  · clear h2
    by_cases c13 : E6 = "java/lang/IndexOutOfBoundsException"
    · have h11 := g_ip h8 c13; clear h8; subst c13
      refine g_xV (n := 1) (As := [.int v1]) X (c_X7_find hl D eS3) tw532 tw533 tw534 tw44 tw535 (by decide +kernel) rfl rfl ⟨Nat.le_of_ble_eq_true rfl, Nat.le_of_ble_eq_true rfl⟩ (ci := 7) rfl (by decide) ea1 ka1 rfl rfl (by simp [g_rfc, g_ci, g_cj, g_cr]) dL_find_4 ⟨(by decide), (by decide)⟩ (fun _ hx' => by cases hx') (fun E' hx' => ?_)
      cases hx'
      refine g_catch X [] ⟨0, 9, 12, 13⟩ [⟨0, 9, 15, 15⟩] ht (fun z hz => by cases hz) (by decide) (by decide) tw341 (by decide +kernel) (fun q9 => ?_)
      refine g_astore_n (i := 3) (lv' := [(3, va_rf (some q9)), (0, va_rf v0), (1, .int v1), (2, va_rf v2)]) X dL_find_12 rfl (by decide) (by simp [g_rfc, g_ci, g_cj, g_cr]) ?_
      refine g_iconst X dL_find_13 (v := 1) (by decide) ?_
      obtain ⟨rfl, rfl⟩ := g_end h11
      exact g_iret X hr (by decide) (by decide) dL_find_14
    have h12 := g_in h8 c13; clear h8
    by_cases c16 : E6 = "java/lang/IllegalArgumentException"
    · have h14 := g_ip h12 c16; clear h12; subst c16
      refine g_xV (n := 1) (As := [.int v1]) X (c_X7_find hl D eS3) tw532 tw533 tw534 tw44 tw535 (by decide +kernel) rfl rfl ⟨Nat.le_of_ble_eq_true rfl, Nat.le_of_ble_eq_true rfl⟩ (ci := 7) rfl (by decide) ea1 ka1 rfl rfl (by simp [g_rfc, g_ci, g_cj, g_cr]) dL_find_4 ⟨(by decide), (by decide)⟩ (fun _ hx' => by cases hx') (fun E' hx' => ?_)
      cases hx'
      refine g_catch X [⟨0, 9, 12, 13⟩] ⟨0, 9, 15, 15⟩ [] ht (by intro z hz; simp only [List.mem_cons, List.not_mem_nil, or_false] at hz; rcases hz with rfl; exact ⟨by decide, _, tw341, by decide +kernel⟩) (by decide) (by decide) tw342 (by decide +kernel) (fun q9 => ?_)
      refine g_astore_n (i := 3) (lv' := [(3, va_rf (some q9)), (0, va_rf v0), (1, .int v1), (2, va_rf v2)]) X dL_find_15 rfl (by decide) (by simp [g_rfc, g_ci, g_cj, g_cr]) ?_
      refine g_iconst X dL_find_16 (v := 2) (by decide) ?_
      obtain ⟨rfl, rfl⟩ := g_end h14
      exact g_iret X hr (by decide) (by decide) dL_find_17
    have h15 := g_in h12 c16; clear h12
    cases h15
def f_L_root (S0 : gS) (v0 : Option Nat) (v1 : Int32) (v2 : Int32) (v3 : Option Nat) : Option (Int32 × gS) :=
  gDc S0 7 v0 fun a1 =>
  gBx (f_X7_root S0 a1 v1 v2) (fun E6 S7 =>
    if E6 = "java/lang/IndexOutOfBoundsException" then
      some (1, S7)
    else
    if E6 = "java/util/NoSuchElementException" then
      some (2, S7)
    else
      none) fun x5 S3 =>
  if x5 = 0 then
    (faL S3 v3 0 0).bind fun S12 =>
    some (0, S12)
  else
    (faL S3 v3 0 1).bind fun S14 =>
    some (0, S14)
set_option maxRecDepth 100000 in
set_option maxHeartbeats 4000000 in
theorem c_L_root {l : Launch} (hl : l.stackTraces = false) (D : gD)  {S0 S9 : gS} {v0 : Option Nat} {v1 : Int32} {v2 : Int32} {v3 : Option Nat} {res : Int32} (h0 : f_L_root S0 v0 v1 v2 v3 = some (res, S9)) : Met l yL_root (gwW yL_root cL_root 5 (some .int) [(0, 17, 20, 13), (0, 17, 24, 30)]) { frames := 8, cells := 2, slots := 12, locals := 133 } (gPc D S0 [va_rf v0, .int v1, .int v2, va_rf v3]) (gQ D (some (.int res)) S9) (2) (12) (gF D) := by
  refine g_metW (hh := [(0, 17, 20, 13), (0, 17, 24, 30)]) (lv := [(0, va_rf v0), (1, .int v1), (2, .int v2), (3, va_rf v3)]) hl (by decide) (by simp [lg_sl, g_rfc, g_ci, g_cj, g_cr]) (by simp [lv_args, g_rfc, g_ci, g_cj, g_cr]; try rfl) (fun p e s m args below meth c X hr ht => ?_)
  have X : gX D p l s m args meth c cL_root 5 RL := X
  unfold f_L_root at h0
  refine g_aload_n (j := 3) X dL_root_0 rfl rfl ?_
  refine g_iconst X dL_root_1 (v := 0) (by decide) ?_
  refine g_aload_n (j := 0) X dL_root_2 rfl rfl ?_
  refine g_iload_n (j := 1) X dL_root_3 rfl rfl ?_
  refine g_iload_n (j := 2) X dL_root_4 rfl rfl ?_
  obtain ⟨a1, ea1, ka1, h2⟩ := g_dc h0; clear h0
  rcases g_bx h2 with ⟨x5, S3, eS3, h4⟩ | ⟨E6, S7, eS3, h8⟩
  · refine g_xV (n := 2) (As := [.int v1, .int v2]) X (c_X7_root hl D eS3) tw544 tw545 tw546 tw44 tw547 (by decide +kernel) rfl rfl ⟨Nat.le_of_ble_eq_true rfl, Nat.le_of_ble_eq_true rfl⟩ (ci := 7) rfl (by decide) ea1 ka1 rfl rfl (by simp [g_rfc, g_ci, g_cj, g_cr]) dL_root_5 ⟨(by decide), (by decide)⟩ (fun x' hx' => ?_) (fun _ hx' => by cases hx')
    cases hx'; clear h2 eS3 ea1 ka1
    refine g_if_eq (tgt := 15) X dL_root_8 (by decide) (fun c9 => ?_) (fun c9 => ?_)
    · have h10 := g_ip h4 c9; clear h4
      refine g_lconst X dL_root_15 (v := 0) (by decide) ?_
      obtain ⟨S12, eS12, h13⟩ := g_bd h10; clear h10
      refine g_last X eS12 dL_root_16 ?_
      clear eS12
      refine g_goto (tgt := 28) X dL_root_17 (by decide) ?_
      refine g_iconst X dL_root_28 (v := 0) (by decide) ?_
      obtain ⟨rfl, rfl⟩ := g_end h13
      exact g_iret X hr (by decide) (by decide) dL_root_29
    · have h11 := g_in h4 c9; clear h4
      refine g_lconst X dL_root_11 (v := 1) (by decide) ?_
      refine g_goto (tgt := 16) X dL_root_12 (by decide) ?_
      obtain ⟨S14, eS14, h15⟩ := g_bd h11; clear h11
      refine g_last X eS14 dL_root_16 ?_
      clear eS14
      refine g_goto (tgt := 28) X dL_root_17 (by decide) ?_
      refine g_iconst X dL_root_28 (v := 0) (by decide) ?_
      obtain ⟨rfl, rfl⟩ := g_end h15
      exact g_iret X hr (by decide) (by decide) dL_root_29
  · clear h2
    by_cases c18 : E6 = "java/lang/IndexOutOfBoundsException"
    · have h16 := g_ip h8 c18; clear h8; subst c18
      refine g_xV (n := 2) (As := [.int v1, .int v2]) X (c_X7_root hl D eS3) tw544 tw545 tw546 tw44 tw547 (by decide +kernel) rfl rfl ⟨Nat.le_of_ble_eq_true rfl, Nat.le_of_ble_eq_true rfl⟩ (ci := 7) rfl (by decide) ea1 ka1 rfl rfl (by simp [g_rfc, g_ci, g_cj, g_cr]) dL_root_5 ⟨(by decide), (by decide)⟩ (fun _ hx' => by cases hx') (fun E' hx' => ?_)
      cases hx'
      refine g_catch X [] ⟨0, 17, 20, 13⟩ [⟨0, 17, 24, 30⟩] ht (fun z hz => by cases hz) (by decide) (by decide) tw341 (by decide +kernel) (fun q9 => ?_)
      refine g_astore (i := 4) (lv' := [(4, va_rf (some q9)), (0, va_rf v0), (1, .int v1), (2, .int v2), (3, va_rf v3)]) X dL_root_20 (by decide) (by simp [g_rfc, g_ci, g_cj, g_cr]) ?_
      refine g_iconst X dL_root_22 (v := 1) (by decide) ?_
      obtain ⟨rfl, rfl⟩ := g_end h16
      exact g_iret X hr (by decide) (by decide) dL_root_23
    have h17 := g_in h8 c18; clear h8
    by_cases c21 : E6 = "java/util/NoSuchElementException"
    · have h19 := g_ip h17 c21; clear h17; subst c21
      refine g_xV (n := 2) (As := [.int v1, .int v2]) X (c_X7_root hl D eS3) tw544 tw545 tw546 tw44 tw547 (by decide +kernel) rfl rfl ⟨Nat.le_of_ble_eq_true rfl, Nat.le_of_ble_eq_true rfl⟩ (ci := 7) rfl (by decide) ea1 ka1 rfl rfl (by simp [g_rfc, g_ci, g_cj, g_cr]) dL_root_5 ⟨(by decide), (by decide)⟩ (fun _ hx' => by cases hx') (fun E' hx' => ?_)
      cases hx'
      refine g_catch X [⟨0, 17, 20, 13⟩] ⟨0, 17, 24, 30⟩ [] ht (by intro z hz; simp only [List.mem_cons, List.not_mem_nil, or_false] at hz; rcases hz with rfl; exact ⟨by decide, _, tw341, by decide +kernel⟩) (by decide) (by decide) tw480 (by decide +kernel) (fun q9 => ?_)
      refine g_astore (i := 4) (lv' := [(4, va_rf (some q9)), (0, va_rf v0), (1, .int v1), (2, .int v2), (3, va_rf v3)]) X dL_root_24 (by decide) (by simp [g_rfc, g_ci, g_cj, g_cr]) ?_
      refine g_iconst X dL_root_26 (v := 2) (by decide) ?_
      obtain ⟨rfl, rfl⟩ := g_end h19
      exact g_iret X hr (by decide) (by decide) dL_root_27
    have h20 := g_in h17 c21; clear h17
    cases h20
def f_L_way (S0 : gS) (v0 : Option Nat) (v1 : Int32) (v2 : Int32) (v3 : Int32) (v4 : Option Nat) : Option (Int32 × gS) :=
  gDc S0 7 v0 fun a1 =>
  gBx (f_X7_way S0 a1 v1 v2 v3) (fun E6 S7 =>
    if E6 = "java/lang/IndexOutOfBoundsException" then
      some (1, S7)
    else
    if E6 = "java/util/NoSuchElementException" then
      some (2, S7)
    else
      none) fun x5 S3 =>
  (faL S3 v4 0 x5.toInt64).bind fun S9 =>
  some (0, S9)
set_option maxRecDepth 100000 in
set_option maxHeartbeats 4000000 in
theorem c_L_way {l : Launch} (hl : l.stackTraces = false) (D : gD)  {S0 S9 : gS} {v0 : Option Nat} {v1 : Int32} {v2 : Int32} {v3 : Int32} {v4 : Option Nat} {res : Int32} (h0 : f_L_way S0 v0 v1 v2 v3 v4 = some (res, S9)) : Met l yL_way (gwW yL_way cL_way 6 (some .int) [(0, 12, 15, 13), (0, 12, 19, 30)]) { frames := 8, cells := 2, slots := 12, locals := 157 } (gPc D S0 [va_rf v0, .int v1, .int v2, .int v3, va_rf v4]) (gQ D (some (.int res)) S9) (2) (12) (gF D) := by
  refine g_metW (hh := [(0, 12, 15, 13), (0, 12, 19, 30)]) (lv := [(0, va_rf v0), (1, .int v1), (2, .int v2), (3, .int v3), (4, va_rf v4)]) hl (by decide) (by simp [lg_sl, g_rfc, g_ci, g_cj, g_cr]) (by simp [lv_args, g_rfc, g_ci, g_cj, g_cr]; try rfl) (fun p e s m args below meth c X hr ht => ?_)
  have X : gX D p l s m args meth c cL_way 6 RL := X
  unfold f_L_way at h0
  refine g_aload (j := 4) X dL_way_0 rfl ?_
  refine g_iconst X dL_way_2 (v := 0) (by decide) ?_
  refine g_aload_n (j := 0) X dL_way_3 rfl rfl ?_
  refine g_iload_n (j := 1) X dL_way_4 rfl rfl ?_
  refine g_iload_n (j := 2) X dL_way_5 rfl rfl ?_
  refine g_iload_n (j := 3) X dL_way_6 rfl rfl ?_
  obtain ⟨a1, ea1, ka1, h2⟩ := g_dc h0; clear h0
  rcases g_bx h2 with ⟨x5, S3, eS3, h4⟩ | ⟨E6, S7, eS3, h8⟩
  · refine g_xV (n := 3) (As := [.int v1, .int v2, .int v3]) X (c_X7_way hl D eS3) tw552 tw553 tw554 tw44 tw555 (by decide +kernel) rfl rfl ⟨Nat.le_of_ble_eq_true rfl, Nat.le_of_ble_eq_true rfl⟩ (ci := 7) rfl (by decide) ea1 ka1 rfl rfl (by simp [g_rfc, g_ci, g_cj, g_cr]) dL_way_7 ⟨(by decide), (by decide)⟩ (fun x' hx' => ?_) (fun _ hx' => by cases hx')
    cases hx'; clear h2 eS3 ea1 ka1
    refine g_i2l X dL_way_10 ?_
    obtain ⟨S9, eS9, h10⟩ := g_bd h4; clear h4
    refine g_last X eS9 dL_way_11 ?_
    clear eS9
    refine g_goto (tgt := 23) X dL_way_12 (by decide) ?_
    refine g_iconst X dL_way_23 (v := 0) (by decide) ?_
    obtain ⟨rfl, rfl⟩ := g_end h10
    exact g_iret X hr (by decide) (by decide) dL_way_24
  · clear h2
    by_cases c13 : E6 = "java/lang/IndexOutOfBoundsException"
    · have h11 := g_ip h8 c13; clear h8; subst c13
      refine g_xV (n := 3) (As := [.int v1, .int v2, .int v3]) X (c_X7_way hl D eS3) tw552 tw553 tw554 tw44 tw555 (by decide +kernel) rfl rfl ⟨Nat.le_of_ble_eq_true rfl, Nat.le_of_ble_eq_true rfl⟩ (ci := 7) rfl (by decide) ea1 ka1 rfl rfl (by simp [g_rfc, g_ci, g_cj, g_cr]) dL_way_7 ⟨(by decide), (by decide)⟩ (fun _ hx' => by cases hx') (fun E' hx' => ?_)
      cases hx'
      refine g_catch X [] ⟨0, 12, 15, 13⟩ [⟨0, 12, 19, 30⟩] ht (fun z hz => by cases hz) (by decide) (by decide) tw341 (by decide +kernel) (fun q9 => ?_)
      refine g_astore (i := 5) (lv' := [(5, va_rf (some q9)), (0, va_rf v0), (1, .int v1), (2, .int v2), (3, .int v3), (4, va_rf v4)]) X dL_way_15 (by decide) (by simp [g_rfc, g_ci, g_cj, g_cr]) ?_
      refine g_iconst X dL_way_17 (v := 1) (by decide) ?_
      obtain ⟨rfl, rfl⟩ := g_end h11
      exact g_iret X hr (by decide) (by decide) dL_way_18
    have h12 := g_in h8 c13; clear h8
    by_cases c16 : E6 = "java/util/NoSuchElementException"
    · have h14 := g_ip h12 c16; clear h12; subst c16
      refine g_xV (n := 3) (As := [.int v1, .int v2, .int v3]) X (c_X7_way hl D eS3) tw552 tw553 tw554 tw44 tw555 (by decide +kernel) rfl rfl ⟨Nat.le_of_ble_eq_true rfl, Nat.le_of_ble_eq_true rfl⟩ (ci := 7) rfl (by decide) ea1 ka1 rfl rfl (by simp [g_rfc, g_ci, g_cj, g_cr]) dL_way_7 ⟨(by decide), (by decide)⟩ (fun _ hx' => by cases hx') (fun E' hx' => ?_)
      cases hx'
      refine g_catch X [⟨0, 12, 15, 13⟩] ⟨0, 12, 19, 30⟩ [] ht (by intro z hz; simp only [List.mem_cons, List.not_mem_nil, or_false] at hz; rcases hz with rfl; exact ⟨by decide, _, tw341, by decide +kernel⟩) (by decide) (by decide) tw480 (by decide +kernel) (fun q9 => ?_)
      refine g_astore (i := 5) (lv' := [(5, va_rf (some q9)), (0, va_rf v0), (1, .int v1), (2, .int v2), (3, .int v3), (4, va_rf v4)]) X dL_way_19 (by decide) (by simp [g_rfc, g_ci, g_cj, g_cr]) ?_
      refine g_iconst X dL_way_21 (v := 2) (by decide) ?_
      obtain ⟨rfl, rfl⟩ := g_end h14
      exact g_iret X hr (by decide) (by decide) dL_way_22
    have h15 := g_in h12 c16; clear h12
    cases h15
def f_L_proof (S0 : gS) (v0 : Option Nat) (v1 : Int32) (v2 : Int32) (v3 : Int32) (v4 : Option Nat) : Option (Int32 × gS) :=
  gDc S0 7 v0 fun a1 =>
  gBx (f_X7_proof S0 a1 v1 v2 v3) (fun E6 S7 =>
    if E6 = "java/lang/IndexOutOfBoundsException" then
      some (1, S7)
    else
    if E6 = "java/util/NoSuchElementException" then
      some (2, S7)
    else
      none) fun x5 S3 =>
  (faL S3 v4 0 x5.toInt64).bind fun S9 =>
  some (0, S9)
set_option maxRecDepth 100000 in
set_option maxHeartbeats 4000000 in
theorem c_L_proof {l : Launch} (hl : l.stackTraces = false) (D : gD)  {S0 S9 : gS} {v0 : Option Nat} {v1 : Int32} {v2 : Int32} {v3 : Int32} {v4 : Option Nat} {res : Int32} (h0 : f_L_proof S0 v0 v1 v2 v3 v4 = some (res, S9)) : Met l yL_proof (gwW yL_proof cL_proof 6 (some .int) [(0, 12, 15, 13), (0, 12, 19, 30)]) { frames := 8, cells := 2, slots := 12, locals := 157 } (gPc D S0 [va_rf v0, .int v1, .int v2, .int v3, va_rf v4]) (gQ D (some (.int res)) S9) (2) (12) (gF D) := by
  refine g_metW (hh := [(0, 12, 15, 13), (0, 12, 19, 30)]) (lv := [(0, va_rf v0), (1, .int v1), (2, .int v2), (3, .int v3), (4, va_rf v4)]) hl (by decide) (by simp [lg_sl, g_rfc, g_ci, g_cj, g_cr]) (by simp [lv_args, g_rfc, g_ci, g_cj, g_cr]; try rfl) (fun p e s m args below meth c X hr ht => ?_)
  have X : gX D p l s m args meth c cL_proof 6 RL := X
  unfold f_L_proof at h0
  refine g_aload (j := 4) X dL_proof_0 rfl ?_
  refine g_iconst X dL_proof_2 (v := 0) (by decide) ?_
  refine g_aload_n (j := 0) X dL_proof_3 rfl rfl ?_
  refine g_iload_n (j := 1) X dL_proof_4 rfl rfl ?_
  refine g_iload_n (j := 2) X dL_proof_5 rfl rfl ?_
  refine g_iload_n (j := 3) X dL_proof_6 rfl rfl ?_
  obtain ⟨a1, ea1, ka1, h2⟩ := g_dc h0; clear h0
  rcases g_bx h2 with ⟨x5, S3, eS3, h4⟩ | ⟨E6, S7, eS3, h8⟩
  · refine g_xV (n := 3) (As := [.int v1, .int v2, .int v3]) X (c_X7_proof hl D eS3) tw565 tw566 tw567 tw44 tw568 (by decide +kernel) rfl rfl ⟨Nat.le_of_ble_eq_true rfl, Nat.le_of_ble_eq_true rfl⟩ (ci := 7) rfl (by decide) ea1 ka1 rfl rfl (by simp [g_rfc, g_ci, g_cj, g_cr]) dL_proof_7 ⟨(by decide), (by decide)⟩ (fun x' hx' => ?_) (fun _ hx' => by cases hx')
    cases hx'; clear h2 eS3 ea1 ka1
    refine g_i2l X dL_proof_10 ?_
    obtain ⟨S9, eS9, h10⟩ := g_bd h4; clear h4
    refine g_last X eS9 dL_proof_11 ?_
    clear eS9
    refine g_goto (tgt := 23) X dL_proof_12 (by decide) ?_
    refine g_iconst X dL_proof_23 (v := 0) (by decide) ?_
    obtain ⟨rfl, rfl⟩ := g_end h10
    exact g_iret X hr (by decide) (by decide) dL_proof_24
  · clear h2
    by_cases c13 : E6 = "java/lang/IndexOutOfBoundsException"
    · have h11 := g_ip h8 c13; clear h8; subst c13
      refine g_xV (n := 3) (As := [.int v1, .int v2, .int v3]) X (c_X7_proof hl D eS3) tw565 tw566 tw567 tw44 tw568 (by decide +kernel) rfl rfl ⟨Nat.le_of_ble_eq_true rfl, Nat.le_of_ble_eq_true rfl⟩ (ci := 7) rfl (by decide) ea1 ka1 rfl rfl (by simp [g_rfc, g_ci, g_cj, g_cr]) dL_proof_7 ⟨(by decide), (by decide)⟩ (fun _ hx' => by cases hx') (fun E' hx' => ?_)
      cases hx'
      refine g_catch X [] ⟨0, 12, 15, 13⟩ [⟨0, 12, 19, 30⟩] ht (fun z hz => by cases hz) (by decide) (by decide) tw341 (by decide +kernel) (fun q9 => ?_)
      refine g_astore (i := 5) (lv' := [(5, va_rf (some q9)), (0, va_rf v0), (1, .int v1), (2, .int v2), (3, .int v3), (4, va_rf v4)]) X dL_proof_15 (by decide) (by simp [g_rfc, g_ci, g_cj, g_cr]) ?_
      refine g_iconst X dL_proof_17 (v := 1) (by decide) ?_
      obtain ⟨rfl, rfl⟩ := g_end h11
      exact g_iret X hr (by decide) (by decide) dL_proof_18
    have h12 := g_in h8 c13; clear h8
    by_cases c16 : E6 = "java/util/NoSuchElementException"
    · have h14 := g_ip h12 c16; clear h12; subst c16
      refine g_xV (n := 3) (As := [.int v1, .int v2, .int v3]) X (c_X7_proof hl D eS3) tw565 tw566 tw567 tw44 tw568 (by decide +kernel) rfl rfl ⟨Nat.le_of_ble_eq_true rfl, Nat.le_of_ble_eq_true rfl⟩ (ci := 7) rfl (by decide) ea1 ka1 rfl rfl (by simp [g_rfc, g_ci, g_cj, g_cr]) dL_proof_7 ⟨(by decide), (by decide)⟩ (fun _ hx' => by cases hx') (fun E' hx' => ?_)
      cases hx'
      refine g_catch X [⟨0, 12, 15, 13⟩] ⟨0, 12, 19, 30⟩ [] ht (by intro z hz; simp only [List.mem_cons, List.not_mem_nil, or_false] at hz; rcases hz with rfl; exact ⟨by decide, _, tw341, by decide +kernel⟩) (by decide) (by decide) tw480 (by decide +kernel) (fun q9 => ?_)
      refine g_astore (i := 5) (lv' := [(5, va_rf (some q9)), (0, va_rf v0), (1, .int v1), (2, .int v2), (3, .int v3), (4, va_rf v4)]) X dL_proof_19 (by decide) (by simp [g_rfc, g_ci, g_cj, g_cr]) ?_
      refine g_iconst X dL_proof_21 (v := 2) (by decide) ?_
      obtain ⟨rfl, rfl⟩ := g_end h14
      exact g_iret X hr (by decide) (by decide) dL_proof_22
    have h15 := g_in h12 c16; clear h12
    cases h15
def f_L_isSealed (S0 : gS) (v0 : Option Nat) (v1 : Int32) (v2 : Option Nat) : Option (Int32 × gS) :=
  gDc S0 7 v0 fun a1 =>
  gBx (f_X7_isSealed S0 a1 v1) (fun E6 S7 =>
    if E6 = "java/lang/IndexOutOfBoundsException" then
      some (1, S7)
    else
    if E6 = "java/lang/IllegalArgumentException" then
      some (2, S7)
    else
      none) fun x5 S3 =>
  if x5 = 0 then
    (faL S3 v2 0 0).bind fun S12 =>
    some (0, S12)
  else
    (faL S3 v2 0 1).bind fun S14 =>
    some (0, S14)
set_option maxRecDepth 100000 in
set_option maxHeartbeats 4000000 in
theorem c_L_isSealed {l : Launch} (hl : l.stackTraces = false) (D : gD)  {S0 S9 : gS} {v0 : Option Nat} {v1 : Int32} {v2 : Option Nat} {res : Int32} (h0 : f_L_isSealed S0 v0 v1 v2 = some (res, S9)) : Met l yL_isSealed (gwW yL_isSealed cL_isSealed 4 (some .int) [(0, 16, 19, 13), (0, 16, 22, 15)]) { frames := 8, cells := 2, slots := 12, locals := 147 } (gPc D S0 [va_rf v0, .int v1, va_rf v2]) (gQ D (some (.int res)) S9) (2) (12) (gF D) := by
  refine g_metW (hh := [(0, 16, 19, 13), (0, 16, 22, 15)]) (lv := [(0, va_rf v0), (1, .int v1), (2, va_rf v2)]) hl (by decide) (by simp [lg_sl, g_rfc, g_ci, g_cj, g_cr]) (by simp [lv_args, g_rfc, g_ci, g_cj, g_cr]; try rfl) (fun p e s m args below meth c X hr ht => ?_)
  have X : gX D p l s m args meth c cL_isSealed 4 RL := X
  unfold f_L_isSealed at h0
  refine g_aload_n (j := 2) X dL_isSealed_0 rfl rfl ?_
  refine g_iconst X dL_isSealed_1 (v := 0) (by decide) ?_
  refine g_aload_n (j := 0) X dL_isSealed_2 rfl rfl ?_
  refine g_iload_n (j := 1) X dL_isSealed_3 rfl rfl ?_
  obtain ⟨a1, ea1, ka1, h2⟩ := g_dc h0; clear h0
  rcases g_bx h2 with ⟨x5, S3, eS3, h4⟩ | ⟨E6, S7, eS3, h8⟩
  · refine g_xV (n := 1) (As := [.int v1]) X (c_X7_isSealed hl D eS3) tw572 tw573 tw574 tw44 tw575 (by decide +kernel) rfl rfl ⟨Nat.le_of_ble_eq_true rfl, Nat.le_of_ble_eq_true rfl⟩ (ci := 7) rfl (by decide) ea1 ka1 rfl rfl (by simp [g_rfc, g_ci, g_cj, g_cr]) dL_isSealed_4 ⟨(by decide), (by decide)⟩ (fun x' hx' => ?_) (fun _ hx' => by cases hx')
    cases hx'; clear h2 eS3 ea1 ka1
    refine g_if_eq (tgt := 14) X dL_isSealed_7 (by decide) (fun c9 => ?_) (fun c9 => ?_)
    · have h10 := g_ip h4 c9; clear h4
      refine g_lconst X dL_isSealed_14 (v := 0) (by decide) ?_
      obtain ⟨S12, eS12, h13⟩ := g_bd h10; clear h10
      refine g_last X eS12 dL_isSealed_15 ?_
      clear eS12
      refine g_goto (tgt := 25) X dL_isSealed_16 (by decide) ?_
      refine g_iconst X dL_isSealed_25 (v := 0) (by decide) ?_
      obtain ⟨rfl, rfl⟩ := g_end h13
      exact g_iret X hr (by decide) (by decide) dL_isSealed_26
    · have h11 := g_in h4 c9; clear h4
      refine g_lconst X dL_isSealed_10 (v := 1) (by decide) ?_
      refine g_goto (tgt := 15) X dL_isSealed_11 (by decide) ?_
      obtain ⟨S14, eS14, h15⟩ := g_bd h11; clear h11
      refine g_last X eS14 dL_isSealed_15 ?_
      clear eS14
      refine g_goto (tgt := 25) X dL_isSealed_16 (by decide) ?_
      refine g_iconst X dL_isSealed_25 (v := 0) (by decide) ?_
      obtain ⟨rfl, rfl⟩ := g_end h15
      exact g_iret X hr (by decide) (by decide) dL_isSealed_26
  · clear h2
    by_cases c18 : E6 = "java/lang/IndexOutOfBoundsException"
    · have h16 := g_ip h8 c18; clear h8; subst c18
      refine g_xV (n := 1) (As := [.int v1]) X (c_X7_isSealed hl D eS3) tw572 tw573 tw574 tw44 tw575 (by decide +kernel) rfl rfl ⟨Nat.le_of_ble_eq_true rfl, Nat.le_of_ble_eq_true rfl⟩ (ci := 7) rfl (by decide) ea1 ka1 rfl rfl (by simp [g_rfc, g_ci, g_cj, g_cr]) dL_isSealed_4 ⟨(by decide), (by decide)⟩ (fun _ hx' => by cases hx') (fun E' hx' => ?_)
      cases hx'
      refine g_catch X [] ⟨0, 16, 19, 13⟩ [⟨0, 16, 22, 15⟩] ht (fun z hz => by cases hz) (by decide) (by decide) tw341 (by decide +kernel) (fun q9 => ?_)
      refine g_astore_n (i := 3) (lv' := [(3, va_rf (some q9)), (0, va_rf v0), (1, .int v1), (2, va_rf v2)]) X dL_isSealed_19 rfl (by decide) (by simp [g_rfc, g_ci, g_cj, g_cr]) ?_
      refine g_iconst X dL_isSealed_20 (v := 1) (by decide) ?_
      obtain ⟨rfl, rfl⟩ := g_end h16
      exact g_iret X hr (by decide) (by decide) dL_isSealed_21
    have h17 := g_in h8 c18; clear h8
    by_cases c21 : E6 = "java/lang/IllegalArgumentException"
    · have h19 := g_ip h17 c21; clear h17; subst c21
      refine g_xV (n := 1) (As := [.int v1]) X (c_X7_isSealed hl D eS3) tw572 tw573 tw574 tw44 tw575 (by decide +kernel) rfl rfl ⟨Nat.le_of_ble_eq_true rfl, Nat.le_of_ble_eq_true rfl⟩ (ci := 7) rfl (by decide) ea1 ka1 rfl rfl (by simp [g_rfc, g_ci, g_cj, g_cr]) dL_isSealed_4 ⟨(by decide), (by decide)⟩ (fun _ hx' => by cases hx') (fun E' hx' => ?_)
      cases hx'
      refine g_catch X [⟨0, 16, 19, 13⟩] ⟨0, 16, 22, 15⟩ [] ht (by intro z hz; simp only [List.mem_cons, List.not_mem_nil, or_false] at hz; rcases hz with rfl; exact ⟨by decide, _, tw341, by decide +kernel⟩) (by decide) (by decide) tw342 (by decide +kernel) (fun q9 => ?_)
      refine g_astore_n (i := 3) (lv' := [(3, va_rf (some q9)), (0, va_rf v0), (1, .int v1), (2, va_rf v2)]) X dL_isSealed_22 rfl (by decide) (by simp [g_rfc, g_ci, g_cj, g_cr]) ?_
      refine g_iconst X dL_isSealed_23 (v := 2) (by decide) ?_
      obtain ⟨rfl, rfl⟩ := g_end h19
      exact g_iret X hr (by decide) (by decide) dL_isSealed_24
    have h20 := g_in h17 c21; clear h17
    cases h20
def f_L_seal (S0 : gS) (v0 : Option Nat) (v1 : Int32) (v2 : Option Nat) : Option (Int32 × gS) :=
  gDc S0 7 v0 fun a1 =>
  gBx (f_X7_seal S0 a1 v1) (fun E6 S7 =>
    if E6 = "java/lang/IndexOutOfBoundsException" then
      some (1, S7)
    else
    if E6 = "java/lang/IllegalArgumentException" then
      some (2, S7)
    else
      none) fun x5 S3 =>
  if x5 = 0 then
    (faL S3 v2 0 0).bind fun S12 =>
    some (0, S12)
  else
    (faL S3 v2 0 1).bind fun S14 =>
    some (0, S14)
set_option maxRecDepth 100000 in
set_option maxHeartbeats 4000000 in
theorem c_L_seal {l : Launch} (hl : l.stackTraces = false) (D : gD)  {S0 S9 : gS} {v0 : Option Nat} {v1 : Int32} {v2 : Option Nat} {res : Int32} (h0 : f_L_seal S0 v0 v1 v2 = some (res, S9)) : Met l yL_seal (gwW yL_seal cL_seal 4 (some .int) [(0, 16, 19, 13), (0, 16, 22, 15)]) { frames := 8, cells := 2, slots := 12, locals := 132 } (gPc D S0 [va_rf v0, .int v1, va_rf v2]) (gQ D (some (.int res)) S9) (2) (12) (gF D) := by
  refine g_metW (hh := [(0, 16, 19, 13), (0, 16, 22, 15)]) (lv := [(0, va_rf v0), (1, .int v1), (2, va_rf v2)]) hl (by decide) (by simp [lg_sl, g_rfc, g_ci, g_cj, g_cr]) (by simp [lv_args, g_rfc, g_ci, g_cj, g_cr]; try rfl) (fun p e s m args below meth c X hr ht => ?_)
  have X : gX D p l s m args meth c cL_seal 4 RL := X
  unfold f_L_seal at h0
  refine g_aload_n (j := 2) X dL_seal_0 rfl rfl ?_
  refine g_iconst X dL_seal_1 (v := 0) (by decide) ?_
  refine g_aload_n (j := 0) X dL_seal_2 rfl rfl ?_
  refine g_iload_n (j := 1) X dL_seal_3 rfl rfl ?_
  obtain ⟨a1, ea1, ka1, h2⟩ := g_dc h0; clear h0
  rcases g_bx h2 with ⟨x5, S3, eS3, h4⟩ | ⟨E6, S7, eS3, h8⟩
  · refine g_xV (n := 1) (As := [.int v1]) X (c_X7_seal hl D eS3) tw583 tw584 tw585 tw44 tw586 (by decide +kernel) rfl rfl ⟨Nat.le_of_ble_eq_true rfl, Nat.le_of_ble_eq_true rfl⟩ (ci := 7) rfl (by decide) ea1 ka1 rfl rfl (by simp [g_rfc, g_ci, g_cj, g_cr]) dL_seal_4 ⟨(by decide), (by decide)⟩ (fun x' hx' => ?_) (fun _ hx' => by cases hx')
    cases hx'; clear h2 eS3 ea1 ka1
    refine g_if_eq (tgt := 14) X dL_seal_7 (by decide) (fun c9 => ?_) (fun c9 => ?_)
    · have h10 := g_ip h4 c9; clear h4
      refine g_lconst X dL_seal_14 (v := 0) (by decide) ?_
      obtain ⟨S12, eS12, h13⟩ := g_bd h10; clear h10
      refine g_last X eS12 dL_seal_15 ?_
      clear eS12
      refine g_goto (tgt := 25) X dL_seal_16 (by decide) ?_
      refine g_iconst X dL_seal_25 (v := 0) (by decide) ?_
      obtain ⟨rfl, rfl⟩ := g_end h13
      exact g_iret X hr (by decide) (by decide) dL_seal_26
    · have h11 := g_in h4 c9; clear h4
      refine g_lconst X dL_seal_10 (v := 1) (by decide) ?_
      refine g_goto (tgt := 15) X dL_seal_11 (by decide) ?_
      obtain ⟨S14, eS14, h15⟩ := g_bd h11; clear h11
      refine g_last X eS14 dL_seal_15 ?_
      clear eS14
      refine g_goto (tgt := 25) X dL_seal_16 (by decide) ?_
      refine g_iconst X dL_seal_25 (v := 0) (by decide) ?_
      obtain ⟨rfl, rfl⟩ := g_end h15
      exact g_iret X hr (by decide) (by decide) dL_seal_26
  · clear h2
    by_cases c18 : E6 = "java/lang/IndexOutOfBoundsException"
    · have h16 := g_ip h8 c18; clear h8; subst c18
      refine g_xV (n := 1) (As := [.int v1]) X (c_X7_seal hl D eS3) tw583 tw584 tw585 tw44 tw586 (by decide +kernel) rfl rfl ⟨Nat.le_of_ble_eq_true rfl, Nat.le_of_ble_eq_true rfl⟩ (ci := 7) rfl (by decide) ea1 ka1 rfl rfl (by simp [g_rfc, g_ci, g_cj, g_cr]) dL_seal_4 ⟨(by decide), (by decide)⟩ (fun _ hx' => by cases hx') (fun E' hx' => ?_)
      cases hx'
      refine g_catch X [] ⟨0, 16, 19, 13⟩ [⟨0, 16, 22, 15⟩] ht (fun z hz => by cases hz) (by decide) (by decide) tw341 (by decide +kernel) (fun q9 => ?_)
      refine g_astore_n (i := 3) (lv' := [(3, va_rf (some q9)), (0, va_rf v0), (1, .int v1), (2, va_rf v2)]) X dL_seal_19 rfl (by decide) (by simp [g_rfc, g_ci, g_cj, g_cr]) ?_
      refine g_iconst X dL_seal_20 (v := 1) (by decide) ?_
      obtain ⟨rfl, rfl⟩ := g_end h16
      exact g_iret X hr (by decide) (by decide) dL_seal_21
    have h17 := g_in h8 c18; clear h8
    by_cases c21 : E6 = "java/lang/IllegalArgumentException"
    · have h19 := g_ip h17 c21; clear h17; subst c21
      refine g_xV (n := 1) (As := [.int v1]) X (c_X7_seal hl D eS3) tw583 tw584 tw585 tw44 tw586 (by decide +kernel) rfl rfl ⟨Nat.le_of_ble_eq_true rfl, Nat.le_of_ble_eq_true rfl⟩ (ci := 7) rfl (by decide) ea1 ka1 rfl rfl (by simp [g_rfc, g_ci, g_cj, g_cr]) dL_seal_4 ⟨(by decide), (by decide)⟩ (fun _ hx' => by cases hx') (fun E' hx' => ?_)
      cases hx'
      refine g_catch X [⟨0, 16, 19, 13⟩] ⟨0, 16, 22, 15⟩ [] ht (by intro z hz; simp only [List.mem_cons, List.not_mem_nil, or_false] at hz; rcases hz with rfl; exact ⟨by decide, _, tw341, by decide +kernel⟩) (by decide) (by decide) tw342 (by decide +kernel) (fun q9 => ?_)
      refine g_astore_n (i := 3) (lv' := [(3, va_rf (some q9)), (0, va_rf v0), (1, .int v1), (2, va_rf v2)]) X dL_seal_22 rfl (by decide) (by simp [g_rfc, g_ci, g_cj, g_cr]) ?_
      refine g_iconst X dL_seal_23 (v := 2) (by decide) ?_
      obtain ⟨rfl, rfl⟩ := g_end h19
      exact g_iret X hr (by decide) (by decide) dL_seal_24
    have h20 := g_in h17 c21; clear h17
    cases h20
def f_L_follow (S0 : gS) (v0 : Option Nat) (v1 : Int32) (v2 : Int32) (v3 : Option Nat) : Option (Int32 × gS) :=
  gDc S0 7 v0 fun a1 =>
  gBx (f_X7_follow S0 a1 v1 v2) (fun E6 S7 =>
    if E6 = "java/lang/IndexOutOfBoundsException" then
      some (1, S7)
    else
    if E6 = "java/lang/IllegalArgumentException" then
      some (2, S7)
    else
      none) fun x5 S3 =>
  (faL S3 v3 0 x5.toInt64).bind fun S9 =>
  some (0, S9)
set_option maxRecDepth 100000 in
set_option maxHeartbeats 4000000 in
theorem c_L_follow {l : Launch} (hl : l.stackTraces = false) (D : gD)  {S0 S9 : gS} {v0 : Option Nat} {v1 : Int32} {v2 : Int32} {v3 : Option Nat} {res : Int32} (h0 : f_L_follow S0 v0 v1 v2 v3 = some (res, S9)) : Met l yL_follow (gwW yL_follow cL_follow 5 (some .int) [(0, 10, 13, 13), (0, 10, 17, 15)]) { frames := 8, cells := 6, slots := 254, locals := 195 } (gPc D S0 [va_rf v0, .int v1, .int v2, va_rf v3]) (gQ D (some (.int res)) S9) (6) (254) (gF D) := by
  refine g_metW (hh := [(0, 10, 13, 13), (0, 10, 17, 15)]) (lv := [(0, va_rf v0), (1, .int v1), (2, .int v2), (3, va_rf v3)]) hl (by decide) (by simp [lg_sl, g_rfc, g_ci, g_cj, g_cr]) (by simp [lv_args, g_rfc, g_ci, g_cj, g_cr]; try rfl) (fun p e s m args below meth c X hr ht => ?_)
  have X : gX D p l s m args meth c cL_follow 5 RL := X
  unfold f_L_follow at h0
  refine g_aload_n (j := 3) X dL_follow_0 rfl rfl ?_
  refine g_iconst X dL_follow_1 (v := 0) (by decide) ?_
  refine g_aload_n (j := 0) X dL_follow_2 rfl rfl ?_
  refine g_iload_n (j := 1) X dL_follow_3 rfl rfl ?_
  refine g_iload_n (j := 2) X dL_follow_4 rfl rfl ?_
  obtain ⟨a1, ea1, ka1, h2⟩ := g_dc h0; clear h0
  rcases g_bx h2 with ⟨x5, S3, eS3, h4⟩ | ⟨E6, S7, eS3, h8⟩
  · refine g_xV (n := 2) (As := [.int v1, .int v2]) X (c_X7_follow hl D eS3) tw591 tw592 tw593 tw44 tw594 (by decide +kernel) rfl rfl ⟨Nat.le_of_ble_eq_true rfl, Nat.le_of_ble_eq_true rfl⟩ (ci := 7) rfl (by decide) ea1 ka1 rfl rfl (by simp [g_rfc, g_ci, g_cj, g_cr]) dL_follow_5 ⟨(by decide), (by decide)⟩ (fun x' hx' => ?_) (fun _ hx' => by cases hx')
    cases hx'; clear h2 eS3 ea1 ka1
    refine g_i2l X dL_follow_8 ?_
    obtain ⟨S9, eS9, h10⟩ := g_bd h4; clear h4
    refine g_last X eS9 dL_follow_9 ?_
    clear eS9
    refine g_goto (tgt := 21) X dL_follow_10 (by decide) ?_
    refine g_iconst X dL_follow_21 (v := 0) (by decide) ?_
    obtain ⟨rfl, rfl⟩ := g_end h10
    exact g_iret X hr (by decide) (by decide) dL_follow_22
  · clear h2
    by_cases c13 : E6 = "java/lang/IndexOutOfBoundsException"
    · have h11 := g_ip h8 c13; clear h8; subst c13
      refine g_xV (n := 2) (As := [.int v1, .int v2]) X (c_X7_follow hl D eS3) tw591 tw592 tw593 tw44 tw594 (by decide +kernel) rfl rfl ⟨Nat.le_of_ble_eq_true rfl, Nat.le_of_ble_eq_true rfl⟩ (ci := 7) rfl (by decide) ea1 ka1 rfl rfl (by simp [g_rfc, g_ci, g_cj, g_cr]) dL_follow_5 ⟨(by decide), (by decide)⟩ (fun _ hx' => by cases hx') (fun E' hx' => ?_)
      cases hx'
      refine g_catch X [] ⟨0, 10, 13, 13⟩ [⟨0, 10, 17, 15⟩] ht (fun z hz => by cases hz) (by decide) (by decide) tw341 (by decide +kernel) (fun q9 => ?_)
      refine g_astore (i := 4) (lv' := [(4, va_rf (some q9)), (0, va_rf v0), (1, .int v1), (2, .int v2), (3, va_rf v3)]) X dL_follow_13 (by decide) (by simp [g_rfc, g_ci, g_cj, g_cr]) ?_
      refine g_iconst X dL_follow_15 (v := 1) (by decide) ?_
      obtain ⟨rfl, rfl⟩ := g_end h11
      exact g_iret X hr (by decide) (by decide) dL_follow_16
    have h12 := g_in h8 c13; clear h8
    by_cases c16 : E6 = "java/lang/IllegalArgumentException"
    · have h14 := g_ip h12 c16; clear h12; subst c16
      refine g_xV (n := 2) (As := [.int v1, .int v2]) X (c_X7_follow hl D eS3) tw591 tw592 tw593 tw44 tw594 (by decide +kernel) rfl rfl ⟨Nat.le_of_ble_eq_true rfl, Nat.le_of_ble_eq_true rfl⟩ (ci := 7) rfl (by decide) ea1 ka1 rfl rfl (by simp [g_rfc, g_ci, g_cj, g_cr]) dL_follow_5 ⟨(by decide), (by decide)⟩ (fun _ hx' => by cases hx') (fun E' hx' => ?_)
      cases hx'
      refine g_catch X [⟨0, 10, 13, 13⟩] ⟨0, 10, 17, 15⟩ [] ht (by intro z hz; simp only [List.mem_cons, List.not_mem_nil, or_false] at hz; rcases hz with rfl; exact ⟨by decide, _, tw341, by decide +kernel⟩) (by decide) (by decide) tw342 (by decide +kernel) (fun q9 => ?_)
      refine g_astore (i := 4) (lv' := [(4, va_rf (some q9)), (0, va_rf v0), (1, .int v1), (2, .int v2), (3, va_rf v3)]) X dL_follow_17 (by decide) (by simp [g_rfc, g_ci, g_cj, g_cr]) ?_
      refine g_iconst X dL_follow_19 (v := 2) (by decide) ?_
      obtain ⟨rfl, rfl⟩ := g_end h14
      exact g_iret X hr (by decide) (by decide) dL_follow_20
    have h15 := g_in h12 c16; clear h12
    cases h15
def f_L_gossip (S0 : gS) (v0 : Option Nat) (v1 : Int32) (v2 : Int32) (v3 : Int32) (v4 : Option Nat) : Option (Int32 × gS) :=
  gDc S0 7 v0 fun a1 =>
  gBx (f_X7_gossip S0 a1 v1 v2 v3) (fun E6 S7 =>
    if E6 = "java/lang/IndexOutOfBoundsException" then
      some (1, S7)
    else
      none) fun x5 S3 =>
  (faL S3 v4 0 x5.toInt64).bind fun S9 =>
  some (0, S9)
set_option maxRecDepth 100000 in
set_option maxHeartbeats 4000000 in
theorem c_L_gossip {l : Launch} (hl : l.stackTraces = false) (D : gD)  {S0 S9 : gS} {v0 : Option Nat} {v1 : Int32} {v2 : Int32} {v3 : Int32} {v4 : Option Nat} {res : Int32} (h0 : f_L_gossip S0 v0 v1 v2 v3 v4 = some (res, S9)) : Met l yL_gossip (gwW yL_gossip cL_gossip 6 (some .int) [(0, 12, 15, 13)]) { frames := 8, cells := 2, slots := 12, locals := 137 } (gPc D S0 [va_rf v0, .int v1, .int v2, .int v3, va_rf v4]) (gQ D (some (.int res)) S9) (2) (12) (gF D) := by
  refine g_metW (hh := [(0, 12, 15, 13)]) (lv := [(0, va_rf v0), (1, .int v1), (2, .int v2), (3, .int v3), (4, va_rf v4)]) hl (by decide) (by simp [lg_sl, g_rfc, g_ci, g_cj, g_cr]) (by simp [lv_args, g_rfc, g_ci, g_cj, g_cr]; try rfl) (fun p e s m args below meth c X hr ht => ?_)
  have X : gX D p l s m args meth c cL_gossip 6 RL := X
  unfold f_L_gossip at h0
  refine g_aload (j := 4) X dL_gossip_0 rfl ?_
  refine g_iconst X dL_gossip_2 (v := 0) (by decide) ?_
  refine g_aload_n (j := 0) X dL_gossip_3 rfl rfl ?_
  refine g_iload_n (j := 1) X dL_gossip_4 rfl rfl ?_
  refine g_iload_n (j := 2) X dL_gossip_5 rfl rfl ?_
  refine g_iload_n (j := 3) X dL_gossip_6 rfl rfl ?_
  obtain ⟨a1, ea1, ka1, h2⟩ := g_dc h0; clear h0
  rcases g_bx h2 with ⟨x5, S3, eS3, h4⟩ | ⟨E6, S7, eS3, h8⟩
  · refine g_xV (n := 3) (As := [.int v1, .int v2, .int v3]) X (c_X7_gossip hl D eS3) tw617 tw618 tw619 tw44 tw620 (by decide +kernel) rfl rfl ⟨Nat.le_of_ble_eq_true rfl, Nat.le_of_ble_eq_true rfl⟩ (ci := 7) rfl (by decide) ea1 ka1 rfl rfl (by simp [g_rfc, g_ci, g_cj, g_cr]) dL_gossip_7 ⟨(by decide), (by decide)⟩ (fun x' hx' => ?_) (fun _ hx' => by cases hx')
    cases hx'; clear h2 eS3 ea1 ka1
    refine g_i2l X dL_gossip_10 ?_
    obtain ⟨S9, eS9, h10⟩ := g_bd h4; clear h4
    refine g_last X eS9 dL_gossip_11 ?_
    clear eS9
    refine g_goto (tgt := 19) X dL_gossip_12 (by decide) ?_
    refine g_iconst X dL_gossip_19 (v := 0) (by decide) ?_
    obtain ⟨rfl, rfl⟩ := g_end h10
    exact g_iret X hr (by decide) (by decide) dL_gossip_20
  · clear h2
    by_cases c13 : E6 = "java/lang/IndexOutOfBoundsException"
    · have h11 := g_ip h8 c13; clear h8; subst c13
      refine g_xV (n := 3) (As := [.int v1, .int v2, .int v3]) X (c_X7_gossip hl D eS3) tw617 tw618 tw619 tw44 tw620 (by decide +kernel) rfl rfl ⟨Nat.le_of_ble_eq_true rfl, Nat.le_of_ble_eq_true rfl⟩ (ci := 7) rfl (by decide) ea1 ka1 rfl rfl (by simp [g_rfc, g_ci, g_cj, g_cr]) dL_gossip_7 ⟨(by decide), (by decide)⟩ (fun _ hx' => by cases hx') (fun E' hx' => ?_)
      cases hx'
      refine g_catch X [] ⟨0, 12, 15, 13⟩ [] ht (fun z hz => by cases hz) (by decide) (by decide) tw341 (by decide +kernel) (fun q9 => ?_)
      refine g_astore (i := 5) (lv' := [(5, va_rf (some q9)), (0, va_rf v0), (1, .int v1), (2, .int v2), (3, .int v3), (4, va_rf v4)]) X dL_gossip_15 (by decide) (by simp [g_rfc, g_ci, g_cj, g_cr]) ?_
      refine g_iconst X dL_gossip_17 (v := 1) (by decide) ?_
      obtain ⟨rfl, rfl⟩ := g_end h11
      exact g_iret X hr (by decide) (by decide) dL_gossip_18
    have h12 := g_in h8 c13; clear h8
    cases h12
def f_L_has (S0 : gS) (v0 : Option Nat) (v1 : Int32) (v2 : Int32) (v3 : Int32) (v4 : Option Nat) : Option (Int32 × gS) :=
  gDc S0 7 v0 fun a1 =>
  gBx (f_X7_has S0 a1 v1 v2 v3) (fun E6 S7 =>
    if E6 = "java/lang/IndexOutOfBoundsException" then
      some (1, S7)
    else
    if E6 = "java/util/NoSuchElementException" then
      some (2, S7)
    else
      none) fun x5 S3 =>
  if x5 = 0 then
    (faL S3 v4 0 0).bind fun S12 =>
    some (0, S12)
  else
    (faL S3 v4 0 1).bind fun S14 =>
    some (0, S14)
set_option maxRecDepth 100000 in
set_option maxHeartbeats 4000000 in
theorem c_L_has {l : Launch} (hl : l.stackTraces = false) (D : gD)  {S0 S9 : gS} {v0 : Option Nat} {v1 : Int32} {v2 : Int32} {v3 : Int32} {v4 : Option Nat} {res : Int32} (h0 : f_L_has S0 v0 v1 v2 v3 v4 = some (res, S9)) : Met l yL_has (gwW yL_has cL_has 6 (some .int) [(0, 19, 22, 13), (0, 19, 26, 30)]) { frames := 8, cells := 2, slots := 12, locals := 133 } (gPc D S0 [va_rf v0, .int v1, .int v2, .int v3, va_rf v4]) (gQ D (some (.int res)) S9) (2) (12) (gF D) := by
  refine g_metW (hh := [(0, 19, 22, 13), (0, 19, 26, 30)]) (lv := [(0, va_rf v0), (1, .int v1), (2, .int v2), (3, .int v3), (4, va_rf v4)]) hl (by decide) (by simp [lg_sl, g_rfc, g_ci, g_cj, g_cr]) (by simp [lv_args, g_rfc, g_ci, g_cj, g_cr]; try rfl) (fun p e s m args below meth c X hr ht => ?_)
  have X : gX D p l s m args meth c cL_has 6 RL := X
  unfold f_L_has at h0
  refine g_aload (j := 4) X dL_has_0 rfl ?_
  refine g_iconst X dL_has_2 (v := 0) (by decide) ?_
  refine g_aload_n (j := 0) X dL_has_3 rfl rfl ?_
  refine g_iload_n (j := 1) X dL_has_4 rfl rfl ?_
  refine g_iload_n (j := 2) X dL_has_5 rfl rfl ?_
  refine g_iload_n (j := 3) X dL_has_6 rfl rfl ?_
  obtain ⟨a1, ea1, ka1, h2⟩ := g_dc h0; clear h0
  rcases g_bx h2 with ⟨x5, S3, eS3, h4⟩ | ⟨E6, S7, eS3, h8⟩
  · refine g_xV (n := 3) (As := [.int v1, .int v2, .int v3]) X (c_X7_has hl D eS3) tw624 tw625 tw626 tw44 tw627 (by decide +kernel) rfl rfl ⟨Nat.le_of_ble_eq_true rfl, Nat.le_of_ble_eq_true rfl⟩ (ci := 7) rfl (by decide) ea1 ka1 rfl rfl (by simp [g_rfc, g_ci, g_cj, g_cr]) dL_has_7 ⟨(by decide), (by decide)⟩ (fun x' hx' => ?_) (fun _ hx' => by cases hx')
    cases hx'; clear h2 eS3 ea1 ka1
    refine g_if_eq (tgt := 17) X dL_has_10 (by decide) (fun c9 => ?_) (fun c9 => ?_)
    · have h10 := g_ip h4 c9; clear h4
      refine g_lconst X dL_has_17 (v := 0) (by decide) ?_
      obtain ⟨S12, eS12, h13⟩ := g_bd h10; clear h10
      refine g_last X eS12 dL_has_18 ?_
      clear eS12
      refine g_goto (tgt := 30) X dL_has_19 (by decide) ?_
      refine g_iconst X dL_has_30 (v := 0) (by decide) ?_
      obtain ⟨rfl, rfl⟩ := g_end h13
      exact g_iret X hr (by decide) (by decide) dL_has_31
    · have h11 := g_in h4 c9; clear h4
      refine g_lconst X dL_has_13 (v := 1) (by decide) ?_
      refine g_goto (tgt := 18) X dL_has_14 (by decide) ?_
      obtain ⟨S14, eS14, h15⟩ := g_bd h11; clear h11
      refine g_last X eS14 dL_has_18 ?_
      clear eS14
      refine g_goto (tgt := 30) X dL_has_19 (by decide) ?_
      refine g_iconst X dL_has_30 (v := 0) (by decide) ?_
      obtain ⟨rfl, rfl⟩ := g_end h15
      exact g_iret X hr (by decide) (by decide) dL_has_31
  · clear h2
    by_cases c18 : E6 = "java/lang/IndexOutOfBoundsException"
    · have h16 := g_ip h8 c18; clear h8; subst c18
      refine g_xV (n := 3) (As := [.int v1, .int v2, .int v3]) X (c_X7_has hl D eS3) tw624 tw625 tw626 tw44 tw627 (by decide +kernel) rfl rfl ⟨Nat.le_of_ble_eq_true rfl, Nat.le_of_ble_eq_true rfl⟩ (ci := 7) rfl (by decide) ea1 ka1 rfl rfl (by simp [g_rfc, g_ci, g_cj, g_cr]) dL_has_7 ⟨(by decide), (by decide)⟩ (fun _ hx' => by cases hx') (fun E' hx' => ?_)
      cases hx'
      refine g_catch X [] ⟨0, 19, 22, 13⟩ [⟨0, 19, 26, 30⟩] ht (fun z hz => by cases hz) (by decide) (by decide) tw341 (by decide +kernel) (fun q9 => ?_)
      refine g_astore (i := 5) (lv' := [(5, va_rf (some q9)), (0, va_rf v0), (1, .int v1), (2, .int v2), (3, .int v3), (4, va_rf v4)]) X dL_has_22 (by decide) (by simp [g_rfc, g_ci, g_cj, g_cr]) ?_
      refine g_iconst X dL_has_24 (v := 1) (by decide) ?_
      obtain ⟨rfl, rfl⟩ := g_end h16
      exact g_iret X hr (by decide) (by decide) dL_has_25
    have h17 := g_in h8 c18; clear h8
    by_cases c21 : E6 = "java/util/NoSuchElementException"
    · have h19 := g_ip h17 c21; clear h17; subst c21
      refine g_xV (n := 3) (As := [.int v1, .int v2, .int v3]) X (c_X7_has hl D eS3) tw624 tw625 tw626 tw44 tw627 (by decide +kernel) rfl rfl ⟨Nat.le_of_ble_eq_true rfl, Nat.le_of_ble_eq_true rfl⟩ (ci := 7) rfl (by decide) ea1 ka1 rfl rfl (by simp [g_rfc, g_ci, g_cj, g_cr]) dL_has_7 ⟨(by decide), (by decide)⟩ (fun _ hx' => by cases hx') (fun E' hx' => ?_)
      cases hx'
      refine g_catch X [⟨0, 19, 22, 13⟩] ⟨0, 19, 26, 30⟩ [] ht (by intro z hz; simp only [List.mem_cons, List.not_mem_nil, or_false] at hz; rcases hz with rfl; exact ⟨by decide, _, tw341, by decide +kernel⟩) (by decide) (by decide) tw480 (by decide +kernel) (fun q9 => ?_)
      refine g_astore (i := 5) (lv' := [(5, va_rf (some q9)), (0, va_rf v0), (1, .int v1), (2, .int v2), (3, .int v3), (4, va_rf v4)]) X dL_has_26 (by decide) (by simp [g_rfc, g_ci, g_cj, g_cr]) ?_
      refine g_iconst X dL_has_28 (v := 2) (by decide) ?_
      obtain ⟨rfl, rfl⟩ := g_end h19
      exact g_iret X hr (by decide) (by decide) dL_has_29
    have h20 := g_in h17 c21; clear h17
    cases h20
