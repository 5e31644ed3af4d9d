/-! the front of a part: the greatest power of 2 below n -/
theorem l2_u {u k : Nat} (h1 : 2 ^ k ≤ u) (h2 : u < 2 ^ (k + 1)) : u.log2 = k := by
  have h0 : u ≠ 0 := by
    have := Nat.two_pow_pos k
    omega
  have a := (Nat.le_log2 h0).mpr h1
  have b := (Nat.log2_lt h0).mpr h2
  omega
theorem l2_le {u : Nat} (h : 0 < u) : 2 ^ u.log2 ≤ u ∧ u < 2 ^ (u.log2 + 1) := by
  have h0 : u ≠ 0 := by omega
  exact ⟨(Nat.le_log2 h0).mp (Nat.le_refl _), (Nat.log2_lt h0).mp (Nat.lt_succ_self _)⟩
theorem l2_div {u k : Nat} (h : 2 ^ k ≤ u) : u.log2 = k + (u / 2 ^ k).log2 := by
  have hp := Nat.two_pow_pos k
  have h1 : 0 < u / 2 ^ k := Nat.div_pos h hp
  obtain ⟨a, b⟩ := l2_le h1
  refine l2_u ?_ ?_
  · rw [Nat.pow_add, Nat.mul_comm]
    exact (Nat.le_div_iff_mul_le hp).mp a
  · rw [show k + (u / 2 ^ k).log2 + 1 = (u / 2 ^ k).log2 + 1 + k by omega, Nat.pow_add]
    exact (Nat.div_lt_iff_lt_mul hp).mp b
def s_fr (n : Nat) : Nat := 2 ^ (n - 1).log2
theorem s_fr_b {n : Nat} (h : 2 ≤ n) : 0 < s_fr n ∧ s_fr n < n ∧ n ≤ 2 * s_fr n := by
  obtain ⟨a, b⟩ := l2_le (show 0 < n - 1 by omega)
  rw [Nat.pow_succ] at b
  have := Nat.two_pow_pos (n - 1).log2
  unfold s_fr
  omega
theorem s_fr_u {n k : Nat} (h1 : 2 ^ k < n) (h2 : n ≤ 2 ^ (k + 1)) : s_fr n = 2 ^ k := by
  unfold s_fr
  rw [l2_u (k := k) (by omega) (by omega)]
theorem us_N {n : Nat} (hn : n < 2 ^ 32) (s : Int32) (k : Nat) (hs : ((s.toUInt32 &&& Int32.toUInt32 31).toBitVec % 32).toNat = k) : g_ushr (nI n) s = nI (n / 2 ^ k) := pk_ushrN hn s k hs
theorem nlz_48 {S : gS} {u n : Nat} (h0 : 0 < u) (h : u < 256) (hn : 7 ≤ n) (hn2 : n < 100) : f_J6_numberOfLeadingZeros_0f7a4_B48 S (nI u) (nI n) = some (nI (n - u.log2), S) := by
  unfold f_J6_numberOfLeadingZeros_0f7a4_B48
  have m2 : ∀ x, 2 ≤ x → nI x + (-2) = nI (x - 2) := fun x hx => by
    have : ∀ y : Int32, y + 2 + (-2) = y := fun y => by rw [Int32.add_assoc]; exact Int32.add_zero y
    rw [show x = (x - 2) + 2 by omega, ← nI_add, show x - 2 + 2 - 2 = x - 2 by omega]; exact this _
  have m4 : ∀ x, 4 ≤ x → nI x + (-4) = nI (x - 4) := fun x hx => by
    have : ∀ y : Int32, y + 4 + (-4) = y := fun y => by rw [Int32.add_assoc]; exact Int32.add_zero y
    rw [show x = (x - 4) + 4 by omega, ← nI_add, show x - 4 + 4 - 4 = x - 4 by omega]; exact this _
  have u1 : ∀ x, x < 256 → g_ushr (nI x) 1 = nI (x / 2) := fun x hx => us_N (by omega) 1 1 (by decide)
  have u2 : ∀ x, x < 256 → g_ushr (nI x) 2 = nI (x / 4) := fun x hx => us_N (by omega) 2 2 (by decide)
  have u4 : ∀ x, x < 256 → g_ushr (nI x) 4 = nI (x / 16) := fun x hx => us_N (by omega) 4 4 (by decide)
  have l1 : ∀ u, u < 4 → 0 < u → u.log2 = u / 2 := by decide
  have l2 : ∀ u, u < 16 → 4 ≤ u → u.log2 = 2 + u / 4 / 2 := by decide
  have l3 : ∀ u, u < 64 → 16 ≤ u → u.log2 = 4 + u / 16 / 2 := by decide +kernel
  have l4 : ∀ u, u < 256 → 64 ≤ u → u.log2 = 6 + u / 16 / 4 / 2 := by decide +kernel
  by_cases c : u < 16
  · rw [if_pos (show nI u < (16 : Int32) from nI_lt (b := 16) c (by decide))]
    by_cases c2 : u < 4
    · rw [if_pos (show nI u < (4 : Int32) from nI_lt (b := 4) c2 (by decide)), u1 u (by omega), pk_sub (by omega), l1 u c2 h0]
    · rw [if_neg (show ¬ nI u < (4 : Int32) from nI_nlt (b := 4) (by omega) (by omega)), e_let, e_let, m2 n (by omega), u2 u (by omega), u1 _ (by omega), pk_sub (by omega), l2 u c (by omega), show n - 2 - u / 4 / 2 = n - (2 + u / 4 / 2) by omega]
  · rw [if_neg (show ¬ nI u < (16 : Int32) from nI_nlt (b := 16) (by omega) (by omega)), e_let, e_let, m4 n (by omega), u4 u (by omega)]
    by_cases c2 : u < 64
    · rw [if_pos (show nI (u / 16) < (4 : Int32) from nI_lt (b := 4) (by omega) (by decide)), u1 _ (by omega), pk_sub (by omega), l3 u c2 (by omega), show n - 4 - u / 16 / 2 = n - (4 + u / 16 / 2) by omega]
    · rw [if_neg (show ¬ nI (u / 16) < (4 : Int32) from nI_nlt (b := 4) (by omega) (by omega)), e_let, e_let, m2 _ (by omega), u2 _ (by omega), u1 _ (by omega), pk_sub (by omega), l4 u h (by omega), show n - 4 - 2 - u / 16 / 4 / 2 = n - (6 + u / 16 / 4 / 2) by omega]
theorem l2_lt {u k : Nat} (h0 : 0 < u) (h : u < 2 ^ k) : u.log2 < k := (Nat.log2_lt (by omega)).mpr h
theorem nlz_33 {S : gS} {u n : Nat} (h0 : 0 < u) (h : u < 65536) (hn : 15 ≤ n) (hn2 : n < 100) : f_J6_numberOfLeadingZeros_0f7a4_B33 S (nI u) (nI n) = some (nI (n - u.log2), S) := by
  unfold f_J6_numberOfLeadingZeros_0f7a4_B33
  by_cases c : u < 256
  · rw [if_pos (show nI u < (256 : Int32) from nI_lt (b := 256) c (by decide)), nlz_48 h0 c (by omega) hn2]
  · have m8 : nI n + (-8) = nI (n - 8) := by
      have : ∀ y : Int32, y + 8 + (-8) = y := fun y => by rw [Int32.add_assoc]; exact Int32.add_zero y
      rw [show n = (n - 8) + 8 by omega, ← nI_add, show n - 8 + 8 - 8 = n - 8 by omega]; exact this _
    rw [if_neg (show ¬ nI u < (256 : Int32) from nI_nlt (b := 256) (by omega) (by omega)), e_let, e_let, m8, show g_ushr (nI u) 8 = nI (u / 256) from us_N (by omega) 8 8 (by decide), nlz_48 (by omega) (by omega) (by omega) (by omega), l2_div (u := u) (k := 8) (by omega), show n - 8 - (u / 256).log2 = n - (8 + (u / 2 ^ 8).log2) from by rw [show 2 ^ 8 = 256 by decide]; omega]
theorem nlz_32 {S : gS} {u : Nat} (h0 : 0 < u) (h : u < 2 ^ 32) : f_J6_numberOfLeadingZeros_0f7a4 S (nI u) = some (nI (31 - u.log2), S) := by
  unfold f_J6_numberOfLeadingZeros_0f7a4
  by_cases c : u < 2 ^ 31
  · rw [if_pos (show (0 : Int32) < nI u from nI_lt (a := 0) h0 c)]
    by_cases c2 : u < 65536
    · rw [if_pos (show nI u < (65536 : Int32) from nI_lt (b := 65536) c2 (by decide)), show (31 : Int32) = nI 31 from rfl, nlz_33 h0 c2 (by decide) (by decide)]
    · rw [if_neg (show ¬ nI u < (65536 : Int32) from nI_nlt (b := 65536) (by omega) c), e_let, e_let, show (31 : Int32) + (-16) = nI 15 from by decide, show g_ushr (nI u) 16 = nI (u / 65536) from us_N (by omega) 16 16 (by decide), nlz_33 (by omega) (by omega) (by decide) (by decide), l2_div (u := u) (k := 16) (by omega), show 15 - (u / 65536).log2 = 31 - (16 + (u / 2 ^ 16).log2) from by rw [show 2 ^ 16 = 65536 by decide]; omega]
  · have hn : ¬ (0 : Int32) < nI u := by
      intro hq
      have h1 := Int32.lt_iff_toInt_lt.mp hq
      have h2 : (nI u).toInt = (u : Int) - 2 ^ 32 := by
        show (BitVec.ofNat 32 u).toInt = _
        rw [BitVec.toInt_eq_toNat_cond, BitVec.toNat_ofNat, Nat.mod_eq_of_lt h, if_neg (by omega)]
        rfl
      have h3 : (0 : Int32).toInt = 0 := rfl
      omega
    have h0' : ¬ nI u = (0 : Int32) := by
      intro hq
      have := congrArg (fun x => x.toBitVec.toNat) hq
      simp only [pk_tn h] at this
      have h3 : ((0 : Int32).toBitVec).toNat = 0 := rfl
      omega
    rw [if_neg hn, if_neg h0', l2_u (u := u) (k := 31) (by omega) (by omega)]
    rfl
theorem hb_and {u : Nat} (h0 : 0 < u) : u &&& 2 ^ u.log2 = 2 ^ u.log2 := by
  obtain ⟨a, b⟩ := l2_le h0
  apply Nat.eq_of_testBit_eq
  intro i
  rw [Nat.testBit_and, Nat.testBit_two_pow]
  by_cases c : u.log2 = i
  · subst c
    have : u / 2 ^ u.log2 = 1 := by
      apply Nat.div_eq_of_lt_le
      · omega
      · rw [Nat.pow_succ] at b; omega
    simp [Nat.testBit_eq_decide_div_mod_eq, this]
  · simp [c]
theorem hob_32 {S : gS} {u : Nat} (h0 : 0 < u) (h : u < 2 ^ 31) : f_J6_highestOneBit_0f7a4 S (nI u) = some (nI (2 ^ u.log2), S) := by
  unfold f_J6_highestOneBit_0f7a4
  rw [nlz_32 h0 (by omega), e_bi]
  have hl := l2_lt h0 h
  have e1 : ∀ k, k < 31 → g_ushr (-2147483648) (nI (31 - k)) = nI (2 ^ k) := by decide
  rw [e1 _ hl]
  congr 2
  apply i32_bv
  show BitVec.ofNat 32 u &&& BitVec.ofNat 32 (2 ^ u.log2) = BitVec.ofNat 32 (2 ^ u.log2)
  rw [← BitVec.ofNat_and, hb_and h0]
theorem g_fr32 {S : gS} {n : Nat} (h : 2 ≤ n) (hn : n < 2 ^ 31) : f_J6_highestOneBit_0f7a4 S (nI n - 1) = some (nI (s_fr n), S) := by
  rw [show nI n - 1 = nI (n - 1) from pk_sub (b := 1) (by omega), hob_32 (by omega) (by omega)]
  rfl
theorem nlz_64 {S : gS} {u : Nat} (h0 : 0 < u) (h : u < 2 ^ 63) : f_J13_numberOfLeadingZeros_95d88 S (lN u) = some (nI (63 - u.log2), S) := by
  unfold f_J13_numberOfLeadingZeros_95d88
  have e1 : (g_lushr' (lN u) 32).toInt32 = nI (u / 2 ^ 32) := by
    apply i32_bv
    show ((BitVec.ofNat 64 u) >>> 32).signExtend 32 = BitVec.ofNat 32 (u / 2 ^ 32)
    apply BitVec.eq_of_getLsbD_eq
    intro i hi
    rw [BitVec.getLsbD_signExtend, BitVec.getLsbD_ushiftRight, BitVec.getLsbD_ofNat, BitVec.getLsbD_ofNat, Nat.testBit_div_two_pow]
    simp [hi, show i < 64 by omega, show 32 + i < 64 by omega, Nat.add_comm]
    intro _; omega
  rw [e_let, e1]
  by_cases c : u / 2 ^ 32 = 0
  · rw [c, if_pos (by decide), lN_i, nlz_32 h0 (by omega), e_bi]
    have := l2_lt (k := 32) h0 (by omega)
    rw [show (32 : Int32) = nI 32 from rfl, nI_add, show 32 + (31 - u.log2) = 63 - u.log2 by omega]
  · rw [if_neg (by rw [show (0 : Int32) = nI 0 from rfl, nI_eq (by omega) (by decide)]; exact c), nlz_32 (by omega) (by omega), e_bi, l2_div (u := u) (k := 32) (by omega)]
    congr 2
    congr 1
    omega
theorem g_fr64 {S : gS} {n : Nat} (h : 2 ≤ n) (hn : n < 2 ^ 63) : f_X8_front S (lN n) = some (lN (s_fr n), S) := by
  unfold f_X8_front f_J13_highestOneBit_067f4
  rw [show lN n - 1 = lN (n - 1) from lN_sub (b := 1) (by omega), nlz_64 (by omega) (by omega), e_bi, e_bi]
  have hl := l2_lt (k := 63) (show 0 < n - 1 by omega) (by omega)
  have e1 : ∀ k, k < 63 → g_lushr' (-9223372036854775808) (nI (63 - k)) = lN (2 ^ k) := by decide
  rw [e1 _ hl]
  congr 2
  apply i64_bv
  show BitVec.ofNat 64 (n - 1) &&& BitVec.ofNat 64 (2 ^ (n - 1).log2) = BitVec.ofNat 64 (2 ^ (n - 1).log2)
  rw [← BitVec.ofNat_and, hb_and (by omega)]
/-! roots -/
def s_rt (lf : Nat → Nat → Int32) (a n : Nat) : Nat → Int32 := if h : n < 2 then (if n = 0 then s_dg (fun _ => 0) 0 else lf a) else s_nd (s_rt lf a (s_fr n)) (s_rt lf (a + s_fr n) (n - s_fr n))
termination_by n
decreasing_by
  · have := s_fr_b (n := n) (by omega); omega
  · have := s_fr_b (n := n) (by omega); omega
theorem s_rt0 (lf : Nat → Nat → Int32) (a : Nat) : s_rt lf a 0 = s_dg (fun _ => 0) 0 := by rw [s_rt]; simp
theorem s_rt1 (lf : Nat → Nat → Int32) (a : Nat) : s_rt lf a 1 = lf a := by rw [s_rt]; simp
theorem s_rt2 (lf : Nat → Nat → Int32) (a : Nat) {n : Nat} (h : 2 ≤ n) : s_rt lf a n = s_nd (s_rt lf a (s_fr n)) (s_rt lf (a + s_fr n) (n - s_fr n)) := by rw [s_rt, dif_neg (by omega)]
def lf_ (S : gS) (m l i : Nat) : Nat → Int32 := s_lf (fun j => gI S (m + 5) (120 * (200 * l + i) + j)) (gI S (m + 6) (200 * l + i)).toNatClampNeg
def en_I (S : gS) (m l N : Nat) : Prop := N ≤ 200 ∧ ∀ i, i < N → ∃ k, k ≤ 120 ∧ gI S (m + 6) (200 * l + i) = nI k ∧ ∀ j, j < k → bt_ (gI S (m + 5) (120 * (200 * l + i) + j))
theorem lf_c {S S' : gS} {m l : Nat} (h5 : gI S' (m + 5) = gI S (m + 5)) (h6 : gI S' (m + 6) = gI S (m + 6)) : lf_ S' m l = lf_ S m l := by
  funext i; unfold lf_; rw [h5, h6]
theorem en_c {S S' : gS} {m l N : Nat} (h : en_I S m l N) (h5 : gI S' (m + 5) = gI S (m + 5)) (h6 : gI S' (m + 6) = gI S (m + 6)) : en_I S' m l N := by
  refine ⟨h.1, fun i hi => ?_⟩
  rw [h5, h6]; exact h.2 i hi
theorem p8_leaf1 {S : gS} {m l i N s : Nat} (hL : mh_ S m) (h0 : gI S m 17 = nI 0) (hl : l < 2) (hs : s < 100) (hE : en_I S m l N) (hi : i < N) : ∃ S', f_X8_leafOf S m (nI l) (nI i) (nI s) = some S' ∧ mg_S m S S' ∧ ∀ j, gI S' (m + 18) j = sl_ (gI S (m + 18)) s (lf_ S m l i) j := by
  obtain ⟨hN, hE⟩ := hE
  obtain ⟨k, k1, k2, k3⟩ := hE i hi
  obtain ⟨S', e1, e2, e3⟩ := p8_leafOf (l := l) (i := i) (k := k) (s := s) hL h0 (by omega) hl k1 hs k3 k2 (fun j hj => rfl)
  refine ⟨S', e1, e2, fun j => ?_⟩
  unfold lf_
  rw [e3 j, k2, nI_clamp (by omega)]
theorem rb_n {n : Nat} (h : n < 2 ^ 31) : gRb (nI n) = max 1 (2 * n - 1) := by unfold gRb; rw [nI_clamp h]
theorem p8_root {m l N : Nat} (hl : l < 2) : ∀ d a n s S, n ≤ 2 ^ d → d ≤ 9 → a + n ≤ N → s + d < 90 → mh_ S m → gI S m 17 = nI 0 → en_I S m l N → ∃ S', f_X8_root (d + 1) S (some m) (nI l) (nI a) (nI n) (nI s) = some S' ∧ mg_S m S S' ∧ sl_at S' m s (s_rt (lf_ S m l) a n) ∧ ∀ j, j < 8 * s → gI S' (m + 18) j = gI S (m + 18) j := by
  intro d
  induction d with
  | zero =>
    intro a n s S hn _ ha hs hL h0 hE
    have hN := hE.1
    by_cases c : n = 0
    · subst c
      obtain ⟨S', e1, s1, i1⟩ := p8_digest (s := s) (n := 0) (M := fun _ => 0) hL ⟨h0, fun j hj => by omega⟩ (by decide) (by omega)
      refine ⟨S', ?_, s1, fun q hq => by rw [i1, sl_in hq, s_rt0], fun j hj => by rw [i1]; unfold sl_; rw [if_neg (by omega)]⟩
      rw [f_X8_root, if_pos (by decide), e_dc hL.1.1, e_gd (by rw [rb_n (by decide)]; omega), e1, e_bs]
    · have c1 : n = 1 := by simp at hn; omega
      subst c1
      obtain ⟨S', e1, s1, i1⟩ := p8_leaf1 (s := s) hL h0 hl (by omega) hE (show a < N by omega)
      refine ⟨S', ?_, s1, fun q hq => by rw [i1, sl_in hq, s_rt1], fun j hj => by rw [i1]; unfold sl_; rw [if_neg (by omega)]⟩
      rw [f_X8_root, if_neg (by decide), if_pos (by decide), e_dc hL.1.1, e_gd (by rw [rb_n (by decide)]; omega), e1, e_bs]
  | succ d ih =>
    intro a n s S hn hd ha hs hL h0 hE
    have hN := hE.1
    by_cases c : n = 0
    · subst c
      obtain ⟨S', e1, s1, i1⟩ := p8_digest (s := s) (n := 0) (M := fun _ => 0) hL ⟨h0, fun j hj => by omega⟩ (by decide) (by omega)
      refine ⟨S', ?_, s1, fun q hq => by rw [i1, sl_in hq, s_rt0], fun j hj => by rw [i1]; unfold sl_; rw [if_neg (by omega)]⟩
      rw [f_X8_root, if_pos (by decide), e_dc hL.1.1, e_gd (by rw [rb_n (by decide)]; omega), e1, e_bs]
    · by_cases c1 : n = 1
      · subst c1
        obtain ⟨S', e1, s1, i1⟩ := p8_leaf1 (s := s) hL h0 hl (by omega) hE (show a < N by omega)
        refine ⟨S', ?_, s1, fun q hq => by rw [i1, sl_in hq, s_rt1], fun j hj => by rw [i1]; unfold sl_; rw [if_neg (by omega)]⟩
        rw [f_X8_root, if_neg (by decide), if_pos (by decide), e_dc hL.1.1, e_gd (by rw [rb_n (by decide)]; omega), e1, e_bs]
      · obtain ⟨b1, b2, b3⟩ := s_fr_b (n := n) (by omega)
        have b4 : s_fr n ≤ 2 ^ d := by
          unfold s_fr at b2 ⊢
          refine Nat.pow_le_pow_right (by decide) ?_
          have := l2_lt (k := d + 1) (show 0 < n - 1 by omega) (by omega)
          omega
        obtain ⟨S1, e1, s1, i1, j1⟩ := ih a (s_fr n) s S b4 (by omega) (by omega) (by omega) hL h0 hE
        have L1 := mg_h s1 hL
        have q5 := mg_o s1 hL 5 10 48000
        have q6 := mg_o s1 hL 6 10 400
        obtain ⟨S2, e2, s2, i2, j2⟩ := ih (a + s_fr n) (n - s_fr n) (s + 1) S1 (by omega) (by omega) (by omega) (by omega) L1 s1.2.2 (en_c hE q5 q6)
        have s12 := mg_tr s1 s2
        have L2 := mg_h s12 hL
        rw [lf_c q5 q6] at i2
        obtain ⟨S3, e3, s3, i3⟩ := p8_node (a := s) (b := s + 1) (s := s) (A := s_rt (lf_ S m l) a (s_fr n)) (B := s_rt (lf_ S m l) (a + s_fr n) (n - s_fr n)) L2 s2.2.2 (by omega) (by omega) (by omega) (fun q hq => by rw [j2 _ (by omega)]; exact i1 q hq) i2
        refine ⟨S3, ?_, mg_tr s12 s3, fun q hq => by rw [i3, sl_in hq, s_rt2 (lf_ S m l) a (n := n) (by omega)], fun j hj => ?_⟩
        · rw [f_X8_root, if_neg (by rw [show (0 : Int32) = nI 0 from rfl, nI_eq (by omega) (by decide)]; exact c), if_neg (by rw [show (1 : Int32) = nI 1 from rfl, nI_eq (by omega) (by decide)]; exact c1), g_fr32 (by omega) (by omega), e_bi, e_gd (by rw [rb_n (by omega), rb_n (by omega)]; omega), e1, e_bs, pk_sub (by omega), e_gd (by rw [rb_n (by omega), rb_n (by omega), rb_n (by omega)]; omega), nI_add, nI_1, e2, e_bs, e_dc L2.1.1, e_gd (by rw [rb_n (by omega), rb_n (by omega), rb_n (by omega)]; omega), e3, e_bs]
        · rw [i3]
          unfold sl_
          rw [if_neg (by omega), j2 j (by omega), j1 j hj]
