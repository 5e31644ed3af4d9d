/-! the reference's seal -/
def s_kb (key : Nat → Int32) (n i : Nat) : Int32 := if n ≤ 64 then (if i < n then key i else 0) else (if i < 32 then d_by (s_dg key n) i else 0)
def s_im (KB H : Nat → Int32) (j : Nat) : Int32 := if j < 64 then (KB j ^^^ 54) &&& 255 else if j = 64 then 0 else if j = 65 then 1 else H (j - 66)
def s_om (KB D : Nat → Int32) (j : Nat) : Int32 := if j < 64 then (KB j ^^^ 92) &&& 255 else d_by D (j - 64)
def s_sl (KB H : Nat → Int32) : Nat → Int32 := s_dg (s_om KB (s_dg (s_im KB H) 114)) 96
def s_hd (t z : Int64) (W : Nat → Int32) (j : Nat) : Int32 := if j < 8 then lb_ t j else if j < 16 then lb_ z (j - 8) else d_by W (j - 16)
theorem s_sl_c {KB KB' H H' : Nat → Int32} (h1 : ∀ j, j < 64 → KB j = KB' j) (h2 : ∀ j, j < 48 → H j = H' j) {i : Nat} (hi : i < 8) : s_sl KB H i = s_sl KB' H' i := by
  have q : ∀ i, i < 8 → s_dg (s_im KB H) 114 i = s_dg (s_im KB' H') 114 i := fun i hi => s_dg_c (fun j hj => by
    unfold s_im
    by_cases c : j < 64
    · rw [if_pos c, if_pos c, h1 j c]
    · rw [if_neg c, if_neg c]
      by_cases c2 : j = 64
      · rw [if_pos c2, if_pos c2]
      · rw [if_neg c2, if_neg c2]
        by_cases c3 : j = 65
        · rw [if_pos c3, if_pos c3]
        · rw [if_neg c3, if_neg c3, h2 _ (by omega)]) hi
  refine s_dg_c (fun j hj => ?_) hi
  unfold s_om
  by_cases c : j < 64
  · rw [if_pos c, if_pos c, h1 j c]
  · rw [if_neg c, if_neg c, d_by_c q (by omega)]
theorem p8_padL {m l n n0 : Nat} {w : Int32} {M key : Nat → Int32} (hl : l < 2) (hn : n ≤ 100) (h0 : n0 + 64 ≤ 320) (hM : ∀ i, i < 64 → M (n0 + i) = (s_kb key n i ^^^ w) &&& 255) (fu : Nat) : ∀ d i, i + d = 64 → ∀ S, mh_ S m → (64 < n → sl_at S m 2 (s_dg key n)) → (∀ j, j < n → gI S (m + 3) (100 * l + j) = key j) → ms_I S m M (n0 + i) → ∃ S', f_X8_pad_L10 (fu + d + 1) S m (nI l) w (nI n) (nI i) = some S' ∧ ms_S m S S' ∧ ms_I S' m M (n0 + 64)
  | 0, i, hi, S, hL, h2, h3, h => by
    have : i = 64 := by omega
    subst this
    exact ⟨S, by rw [f_X8_pad_L10, if_pos (show (64 : Int32) ≤ nI 64 from by decide)], ⟨fr_refl _ _ _, fun _ _ => rfl⟩, h⟩
  | d + 1, i, hi, S, hL, h2, h3, h => by
    have main : ∀ b : Int32, b &&& 255 = M (n0 + i) → ∃ S', (gDc S 8 (some m) fun a14 => (f_X8_say S a14 b).bind fun S16 => gLet (nI i + 1) fun x18 => f_X8_pad_L10 (fu + d + 1) S16 m (nI l) w (nI n) x18) = some S' ∧ ms_S m S S' ∧ ms_I S' m M (n0 + 64) := by
      intro b hb
      obtain ⟨S1, e1, s1, i1⟩ := p8_say (b := b) hL.1 h (by omega) hb
      obtain ⟨S2, e2, s2, i2⟩ := p8_padL (key := key) hl hn h0 hM fu d (i + 1) (by omega) S1 (ms_h s1 hL) (fun q j hj => by rw [ms_o s1 hL.1 18 10 800 (by decide)]; exact h2 q j hj) (fun j hj => by rw [ms_o s1 hL.1 3 10 200 (by decide)]; exact h3 j hj) i1
      exact ⟨S2, by rw [e_dc hL.1.1, e1, e_bs, e_let, nI_1]; exact e2, ms_tr s1 s2, i2⟩
    have hMi := hM i (by omega)
    unfold s_kb at hMi
    rw [show fu + (d + 1) + 1 = (fu + d + 1) + 1 by omega, f_X8_pad_L10, if_neg (show ¬ (64 : Int32) ≤ nI i from nI_ge (b := 64) (by omega) (by decide))]
    by_cases c : n ≤ 64
    · rw [if_pos (show nI n ≤ (64 : Int32) from nI_le (b := 64) c (by decide))]
      rw [if_pos c] at hMi
      by_cases c2 : n ≤ i
      · rw [if_pos (nI_le c2 (by omega))]
        rw [if_neg (by omega)] at hMi
        exact main _ hMi.symm
      · rw [if_neg (nI_ge (by omega) (by omega)), e_gR hL.1.1, e_bs, md_r hL.1 5 3, show (100 : Int32) = nI 100 from rfl, pk_mul, nI_add, e_I (md_k hL.1 3 10 200) (md_n hL.1 3 10 200) (by omega), e_bs, h3 i (by omega)]
        rw [if_pos (by omega)] at hMi
        exact main _ hMi.symm
    · rw [if_neg (show ¬ nI n ≤ (64 : Int32) from nI_ge (a := 64) (by omega) (by omega))]
      rw [if_neg c] at hMi
      by_cases c2 : 32 ≤ i
      · rw [if_pos (show (32 : Int32) ≤ nI i from nI_le (a := 32) c2 (by omega))]
        rw [if_neg (by omega)] at hMi
        exact main _ hMi.symm
      · rw [if_neg (show ¬ (32 : Int32) ≤ nI i from nI_ge (b := 32) (by omega) (by decide)), e_gR hL.1.1, e_bs, md_r hL.1 21 18, show (16 : Int32) + nI i / 4 = nI (8 * 2 + i / 4) from by rw [show (4 : Int32) = nI 4 from rfl, pk_div (by omega) (by decide) (by decide), show (16 : Int32) = nI 16 from rfl, nI_add], n24 (by omega), e_I (md_k hL.1 18 10 800) (md_n hL.1 18 10 800) (by omega), e_bs, by_ar _ (by omega), e_let, h2 (by omega) _ (by omega)]
        rw [if_pos (by omega)] at hMi
        exact main _ hMi.symm
theorem p8_pad {S : gS} {m l n n0 : Nat} {w : Int32} {M key : Nat → Int32} (hL : mh_ S m) (hl : l < 2) (hn : n ≤ 100) (h0 : n0 + 64 ≤ 320) (hM : ∀ i, i < 64 → M (n0 + i) = (s_kb key n i ^^^ w) &&& 255) (h1 : gI S (m + 4) l = nI n) (h2 : 64 < n → sl_at S m 2 (s_dg key n)) (h3 : ∀ j, j < n → gI S (m + 3) (100 * l + j) = key j) (h : ms_I S m M n0) : ∃ S', f_X8_pad S m (nI l) w = some S' ∧ ms_S m S S' ∧ ms_I S' m M (n0 + 64) := by
  obtain ⟨fu, hf⟩ := g_fu 64
  obtain ⟨S', e, r⟩ := p8_padL (key := key) hl hn h0 hM fu 64 0 (by omega) S hL h2 h3 h
  refine ⟨S', ?_, r⟩
  unfold f_X8_pad
  rw [e_gR hL.1.1, e_bs, md_r hL.1 6 4, e_I (md_k hL.1 4 10 2) (md_n hL.1 4 10 2) hl, e_bs, h1, hf, show 64 + fu + 1 = fu + 64 + 1 by omega]
  exact e
theorem p8_sealB {S : gS} {m l n : Nat} {t z : Int64} {key W : Nat → Int32} (hL : mh_ S m) (h0 : gI S m 17 = nI 0) (hl : l < 2) (hn : n ≤ 100) (h1 : gI S (m + 4) l = nI n) (h2 : 64 < n → sl_at S m 2 (s_dg key n)) (h3 : ∀ j, j < n → gI S (m + 3) (100 * l + j) = key j) (hW : sl_at S m 0 W) : ∃ S', f_X8_sealOf_B52 S m (nI l) t z = some S' ∧ mg_S m S S' ∧ sl_at S' m 1 (s_sl (s_kb key n) (s_hd t z W)) ∧ ∀ j, (j < 8 ∨ 32 ≤ j) → gI S' (m + 18) j = gI S (m + 18) j := by
  obtain ⟨S1, e1, s1, i1⟩ := p8_pad (M := s_im (s_kb key n) (s_hd t z W)) (n0 := 0) (w := 54) hL hl hn (by decide) (fun i hi => by unfold s_im; rw [if_pos (by omega), show 0 + i = i by omega]) h1 h2 h3 ⟨h0, fun j hj => by omega⟩
  have L1 := ms_h s1 hL
  obtain ⟨S2, e2, s2, i2⟩ := p8_say (b := 0) L1.1 i1 (by decide) (by rfl)
  have s12 := ms_tr s1 s2
  have L2 := ms_h s12 hL
  obtain ⟨S3, e3, s3, i3⟩ := p8_say (b := 1) L2.1 i2 (by decide) (by rfl)
  have s13 := ms_tr s12 s3
  have L3 := ms_h s13 hL
  obtain ⟨S4, e4, s4, i4⟩ := p8_sayLong (v := t) (by decide) L3.1 (fun i hi => by
    show lb_ t i = _
    unfold s_im s_hd
    rw [if_neg (by omega), if_neg (by omega), if_neg (by omega), if_pos (by omega), show 0 + 64 + 1 + 1 + i - 66 = i by omega]) i3
  have s14 := ms_tr s13 s4
  have L4 := ms_h s14 hL
  obtain ⟨S5, e5, s5, i5⟩ := p8_sayLong (v := z) (by decide) L4.1 (fun i hi => by
    show lb_ z i = _
    unfold s_im s_hd
    rw [if_neg (by omega), if_neg (by omega), if_neg (by omega), if_neg (by omega), if_pos (by omega), show 0 + 64 + 1 + 1 + 8 + i - 66 - 8 = i by omega]) i4
  have s15 := ms_tr s14 s5
  have L5 := ms_h s15 hL
  obtain ⟨S6, e6, s6, i6⟩ := p8_saySlot (s := 0) (W := W) L5.1 (by decide) (by decide) (fun i hi => by
    unfold s_im s_hd
    rw [if_neg (by omega), if_neg (by omega), if_neg (by omega), if_neg (by omega), if_neg (by omega), show 0 + 64 + 1 + 1 + 8 + 8 + i - 66 - 16 = i by omega]) (fun q hq => by rw [ms_o s15 hL.1 18 10 800 (by decide)]; exact hW q hq) i5
  have s16 := ms_tr s15 s6
  have L6 := ms_h s16 hL
  obtain ⟨S7, e7, s7, i7⟩ := p8_digest (s := 3) L6 i6 (by decide) (by decide)
  have s17 := ms_mg s16 s7
  have L7 := mg_h s17 hL
  obtain ⟨S8, e8, s8, i8⟩ := p8_pad (M := s_om (s_kb key n) (s_dg (s_im (s_kb key n) (s_hd t z W)) 114)) (key := key) (n0 := 0) (w := 92) L7 hl hn (by decide) (fun i hi => by unfold s_om; rw [if_pos (by omega), show 0 + i = i by omega]) (by rw [mg_o s17 hL 4 10 2]; exact h1) (fun c q hq => by rw [i7, sl_out hq (by decide), ms_o s16 hL.1 18 10 800 (by decide)]; exact h2 c q hq) (fun j hj => by rw [mg_o s17 hL 3 10 200]; exact h3 j hj) ⟨s7.2.2, fun j hj => by omega⟩
  have L8 := ms_h s8 L7
  obtain ⟨S9, e9, s9, i9⟩ := p8_saySlot (s := 3) (W := s_dg (s_im (s_kb key n) (s_hd t z W)) 114) L8.1 (by decide) (by decide) (fun i hi => by unfold s_om; rw [if_neg (by omega), show 0 + 64 + i - 64 = i by omega]) (fun q hq => by rw [ms_o s8 L7.1 18 10 800 (by decide), i7, sl_in hq]) i8
  have s89 := ms_tr s8 s9
  have L9 := ms_h s89 L7
  obtain ⟨S10, e10, s10, i10⟩ := p8_digest (s := 1) L9 i9 (by decide) (by decide)
  have sA := mg_tr s17 (ms_mg s89 s10)
  refine ⟨S10, ?_, sA, fun q hq => by rw [i10, sl_in hq]; rfl, fun j hj => ?_⟩
  · unfold f_X8_sealOf_B52
    rw [e_dc hL.1.1, e1, e_bs, e_dc L1.1.1, e2, e_bs, e_dc L2.1.1, e3, e_bs, e_dc L3.1.1, e4, e_bs, e_dc L4.1.1, e5, e_bs, e_dc L5.1.1, show (0 : Int32) = nI 0 from rfl, e6, e_bs, e_dc L6.1.1, show (3 : Int32) = nI 3 from rfl, e7, e_bs, e_dc L7.1.1, e8, e_bs, e_dc L8.1.1, e9, e_bs, e_dc L9.1.1, show (1 : Int32) = nI 1 from rfl, e10, e_bs]
  · rw [i10]
    unfold sl_
    rw [if_neg (by omega), ms_o s89 L7.1 18 10 800 (by decide), i7]
    unfold sl_
    rw [if_neg (by omega), ms_o s16 hL.1 18 10 800 (by decide)]
theorem p8_sealL {m l n : Nat} {t z : Int64} {key W : Nat → Int32} (hl : l < 2) (hn : n ≤ 100) (h64 : 64 < n) (hb : ∀ j, j < n → bt_ (key j)) (fu : Nat) : ∀ d i, i + d = n → ∀ S, mh_ S m → gI S (m + 4) l = nI n → (∀ j, j < n → gI S (m + 3) (100 * l + j) = key j) → sl_at S m 0 W → ms_I S m key i → ∃ S', f_X8_sealOf_L18 (fu + d + 1) S m (nI l) t z (nI n) (nI i) = some S' ∧ mg_S m S S' ∧ sl_at S' m 1 (s_sl (s_kb key n) (s_hd t z W)) ∧ ∀ j, (j < 8 ∨ 32 ≤ j) → gI S' (m + 18) j = gI S (m + 18) j
  | 0, i, hi, S, hL, h1, h3, hW, h => by
    have : i = n := by omega
    subst this
    obtain ⟨S1, e1, s1, i1⟩ := p8_digest (s := 2) hL h (by omega) (by decide)
    have L1 := mg_h s1 hL
    obtain ⟨S2, e2, s2, i2, j2⟩ := p8_sealB (t := t) (z := z) (key := key) (W := W) L1 s1.2.2 hl hn (by rw [mg_o s1 hL 4 10 2]; exact h1) (fun _ q hq => by rw [i1, sl_in hq]) (fun j hj => by rw [mg_o s1 hL 3 10 200]; exact h3 j hj) (fun q hq => by rw [i1, sl_out hq (by decide)]; exact hW q hq)
    refine ⟨S2, ?_, mg_tr s1 s2, i2, fun j hj => by rw [j2 j hj, i1]; unfold sl_; rw [if_neg (by omega)]⟩
    rw [f_X8_sealOf_L18, if_pos (nI_le (Nat.le_refl _) (by omega)), e_dc hL.1.1, show (2 : Int32) = nI 2 from rfl, e1, e_bs, e2]
  | d + 1, i, hi, S, hL, h1, h3, hW, h => by
    obtain ⟨S1, e1, s1, i1⟩ := p8_say (b := key i) hL.1 h (by omega) (hb i (by omega))
    obtain ⟨S2, e2, s2, i2, j2⟩ := p8_sealL (t := t) (z := z) (key := key) (W := W) hl hn h64 hb fu d (i + 1) (by omega) S1 (ms_h s1 hL) (by rw [ms_o s1 hL.1 4 10 2 (by decide)]; exact h1) (fun j hj => by rw [ms_o s1 hL.1 3 10 200 (by decide)]; exact h3 j hj) (fun q hq => by rw [ms_o s1 hL.1 18 10 800 (by decide)]; exact hW q hq) i1
    refine ⟨S2, ?_, ms_mg s1 s2, i2, fun j hj => by rw [j2 j hj, ms_o s1 hL.1 18 10 800 (by decide)]⟩
    rw [show fu + (d + 1) + 1 = (fu + d + 1) + 1 by omega, f_X8_sealOf_L18, if_neg (nI_ge (by omega) (by omega)), e_gR hL.1.1, e_bs, md_r hL.1 5 3, show (100 : Int32) = nI 100 from rfl, pk_mul, nI_add, e_I (md_k hL.1 3 10 200) (md_n hL.1 3 10 200) (by omega), e_bs, e_dc hL.1.1, h3 i (by omega), e1, e_bs, e_let, nI_1]
    exact e2
def ky_I (S : gS) (m l n : Nat) : Prop := n ≤ 100 ∧ gI S (m + 4) l = nI n ∧ ∀ j, j < n → bt_ (gI S (m + 3) (100 * l + j))
def kb_ (S : gS) (m l : Nat) : Nat → Int32 := s_kb (fun j => gI S (m + 3) (100 * l + j)) (gI S (m + 4) l).toNatClampNeg
theorem p8_sealOf {S : gS} {m l n : Nat} {t z : Int64} {W : Nat → Int32} (hL : mh_ S m) (h0 : gI S m 17 = nI 0) (hl : l < 2) (hk : ky_I S m l n) (hW : sl_at S m 0 W) : ∃ S', f_X8_sealOf S m (nI l) t z = some S' ∧ mg_S m S S' ∧ sl_at S' m 1 (s_sl (kb_ S m l) (s_hd t z W)) ∧ ∀ j, (j < 8 ∨ 32 ≤ j) → gI S' (m + 18) j = gI S (m + 18) j := by
  obtain ⟨hn, h1, hb⟩ := hk
  have hkb : kb_ S m l = s_kb (fun j => gI S (m + 3) (100 * l + j)) n := by unfold kb_; rw [h1, nI_clamp (by omega)]
  rw [hkb]
  unfold f_X8_sealOf
  rw [e_gR hL.1.1, e_bs, md_r hL.1 6 4, e_I (md_k hL.1 4 10 2) (md_n hL.1 4 10 2) hl, e_bs, h1]
  by_cases c : n ≤ 64
  · rw [if_pos (show nI n ≤ (64 : Int32) from nI_le (b := 64) c (by decide))]
    exact p8_sealB hL h0 hl hn h1 (fun q => by omega) (fun j hj => rfl) hW
  · rw [if_neg (show ¬ nI n ≤ (64 : Int32) from nI_ge (a := 64) (by omega) (by omega))]
    obtain ⟨fu, hf⟩ := g_fu n
    rw [hf, show n + fu + 1 = fu + n + 1 by omega]
    exact p8_sealL hl hn (by omega) hb fu n 0 (by omega) S hL h1 (fun j hj => rfl) hW ⟨h0, fun j hj => by omega⟩
