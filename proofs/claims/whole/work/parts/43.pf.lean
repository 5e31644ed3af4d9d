/-! the class's Sha: finish and node -/
theorem p_out {a st wd r : Nat} {W : Nat → Int32} {g : Nat → Int32} (fu : Nat) : ∀ d i, i + d = 32 → ∀ S, sh_L S a st wd → gK S r = 9 → 32 ≤ gN S r → gN S r < 2 ^ 31 → (∀ q, q < 8 → gI S st q = W q) → (∀ j, gI S r j = if j < i then sb_ (d_by W j) else g j) → ∃ S', f_X4_finish_L116 (fu + d + 1) S a (some r) (nI i) = some S' ∧ fr_S [a, st, wd, r] [] S S' ∧ ∀ j, gI S' r j = if j < 32 then sb_ (d_by W j) else g j
  | 0, i, hi, S, hL, hr, hN, hN2, hW, h => by
    have : i = 32 := by omega
    subst this
    exact ⟨S, by rw [f_X4_finish_L116, if_pos (show (32 : Int32) ≤ nI 32 from by decide)], fr_refl _ _ _, h⟩
  | d + 1, i, hi, S, hL, hr, hN, hN2, hW, h => by
    have hL0 := hL
    obtain ⟨⟨k1, k2, k3⟩, ⟨k4, k5⟩, ⟨k6, k7⟩, k8, k9, k10⟩ := hL
    have e1 : nI i >>> (2 &&& 31) = nI (i / 4) := by
      rw [pk_shrN (by omega) (2 &&& 31) 2 (by decide)]
    have e2 : (24 : Int32) - (8 * (nI i &&& 3)) = nI (24 - 8 * (i % 4)) := by
      rw [pk_andN (by omega) (m := 3) 2 (by decide), show (8 : Int32) = nI 8 from rfl, pk_mul, show (24 : Int32) = nI 24 from rfl, pk_sub (by omega)]
    rw [show fu + (d + 1) + 1 = (fu + d + 1) + 1 by omega, f_X4_finish_L116, if_neg (show ¬ (32 : Int32) ≤ nI i from nI_ge (b := 32) (by omega) (by decide)), e_gR k1, e_bs, k2, e1, e_I k4 k5 (by omega), e_bs, e2, e_aB hr rfl (by omega) hN2, e_bs, e_let, nI_1]
    have rst : st ≠ r := Ne.symm (k_ne hr k4)
    generalize hv : (g_ushr (gI S st (i / 4)) (nI (24 - 8 * (i % 4)))).toInt8.toInt32.toInt8.toInt32 = v
    have hv' : v = sb_ (d_by W i) := by
      rw [← hv, hW _ (by omega)]
      show sb_ (sb_ _) = sb_ (_ &&& 255)
      rw [sb_sb, sb_m]
    obtain ⟨S', r1, r2, r3⟩ := p_out (a := a) (st := st) (wd := wd) (r := r) (W := W) (g := g) fu d (i + 1) (by omega) (gsI S r i v) hL0 hr hN hN2 (fun q hq => by rw [sI_n rst]; exact hW q hq) (fun j => by
      rw [sI_s, va_up_e, h j]
      by_cases e : j = i
      · subst e; rw [if_pos rfl, if_pos (by omega), hv']
      · rw [if_neg e]
        by_cases e2 : j < i
        · rw [if_pos e2, if_pos (by omega)]
        · rw [if_neg e2, if_neg (by omega)])
    exact ⟨S', r1, fr_tr (fr_i (by simp)) r2, r3⟩
theorem pad_4 {n left : Nat} (h1 : 1 ≤ left) (h4 : left ≤ 4) (hn : n < 100000000) : g_ushr (nI n * 8) (8 * (nI left - 1)) &&& 255 = nI (8 * n / 2 ^ (8 * (left - 1)) % 256) := by
  rw [show (8 : Int32) = nI 8 from rfl, pk_mul, show n * 8 = 8 * n by omega]
  unfold g_ushr
  obtain rfl | rfl | rfl | rfl : left = 1 ∨ left = 2 ∨ left = 3 ∨ left = 4 := by omega
  · rw [pk_ushrN (by omega) (nI 8 * (nI 1 - 1)) 0 (by decide), pk_andN (by omega) 8 (by decide)]
  · rw [pk_ushrN (by omega) (nI 8 * (nI 2 - 1)) 8 (by decide), pk_andN (by omega) 8 (by decide)]
  · rw [pk_ushrN (by omega) (nI 8 * (nI 3 - 1)) 16 (by decide), pk_andN (by omega) 8 (by decide)]
  · rw [pk_ushrN (by omega) (nI 8 * (nI 4 - 1)) 24 (by decide), pk_andN (by omega) 8 (by decide)]
theorem pad_0 {M : Nat → Int32} {n j : Nat} (hn : n < 100000000) (h1 : n < j) (h2 : 5 ≤ 64 * s_nb n - j) : s_pad M n j = nI 0 := by
  unfold s_pad
  rw [if_neg (by omega), if_neg (by omega)]
  by_cases e : 64 * s_nb n - j ≤ 8
  · rw [if_pos e]
    have : 2 ^ 32 ≤ 2 ^ (8 * (64 * s_nb n - j - 1)) := Nat.pow_le_pow_right (by decide) (by omega)
    rw [Nat.div_eq_of_lt (by omega)]
  · rw [if_neg e]; rfl
theorem p_finL {a st wd r n tail : Nat} {M : Nat → Int32} (hn : n < 100000000) (ht : tail = 64 * s_nb n - n) (fu : Nat) : ∀ left, left ≤ tail → ∀ S, sh_L S a st wd → gK S r = 9 → 32 ≤ gN S r → gN S r < 2 ^ 31 → sh_I S a st wd (s_pad M n) (64 * s_nb n - left) → ∃ S', f_X4_finish_L39 (fu + left + 1) S a (some r) (nI n * 8) (nI tail) (nI left) = some S' ∧ fr_S [a, st, wd, r] [] S S' ∧ ∀ j, gI S' r j = if j < 32 then sb_ (d_by (s_dg M n) j) else gI S r j
  | 0, hl, S, hL, hr, hN, hN2, h => by
    obtain ⟨f2, hf⟩ := g_fu 32
    obtain ⟨S', e1, e2, e3⟩ := p_out (W := s_dg M n) (g := gI S r) f2 32 0 (by omega) S hL hr hN hN2 (fun q hq => by
      rw [h.2.2.1 q hq, show (64 * s_nb n - 0) / 64 = s_nb n by omega]; rfl) (fun j => by rw [if_neg (by omega)])
    refine ⟨S', ?_, e2, e3⟩
    rw [f_X4_finish_L39, if_pos (show nI 0 ≤ (0 : Int32) from by decide), show f_X3_holds S (some r) 0 32 = some (1, S) from p_hold (r := r) (p := 0) (k := 32) (by omega) hN2 (by omega), e_bi, if_neg (by decide), hf, show 32 + f2 + 1 = f2 + 32 + 1 by omega]
    exact e1
  | left + 1, hl, S, hL, hr, hN, hN2, h => by
    have hnb := s_nb_n n
    have hrA : r ∉ [a, st, wd] := by
      have h1 := k_ne hr hL.1.1
      have h2 := k_ne hr hL.2.1.1
      have h3 := k_ne hr hL.2.2.1.1
      simp [h1, h2, h3]
    have main : ∀ b : Int32, b &&& 255 = s_pad M n (64 * s_nb n - (left + 1)) → ∃ S', (gDc S 4 (some a) fun a57 => (f_X4_put S a57 b).bind fun S59 => (fgI S59 4 2 (some a)).bind fun x61 => if x61 < 64 then gLet (nI (left + 1) + (-1)) fun x66 => f_X4_finish_L39 (fu + left + 1) S59 a (some r) (nI n * 8) (nI tail) x66 else gDc S59 4 (some a) fun a68 => (f_X4_mix S59 a68).bind fun S70 => gLet (nI (left + 1) + (-1)) fun x72 => f_X4_finish_L39 (fu + left + 1) S70 a (some r) (nI n * 8) (nI tail) x72) = some S' ∧ fr_S [a, st, wd, r] [] S S' ∧ ∀ j, gI S' r j = if j < 32 then sb_ (d_by (s_dg M n) j) else gI S r j := by
      intro b hb
      obtain ⟨S1, e1, e2, e3⟩ := p_pm (b := b) hL h hb
      rw [show 64 * s_nb n - (left + 1) + 1 = 64 * s_nb n - left by omega] at e3
      rw [e_dc hL.1.1, e1, e_bs, e_gI e2, e_bs]
      have mo : ∀ x ∈ [a, st, wd], x ∈ [a, st, wd, r] := fun x hx => by simp at hx ⊢; rcases hx with h | h | h <;> simp [h]
      rcases e3 with ⟨c, f, q⟩ | ⟨c, S2, m, f, q⟩
      · obtain ⟨S', r1, r2, r3⟩ := p_finL (M := M) hn ht fu left (by omega) S1 (sh_fr hL f (by simp)) (fr_K f hr) (by rw [fr_N f hr]; exact hN) (by rw [fr_N f hr]; exact hN2) q
        exact ⟨S', by rw [if_pos c, e_let, pk_m1]; exact r1, fr_tr (fr_mo f mo (by simp)) r2, fun j => by rw [r3 j, fr_I f hr hrA]⟩
      · obtain ⟨S', r1, r2, r3⟩ := p_finL (M := M) hn ht fu left (by omega) S2 (sh_fr hL f (by simp)) (fr_K f hr) (by rw [fr_N f hr]; exact hN) (by rw [fr_N f hr]; exact hN2) q
        exact ⟨S', by rw [if_neg c, e_dc e2, m, e_bs, e_let, pk_m1]; exact r1, fr_tr (fr_mo f mo (by simp)) r2, fun j => by rw [r3 j, fr_I f hr hrA]⟩
    rw [show fu + (left + 1) + 1 = (fu + left + 1) + 1 by omega, f_X4_finish_L39, if_neg (show ¬ nI (left + 1) ≤ (0 : Int32) from nI_nle (by omega) (by omega))]
    by_cases c4 : left + 1 ≤ 4
    · rw [if_pos (show nI (left + 1) ≤ (4 : Int32) from nI_le (b := 4) c4 (by decide)), e_let, if_neg (by rw [nI_eq (by omega) (by omega)]; omega)]
      refine main _ ?_
      rw [pad_4 (by omega) c4 hn]
      unfold s_pad
      rw [if_neg (by omega), if_neg (by omega), show 64 * s_nb n - (64 * s_nb n - (left + 1)) = left + 1 by omega, if_pos (by omega)]
    · rw [if_neg (show ¬ nI (left + 1) ≤ (4 : Int32) from nI_ge (a := 4) (by omega) (by omega))]
      by_cases ct : left + 1 = tail
      · rw [if_pos (by rw [ct])]
        refine main _ ?_
        unfold s_pad
        rw [if_neg (by omega), if_pos (by omega)]
        decide
      · rw [if_neg (by rw [nI_eq (by omega) (by omega)]; omega)]
        refine main _ ?_
        rw [pad_0 hn (by omega) (by omega)]
        decide
theorem p_finish {S : gS} {a st wd r n : Nat} {M : Nat → Int32} (hL : sh_L S a st wd) (hr : gK S r = 9) (hN : 32 ≤ gN S r) (hN2 : gN S r < 2 ^ 31) (hn : n < 100000000) (h : sh_I S a st wd M n) : ∃ S', f_X4_finish S a (some r) = some S' ∧ fr_S [a, st, wd, r] [] S S' ∧ ∀ j, gI S' r j = if j < 32 then sb_ (d_by (s_dg M n) j) else gI S r j := by
  have hnb := s_nb_n n
  obtain ⟨fu, hf⟩ := g_fu (64 * s_nb n - n)
  obtain ⟨S', e1, e2, e3⟩ := p_finL (M := M) hn rfl fu (64 * s_nb n - n) (Nat.le_refl _) S hL hr hN hN2 (sh_c (M := M) (by rw [show 64 * s_nb n - (64 * s_nb n - n) = n by omega]; exact h) (fun j hj => by unfold s_pad; rw [if_pos (by omega)]))
  refine ⟨S', ?_, e2, e3⟩
  rw [show fu + (64 * s_nb n - n) + 1 = gFuel by omega] at e1
  obtain ⟨h1, h2, -⟩ := h
  unfold f_X4_finish f_X4_finish_B35
  simp only [e_gI hL.1.1, e_bs, h1, h2, e_let]
  by_cases c : 56 ≤ n % 64
  · rw [if_pos (show (56 : Int32) ≤ nI (n % 64) from nI_le (a := 56) c (by omega)), show (128 : Int32) = nI 128 from rfl, pk_sub (by omega), show 128 - n % 64 = 64 * s_nb n - n by unfold s_nb; omega]
    exact e1
  · rw [if_neg (show ¬ (56 : Int32) ≤ nI (n % 64) from nI_ge (b := 56) (by omega) (by decide)), show (64 : Int32) = nI 64 from rfl, pk_sub (by omega), show 64 - n % 64 = 64 * s_nb n - n by unfold s_nb; omega]
    exact e1
def s_nm (A B : Nat → Int32) (j : Nat) : Int32 := if j = 0 then 1 else if j < 33 then d_by A (j - 1) else d_by B (j - 33)
def s_nd (A B : Nat → Int32) : Nat → Int32 := s_dg (s_nm A B) 65
/-- a digest of bytes in a row -/
def dg_at (S : gS) (r p : Nat) (W : Nat → Int32) : Prop := ∀ j, j < 32 → gI S r (p + j) = sb_ (d_by W j)
theorem p_node {S : gS} {a st wd r1 p1 r2 p2 r3 : Nat} {A B : Nat → Int32} (hL : sh_L S a st wd) (k1 : gK S r1 = 9) (n1 : p1 + 32 ≤ gN S r1) (m1 : gN S r1 < 2 ^ 31) (k2 : gK S r2 = 9) (n2 : p2 + 32 ≤ gN S r2) (m2 : gN S r2 < 2 ^ 31) (k3 : gK S r3 = 9) (n3 : 32 ≤ gN S r3) (m3 : gN S r3 < 2 ^ 31) (h1 : dg_at S r1 p1 A) (h2 : dg_at S r2 p2 B) : ∃ S', f_X4_node S a (some r1) (nI p1) (some r2) (nI p2) (some r3) = some S' ∧ fr_S [a, st, wd, r3] [] S S' ∧ ∀ j, gI S' r3 j = if j < 32 then sb_ (d_by (s_nd A B) j) else gI S r3 j := by
  have hrA : ∀ {r}, gK S r = 9 → r ∉ [a, st, wd] := by
    intro r hr
    have h1 := k_ne hr hL.1.1
    have h2 := k_ne hr hL.2.1.1
    have h3 := k_ne hr hL.2.2.1.1
    simp [h1, h2, h3]
  obtain ⟨S1, e1, f1, i1⟩ := p_begin (s_nm A B) hL
  have L1 := sh_fr hL f1 (by simp)
  obtain ⟨S2, e2, f2', i2⟩ := p_add (b := 1) L1 i1 (by rfl)
  have f2 := fr_tr f1 f2'
  have L2 := sh_fr hL f2 (by simp)
  obtain ⟨S3, e3, f3', i3⟩ := p_addRow (k := 32) (p := p1) (n := 0 + 1) L2 (fr_K f2 k1) (by rw [fr_N f2 k1]; exact n1) (by rw [fr_N f2 k1]; exact m1) (by decide) (fun j hj => by
    rw [fr_I f2 k1 (hrA k1), h1 j hj, sb_dby]
    show _ = if _ then _ else _
    rw [if_neg (by omega), if_pos (by omega), show 0 + 1 + j - 1 = j by omega]) i2
  have f3 := fr_tr f2 f3'
  have L3 := sh_fr hL f3 (by simp)
  obtain ⟨S4, e4, f4', i4⟩ := p_addRow (k := 32) (p := p2) (n := 0 + 1 + 32) L3 (fr_K f3 k2) (by rw [fr_N f3 k2]; exact n2) (by rw [fr_N f3 k2]; exact m2) (by decide) (fun j hj => by
    rw [fr_I f3 k2 (hrA k2), h2 j hj, sb_dby]
    show _ = if _ then _ else _
    rw [if_neg (by omega), if_neg (by omega), show 0 + 1 + 32 + j - 33 = j by omega]) i3
  have f4 := fr_tr f3 f4'
  have L4 := sh_fr hL f4 (by simp)
  obtain ⟨S5, e5, f5, i5⟩ := p_finish (n := 65) (r := r3) L4 (fr_K f4 k3) (by rw [fr_N f4 k3]; exact n3) (by rw [fr_N f4 k3]; exact m3) (by decide) i4
  have mo : ∀ x ∈ [a, st, wd], x ∈ [a, st, wd, r3] := fun x hx => by simp at hx ⊢; rcases hx with h | h | h <;> simp [h]
  refine ⟨S5, ?_, fr_tr (fr_mo f4 mo (by simp)) f5, fun j => by rw [i5 j, fr_I f4 k3 (hrA k3)]; rfl⟩
  unfold f_X4_node
  rw [e_dc hL.1.1, e1, e_bs, e_dc L1.1.1, e2, e_bs, e_dc L2.1.1, show (32 : Int32) = nI 32 from rfl, e3, e_bs, e_dc L3.1.1, e4, e_bs, e_dc L4.1.1, e5, e_bs]
