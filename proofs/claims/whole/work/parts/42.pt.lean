/-! the class's Sha: bytes in, digest out -/
theorem sb_and (x : Int32) : sb_ x &&& 255 = x &&& 255 := by
  apply i32_bv
  show (x.toBitVec.signExtend 8).signExtend 32 &&& 255#32 = x.toBitVec &&& 255#32
  apply BitVec.eq_of_getLsbD_eq
  intro i hi
  have h255 : (255#32).getLsbD i = decide (i < 8) := by
    have : ∀ i : Fin 32, (255#32).getLsbD i.val = decide (i.val < 8) := by decide
    exact this ⟨i, hi⟩
  simp only [BitVec.getLsbD_and, h255, BitVec.getLsbD_signExtend]
  by_cases h : i < 8
  · simp [h, show i < 32 by omega]
  · simp [h]
theorem sb_m (x : Int32) : sb_ (x &&& 255) = sb_ x := by
  apply i32_bv
  show ((x.toBitVec &&& 255#32).signExtend 8).signExtend 32 = (x.toBitVec.signExtend 8).signExtend 32
  congr 1
  apply BitVec.eq_of_getLsbD_eq
  intro i hi
  have h255 : (255#32).getLsbD i = true := by
    have : ∀ i : Fin 8, (255#32).getLsbD i.val = true := by decide
    exact this ⟨i, hi⟩
  simp only [BitVec.getLsbD_signExtend, BitVec.getLsbD_and, h255, Bool.and_true]
  simp [hi, show i < 32 by omega]
theorem m_m (x : Int32) : (x &&& 255) &&& 255 = x &&& 255 := by
  rw [Int32.and_assoc]; rfl
theorem sb_sb (x : Int32) : sb_ (sb_ x) = sb_ x := by rw [← sb_m (sb_ x), sb_and, sb_m]
theorem sb_inj {x y : Int32} (hx : x &&& 255 = x) (hy : y &&& 255 = y) : sb_ x = sb_ y ↔ x = y := by
  constructor
  · intro h
    rw [← hx, ← hy, ← sb_and x, ← sb_and y, h]
  · intro h; rw [h]
theorem s_by_m (w : Int32) (i : Nat) : s_by w i &&& 255 = s_by w i := m_m _
theorem d_by_m (W : Nat → Int32) (j : Nat) : d_by W j &&& 255 = d_by W j := m_m _
theorem sb_dby (W : Nat → Int32) (j : Nat) : sb_ (d_by W j) &&& 255 = d_by W j := by rw [sb_and, d_by_m]
def sh_I (S : gS) (a st wd : Nat) (M : Nat → Int32) (n : Nat) : Prop := gI S a 2 = nI (n % 64) ∧ gI S a 3 = nI n ∧ (∀ i, i < 8 → gI S st i = s_bst M (n / 64) i) ∧ ∀ j, j < 16 → ∃ x, gI S wd j = s_pw M x (64 * (n / 64) + 4 * j) (min 4 (n % 64 - 4 * j))
theorem s_pw_c {M M' : Nat → Int32} {x : Int32} {p : Nat} : ∀ r, (∀ j, p ≤ j → j < p + r → M j = M' j) → s_pw M x p r = s_pw M' x p r
  | 0, _ => rfl
  | r + 1, h => by
    show (s_pw M x p r <<< (8 &&& 31)) ||| M (p + r) = (s_pw M' x p r <<< (8 &&& 31)) ||| M' (p + r)
    rw [s_pw_c r (fun j h1 h2 => h j h1 (by omega)), h (p + r) (by omega) (by omega)]
theorem sh_c {S : gS} {a st wd n : Nat} {M M' : Nat → Int32} (h : sh_I S a st wd M n) (hM : ∀ j, j < n → M j = M' j) : sh_I S a st wd M' n := by
  obtain ⟨h1, h2, h3, h4⟩ := h
  refine ⟨h1, h2, fun i hi => ?_, fun j hj => ?_⟩
  · rw [h3 i hi]; exact s_bst_c _ (fun j hj => hM j (by omega)) i hi
  · obtain ⟨x, hx⟩ := h4 j hj
    exact ⟨x, by rw [hx]; exact s_pw_c _ (fun q h1 h2 => hM q (by omega))⟩
theorem p_put {S : gS} {a st wd F T : Nat} {b : Int32} (hL : sh_L S a st wd) (hF : gI S a 2 = nI F) (hT : gI S a 3 = nI T) (h64 : F < 64) : f_X4_put S a b = some (gsI (gsI (gsI S wd (F / 4) ((gI S wd (F / 4) <<< (8 &&& 31)) ||| (b &&& 255))) a 3 (nI (T + 1))) a 2 (nI (F + 1))) := by
  obtain ⟨⟨k1, k2, k3⟩, ⟨k4, k5⟩, ⟨k6, k7⟩, k8, k9, k10⟩ := hL
  have e : ((nI F >>> (2 &&& 31)) &&& 15) = nI (F / 4) := by
    rw [pk_shrN (by omega) (2 &&& 31) 2 (by decide), pk_andN (by omega) 4 (by decide)]
    congr 1; omega
  have k1' : ∀ v, gK (gsI S wd (F / 4) v) a = 4 := fun v => k1
  have k1'' : ∀ v w, gK (gsI (gsI S wd (F / 4) v) a 3 w) a = 4 := fun v w => k1
  unfold f_X4_put
  simp only [e_gI k1, e_gR k1, e_bs, hF, e, e_let, k3]
  rw [e_I k6 k7 (show F / 4 < 64 by omega), e_bs, e_aI k6 k7 (show F / 4 < 64 by omega), e_bs]
  simp only [e_gI (k1' _), e_pI (k1' _), e_bs, sI_n k9, hT, nI_1]
  simp only [e_gI (k1'' _ _), e_pI (k1'' _ _), e_bs, sI_s, va_up_n _ 3 _ (show 2 ≠ 3 by decide), sI_n k9, hF, nI_1]
theorem p_pm {S : gS} {a st wd n : Nat} {M : Nat → Int32} {b : Int32} (hL : sh_L S a st wd) (h : sh_I S a st wd M n) (hb : b &&& 255 = M n) : ∃ S1, f_X4_put S a b = some S1 ∧ gK S1 a = 4 ∧ ((gI S1 a 2 < 64 ∧ fr_S [a, st, wd] [] S S1 ∧ sh_I S1 a st wd M (n + 1)) ∨ (¬ gI S1 a 2 < 64 ∧ ∃ S2, f_X4_mix S1 a = some S2 ∧ fr_S [a, st, wd] [] S S2 ∧ sh_I S2 a st wd M (n + 1))) := by
  obtain ⟨h1, h2, h3, h4⟩ := h
  have hp := p_put (b := b) hL h1 h2 (by omega)
  have hL0 := hL
  obtain ⟨⟨k1, k2, k3⟩, ⟨k4, k5⟩, ⟨k6, k7⟩, k8, k9, k10⟩ := hL
  generalize hv : (gI S wd (n % 64 / 4) <<< (8 &&& 31)) ||| (b &&& 255) = v at hp
  refine ⟨_, hp, k1, ?_⟩
  have g2 : gI (gsI (gsI (gsI S wd (n % 64 / 4) v) a 3 (nI (n + 1))) a 2 (nI (n % 64 + 1))) a 2 = nI (n % 64 + 1) := by rw [sI_s, va_up_s]
  have g3 : gI (gsI (gsI (gsI S wd (n % 64 / 4) v) a 3 (nI (n + 1))) a 2 (nI (n % 64 + 1))) a 3 = nI (n + 1) := by rw [sI_s, va_up_n _ _ _ (by decide), sI_s, va_up_s]
  have g4 : gI (gsI (gsI (gsI S wd (n % 64 / 4) v) a 3 (nI (n + 1))) a 2 (nI (n % 64 + 1))) st = gI S st := by rw [sI_n (Ne.symm k8), sI_n (Ne.symm k8), sI_n k10]
  have g5 : gI (gsI (gsI (gsI S wd (n % 64 / 4) v) a 3 (nI (n + 1))) a 2 (nI (n % 64 + 1))) wd = va_up (gI S wd) (n % 64 / 4) v := by rw [sI_n (Ne.symm k9), sI_n (Ne.symm k9), sI_s]
  have fr : fr_S [a, st, wd] [] S (gsI (gsI (gsI S wd (n % 64 / 4) v) a 3 (nI (n + 1))) a 2 (nI (n % 64 + 1))) := fr_tr (fr_tr (fr_i (by simp)) (fr_i (by simp))) (fr_i (by simp))
  have hL1 : sh_L (gsI (gsI (gsI S wd (n % 64 / 4) v) a 3 (nI (n + 1))) a 2 (nI (n % 64 + 1))) a st wd := hL0
  generalize gsI (gsI (gsI S wd (n % 64 / 4) v) a 3 (nI (n + 1))) a 2 (nI (n % 64 + 1)) = S1 at *
  have hw : ∀ j, j < 16 → ∃ x, gI S1 wd j = s_pw M x (64 * (n / 64) + 4 * j) (min 4 (n % 64 + 1 - 4 * j)) := by
    intro j hj
    obtain ⟨x, hx⟩ := h4 j hj
    refine ⟨x, ?_⟩
    rw [g5]
    by_cases e : j = n % 64 / 4
    · subst e
      rw [va_up_s, ← hv, hx, show min 4 (n % 64 + 1 - 4 * (n % 64 / 4)) = min 4 (n % 64 - 4 * (n % 64 / 4)) + 1 by omega, hb]
      show _ = (s_pw M x _ _ <<< (8 &&& 31)) ||| M _
      congr 2
      omega
    · rw [va_up_n _ _ _ e, hx]
      congr 1
      omega
  by_cases e : n % 64 + 1 = 64
  · right
    refine ⟨by rw [g2, e]; decide, ?_⟩
    obtain ⟨S2, m1, m2, m3, m4, m5⟩ := p_mix hL1
    refine ⟨S2, m1, fr_tr fr m2, ?_, ?_, ?_, ?_⟩
    · rw [m3]; congr 1; omega
    · rw [m4, g3]
    · intro i hi
      rw [m5 i hi, show (n + 1) / 64 = n / 64 + 1 by omega]
      show _ = s_blk (s_bst M (n / 64)) (fun t => s_w4 M (64 * (n / 64) + 4 * t)) i
      refine s_blk_c (fun i hi => by rw [g4]; exact h3 i hi) (fun t ht => ?_) hi
      obtain ⟨x, hx⟩ := hw t ht
      rw [hx, show min 4 (n % 64 + 1 - 4 * t) = 4 by omega, s_pw4]
    · intro j hj
      refine ⟨gI S2 wd j, ?_⟩
      rw [show min 4 ((n + 1) % 64 - 4 * j) = 0 by omega]
      rfl
  · left
    refine ⟨by rw [g2]; exact nI_lt (b := 64) (by omega) (by decide), fr, ?_, ?_, ?_, ?_⟩
    · rw [g2]; congr 1; omega
    · exact g3
    · intro i hi
      rw [g4, show (n + 1) / 64 = n / 64 by omega]
      exact h3 i hi
    · intro j hj
      rw [show (n + 1) / 64 = n / 64 by omega, show (n + 1) % 64 = n % 64 + 1 by omega]
      exact hw j hj
theorem p_add {S : gS} {a st wd n : Nat} {M : Nat → Int32} {b : Int32} (hL : sh_L S a st wd) (h : sh_I S a st wd M n) (hb : b &&& 255 = M n) : ∃ S', f_X4_add S a b = some S' ∧ fr_S [a, st, wd] [] S S' ∧ sh_I S' a st wd M (n + 1) := by
  obtain ⟨S1, e1, e2, e3⟩ := p_pm hL h hb
  unfold f_X4_add
  rw [e_dc hL.1.1, e1, e_bs, e_gI e2, e_bs]
  rcases e3 with ⟨c, f, i⟩ | ⟨c, S2, m, f, i⟩
  · exact ⟨S1, by rw [if_pos c], f, i⟩
  · exact ⟨S2, by rw [if_neg c, e_dc e2, m, e_bs], f, i⟩
theorem p_hold {S : gS} {r p k : Nat} (hK : 9 ≤ gK S r ∧ gK S r < 16) (hN : gN S r < 2 ^ 31) (h : p + k ≤ gN S r) : f_X3_holds S (some r) (nI p) (nI k) = some (1, S) := by
  unfold f_X3_holds
  rw [e_nl, if_neg (nI_pos (by omega)), if_neg (nI_pos (by omega)), e_N hK, e_bs, if_neg (nI_nlt (by omega) hN), e_bs, pk_sub (by omega), if_neg (nI_nlt (by omega) (by omega))]
theorem k_ne {S : gS} {a b x y : Nat} (ha : gK S a = x) (hb : gK S b = y) (h : x ≠ y := by decide) : a ≠ b := fun e => h (by rw [← ha, ← hb, e])
theorem p_arL {a st wd r p k n : Nat} {M : Nat → Int32} (fu : Nat) : ∀ d i, i + d = k → ∀ S, sh_L S a st wd → gK S r = 9 → p + k ≤ gN S r → gN S r < 2 ^ 31 → (∀ j, j < k → gI S r (p + j) &&& 255 = M (n + j)) → sh_I S a st wd M (n + i) → ∃ S', f_X4_addRow_L13 (fu + d + 1) S a (some r) (nI p) (nI k) (nI i) = some S' ∧ fr_S [a, st, wd] [] S S' ∧ sh_I S' a st wd M (n + k)
  | 0, i, hi, S, hL, hr, hN, hN2, hM, h => by
    have : i = k := by omega
    subst this
    exact ⟨S, by rw [f_X4_addRow_L13, if_pos (nI_le (Nat.le_refl i) (by omega))], fr_refl _ _ _, h⟩
  | d + 1, i, hi, S, hL, hr, hN, hN2, hM, h => by
    obtain ⟨S1, e1, e2, e3⟩ := p_pm (b := gI S r (p + i)) hL h (hM i (by omega))
    rw [show fu + (d + 1) + 1 = (fu + d + 1) + 1 by omega, f_X4_addRow_L13, if_neg (nI_ge (by omega) (by omega)), nI_add, e_I hr rfl (by omega) hN2, e_bs, e_dc hL.1.1, e1, e_bs, e_gI e2, e_bs]
    have hrA : r ∉ [a, st, wd] := by
      have h1 := k_ne hr hL.1.1
      have h2 := k_ne hr hL.2.1.1
      have h3 := k_ne hr hL.2.2.1.1
      simp [h1, h2, h3]
    rcases e3 with ⟨c, f, q⟩ | ⟨c, S2, m, f, q⟩
    · obtain ⟨S', r1, r2, r3⟩ := p_arL (k := k) (p := p) (n := n) (M := M) fu d (i + 1) (by omega) S1 (sh_fr hL f (by simp)) (fr_K f hr) (by rw [fr_N f hr]; exact hN) (by rw [fr_N f hr]; exact hN2) (fun j hj => by rw [fr_I f hr hrA]; exact hM j hj) q
      exact ⟨S', by rw [if_pos c, e_let, nI_1]; exact r1, fr_tr f r2, r3⟩
    · obtain ⟨S', r1, r2, r3⟩ := p_arL (k := k) (p := p) (n := n) (M := M) fu d (i + 1) (by omega) S2 (sh_fr hL f (by simp)) (fr_K f hr) (by rw [fr_N f hr]; exact hN) (by rw [fr_N f hr]; exact hN2) (fun j hj => by rw [fr_I f hr hrA]; exact hM j hj) q
      exact ⟨S', by rw [if_neg c, e_dc e2, m, e_bs, e_let, nI_1]; exact r1, fr_tr f r2, r3⟩
theorem p_addRow {S : gS} {a st wd r p k n : Nat} {M : Nat → Int32} (hL : sh_L S a st wd) (hr : gK S r = 9) (hN : p + k ≤ gN S r) (hN2 : gN S r < 2 ^ 31) (hk : k ≤ 999999) (hM : ∀ j, j < k → gI S r (p + j) &&& 255 = M (n + j)) (h : sh_I S a st wd M n) : ∃ S', f_X4_addRow S a (some r) (nI p) (nI k) = some S' ∧ fr_S [a, st, wd] [] S S' ∧ sh_I S' a st wd M (n + k) := by
  obtain ⟨fu, hf⟩ := g_fu k
  obtain ⟨S', e1, e2, e3⟩ := p_arL fu k 0 (by omega) S hL hr hN hN2 hM h
  refine ⟨S', ?_, e2, e3⟩
  unfold f_X4_addRow
  rw [p_hold (by omega) hN2 hN, e_bi, if_neg (by decide), hf, show k + fu + 1 = fu + k + 1 by omega]
  exact e1
theorem p_begin {S : gS} {a st wd : Nat} (M : Nat → Int32) (hL : sh_L S a st wd) : ∃ S', f_X4_begin S a = some S' ∧ fr_S [a, st, wd] [] S S' ∧ sh_I S' a st wd M 0 := by
  obtain ⟨⟨k1, k2, k3⟩, ⟨k4, k5⟩, ⟨k6, k7⟩, k8, k9, k10⟩ := hL
  refine ⟨gsI (gsI (gsA S st (va_cpy (fun j => g_start.getD j 0) (gI S st) 0 0 8)) a 2 0) a 3 0, ?_, fr_tr (fr_tr (fr_A (by simp)) (fr_i (by simp))) (fr_i (by simp)), ?_, ?_, ?_, ?_⟩
  · have hc : fcS S (some st) = some (gsA S st (va_cpy (fun j => g_start.getD j 0) (gI S st) 0 0 8)) := if_pos ⟨k4, by omega⟩
    unfold f_X4_begin
    rw [e_gR k1, e_bs, k2, hc, e_bs, e_pI (S := gsA S st _) k1, e_bs, e_pI (S := gsI (gsA S st _) a 2 0) k1, e_bs]
  · rw [sI_s, va_up_n _ _ _ (by decide), sI_s, va_up_s]; rfl
  · rw [sI_s, va_up_s]; rfl
  · intro i hi
    rw [sI_n (Ne.symm k8), sI_n (Ne.symm k8), sA_s, pk_cpy_in (by omega) (by omega)]
    show _ = g_start.getD i 0
    rw [show 0 + (i - 0) = i by omega]
  · intro j hj
    rw [show min 4 (0 % 64 - 4 * j) = 0 by omega]
    exact ⟨_, rfl⟩
