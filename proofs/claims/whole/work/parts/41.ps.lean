/-! SHA-256 as functions, and the class's Sha -/
def sb_ (x : Int32) : Int32 := x.toInt8.toInt32
def s_s0 (x : Int32) : Int32 := (((g_ushr x 7) ||| (x <<< (25 &&& 31))) ^^^ ((g_ushr x 18) ||| (x <<< (14 &&& 31)))) ^^^ (g_ushr x 3)
def s_s1 (x : Int32) : Int32 := (((g_ushr x 17) ||| (x <<< (15 &&& 31))) ^^^ ((g_ushr x 19) ||| (x <<< (13 &&& 31)))) ^^^ (g_ushr x 10)
def s_e1 (x : Int32) : Int32 := (((g_ushr x 6) ||| (x <<< (26 &&& 31))) ^^^ ((g_ushr x 11) ||| (x <<< (21 &&& 31)))) ^^^ ((g_ushr x 25) ||| (x <<< (7 &&& 31)))
def s_e0 (x : Int32) : Int32 := (((g_ushr x 2) ||| (x <<< (30 &&& 31))) ^^^ ((g_ushr x 13) ||| (x <<< (19 &&& 31)))) ^^^ ((g_ushr x 22) ||| (x <<< (10 &&& 31)))
def s_ch (e f g : Int32) : Int32 := (e &&& f) ^^^ ((e ^^^ (-1)) &&& g)
def s_mj (a b c : Int32) : Int32 := ((a &&& b) ^^^ (a &&& c)) ^^^ (b &&& c)
def s_one (h e f g k w : Int32) : Int32 := (((h + s_e1 e) + s_ch e f g) + k) + w
def s_sch : Nat → (Nat → Int32) → Nat → Int32
  | 0, w => w
  | k + 1, w => va_up (s_sch k w) (16 + k) (((s_sch k w k + s_s0 (s_sch k w (k + 1))) + s_sch k w (k + 9)) + s_s1 (s_sch k w (k + 14)))
def s_8 (a b c d e f g h : Int32) (i : Nat) : Int32 := [a, b, c, d, e, f, g, h].getD i 0
def s_rds : Nat → Nat → (Nat → Int32) → Int32 → Int32 → Int32 → Int32 → Int32 → Int32 → Int32 → Int32 → Nat → Int32
  | 0, _, _, a, b, c, d, e, f, g, h => s_8 a b c d e f g h
  | n + 1, t, w, a, b, c, d, e, f, g, h => s_rds n (t + 1) w ((s_one h e f g (g_round.getD t 0) (w t) + s_e0 a) + s_mj a b c) a b c (d + s_one h e f g (g_round.getD t 0) (w t)) e f g
def s_blk (st w : Nat → Int32) (i : Nat) : Int32 := st i + s_rds 64 0 (s_sch 48 w) (st 0) (st 1) (st 2) (st 3) (st 4) (st 5) (st 6) (st 7) i
def s_w4 (M : Nat → Int32) (p : Nat) : Int32 := (((M p <<< (24 &&& 31)) ||| (M (p + 1) <<< (16 &&& 31))) ||| (M (p + 2) <<< (8 &&& 31))) ||| M (p + 3)
def s_bst (M : Nat → Int32) : Nat → Nat → Int32
  | 0 => fun i => g_start.getD i 0
  | b + 1 => s_blk (s_bst M b) (fun t => s_w4 M (64 * b + 4 * t))
def s_nb (n : Nat) : Nat := (n + 8) / 64 + 1
def s_pad (M : Nat → Int32) (n j : Nat) : Int32 := if j < n then M j else if j = n then nI 128 else if 64 * s_nb n - j ≤ 8 then nI (8 * n / 2 ^ (8 * (64 * s_nb n - j - 1)) % 256) else 0
def s_dg (M : Nat → Int32) (n : Nat) : Nat → Int32 := s_bst (s_pad M n) (s_nb n)
def s_by (w : Int32) (i : Nat) : Int32 := g_ushr w (nI (24 - 8 * i)) &&& 255
def d_by (W : Nat → Int32) (j : Nat) : Int32 := s_by (W (j / 4)) (j % 4)
theorem s_sch_c {w w' : Nat → Int32} (h : ∀ t, t < 16 → w t = w' t) : ∀ k t, t < 16 + k → s_sch k w t = s_sch k w' t
  | 0, t, ht => h t ht
  | k + 1, t, ht => by
    have ih := s_sch_c h k
    show va_up _ _ _ t = va_up _ _ _ t
    rw [ih k (by omega), ih (k + 1) (by omega), ih (k + 9) (by omega), ih (k + 14) (by omega)]
    by_cases e : t = 16 + k
    · subst e; rw [va_up_s, va_up_s]
    · rw [va_up_n _ _ _ e, va_up_n _ _ _ e]; exact ih t (by omega)
theorem s_rds_c {w w' : Nat → Int32} (h : ∀ t, t < 64 → w t = w' t) : ∀ n t a b c d e f g h', n + t ≤ 64 → s_rds n t w a b c d e f g h' = s_rds n t w' a b c d e f g h'
  | 0, _, _, _, _, _, _, _, _, _, _ => rfl
  | n + 1, t, a, b, c, d, e, f, g, h', hn => by
    show s_rds n _ _ _ _ _ _ _ _ _ _ = s_rds n _ _ _ _ _ _ _ _ _ _
    rw [h t (by omega)]
    exact s_rds_c h n (t + 1) _ _ _ _ _ _ _ _ (by omega)
theorem s_blk_c {st st' w w' : Nat → Int32} (hs : ∀ i, i < 8 → st i = st' i) (hw : ∀ t, t < 16 → w t = w' t) {i : Nat} (hi : i < 8) : s_blk st w i = s_blk st' w' i := by
  unfold s_blk
  rw [hs i hi, hs 0 (by omega), hs 1 (by omega), hs 2 (by omega), hs 3 (by omega), hs 4 (by omega), hs 5 (by omega), hs 6 (by omega), hs 7 (by omega), s_rds_c (fun t ht => s_sch_c hw 48 t ht) 64 0 _ _ _ _ _ _ _ _ (by omega)]
theorem s_w4_c {M M' : Nat → Int32} {p : Nat} (h : ∀ j, p ≤ j → j < p + 4 → M j = M' j) : s_w4 M p = s_w4 M' p := by
  unfold s_w4
  rw [h p (by omega) (by omega), h (p + 1) (by omega) (by omega), h (p + 2) (by omega) (by omega), h (p + 3) (by omega) (by omega)]
theorem s_bst_c {M M' : Nat → Int32} : ∀ b, (∀ j, j < 64 * b → M j = M' j) → ∀ i, i < 8 → s_bst M b i = s_bst M' b i
  | 0, _, _, _ => rfl
  | b + 1, h, i, hi => s_blk_c (fun i hi => s_bst_c b (fun j hj => h j (by omega)) i hi) (fun t ht => s_w4_c fun j h1 h2 => h j (by omega)) hi
theorem s_nb_n (n : Nat) : n + 9 ≤ 64 * s_nb n ∧ 64 * s_nb n < n + 9 + 64 := by unfold s_nb; omega
theorem s_dg_c {M M' : Nat → Int32} {n : Nat} (h : ∀ j, j < n → M j = M' j) {i : Nat} (hi : i < 8) : s_dg M n i = s_dg M' n i := by
  refine s_bst_c _ (fun j _ => ?_) i hi
  unfold s_pad
  by_cases e : j < n
  · rw [if_pos e, if_pos e]; exact h j e
  · rw [if_neg e, if_neg e]
theorem i32_bv {x y : Int32} (h : x.toBitVec = y.toBitVec) : x = y := Int32.toBitVec_inj.mp h
def s_pw (M : Nat → Int32) (x : Int32) (p : Nat) : Nat → Int32
  | 0 => x
  | r + 1 => (s_pw M x p r <<< (8 &&& 31)) ||| M (p + r)
theorem s_pw4 (M : Nat → Int32) (x : Int32) (p : Nat) : s_pw M x p 4 = s_w4 M p := by
  unfold s_w4
  simp only [s_pw, Nat.add_zero]
  generalize M p = b0; generalize M (p + 1) = b1; generalize M (p + 2) = b2; generalize M (p + 3) = b3
  apply i32_bv
  show ((((x.toBitVec <<< 8 ||| b0.toBitVec) <<< 8 ||| b1.toBitVec) <<< 8 ||| b2.toBitVec) <<< 8) ||| b3.toBitVec = (((b0.toBitVec <<< 24) ||| (b1.toBitVec <<< 16)) ||| (b2.toBitVec <<< 8)) ||| b3.toBitVec
  generalize x.toBitVec = x; generalize b0.toBitVec = b0; generalize b1.toBitVec = b1; generalize b2.toBitVec = b2; generalize b3.toBitVec = b3
  apply BitVec.eq_of_getLsbD_eq
  intro i hi
  simp only [BitVec.getLsbD_or, BitVec.getLsbD_shiftLeft]
  by_cases h1 : i < 8
  · simp [h1, show i < 16 by omega, show i < 24 by omega]
  · by_cases h2 : i < 16
    · simp [h1, h2, hi, show i - 8 < 8 by omega, show i < 24 by omega]
    · by_cases h3 : i < 24
      · simp [h1, h2, h3, hi, show ¬ i - 8 < 8 by omega, show i - 8 - 8 < 8 by omega, show i - 8 < 32 by omega, show i - 8 - 8 = i - 16 by omega, show i - 16 < 8 by omega]
      · simp [h1, h2, h3, hi, show ¬ i - 8 < 8 by omega, show ¬ i - 8 - 8 < 8 by omega, show i - 8 - 8 - 8 < 8 by omega, show i - 8 < 32 by omega, show i - 8 - 8 = i - 16 by omega, show i - 16 < 32 by omega, show i - 16 - 8 = i - 24 by omega, show ¬ i - 16 < 8 by omega, show i - 24 < 8 by omega]
/-- where a Sha lies -/
def sh_L (S : gS) (a st wd : Nat) : Prop := (gK S a = 4 ∧ gR S a 0 = some st ∧ gR S a 1 = some wd) ∧ (gK S st = 10 ∧ gN S st = 8) ∧ (gK S wd = 10 ∧ gN S wd = 64) ∧ a ≠ st ∧ a ≠ wd ∧ st ≠ wd
theorem sh_fr {A B : List Nat} {S S' : gS} {a st wd : Nat} (h : sh_L S a st wd) (f : fr_S A B S S') (hB : a ∉ B) : sh_L S' a st wd := by
  obtain ⟨⟨h1, h2, h3⟩, ⟨h4, h5⟩, ⟨h6, h7⟩, h8⟩ := h
  exact ⟨⟨fr_K f h1, by rw [fr_R f h1 hB]; exact h2, by rw [fr_R f h1 hB]; exact h3⟩, ⟨fr_K f h4, by rw [fr_N f h4]; exact h5⟩, ⟨fr_K f h6, by rw [fr_N f h6]; exact h7⟩, h8⟩
theorem mix_sch {a st wd : Nat} {w : Nat → Int32} (fu : Nat) : ∀ d j, j + d = 48 → ∀ S, sh_L S a st wd → gI S wd = s_sch j w → f_X4_mix_L3 (fu + d + 1) S a (nI (16 + j)) = f_X4_mix_L3 (fu + 1) (gsA S wd (s_sch 48 w)) a (nI 64)
  | 0, j, hj, S, hL, hw => by
    have : j = 48 := by omega
    subst this
    rw [← hw, sA_i]
  | d + 1, j, hj, S, hL, hw => by
    obtain ⟨⟨k1, k2, k3⟩, ⟨k4, k5⟩, ⟨k6, k7⟩, k8⟩ := hL
    have i1 : nI (16 + j) - 15 = nI (j + 1) := by rw [show (15 : Int32) = nI 15 from rfl, pk_sub (by omega)]; congr 1; omega
    have i2 : nI (16 + j) - 2 = nI (j + 14) := by rw [show (2 : Int32) = nI 2 from rfl, pk_sub (by omega)]; congr 1; omega
    have i3 : nI (16 + j) - 16 = nI j := by rw [show (16 : Int32) = nI 16 from rfl, pk_sub (by omega)]; congr 1; omega
    have i4 : nI (16 + j) - 7 = nI (j + 9) := by rw [show (7 : Int32) = nI 7 from rfl, pk_sub (by omega)]; congr 1; omega
    rw [show fu + (d + 1) + 1 = (fu + d + 1) + 1 by omega, f_X4_mix_L3, if_neg (show ¬ (64 : Int32) ≤ nI (16 + j) from nI_ge (b := 64) (by omega) (by decide))]
    simp only [e_gR k1, e_bs, k3, i1, i2, i3, i4, e_let]
    rw [e_I k6 k7 (show j + 1 < 64 by omega), e_bs, e_I k6 k7 (show j + 14 < 64 by omega), e_bs, e_I k6 k7 (show j < 64 by omega), e_bs, e_I k6 k7 (show j + 9 < 64 by omega), e_bs, e_aI k6 k7 (show 16 + j < 64 by omega), e_bs, nI_1]
    have := mix_sch (a := a) (st := st) (wd := wd) (w := w) fu d (j + 1) (by omega) (gsI S wd (16 + j) (((gI S wd j + s_s0 (gI S wd (j + 1))) + gI S wd (j + 9)) + s_s1 (gI S wd (j + 14)))) ⟨⟨k1, k2, k3⟩, ⟨k4, k5⟩, ⟨k6, k7⟩, k8⟩ (by rw [sI_A, sA_s, hw]; rfl)
    rw [show 16 + (j + 1) = 16 + j + 1 by omega] at this
    rw [sI_A, sA_A, ← sI_A] at this
    exact this
theorem mix_end {S : gS} {a st wd : Nat} (hL : sh_L S a st wd) (fu : Nat) (x0 x1 x2 x3 x4 x5 x6 x7 : Int32) : ∃ S', f_X4_mix_L182 (fu + 1) S a x0 x1 x2 x3 x4 x5 x6 x7 (nI 64) = some S' ∧ fr_S [a, st, wd] [] S S' ∧ gI S' a 2 = nI 0 ∧ gI S' a 3 = gI S a 3 ∧ ∀ i, i < 8 → gI S' st i = gI S st i + s_8 x0 x1 x2 x3 x4 x5 x6 x7 i := by
  obtain ⟨⟨k1, k2, k3⟩, ⟨k4, k5⟩, ⟨k6, k7⟩, k8, k9, k10⟩ := hL
  refine ⟨gsI (gsA S st fun i => if i < 8 then gI S st i + s_8 x0 x1 x2 x3 x4 x5 x6 x7 i else gI S st i) a 2 (nI 0), ?_, ?_, ?_, ?_, ?_⟩
  rotate_left 1
  · exact fr_tr (fr_A (a := st) (by simp)) (fr_i (a := a) (k := 2) (v := nI 0) (by simp))
  · rw [sI_A, sA_s, va_up_s]
  · rw [sI_A, sA_s, va_up_n _ _ _ (by decide), sA_n k8]
  · intro i hi
    rw [sI_A, sA_n (Ne.symm k8), sA_s, if_pos hi]
  · rw [f_X4_mix_L182, if_pos (show (64 : Int32) ≤ nI 64 from by decide)]
    have q : ∀ (T : gS) (i : Nat) (x : Int32) (f : gS → Option gS), i < 8 → gK T a = 4 → gR T a 0 = some st → gK T st = 10 → gN T st = 8 → ((fgR T 4 0 (some a)).bind fun r => (fI T 10 r (nI i)).bind fun y => (faI T r (nI i) (y + x)).bind f) = f (gsI T st i (gI T st i + x)) := by
      intro T i x f hi h1 h2 h3 h4
      rw [e_gR h1, e_bs, h2, e_I h3 h4 hi, e_bs, e_aI h3 h4 hi, e_bs]
    rw [show (0 : Int32) = nI 0 from rfl, show (1 : Int32) = nI 1 from rfl, show (2 : Int32) = nI 2 from rfl, show (3 : Int32) = nI 3 from rfl, show (4 : Int32) = nI 4 from rfl, show (5 : Int32) = nI 5 from rfl, show (6 : Int32) = nI 6 from rfl, show (7 : Int32) = nI 7 from rfl]
    rw [q S 0 x0 _ (by decide) k1 k2 k4 k5]
    rw [q _ 1 x1 _ (by decide) (show gK (gsI _ _ _ _) a = 4 from k1) k2 k4 k5]
    rw [q _ 2 x2 _ (by decide) (show gK (gsI (gsI _ _ _ _) _ _ _) a = 4 from k1) k2 k4 k5]
    rw [q _ 3 x3, q _ 4 x4, q _ 5 x5, q _ 6 x6, q _ 7 x7, e_pI, e_bs]
    any_goals first | exact k1 | exact k2 | exact k4 | exact k5 | decide
    simp only [sI_A, sA_A, sA_s, sA_n k8]
    congr 2
    congr 1
    funext i
    match i with
    | 0 => rfl
    | 1 => rfl
    | 2 => rfl
    | 3 => rfl
    | 4 => rfl
    | 5 => rfl
    | 6 => rfl
    | 7 => rfl
    | i + 8 => rfl
theorem mix_rds {S : gS} {a st wd : Nat} (hL : sh_L S a st wd) (fu : Nat) : ∀ d t, t + d = 64 → ∀ x0 x1 x2 x3 x4 x5 x6 x7, ∃ S', f_X4_mix_L182 (fu + d + 1) S a x0 x1 x2 x3 x4 x5 x6 x7 (nI t) = some S' ∧ fr_S [a, st, wd] [] S S' ∧ gI S' a 2 = nI 0 ∧ gI S' a 3 = gI S a 3 ∧ ∀ i, i < 8 → gI S' st i = gI S st i + s_rds d t (gI S wd) x0 x1 x2 x3 x4 x5 x6 x7 i
  | 0, t, ht, x0, x1, x2, x3, x4, x5, x6, x7 => by
    have : t = 64 := by omega
    subst this
    exact mix_end hL fu x0 x1 x2 x3 x4 x5 x6 x7
  | d + 1, t, ht, x0, x1, x2, x3, x4, x5, x6, x7 => by
    obtain ⟨⟨k1, k2, k3⟩, ⟨k4, k5⟩, ⟨k6, k7⟩, k8⟩ := hL
    rw [show fu + (d + 1) + 1 = (fu + d + 1) + 1 by omega, f_X4_mix_L182, if_neg (show ¬ (64 : Int32) ≤ nI t from nI_ge (b := 64) (by omega) (by decide))]
    have hT : fT (nI t) = some (g_round.getD t 0) := by
      show (if _ then _ else _) = _
      rw [if_pos (nI_in (show t < 64 by omega) (by decide)), nI_clamp (by omega)]
    simp only [e_let, e_gR k1, k3, hT, e_bs]
    rw [e_I k6 k7 (show t < 64 by omega), e_bs, nI_1]
    exact mix_rds ⟨⟨k1, k2, k3⟩, ⟨k4, k5⟩, ⟨k6, k7⟩, k8⟩ fu d (t + 1) (by omega) _ _ _ _ _ _ _ _
theorem p_mix {S : gS} {a st wd : Nat} (hL : sh_L S a st wd) : ∃ S', f_X4_mix S a = some S' ∧ fr_S [a, st, wd] [] S S' ∧ gI S' a 2 = nI 0 ∧ gI S' a 3 = gI S a 3 ∧ ∀ i, i < 8 → gI S' st i = s_blk (gI S st) (gI S wd) i := by
  have hL0 := hL
  obtain ⟨⟨k1, k2, k3⟩, ⟨k4, k5⟩, ⟨k6, k7⟩, k8, k9, k10⟩ := hL
  obtain ⟨fu, hf⟩ := g_fu 48
  have h1 := mix_sch (a := a) (st := st) (wd := wd) (w := gI S wd) fu 48 0 (by omega) S hL0 rfl
  have hS : sh_L (gsA S wd (s_sch 48 (gI S wd))) a st wd := hL0
  obtain ⟨fu2, hf2⟩ := g_fu 64
  obtain ⟨S', e1, e2, e3, e4, e5⟩ := mix_rds hS fu2 64 0 (by omega) (gI S st 0) (gI S st 1) (gI S st 2) (gI S st 3) (gI S st 4) (gI S st 5) (gI S st 6) (gI S st 7)
  refine ⟨S', ?_, fr_tr (fr_A (by simp)) e2, e3, ?_, ?_⟩
  · unfold f_X4_mix
    rw [show (16 : Int32) = nI (16 + 0) from rfl]
    rw [hf, show 48 + fu + 1 = fu + 48 + 1 by omega, h1, f_X4_mix_L3, if_pos (show (64 : Int32) ≤ nI 64 from by decide)]
    have q : ∀ i, i < 8 → fI (gsA S wd (s_sch 48 (gI S wd))) 10 (some st) (nI i) = some (gI S st i) := fun i hi => by
      rw [e_I (S := gsA S wd (s_sch 48 (gI S wd))) (n := 8) k4 k5 hi, sA_n k10]
    simp only [e_gR (S := gsA S wd (s_sch 48 (gI S wd))) k1, sA_R, k2, e_bs, show (0 : Int32) = nI 0 from rfl, show (1 : Int32) = nI 1 from rfl, show (2 : Int32) = nI 2 from rfl, show (3 : Int32) = nI 3 from rfl, show (4 : Int32) = nI 4 from rfl, show (5 : Int32) = nI 5 from rfl, show (6 : Int32) = nI 6 from rfl, show (7 : Int32) = nI 7 from rfl, q 0 (by decide), q 1 (by decide), q 2 (by decide), q 3 (by decide), q 4 (by decide), q 5 (by decide), q 6 (by decide), q 7 (by decide)]
    rw [hf2, show 64 + fu2 + 1 = fu2 + 64 + 1 by omega]
    exact e1
  · rw [e4, sA_n k9]
  · intro i hi
    rw [e5 i hi, sA_n k10, sA_s]
    unfold s_blk
    rfl
