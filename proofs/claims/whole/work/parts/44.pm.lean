/-! the reference: its message and its blocks -/
def md_R : List (Nat × Nat) := [(1, 1), (3, 2), (5, 3), (6, 4), (7, 5), (8, 6), (9, 7), (10, 8), (11, 9), (12, 10), (13, 11), (14, 12), (15, 13), (16, 14), (18, 15), (19, 16), (20, 17), (21, 18), (22, 19)]
def md_A : List (Nat × Nat × Nat) := [(1, 10, 2220), (2, 10, 2400), (3, 10, 200), (4, 10, 2), (5, 10, 48000), (6, 10, 400), (7, 10, 2), (8, 10, 2), (9, 10, 6400), (10, 11, 2), (11, 10, 2), (12, 10, 1920), (13, 12, 24), (14, 10, 320), (15, 10, 8), (16, 10, 64), (17, 10, 64), (18, 10, 800), (19, 10, 70)]
def md_L (S : gS) (m : Nat) : Prop := gK S m = 8 ∧ (∀ q ∈ md_R, gR S m q.1 = some (m + q.2)) ∧ ∀ q ∈ md_A, gK S (m + q.1) = q.2.1 ∧ gN S (m + q.1) = q.2.2
theorem md_r {S : gS} {m : Nat} (h : md_L S m) (k o : Nat) (hq : (k, o) ∈ md_R := by decide) : gR S m k = some (m + o) := h.2.1 (k, o) hq
theorem md_k {S : gS} {m : Nat} (h : md_L S m) (o k n : Nat) (hq : (o, k, n) ∈ md_A := by decide) : gK S (m + o) = k := (h.2.2 (o, k, n) hq).1
theorem md_n {S : gS} {m : Nat} (h : md_L S m) (o k n : Nat) (hq : (o, k, n) ∈ md_A := by decide) : gN S (m + o) = n := (h.2.2 (o, k, n) hq).2
theorem md_fr {A B : List Nat} {S S' : gS} {m : Nat} (h : md_L S m) (f : fr_S A B S S') (hB : m ∉ B) : md_L S' m := by
  obtain ⟨h1, h2, h3⟩ := h
  refine ⟨fr_K f h1, fun q hq => by rw [fr_R f h1 hB]; exact h2 q hq, fun q hq => ?_⟩
  have hk : q.2.1 < 16 := by
    have : ∀ q ∈ md_A, q.2.1 < 16 := by decide
    exact this q hq
  exact ⟨fr_K f (h3 q hq).1 hk, by rw [fr_N f (h3 q hq).1 hk]; exact (h3 q hq).2⟩
def ms_I (S : gS) (m : Nat) (M : Nat → Int32) (n : Nat) : Prop := gI S m 17 = nI n ∧ ∀ j, j < n → gI S (m + 14) j = M j
def ms_S (m : Nat) (S S' : gS) : Prop := fr_S [m, m + 14] [] S S' ∧ ∀ k, k ≠ 17 → gI S' m k = gI S m k
theorem ms_tr {m : Nat} {S S' S'' : gS} (h : ms_S m S S') (g : ms_S m S' S'') : ms_S m S S'' := ⟨fr_tr h.1 g.1, fun k hk => (g.2 k hk).trans (h.2 k hk)⟩
theorem ms_L {m : Nat} {S S' : gS} (h : ms_S m S S') (hL : md_L S m) : md_L S' m := md_fr hL h.1 (by simp)
theorem ms_o {m : Nat} {S S' : gS} (h : ms_S m S S') (hL : md_L S m) (o k n : Nat) (ho : o ≠ 14) (hq : (o, k, n) ∈ md_A := by decide) : gI S' (m + o) = gI S (m + o) := by
  have hk : k < 16 ∧ o ≠ 0 := by
    have : ∀ q ∈ md_A, q.2.1 < 16 ∧ q.1 ≠ 0 := by decide
    exact this (o, k, n) hq
  refine fr_I h.1 (md_k hL o k n hq) ?_ hk.1
  simp only [List.mem_cons, List.not_mem_nil, or_false]
  omega
theorem p8_say {S : gS} {m n : Nat} {M : Nat → Int32} {b : Int32} (hL : md_L S m) (h : ms_I S m M n) (hn : n < 320) (hb : b &&& 255 = M n) : ∃ S', f_X8_say S m b = some S' ∧ ms_S m S S' ∧ ms_I S' m M (n + 1) := by
  refine ⟨gsI (gsI S (m + 14) n (b &&& 255)) m 17 (nI (n + 1)), ?_, ⟨fr_tr (fr_i (by simp)) (fr_i (by simp)), fun k hk => ?_⟩, ?_, fun j hj => ?_⟩
  · unfold f_X8_say
    rw [e_gR hL.1, e_bs, md_r hL 16 14, e_gI hL.1, e_bs, h.1, e_aI (md_k hL 14 10 320) (md_n hL 14 10 320) hn, e_bs, e_gI (S := gsI S _ _ _) hL.1, e_bs, sI_n (show m ≠ m + 14 by omega), h.1, nI_1, e_pI (S := gsI S _ _ _) hL.1, e_bs]
  · rw [sI_s, va_up_n _ _ _ hk, sI_n (show m ≠ m + 14 by omega)]
  · rw [sI_s, va_up_s]
  · rw [sI_n (show m + 14 ≠ m by omega), sI_s, va_up_e]
    by_cases e : j = n
    · rw [if_pos e, e, hb]
    · rw [if_neg e]; exact h.2 j (by omega)
theorem by_ar (w : Int32) {i : Nat} (hi : i < 4) : (w >>> (nI (24 - 8 * i) &&& 31)) &&& 255 = s_by w i := by
  unfold s_by g_ushr
  have key : ∀ k : Nat, k ≤ 24 → (w.toBitVec.sshiftRight k &&& 255#32) = (w.toBitVec >>> k) &&& 255#32 := by
    intro k hk
    apply BitVec.eq_of_getLsbD_eq
    intro i hi
    have h255 : (255#32).getLsbD i = decide (i < 8) := by
      have : ∀ i : Fin 32, (255#32).getLsbD i.val = decide (i.val < 8) := by decide
      exact this ⟨i, hi⟩
    simp only [BitVec.getLsbD_and, h255, BitVec.getLsbD_sshiftRight, BitVec.getLsbD_ushiftRight]
    by_cases h : i < 8
    · simp [h, show k + i < 32 by omega, show ¬ 32 ≤ i by omega]
    · simp [h]
  apply i32_bv
  obtain rfl | rfl | rfl | rfl : i = 0 ∨ i = 1 ∨ i = 2 ∨ i = 3 := by omega
  · exact key 24 (by decide)
  · exact key 16 (by decide)
  · exact key 8 (by decide)
  · exact key 0 (by decide)
theorem p8_sayLongL {m n : Nat} {M : Nat → Int32} {v : Int64} (hn : n + 8 ≤ 320) (fu : Nat) : ∀ d i, i + d = 8 → ∀ S, md_L S m → (∀ i, i < 8 → ((v >>> ((nI (8 * (7 - i))).toInt64 &&& 63)).toInt32) &&& 255 = M (n + i)) → ms_I S m M (n + i) → ∃ S', f_X8_sayLong_L3 (fu + d + 1) S m v (nI (8 * d) + (-8)) = some S' ∧ ms_S m S S' ∧ ms_I S' m M (n + 8)
  | 0, i, hi, S, hL, hM, h => by
    have : i = 8 := by omega
    subst this
    exact ⟨S, by rw [f_X8_sayLong_L3, if_pos (by decide)], ⟨fr_refl _ _ _, fun _ _ => rfl⟩, h⟩
  | d + 1, i, hi, S, hL, hM, h => by
    have e0 : nI (8 * (d + 1)) + (-8) = nI (8 * d) := by
      have : ∀ x : Int32, x + 8 + (-8) = x := fun x => by rw [Int32.add_assoc]; exact Int32.add_zero x
      rw [show 8 * (d + 1) = 8 * d + 8 by omega, ← nI_add]
      exact this _
    rw [show fu + (d + 1) + 1 = (fu + d + 1) + 1 by omega, e0, f_X8_sayLong_L3, if_neg (nI_pos (by omega)), e_dc hL.1]
    have hb := hM i (by omega)
    rw [show 7 - i = d by omega] at hb
    obtain ⟨S1, e1, s1, i1⟩ := p8_say hL h (by omega) hb
    obtain ⟨S2, e2, s2, i2⟩ := p8_sayLongL (v := v) hn fu d (i + 1) (by omega) S1 (ms_L s1 hL) hM i1
    exact ⟨S2, by rw [e1, e_bs, e_let]; exact e2, ms_tr s1 s2, i2⟩
theorem p8_sayLong {S : gS} {m n : Nat} {M : Nat → Int32} {v : Int64} (hn : n + 8 ≤ 320) (hL : md_L S m) (hM : ∀ i, i < 8 → ((v >>> ((nI (8 * (7 - i))).toInt64 &&& 63)).toInt32) &&& 255 = M (n + i)) (h : ms_I S m M n) : ∃ S', f_X8_sayLong S m v = some S' ∧ ms_S m S S' ∧ ms_I S' m M (n + 8) := by
  obtain ⟨fu, hf⟩ := g_fu 8
  obtain ⟨S', e, r⟩ := p8_sayLongL (v := v) hn fu 8 0 (by omega) S hL hM h
  refine ⟨S', ?_, r⟩
  unfold f_X8_sayLong
  rw [hf, show 8 + fu + 1 = fu + 8 + 1 by omega]
  exact e
theorem p8_saySlotL {m n s : Nat} {M W : Nat → Int32} (hn : n + 32 ≤ 320) (hs : s < 100) (hM : ∀ i, i < 32 → M (n + i) = d_by W i) (fu : Nat) : ∀ d i, i + d = 32 → ∀ S, md_L S m → (∀ q, q < 8 → gI S (m + 18) (8 * s + q) = W q) → ms_I S m M (n + i) → ∃ S', f_X8_saySlot_L2 (fu + d + 1) S m (nI s) (nI i) = some S' ∧ ms_S m S S' ∧ ms_I S' m M (n + 32)
  | 0, i, hi, S, hL, hW, h => by
    have : i = 32 := by omega
    subst this
    exact ⟨S, by rw [f_X8_saySlot_L2, if_pos (show (32 : Int32) ≤ nI 32 from by decide)], ⟨fr_refl _ _ _, fun _ _ => rfl⟩, h⟩
  | d + 1, i, hi, S, hL, hW, h => by
    have e1 : (8 : Int32) * nI s + nI i / 4 = nI (8 * s + i / 4) := by
      rw [show (8 : Int32) = nI 8 from rfl, pk_mul, show (4 : Int32) = nI 4 from rfl, pk_div (by omega) (by decide) (by decide), nI_add]
    have e2 : (24 : Int32) - (8 * (nI i - nI i / 4 * 4)) = nI (24 - 8 * (i % 4)) := by
      rw [show (4 : Int32) = nI 4 from rfl, pk_rem (by omega) (by decide) (by decide), show (8 : Int32) = nI 8 from rfl, pk_mul, show (24 : Int32) = nI 24 from rfl, pk_sub (by omega)]
    rw [show fu + (d + 1) + 1 = (fu + d + 1) + 1 by omega, f_X8_saySlot_L2, if_neg (show ¬ (32 : Int32) ≤ nI i from nI_ge (b := 32) (by omega) (by decide)), e_gR hL.1, e_bs, md_r hL 21 18, e1, e2, e_I (md_k hL 18 10 800) (md_n hL 18 10 800) (by omega), e_bs, e_dc hL.1]
    obtain ⟨S1, e1, s1, i1⟩ := p8_say (b := gI S (m + 18) (8 * s + i / 4) >>> (nI (24 - 8 * (i % 4)) &&& 31)) hL h (by omega) (by rw [by_ar _ (by omega), hM i (by omega), hW _ (by omega)]; rfl)
    obtain ⟨S2, e2, s2, i2⟩ := p8_saySlotL (s := s) hn hs hM fu d (i + 1) (by omega) S1 (ms_L s1 hL) (fun q hq => by rw [ms_o s1 hL 18 10 800 (by decide)]; exact hW q hq) i1
    exact ⟨S2, by rw [e1, e_bs, e_let, nI_1]; exact e2, ms_tr s1 s2, i2⟩
theorem p8_saySlot {S : gS} {m n s : Nat} {M W : Nat → Int32} (hL : md_L S m) (hn : n + 32 ≤ 320) (hs : s < 100) (hM : ∀ i, i < 32 → M (n + i) = d_by W i) (hW : ∀ q, q < 8 → gI S (m + 18) (8 * s + q) = W q) (h : ms_I S m M n) : ∃ S', f_X8_saySlot S m (nI s) = some S' ∧ ms_S m S S' ∧ ms_I S' m M (n + 32) := by
  obtain ⟨fu, hf⟩ := g_fu 32
  obtain ⟨S', e, r⟩ := p8_saySlotL (s := s) hn hs hM fu 32 0 (by omega) S hL hW h
  refine ⟨S', ?_, r⟩
  unfold f_X8_saySlot
  rw [hf, show 32 + fu + 1 = fu + 32 + 1 by omega]
  exact e
/-! blocks -/
theorem bk_sch {m : Nat} {w : Nat → Int32} (fu : Nat) : ∀ d j, j + d = 48 → ∀ S, md_L S m → gI S (m + 16) = s_sch j w → f_X8_block_L81 (fu + d + 1) S m (nI (16 + j)) = f_X8_block_L81 (fu + 1) (gsA S (m + 16) (s_sch 48 w)) m (nI 64)
  | 0, j, hj, S, hL, hw => by
    have : j = 48 := by omega
    subst this
    rw [← hw, sA_i]
  | d + 1, j, hj, S, hL, hw => by
    have k6 := md_k hL 16 10 64
    have k7 := md_n hL 16 10 64
    have i1 : nI (16 + j) - 15 = nI (j + 1) := by rw [show (15 : Int32) = nI 15 from rfl, pk_sub (by omega)]; congr 1; omega
    have i2 : nI (16 + j) - 2 = nI (j + 14) := by rw [show (2 : Int32) = nI 2 from rfl, pk_sub (by omega)]; congr 1; omega
    have i3 : nI (16 + j) - 16 = nI j := by rw [show (16 : Int32) = nI 16 from rfl, pk_sub (by omega)]; congr 1; omega
    have i4 : nI (16 + j) - 7 = nI (j + 9) := by rw [show (7 : Int32) = nI 7 from rfl, pk_sub (by omega)]; congr 1; omega
    rw [show fu + (d + 1) + 1 = (fu + d + 1) + 1 by omega, f_X8_block_L81, if_neg (show ¬ (64 : Int32) ≤ nI (16 + j) from nI_ge (b := 64) (by omega) (by decide))]
    simp only [e_gR hL.1, e_bs, md_r hL 19 16, i1, i2, i3, i4, e_let, f_X8_turn, e_bi]
    rw [e_I k6 k7 (show j + 1 < 64 by omega), e_bs, e_I k6 k7 (show j + 14 < 64 by omega), e_bs, e_I k6 k7 (show j < 64 by omega), e_bs, e_I k6 k7 (show j + 9 < 64 by omega), e_bs, e_aI k6 k7 (show 16 + j < 64 by omega), e_bs, nI_1]
    have := bk_sch (m := m) (w := w) fu d (j + 1) (by omega) (gsI S (m + 16) (16 + j) (((gI S (m + 16) j + s_s0 (gI S (m + 16) (j + 1))) + gI S (m + 16) (j + 9)) + s_s1 (gI S (m + 16) (j + 14)))) hL (by rw [sI_A, sA_s, hw]; rfl)
    rw [show 16 + (j + 1) = 16 + j + 1 by omega] at this
    rw [sI_A, sA_A, ← sI_A] at this
    exact this
theorem bk_end {S : gS} {m : Nat} (hL : md_L S m) (fu : Nat) (x0 x1 x2 x3 x4 x5 x6 x7 : Int32) : f_X8_block_L245 (fu + 1) S m x0 x1 x2 x3 x4 x5 x6 x7 (nI 64) = some (gsA S (m + 15) fun i => if i < 8 then gI S (m + 15) i + s_8 x0 x1 x2 x3 x4 x5 x6 x7 i else gI S (m + 15) i) := by
  have k1 := hL.1
  have k2 := md_r hL 18 15
  have k4 := md_k hL 15 10 8
  have k5 := md_n hL 15 10 8
  rw [f_X8_block_L245, if_pos (show (64 : Int32) ≤ nI 64 from by decide)]
  have q : ∀ (T : gS) (i : Nat) (x : Int32) (f : gS → Option gS), i < 8 → gK T m = 8 → gR T m 18 = some (m + 15) → gK T (m + 15) = 10 → gN T (m + 15) = 8 → ((fgR T 8 18 (some m)).bind fun r => (fI T 10 r (nI i)).bind fun y => (faI T r (nI i) (y + x)).bind f) = f (gsI T (m + 15) i (gI T (m + 15) i + x)) := by
    intro T i x f hi h1 h2 h3 h4
    rw [e_gR h1, e_bs, h2, e_I h3 h4 hi, e_bs, e_aI h3 h4 hi, e_bs]
  rw [show (0 : Int32) = nI 0 from rfl, show (1 : Int32) = nI 1 from rfl, show (2 : Int32) = nI 2 from rfl, show (3 : Int32) = nI 3 from rfl, show (4 : Int32) = nI 4 from rfl, show (5 : Int32) = nI 5 from rfl, show (6 : Int32) = nI 6 from rfl, show (7 : Int32) = nI 7 from rfl]
  rw [q S 0 x0 _ (by decide) k1 k2 k4 k5]
  rw [q _ 1 x1 _ (by decide) (show gK (gsI _ _ _ _) m = 8 from k1) k2 k4 k5]
  rw [q _ 2 x2, q _ 3 x3, q _ 4 x4, q _ 5 x5, q _ 6 x6, q _ 7 x7]
  any_goals first | exact k1 | exact k2 | exact k4 | exact k5 | decide
  simp only [sI_A, sA_A, sA_s]
  congr 2
  funext i
  match i with
  | 0 => rfl
  | 1 => rfl
  | 2 => rfl
  | 3 => rfl
  | 4 => rfl
  | 5 => rfl
  | 6 => rfl
  | 7 => rfl
  | i + 8 => rfl
theorem bk_rds {S : gS} {m : Nat} (hL : md_L S m) (hk : ∀ t, t < 64 → gI S (m + 17) t = g_round.getD t 0) (fu : Nat) : ∀ d t, t + d = 64 → ∀ x0 x1 x2 x3 x4 x5 x6 x7, f_X8_block_L245 (fu + d + 1) S m x0 x1 x2 x3 x4 x5 x6 x7 (nI t) = some (gsA S (m + 15) fun i => if i < 8 then gI S (m + 15) i + s_rds d t (gI S (m + 16)) x0 x1 x2 x3 x4 x5 x6 x7 i else gI S (m + 15) i)
  | 0, t, ht, x0, x1, x2, x3, x4, x5, x6, x7 => by
    have : t = 64 := by omega
    subst this
    exact bk_end hL fu x0 x1 x2 x3 x4 x5 x6 x7
  | d + 1, t, ht, x0, x1, x2, x3, x4, x5, x6, x7 => by
    rw [show fu + (d + 1) + 1 = (fu + d + 1) + 1 by omega, f_X8_block_L245, if_neg (show ¬ (64 : Int32) ≤ nI t from nI_ge (b := 64) (by omega) (by decide))]
    simp only [f_X8_turn, e_bi, e_let, e_gR hL.1, md_r hL 20 17, md_r hL 19 16, e_bs]
    rw [e_I (md_k hL 17 10 64) (md_n hL 17 10 64) (show t < 64 by omega), e_bs, e_I (md_k hL 16 10 64) (md_n hL 16 10 64) (show t < 64 by omega), e_bs, nI_1, hk t (by omega), ← Int32.add_assoc]
    exact bk_rds hL hk fu d (t + 1) (by omega) _ _ _ _ _ _ _ _
theorem bk_w {m p : Nat} {g : Nat → Int32} (hp : p + 64 ≤ 320) (fu : Nat) : ∀ d i, i + d = 16 → ∀ S, md_L S m → (∀ t, t < i → gI S (m + 16) t = s_w4 (gI S (m + 14)) (p + 4 * t)) → ∃ f, f_X8_block_L2 (fu + d + 1) S m (nI p) (nI i) = f_X8_block_L81 gFuel (gsA S (m + 16) f) m (nI 16) ∧ ∀ t, t < 16 → f t = s_w4 (gI S (m + 14)) (p + 4 * t)
  | 0, i, hi, S, hL, h => by
    have : i = 16 := by omega
    subst this
    refine ⟨gI S (m + 16), ?_, h⟩
    rw [f_X8_block_L2, if_pos (show (16 : Int32) ≤ nI 16 from by decide), sA_i]
    rfl
  | d + 1, i, hi, S, hL, h => by
    have k1 := md_k hL 14 10 320
    have k2 := md_n hL 14 10 320
    have a0 : nI p + 4 * nI i = nI (p + 4 * i) := by rw [show (4 : Int32) = nI 4 from rfl, pk_mul, nI_add]
    have a1 : nI (p + 4 * i) + 1 = nI (p + 4 * i + 1) := nI_1 _
    have a2 : nI (p + 4 * i) + 2 = nI (p + 4 * i + 2) := nI_add _ 2
    have a3 : nI (p + 4 * i) + 3 = nI (p + 4 * i + 3) := nI_add _ 3
    rw [show fu + (d + 1) + 1 = (fu + d + 1) + 1 by omega, f_X8_block_L2, if_neg (show ¬ (16 : Int32) ≤ nI i from nI_ge (b := 16) (by omega) (by decide))]
    simp only [e_gR hL.1, e_bs, md_r hL 19 16, md_r hL 16 14, a0, a1, a2, a3]
    rw [e_I k1 k2 (by omega), e_bs, e_I k1 k2 (by omega), e_bs, e_I k1 k2 (by omega), e_bs, e_I k1 k2 (by omega), e_bs, e_aI (md_k hL 16 10 64) (md_n hL 16 10 64) (by omega), e_bs, e_let, nI_1]
    have ne : m + 14 ≠ m + 16 := by omega
    obtain ⟨f, f1, f2⟩ := bk_w (g := g) hp fu d (i + 1) (by omega) (gsI S (m + 16) i (s_w4 (gI S (m + 14)) (p + 4 * i))) hL (fun t ht => by
      rw [sI_s, va_up_e, sI_n ne]
      by_cases e : t = i
      · rw [if_pos e, e]
      · rw [if_neg e]; exact h t (by omega))
    rw [sI_A, sA_A] at f1
    refine ⟨f, ?_, fun t ht => by rw [f2 t ht, sI_n ne]⟩
    rw [← f1, ← sI_A]
    rfl
theorem p8_block {S : gS} {m p : Nat} (hL : md_L S m) (hp : p + 64 ≤ 320) (hk : ∀ t, t < 64 → gI S (m + 17) t = g_round.getD t 0) : ∃ S', f_X8_block S m (nI p) = some S' ∧ fr_S [m + 15, m + 16] [] S S' ∧ ∀ i, i < 8 → gI S' (m + 15) i = s_blk (gI S (m + 15)) (fun t => s_w4 (gI S (m + 14)) (p + 4 * t)) i := by
  obtain ⟨fu, hf⟩ := g_fu 16
  obtain ⟨f, f1, f2⟩ := bk_w (g := fun _ => 0) hp fu 16 0 (by omega) S hL (fun t ht => by omega)
  obtain ⟨fv, hf2⟩ := g_fu 48
  have h1 := bk_sch (w := f) fv 48 0 (by omega) (gsA S (m + 16) f) hL sA_s
  rw [sA_A] at h1
  have hL2 : md_L (gsA S (m + 16) (s_sch 48 f)) m := hL
  obtain ⟨fw, hf3⟩ := g_fu 64
  have h2 := bk_rds hL2 (fun t ht => by rw [sA_n (by omega)]; exact hk t ht) fw 64 0 (by omega) (gI S (m + 15) 0) (gI S (m + 15) 1) (gI S (m + 15) 2) (gI S (m + 15) 3) (gI S (m + 15) 4) (gI S (m + 15) 5) (gI S (m + 15) 6) (gI S (m + 15) 7)
  refine ⟨_, Eq.trans ?_ h2, fr_tr (fr_A (a := m + 16) (f := s_sch 48 f) (by simp)) (fr_A (a := m + 15) (by simp)), ?_⟩
  · unfold f_X8_block
    rw [hf, show 16 + fu + 1 = fu + 16 + 1 by omega, show (0 : Int32) = nI 0 from rfl, f1, hf2, show 48 + fv + 1 = fv + 48 + 1 by omega, show nI 16 = nI (16 + 0) from rfl, h1, f_X8_block_L81, if_pos (show (64 : Int32) ≤ nI 64 from by decide)]
    have q : ∀ i, i < 8 → fI (gsA S (m + 16) (s_sch 48 f)) 10 (some (m + 15)) (nI i) = some (gI S (m + 15) i) := fun i hi => by
      rw [e_I (S := gsA S (m + 16) (s_sch 48 f)) (n := 8) (md_k hL 15 10 8) (md_n hL 15 10 8) hi, sA_n (by omega)]
    simp only [e_gR hL2.1, md_r hL2 18 15, e_bs, show (0 : Int32) = nI 0 from rfl, show (1 : Int32) = nI 1 from rfl, show (2 : Int32) = nI 2 from rfl, show (3 : Int32) = nI 3 from rfl, show (4 : Int32) = nI 4 from rfl, show (5 : Int32) = nI 5 from rfl, show (6 : Int32) = nI 6 from rfl, show (7 : Int32) = nI 7 from rfl, q 0 (by decide), q 1 (by decide), q 2 (by decide), q 3 (by decide), q 4 (by decide), q 5 (by decide), q 6 (by decide), q 7 (by decide)]
    rw [hf3, show 64 + fw + 1 = fw + 64 + 1 by omega]
  · intro i hi
    rw [sA_s, if_pos hi, sA_n (show m + 15 ≠ m + 16 by omega), sA_s]
    exact s_blk_c (st := gI S (m + 15)) (fun _ _ => rfl) f2 hi
