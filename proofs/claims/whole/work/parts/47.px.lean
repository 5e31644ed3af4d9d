/-! the reference's small methods -/
theorem nm_ (m : Nat) (A : List Nat) (o : Nat) (h : o ∉ A) : m + o ∉ A.map (m + ·) := by
  simp only [List.mem_map, not_exists, not_and]
  intro x hx e
  exact h ((show x = o by omega) ▸ hx)
theorem n8_i (a b : Nat) : (8 : Int32) * nI a + nI b = nI (8 * a + b) := by rw [show (8 : Int32) = nI 8 from rfl, pk_mul, nI_add]
theorem n8_d {s i : Nat} (hi : i < 2 ^ 31) : (8 : Int32) * nI s + nI i / 4 = nI (8 * s + i / 4) := by
  rw [show (8 : Int32) = nI 8 from rfl, pk_mul, show (4 : Int32) = nI 4 from rfl, pk_div hi (by decide) (by decide), nI_add]
theorem n24 {i : Nat} (hi : i < 2 ^ 31) : (24 : Int32) - (8 * (nI i - nI i / 4 * 4)) = nI (24 - 8 * (i % 4)) := by
  rw [show (4 : Int32) = nI 4 from rfl, pk_rem hi (by decide) (by decide), show (8 : Int32) = nI 8 from rfl, pk_mul, show (24 : Int32) = nI 24 from rfl, pk_sub (by omega)]
theorem p8_fromTapeL {m p s : Nat} {g : Nat → Int32} (hp : p + 32 ≤ 2220) (hs : s < 100) (fu : Nat) : ∀ d i, i + d = 8 → ∀ S, md_L S m → (∀ j, gI S (m + 18) j = if 8 * s ≤ j ∧ j < 8 * s + i then w_at (gI S (m + 1)) p (j - 8 * s) else g j) → f_X8_fromTape_L2 (fu + d + 1) S m (nI p) (nI s) (nI i) = some (gsA S (m + 18) (sl_ g s (w_at (gI S (m + 1)) p)))
  | 0, i, hi, S, hL, h => by
    have : i = 8 := by omega
    subst this
    rw [f_X8_fromTape_L2, if_pos (show (8 : Int32) ≤ nI 8 from by decide)]
    have : gI S (m + 18) = sl_ g s (w_at (gI S (m + 1)) p) := funext h
    rw [← this, sA_i]
  | d + 1, i, hi, S, hL, h => by
    have k1 := md_k hL 1 10 2220
    have k2 := md_n hL 1 10 2220
    have a0 : nI p + 4 * nI i = nI (p + 4 * i) := by rw [show (4 : Int32) = nI 4 from rfl, pk_mul, nI_add]
    have a1 : nI (p + 4 * i) + 1 = nI (p + 4 * i + 1) := nI_1 _
    have a2 : nI (p + 4 * i) + 2 = nI (p + 4 * i + 2) := nI_add _ 2
    have a3 : nI (p + 4 * i) + 3 = nI (p + 4 * i + 3) := nI_add _ 3
    rw [show fu + (d + 1) + 1 = (fu + d + 1) + 1 by omega, f_X8_fromTape_L2, if_neg (show ¬ (8 : Int32) ≤ nI i from nI_ge (b := 8) (by omega) (by decide))]
    simp only [e_gR hL.1, e_bs, md_r hL 21 18, md_r hL 1 1, a0, a1, a2, a3]
    rw [e_I k1 k2 (by omega), e_bs, e_I k1 k2 (by omega), e_bs, e_I k1 k2 (by omega), e_bs, e_I k1 k2 (by omega), e_bs, n8_i, e_aI (md_k hL 18 10 800) (md_n hL 18 10 800) (by omega), e_bs, e_let, nI_1]
    have ne : m + 1 ≠ m + 18 := by omega
    have := p8_fromTapeL (g := g) hp hs fu d (i + 1) (by omega) (gsI S (m + 18) (8 * s + i) (w_at (gI S (m + 1)) p i)) hL (fun j => by
      rw [sI_s, va_up_e, sI_n ne, h j]
      by_cases e : j = 8 * s + i
      · subst e; rw [if_pos rfl, if_pos (by omega), show 8 * s + i - 8 * s = i by omega]
      · rw [if_neg e]
        by_cases e2 : 8 * s ≤ j ∧ j < 8 * s + i
        · rw [if_pos e2, if_pos (by omega)]
        · rw [if_neg e2, if_neg (by omega)])
    rw [sI_n ne, sI_A, sA_A, ← sI_A] at this
    exact this
theorem p8_fromTape {S : gS} {m p s : Nat} (hL : md_L S m) (hp : p + 32 ≤ 2220) (hs : s < 100) : f_X8_fromTape S m (nI p) (nI s) = some (gsA S (m + 18) (sl_ (gI S (m + 18)) s (w_at (gI S (m + 1)) p))) := by
  obtain ⟨fu, hf⟩ := g_fu 8
  unfold f_X8_fromTape
  rw [hf, show 8 + fu + 1 = fu + 8 + 1 by omega]
  exact p8_fromTapeL hp hs fu 8 0 (by omega) S hL (fun j => by rw [if_neg (by omega)])
theorem p8_seenSlotL {m p s : Nat} {g : Nat → Int32} (hp : p < 24) (hs : s < 100) (fu : Nat) : ∀ d i, i + d = 8 → ∀ S, md_L S m → (∀ j, gI S (m + 18) j = if 8 * s ≤ j ∧ j < 8 * s + i then w_at (gI S (m + 12)) (80 * p + 16) (j - 8 * s) else g j) → f_X8_seenSlot_L2 (fu + d + 1) S m (nI p) (nI s) (nI i) = some (gsA S (m + 18) (sl_ g s (w_at (gI S (m + 12)) (80 * p + 16))))
  | 0, i, hi, S, hL, h => by
    have : i = 8 := by omega
    subst this
    rw [f_X8_seenSlot_L2, if_pos (show (8 : Int32) ≤ nI 8 from by decide)]
    have : gI S (m + 18) = sl_ g s (w_at (gI S (m + 12)) (80 * p + 16)) := funext h
    rw [← this, sA_i]
  | d + 1, i, hi, S, hL, h => by
    have k1 := md_k hL 12 10 1920
    have k2 := md_n hL 12 10 1920
    have a0 : ((80 : Int32) * nI p + 16) + 4 * nI i = nI (80 * p + 16 + 4 * i) := by rw [show (4 : Int32) = nI 4 from rfl, pk_mul, show (80 : Int32) = nI 80 from rfl, pk_mul, show (16 : Int32) = nI 16 from rfl, nI_add, nI_add]
    have a1 : nI (80 * p + 16 + 4 * i) + 1 = nI (80 * p + 16 + 4 * i + 1) := nI_1 _
    have a2 : nI (80 * p + 16 + 4 * i) + 2 = nI (80 * p + 16 + 4 * i + 2) := nI_add _ 2
    have a3 : nI (80 * p + 16 + 4 * i) + 3 = nI (80 * p + 16 + 4 * i + 3) := nI_add _ 3
    rw [show fu + (d + 1) + 1 = (fu + d + 1) + 1 by omega, f_X8_seenSlot_L2, if_neg (show ¬ (8 : Int32) ≤ nI i from nI_ge (b := 8) (by omega) (by decide))]
    simp only [e_gR hL.1, e_bs, md_r hL 21 18, md_r hL 14 12, e_let, a0, a1, a2, a3]
    rw [e_I k1 k2 (by omega), e_bs, e_I k1 k2 (by omega), e_bs, e_I k1 k2 (by omega), e_bs, e_I k1 k2 (by omega), e_bs, n8_i, e_aI (md_k hL 18 10 800) (md_n hL 18 10 800) (by omega), e_bs, nI_1]
    have ne : m + 12 ≠ m + 18 := by omega
    have := p8_seenSlotL (g := g) hp hs fu d (i + 1) (by omega) (gsI S (m + 18) (8 * s + i) (w_at (gI S (m + 12)) (80 * p + 16) i)) hL (fun j => by
      rw [sI_s, va_up_e, sI_n ne, h j]
      by_cases e : j = 8 * s + i
      · subst e; rw [if_pos rfl, if_pos (by omega), show 8 * s + i - 8 * s = i by omega]
      · rw [if_neg e]
        by_cases e2 : 8 * s ≤ j ∧ j < 8 * s + i
        · rw [if_pos e2, if_pos (by omega)]
        · rw [if_neg e2, if_neg (by omega)])
    rw [sI_n ne, sI_A, sA_A, ← sI_A] at this
    exact this
theorem p8_seenSlot {S : gS} {m p s : Nat} (hL : md_L S m) (hp : p < 24) (hs : s < 100) : f_X8_seenSlot S m (nI p) (nI s) = some (gsA S (m + 18) (sl_ (gI S (m + 18)) s (w_at (gI S (m + 12)) (80 * p + 16)))) := by
  obtain ⟨fu, hf⟩ := g_fu 8
  unfold f_X8_seenSlot
  rw [hf, show 8 + fu + 1 = fu + 8 + 1 by omega]
  exact p8_seenSlotL hp hs fu 8 0 (by omega) S hL (fun j => by rw [if_neg (by omega)])
theorem p8_copyL {m a b : Nat} {g : Nat → Int32} (ha : a < 100) (hb : b < 100) (hab : a ≠ b) (fu : Nat) : ∀ d i, i + d = 8 → ∀ S, md_L S m → (∀ j, gI S (m + 18) j = if 8 * b ≤ j ∧ j < 8 * b + i then g (8 * a + (j - 8 * b)) else g j) → f_X8_copy_L2 (fu + d + 1) S m (nI a) (nI b) (nI i) = some (gsA S (m + 18) (sl_ g b (fun q => g (8 * a + q))))
  | 0, i, hi, S, hL, h => by
    have : i = 8 := by omega
    subst this
    rw [f_X8_copy_L2, if_pos (show (8 : Int32) ≤ nI 8 from by decide)]
    have : gI S (m + 18) = sl_ g b (fun q => g (8 * a + q)) := funext h
    rw [← this, sA_i]
  | d + 1, i, hi, S, hL, h => by
    have k1 := md_k hL 18 10 800
    have k2 := md_n hL 18 10 800
    rw [show fu + (d + 1) + 1 = (fu + d + 1) + 1 by omega, f_X8_copy_L2, if_neg (show ¬ (8 : Int32) ≤ nI i from nI_ge (b := 8) (by omega) (by decide))]
    simp only [e_gR hL.1, e_bs, md_r hL 21 18, n8_i]
    rw [e_I k1 k2 (by omega), e_bs, e_aI k1 k2 (by omega), e_bs, e_let, nI_1]
    have hv : gI S (m + 18) (8 * a + i) = g (8 * a + i) := by rw [h, if_neg (by omega)]
    have := p8_copyL (g := g) ha hb hab fu d (i + 1) (by omega) (gsI S (m + 18) (8 * b + i) (gI S (m + 18) (8 * a + i))) hL (fun j => by
      rw [sI_s, va_up_e, h j, hv]
      by_cases e : j = 8 * b + i
      · subst e; rw [if_pos rfl, if_pos (by omega), show 8 * b + i - 8 * b = i by omega]
      · rw [if_neg e]
        by_cases e2 : 8 * b ≤ j ∧ j < 8 * b + i
        · rw [if_pos e2, if_pos (by omega)]
        · rw [if_neg e2, if_neg (by omega)])
    rw [sI_A, sA_A, ← sI_A] at this
    exact this
theorem p8_copy {S : gS} {m a b : Nat} (hL : md_L S m) (ha : a < 100) (hb : b < 100) (hab : a ≠ b) : f_X8_copy S m (nI a) (nI b) = some (gsA S (m + 18) (sl_ (gI S (m + 18)) b (fun q => gI S (m + 18) (8 * a + q)))) := by
  obtain ⟨fu, hf⟩ := g_fu 8
  unfold f_X8_copy
  rw [hf, show 8 + fu + 1 = fu + 8 + 1 by omega]
  exact p8_copyL ha hb hab fu 8 0 (by omega) S hL (fun j => by rw [if_neg (by omega)])
theorem p8_isSame0 {m a b : Nat} (fu : Nat) {S : gS} : ∀ d i, i + d = 8 → f_X8_isSame_L5 (fu + d + 1) S m (nI a) (nI b) 0 (nI i) = some (0, S)
  | 0, i, hi => by
    have : i = 8 := by omega
    subst this
    rw [f_X8_isSame_L5, if_pos (show (8 : Int32) ≤ nI 8 from by decide), if_pos (by decide)]
  | d + 1, i, hi => by
    rw [show fu + (d + 1) + 1 = (fu + d + 1) + 1 by omega, f_X8_isSame_L5, if_neg (show ¬ (8 : Int32) ≤ nI i from nI_ge (b := 8) (by omega) (by decide)), if_pos rfl, e_let, nI_1]
    exact p8_isSame0 fu d (i + 1) (by omega)
theorem p8_isSame1 {m a b : Nat} (ha : a < 100) (hb : b < 100) (fu : Nat) {S : gS} (hL : md_L S m) : ∀ d i, i + d = 8 → (∀ j, j < i → gI S (m + 18) (8 * a + j) = gI S (m + 18) (8 * b + j)) → ∃ r, f_X8_isSame_L5 (fu + d + 1) S m (nI a) (nI b) 1 (nI i) = some (r, S) ∧ ((r = 1 ∧ ∀ j, j < 8 → gI S (m + 18) (8 * a + j) = gI S (m + 18) (8 * b + j)) ∨ (r = 0 ∧ ¬ ∀ j, j < 8 → gI S (m + 18) (8 * a + j) = gI S (m + 18) (8 * b + j)))
  | 0, i, hi, h => by
    have : i = 8 := by omega
    subst this
    exact ⟨1, by rw [f_X8_isSame_L5, if_pos (show (8 : Int32) ≤ nI 8 from by decide), if_pos (by decide)], Or.inl ⟨rfl, h⟩⟩
  | d + 1, i, hi, h => by
    have k1 := md_k hL 18 10 800
    have k2 := md_n hL 18 10 800
    rw [show fu + (d + 1) + 1 = (fu + d + 1) + 1 by omega, f_X8_isSame_L5, if_neg (show ¬ (8 : Int32) ≤ nI i from nI_ge (b := 8) (by omega) (by decide)), if_neg (by decide)]
    simp only [e_gR hL.1, e_bs, md_r hL 21 18, n8_i]
    rw [e_I k1 k2 (by omega), e_bs, e_I k1 k2 (by omega), e_bs]
    by_cases c : gI S (m + 18) (8 * a + i) = gI S (m + 18) (8 * b + i)
    · rw [if_pos c, e_let, nI_1]
      refine p8_isSame1 ha hb fu hL d (i + 1) (by omega) (fun j hj => ?_)
      by_cases e : j = i
      · rw [e]; exact c
      · exact h j (by omega)
    · rw [if_neg c, e_let, nI_1, p8_isSame0 fu d (i + 1) (by omega)]
      exact ⟨0, rfl, Or.inr ⟨rfl, fun q => c (q i (by omega))⟩⟩
theorem p8_isSame {S : gS} {m a b : Nat} (hL : md_L S m) (ha : a < 100) (hb : b < 100) : ∃ r, f_X8_isSame S m (nI a) (nI b) = some (r, S) ∧ ((r = 1 ∧ ∀ j, j < 8 → gI S (m + 18) (8 * a + j) = gI S (m + 18) (8 * b + j)) ∨ (r = 0 ∧ ¬ ∀ j, j < 8 → gI S (m + 18) (8 * a + j) = gI S (m + 18) (8 * b + j))) := by
  obtain ⟨fu, hf⟩ := g_fu 8
  unfold f_X8_isSame
  rw [hf, show 8 + fu + 1 = fu + 8 + 1 by omega]
  exact p8_isSame1 ha hb fu hL 8 0 (by omega) (fun j hj => by omega)
def ou_ (g : Nat → Int32) (o n : Nat) (W : Nat → Int32) (j : Nat) : Int32 := if o ≤ j ∧ j < o + n then W (j - o) else g j
theorem p8_outSlotL {m s o : Nat} {W g : Nat → Int32} (hs : s < 100) (ho : o + 32 ≤ 2400) (fu : Nat) : ∀ d i, i + d = 32 → ∀ S, md_L S m → gI S m 4 = nI o → (∀ q, q < 8 → gI S (m + 18) (8 * s + q) = W q) → (∀ j, gI S (m + 2) j = if o ≤ j ∧ j < o + i then d_by W (j - o) else g j) → f_X8_outSlot_L2 (fu + d + 1) S m (nI s) (nI i) = some (gsI (gsA S (m + 2) (ou_ g o 32 (d_by W))) m 4 (nI (o + 32)))
  | 0, i, hi, S, hL, h4, hW, h => by
    have : i = 32 := by omega
    subst this
    have : gI S (m + 2) = ou_ g o 32 (d_by W) := funext h
    rw [← this, sA_i, f_X8_outSlot_L2, if_pos (show (32 : Int32) ≤ nI 32 from by decide), e_gI hL.1, e_bs, h4, e_pI hL.1, e_bs, show nI o + 32 = nI (o + 32) from nI_add _ 32]
  | d + 1, i, hi, S, hL, h4, hW, h => by
    rw [show fu + (d + 1) + 1 = (fu + d + 1) + 1 by omega, f_X8_outSlot_L2, if_neg (show ¬ (32 : Int32) ≤ nI i from nI_ge (b := 32) (by omega) (by decide)), e_gR hL.1, e_bs, md_r hL 3 2, e_gI hL.1, e_bs, h4, e_gR hL.1, e_bs, md_r hL 21 18, n8_d (by omega), n24 (by omega), e_I (md_k hL 18 10 800) (md_n hL 18 10 800) (by omega), e_bs, by_ar _ (by omega), hW _ (by omega), nI_add, e_aI (md_k hL 2 10 2400) (md_n hL 2 10 2400) (by omega), e_bs, e_let, nI_1]
    have := p8_outSlotL (W := W) (g := g) hs ho fu d (i + 1) (by omega) (gsI S (m + 2) (o + i) (d_by W i)) hL (by rw [sI_n (by omega)]; exact h4) (fun q hq => by rw [sI_n (by omega)]; exact hW q hq) (fun j => by
      rw [sI_s, va_up_e, h j]
      by_cases e : j = o + i
      · subst e; rw [if_pos rfl, if_pos (by omega), show o + i - o = i by omega]
      · rw [if_neg e]
        by_cases e2 : o ≤ j ∧ j < o + i
        · rw [if_pos e2, if_pos (by omega)]
        · rw [if_neg e2, if_neg (by omega)])
    rw [show gsA (gsI S (m + 2) (o + i) (d_by W i)) (m + 2) (ou_ g o 32 (d_by W)) = gsA S (m + 2) (ou_ g o 32 (d_by W)) by rw [sI_A, sA_A]] at this
    exact this
theorem p8_outSlot {S : gS} {m s o : Nat} {W : Nat → Int32} (hL : md_L S m) (hs : s < 100) (ho : o + 32 ≤ 2400) (h4 : gI S m 4 = nI o) (hW : ∀ q, q < 8 → gI S (m + 18) (8 * s + q) = W q) : f_X8_outSlot S m (nI s) = some (gsI (gsA S (m + 2) (ou_ (gI S (m + 2)) o 32 (d_by W))) m 4 (nI (o + 32))) := by
  obtain ⟨fu, hf⟩ := g_fu 32
  unfold f_X8_outSlot
  rw [hf, show 32 + fu + 1 = fu + 32 + 1 by omega]
  exact p8_outSlotL hs ho fu 32 0 (by omega) S hL h4 hW (fun j => by rw [if_neg (by omega)])
theorem p8_tapeLongL {m p : Nat} (hp : p + 8 ≤ 2220) (fu : Nat) {S : gS} (hL : md_L S m) : ∀ d i, i + d = 8 → f_X8_tapeLong_L5 (fu + d + 1) S m (nI p) (s_lgf (gI S (m + 1)) p i) (nI i) = some (s_lg (gI S (m + 1)) p, S)
  | 0, i, hi => by
    have : i = 8 := by omega
    subst this
    rw [f_X8_tapeLong_L5, if_pos (show (8 : Int32) ≤ nI 8 from by decide)]
    rfl
  | d + 1, i, hi => by
    rw [show fu + (d + 1) + 1 = (fu + d + 1) + 1 by omega, f_X8_tapeLong_L5, if_neg (show ¬ (8 : Int32) ≤ nI i from nI_ge (b := 8) (by omega) (by decide)), e_gR hL.1, e_bs, md_r hL 1 1, nI_add, e_I (md_k hL 1 10 2220) (md_n hL 1 10 2220) (by omega), e_bs, e_let, e_let, nI_1]
    exact p8_tapeLongL hp fu hL d (i + 1) (by omega)
theorem p8_tapeLong {S : gS} {m p : Nat} (hL : md_L S m) (hp : p + 8 ≤ 2220) : f_X8_tapeLong S m (nI p) = some (s_lg (gI S (m + 1)) p, S) := by
  obtain ⟨fu, hf⟩ := g_fu 8
  unfold f_X8_tapeLong
  rw [hf, show 8 + fu + 1 = fu + 8 + 1 by omega]
  exact p8_tapeLongL hp fu hL 8 0 (by omega)
theorem p8_seenLongL {m p o : Nat} (hp : p < 24) (ho : o + 8 ≤ 80) (fu : Nat) {S : gS} (hL : md_L S m) : ∀ d i, i + d = 8 → f_X8_seenLong_L5 (fu + d + 1) S m (nI p) (nI o) (s_lgf (gI S (m + 12)) (80 * p + o) i) (nI i) = some (s_lg (gI S (m + 12)) (80 * p + o), S)
  | 0, i, hi => by
    have : i = 8 := by omega
    subst this
    rw [f_X8_seenLong_L5, if_pos (show (8 : Int32) ≤ nI 8 from by decide)]
    rfl
  | d + 1, i, hi => by
    rw [show fu + (d + 1) + 1 = (fu + d + 1) + 1 by omega, f_X8_seenLong_L5, if_neg (show ¬ (8 : Int32) ≤ nI i from nI_ge (b := 8) (by omega) (by decide)), e_gR hL.1, e_bs, md_r hL 14 12, show (80 : Int32) = nI 80 from rfl, pk_mul, nI_add, nI_add, e_I (md_k hL 12 10 1920) (md_n hL 12 10 1920) (by omega), e_bs, e_let, e_let, nI_1]
    exact p8_seenLongL hp ho fu hL d (i + 1) (by omega)
theorem p8_seenLong {S : gS} {m p o : Nat} (hL : md_L S m) (hp : p < 24) (ho : o + 8 ≤ 80) : f_X8_seenLong S m (nI p) (nI o) = some (s_lg (gI S (m + 12)) (80 * p + o), S) := by
  obtain ⟨fu, hf⟩ := g_fu 8
  unfold f_X8_seenLong
  rw [hf, show 8 + fu + 1 = fu + 8 + 1 by omega]
  exact p8_seenLongL hp ho fu hL 8 0 (by omega)
/-! node and leaf -/
theorem mg_of {m : Nat} {S S' : gS} (h : ms_S m S S') (h0 : gI S' m 17 = nI 0) : mg_S m S S' := ⟨fr_mo h.1 (fun x hx => by simp only [List.mem_cons, List.not_mem_nil, or_false] at hx ⊢; omega) (by simp), h.2, h0⟩
theorem p8_node {S : gS} {m a b s : Nat} {A B : Nat → Int32} (hL : mh_ S m) (h0 : gI S m 17 = nI 0) (ha : a < 100) (hb : b < 100) (hs : s < 100) (hA : sl_at S m a A) (hB : sl_at S m b B) : ∃ S', f_X8_node S m (nI a) (nI b) (nI s) = some S' ∧ mg_S m S S' ∧ ∀ j, gI S' (m + 18) j = sl_ (gI S (m + 18)) s (s_nd A B) j := by
  obtain ⟨S1, e1, s1, i1⟩ := p8_say (b := 1) (M := s_nm A B) (n := 0) hL.1 ⟨h0, fun j hj => by omega⟩ (by decide) rfl
  have L1 := ms_h s1 hL
  obtain ⟨S2, e2, s2, i2⟩ := p8_saySlot (s := a) (W := A) L1.1 (by decide) ha (fun i hi => by unfold s_nm; rw [if_neg (by omega), if_pos (by omega), show 0 + 1 + i - 1 = i by omega]) (fun q hq => by rw [ms_o s1 hL.1 18 10 800 (by decide)]; exact hA q hq) i1
  have s12 := ms_tr s1 s2
  have L2 := ms_h s12 hL
  obtain ⟨S3, e3, s3, i3⟩ := p8_saySlot (s := b) (W := B) L2.1 (by decide) hb (fun i hi => by unfold s_nm; rw [if_neg (by omega), if_neg (by omega), show 0 + 1 + 32 + i - 33 = i by omega]) (fun q hq => by rw [ms_o s12 hL.1 18 10 800 (by decide)]; exact hB q hq) i2
  have s13 := ms_tr s12 s3
  have L3 := ms_h s13 hL
  obtain ⟨S4, e4, s4, i4⟩ := p8_digest (s := s) L3 i3 (by decide) hs
  refine ⟨S4, ?_, ms_mg s13 s4, fun j => by rw [i4 j, ms_o s13 hL.1 18 10 800 (by decide)]; rfl⟩
  unfold f_X8_node
  rw [e_dc hL.1.1, e1, e_bs, e_dc L1.1.1, e2, e_bs, e_dc L2.1.1, e3, e_bs, e_dc L3.1.1, e4, e_bs]
def s_lm (E : Nat → Int32) (j : Nat) : Int32 := if j = 0 then 0 else E (j - 1)
def s_lf (E : Nat → Int32) (k : Nat) : Nat → Int32 := s_dg (s_lm E) (k + 1)
theorem p8_leafL {m e k s : Nat} {E : Nat → Int32} (he : e < 400) (hk : k ≤ 120) (hs : s < 100) (hE : ∀ j, j < k → bt_ (E j)) (fu : Nat) : ∀ d i, i + d = k → ∀ S, mh_ S m → gI S (m + 6) e = nI k → (∀ j, j < k → gI S (m + 5) (120 * e + j) = E j) → ms_I S m (s_lm E) (1 + i) → ∃ S', f_X8_leafOf_L17 (fu + d + 1) S m (nI s) (nI e) (nI i) = some S' ∧ mg_S m S S' ∧ ∀ j, gI S' (m + 18) j = sl_ (gI S (m + 18)) s (s_lf E k) j
  | 0, i, hi, S, hL, h1, h2, h => by
    have : i = k := by omega
    subst this
    obtain ⟨S', e1, s1, i1⟩ := p8_digest (s := s) hL h (by omega) hs
    refine ⟨S', ?_, s1, fun j => by rw [i1 j, Nat.add_comm 1 i]; rfl⟩
    rw [f_X8_leafOf_L17, e_gR hL.1.1, e_bs, md_r hL.1 8 6, e_I (md_k hL.1 6 10 400) (md_n hL.1 6 10 400) he, e_bs, h1, if_pos (nI_le (Nat.le_refl _) (by omega)), e_dc hL.1.1, e1, e_bs]
  | d + 1, i, hi, S, hL, h1, h2, h => by
    obtain ⟨S1, e1, s1, i1⟩ := p8_say (b := E i) hL.1 h (by omega) (by rw [hE i (by omega)]; unfold s_lm; rw [if_neg (by omega), show 1 + i - 1 = i by omega])
    obtain ⟨S2, e2, s2, i2⟩ := p8_leafL (s := s) he hk hs hE fu d (i + 1) (by omega) S1 (ms_h s1 hL) (by rw [ms_o s1 hL.1 6 10 400 (by decide)]; exact h1) (fun j hj => by rw [ms_o s1 hL.1 5 10 48000 (by decide)]; exact h2 j hj) (by rw [show 1 + (i + 1) = 1 + i + 1 by omega]; exact i1)
    refine ⟨S2, ?_, ms_mg s1 s2, fun j => by rw [i2 j, ms_o s1 hL.1 18 10 800 (by decide)]⟩
    rw [show fu + (d + 1) + 1 = (fu + d + 1) + 1 by omega, f_X8_leafOf_L17, e_gR hL.1.1, e_bs, md_r hL.1 8 6, e_I (md_k hL.1 6 10 400) (md_n hL.1 6 10 400) he, e_bs, h1, if_neg (nI_ge (by omega) (by omega)), e_gR hL.1.1, e_bs, md_r hL.1 7 5, show (120 : Int32) = nI 120 from rfl, pk_mul, nI_add, e_I (md_k hL.1 5 10 48000) (md_n hL.1 5 10 48000) (by omega), e_bs, e_dc hL.1.1, h2 i (by omega), e1, e_bs, e_let, nI_1]
    exact e2
theorem p8_leafOf {S : gS} {m l i k s : Nat} {E : Nat → Int32} (hL : mh_ S m) (h0 : gI S m 17 = nI 0) (he : 200 * l + i < 400) (hl : l < 2) (hk : k ≤ 120) (hs : s < 100) (hE : ∀ j, j < k → bt_ (E j)) (h1 : gI S (m + 6) (200 * l + i) = nI k) (h2 : ∀ j, j < k → gI S (m + 5) (120 * (200 * l + i) + j) = E j) : ∃ S', f_X8_leafOf S m (nI l) (nI i) (nI s) = some S' ∧ mg_S m S S' ∧ ∀ j, gI S' (m + 18) j = sl_ (gI S (m + 18)) s (s_lf E k) j := by
  obtain ⟨S1, e1, s1, i1⟩ := p8_say (b := 0) (M := s_lm E) (n := 0) hL.1 ⟨h0, fun j hj => by omega⟩ (by decide) rfl
  obtain ⟨fu, hf⟩ := g_fu k
  obtain ⟨S2, e2, s2, i2⟩ := p8_leafL (s := s) (E := E) he hk hs hE fu k 0 (by omega) S1 (ms_h s1 hL) (by rw [ms_o s1 hL.1 6 10 400 (by decide)]; exact h1) (fun j hj => by rw [ms_o s1 hL.1 5 10 48000 (by decide)]; exact h2 j hj) i1
  refine ⟨S2, ?_, ms_mg s1 s2, fun j => by rw [i2 j, ms_o s1 hL.1 18 10 800 (by decide)]⟩
  unfold f_X8_leafOf
  rw [e_dc hL.1.1, e1, e_bs, e_let, show (200 : Int32) = nI 200 from rfl, pk_mul, nI_add, hf, show k + fu + 1 = fu + k + 1 by omega]
  exact e2
