/-! the class's rows and strips -/
theorem va_cpy_e {f g : Nat → Int32} {sp dp n j : Nat} : va_cpy f g sp dp n j = if dp ≤ j ∧ j < dp + n then f (sp + (j - dp)) else g j := rfl
theorem p_copy {S : gS} {r1 r2 p1 p2 n : Nat} (k1 : gK S r1 = 9) (k2 : gK S r2 = 9) (h1 : p1 + n ≤ gN S r1) (h2 : p2 + n ≤ gN S r2) (m1 : gN S r1 < 2 ^ 31) (m2 : gN S r2 < 2 ^ 31) : f_X3_copy S (some r1) (nI p1) (some r2) (nI p2) (nI n) = some (gsA S r2 (va_cpy (gI S r1) (gI S r2) p1 p2 n)) := by
  unfold f_X3_copy
  rw [p_hold (by omega) m1 h1, e_bi, if_neg (by decide), p_hold (by omega) m2 h2, e_bi, if_neg (by decide), e_cp k1 k2 h1 h2 m1 m2, e_bs]
theorem p_sameL {S : gS} {r1 r2 p1 p2 n : Nat} (k1 : gK S r1 = 9) (k2 : gK S r2 = 9) (h1 : p1 + n ≤ gN S r1) (h2 : p2 + n ≤ gN S r2) (m1 : gN S r1 < 2 ^ 31) (m2 : gN S r2 < 2 ^ 31) (fu : Nat) : ∀ d i, i + d = n → (∀ j, j < i → gI S r1 (p1 + j) = gI S r2 (p2 + j)) → ∃ x, f_X3_same_L25 (fu + d + 1) S (some r1) (nI p1) (some r2) (nI p2) (nI n) (nI i) = some (x, S) ∧ ((x = 1 ∧ ∀ j, j < n → gI S r1 (p1 + j) = gI S r2 (p2 + j)) ∨ (x = 0 ∧ ¬ ∀ j, j < n → gI S r1 (p1 + j) = gI S r2 (p2 + j)))
  | 0, i, hi, h => by
    have : i = n := by omega
    subst this
    exact ⟨1, by rw [f_X3_same_L25, if_pos (nI_le (Nat.le_refl _) (by omega))], Or.inl ⟨rfl, h⟩⟩
  | d + 1, i, hi, h => by
    rw [show fu + (d + 1) + 1 = (fu + d + 1) + 1 by omega, f_X3_same_L25, if_neg (nI_ge (by omega) (by omega)), nI_add, nI_add, e_I k1 rfl (by omega) m1, e_bs, e_I k2 rfl (by omega) m2, e_bs]
    by_cases c : gI S r1 (p1 + i) = gI S r2 (p2 + i)
    · rw [if_pos c, e_let, nI_1]
      refine p_sameL k1 k2 h1 h2 m1 m2 fu d (i + 1) (by omega) (fun j hj => ?_)
      by_cases e : j = i
      · rw [e]; exact c
      · exact h j (by omega)
    · rw [if_neg c]
      exact ⟨0, rfl, Or.inr ⟨rfl, fun q => c (q i (by omega))⟩⟩
theorem p_same {S : gS} {r1 r2 p1 p2 n : Nat} (k1 : gK S r1 = 9) (k2 : gK S r2 = 9) (h1 : p1 + n ≤ gN S r1) (h2 : p2 + n ≤ gN S r2) (m1 : gN S r1 < 2 ^ 31) (m2 : gN S r2 < 2 ^ 31) (hn : n ≤ 999999) : ∃ x, f_X3_same S (some r1) (nI p1) (some r2) (nI p2) (nI n) = some (x, S) ∧ ((x = 1 ∧ ∀ j, j < n → gI S r1 (p1 + j) = gI S r2 (p2 + j)) ∨ (x = 0 ∧ ¬ ∀ j, j < n → gI S r1 (p1 + j) = gI S r2 (p2 + j))) := by
  obtain ⟨fu, hf⟩ := g_fu n
  unfold f_X3_same
  rw [p_hold (by omega) m1 h1, e_bi, if_neg (by decide), p_hold (by omega) m2 h2, e_bi, if_neg (by decide), hf, show n + fu + 1 = fu + n + 1 by omega]
  exact p_sameL k1 k2 h1 h2 m1 m2 fu n 0 (by omega) (fun j hj => by omega)
/-- two digests in rows are the same as words are -/
theorem same_dg {S : gS} {r1 r2 p1 p2 : Nat} {A B : Nat → Int32} (h1 : dg_at S r1 p1 A) (h2 : dg_at S r2 p2 B) : (∀ j, j < 32 → gI S r1 (p1 + j) = gI S r2 (p2 + j)) ↔ ∀ i, i < 8 → A i = B i := by
  constructor
  · intro h i hi
    refine w_by hi fun j hj => ?_
    have := h j hj
    rw [h1 j hj, h2 j hj] at this
    exact (sb_inj (d_by_m _ _) (d_by_m _ _)).mp this
  · intro h j hj
    rw [h1 j hj, h2 j hj, d_by_c h hj]
theorem p_readL {S : gS} {r p : Nat} (k1 : gK S r = 9) (h1 : p + 8 ≤ gN S r) (m1 : gN S r < 2 ^ 31) (fu : Nat) : ∀ d i, i + d = 8 → f_X3_readLong_L17 (fu + d + 1) S (some r) (nI p) (s_lgf (fun j => gI S r j &&& 255) p i) (nI i) = some (s_lg (fun j => gI S r j &&& 255) p, S)
  | 0, i, hi => by
    have : i = 8 := by omega
    subst this
    rw [f_X3_readLong_L17, if_pos (show (8 : Int32) ≤ nI 8 from by decide)]
    rfl
  | d + 1, i, hi => by
    rw [show fu + (d + 1) + 1 = (fu + d + 1) + 1 by omega, f_X3_readLong_L17, if_neg (show ¬ (8 : Int32) ≤ nI i from nI_ge (b := 8) (by omega) (by decide)), nI_add, e_I k1 rfl (by omega) m1, e_bs, e_let, e_let, nI_1]
    exact p_readL k1 h1 m1 fu d (i + 1) (by omega)
theorem p_readLong {S : gS} {r p : Nat} (k1 : gK S r = 9) (h1 : p + 8 ≤ gN S r) (m1 : gN S r < 2 ^ 31) : f_X3_readLong S (some r) (nI p) = some (s_lg (fun j => gI S r j &&& 255) p, S) := by
  obtain ⟨fu, hf⟩ := g_fu 8
  unfold f_X3_readLong
  rw [show (8 : Int32) = nI 8 from rfl, p_hold (by omega) m1 h1, e_bi, if_neg (by decide), hf, show 8 + fu + 1 = fu + 8 + 1 by omega]
  exact p_readL k1 h1 m1 fu 8 0 (by omega)
theorem p_writeL {r p : Nat} {v : Int64} {g : Nat → Int32} (fu : Nat) : ∀ d i, i + d = 8 → ∀ S, gK S r = 9 → p + 8 ≤ gN S r → gN S r < 2 ^ 31 → (∀ j, gI S r j = if p ≤ j ∧ j < p + i then sb_ (lb_ v (j - p)) else g j) → f_X3_writeLong_L14 (fu + d + 1) S (some r) (nI p) v (nI i) = some (gsA S r fun j => if p ≤ j ∧ j < p + 8 then sb_ (lb_ v (j - p)) else g j)
  | 0, i, hi, S, k1, h1, m1, h => by
    have : i = 8 := by omega
    subst this
    have : gI S r = fun j => if p ≤ j ∧ j < p + 8 then sb_ (lb_ v (j - p)) else g j := funext h
    rw [f_X3_writeLong_L14, if_pos (show (8 : Int32) ≤ nI 8 from by decide), ← this, sA_i]
  | d + 1, i, hi, S, k1, h1, m1, h => by
    rw [show fu + (d + 1) + 1 = (fu + d + 1) + 1 by omega, f_X3_writeLong_L14, if_neg (show ¬ (8 : Int32) ≤ nI i from nI_ge (b := 8) (by omega) (by decide)), nI_add, e_aB k1 rfl (by omega) m1, e_bs, e_let, nI_1]
    generalize hw : (g_lushr' v (56 - 8 * nI i)).toInt32.toInt8.toInt32.toInt8.toInt32 = w
    have hw' : w = sb_ (lb_ v i) := by
      rw [← hw, ← lb_ush (by omega), sb_m]
      show sb_ (sb_ _) = sb_ _
      rw [sb_sb]
    have := p_writeL (p := p) (v := v) (g := g) fu d (i + 1) (by omega) (gsI S r (p + i) w) k1 h1 m1 (fun j => by
      rw [sI_s, va_up_e, h j, hw']
      by_cases e : j = p + i
      · subst e; rw [if_pos rfl, if_pos (by omega), show p + i - p = i by omega]
      · rw [if_neg e]
        by_cases e2 : p ≤ j ∧ j < p + i
        · rw [if_pos e2, if_pos (by omega)]
        · rw [if_neg e2, if_neg (by omega)])
    rw [show gsA (gsI S r (p + i) w) r (fun j => if p ≤ j ∧ j < p + 8 then sb_ (lb_ v (j - p)) else g j) = gsA S r (fun j => if p ≤ j ∧ j < p + 8 then sb_ (lb_ v (j - p)) else g j) by rw [sI_A, sA_A]] at this
    exact this
theorem p_writeLong {S : gS} {r p : Nat} {v : Int64} (k1 : gK S r = 9) (h1 : p + 8 ≤ gN S r) (m1 : gN S r < 2 ^ 31) : f_X3_writeLong S (some r) (nI p) v = some (gsA S r fun j => if p ≤ j ∧ j < p + 8 then sb_ (lb_ v (j - p)) else gI S r j) := by
  obtain ⟨fu, hf⟩ := g_fu 8
  unfold f_X3_writeLong
  rw [show (8 : Int32) = nI 8 from rfl, p_hold (by omega) m1 h1, e_bi, if_neg (by decide), hf, show 8 + fu + 1 = fu + 8 + 1 by omega]
  exact p_writeL fu 8 0 (by omega) S k1 h1 m1 (fun j => by rw [if_neg (by omega)])
/-- a row object above zz: its bytes are f's -/
def rw_at (zz : Nat) (S : gS) (r n : Nat) (f : Nat → Int32) : Prop := gK S r = 3 ∧ zz ≤ r ∧ ∃ b, gR S r 0 = some b ∧ zz ≤ b ∧ gK S b = 9 ∧ gN S b = n ∧ ∀ j, j < n → gI S b j = f j
theorem rw_fr {zz : Nat} {A B : List Nat} {S S' : gS} {r n : Nat} {f : Nat → Int32} (h : rw_at zz S r n f) (F : fr_S A B S S') (hA : ∀ x ∈ A, x < zz) (hB : ∀ x ∈ B, x < zz) : rw_at zz S' r n f := by
  obtain ⟨h1, h2, b, h3, h4, h5, h6, h7⟩ := h
  refine ⟨fr_K F h1, h2, b, ?_, h4, fr_K F h5, ?_, fun j hj => ?_⟩
  · rw [fr_R F h1 (fun q => by have := hB _ q; omega)]; exact h3
  · rw [fr_N F h5]; exact h6
  · rw [fr_I F h5 (fun q => by have := hA _ q; omega)]; exact h7 j hj
theorem rw_c {zz : Nat} {S : gS} {r n : Nat} {f g : Nat → Int32} (h : rw_at zz S r n f) (e : ∀ j, j < n → f j = g j) : rw_at zz S r n g := by
  obtain ⟨h1, h2, b, h3, h4, h5, h6, h7⟩ := h
  exact ⟨h1, h2, b, h3, h4, h5, h6, fun j hj => (h7 j hj).trans (e j hj)⟩
theorem p_new {zz : Nat} {S : gS} {src n : Nat} (w : wf_S S) (hz : zz ≤ gZ S) (k1 : gK S src = 9) (h1 : n ≤ gN S src) (m1 : gN S src < 2 ^ 31) (hn : n ≤ 120) : ∃ S', f_X3_init (gnw S 3 1) (gZ S) (some src) (nI n) = some S' ∧ fr_S [] [] S S' ∧ rw_at zz S' (gZ S) n (gI S src) ∧ zz ≤ gZ S' := by
  have hs : src ≠ gZ S := fun e => by have := w src (by rw [k1]; decide); omega
  have f1 : fr_S [] [] S (gnw S 3 1) := fr_n w
  have w1 := f1.1 w
  have K1 : gK (gnw S 3 1) src = 9 := fr_K f1 k1
  have N1 : gN (gnw S 3 1) src = gN S src := fr_N f1 k1
  have I1 : gI (gnw S 3 1) src = gI S src := fr_I f1 k1 (by simp)
  have KZ : gK (gnw S 3 1) (gZ S) = 3 := nw_K (n := 1)
  have ZZ : gZ (gnw S 3 1) = gZ S + 1 := rfl
  generalize hT : gnw S 3 1 = T at *
  have f2 : fr_S [] [] T (gnw T 9 n) := fr_n w1
  have w2 := f2.1 w1
  have K2 : gK (gnw T 9 n) src = 9 := fr_K f2 K1
  have N2 : gN (gnw T 9 n) src = gN T src := fr_N f2 K1
  have I2 : gI (gnw T 9 n) src = gI T src := fr_I f2 K1 (by simp)
  have KZ2 : gK (gnw T 9 n) (gZ S) = 3 := fr_K f2 KZ
  have KY : gK (gnw T 9 n) (gZ T) = 9 := nw_K (n := n)
  have NY : gN (gnw T 9 n) (gZ T) = n := nw_N (kd := 9)
  have f12 := fr_tr f1 f2
  have Z2 : gZ (gnw T 9 n) = gZ T + 1 := rfl
  refine ⟨gsA (gsR (gnw T 9 n) (gZ S) 0 (some (gZ T))) (gZ T) (va_cpy (gI (gsR (gnw T 9 n) (gZ S) 0 (some (gZ T))) src) (gI (gsR (gnw T 9 n) (gZ S) 0 (some (gZ T))) (gZ T)) 0 0 n), ?_, ?_, ?_, ?_⟩
  · unfold f_X3_init
    rw [show f_X3_holds T (some src) 0 (nI n) = some (1, T) from p_hold (p := 0) (by omega) (by omega) (by omega), e_bi, if_neg (by decide), e_nA hn, e_bs, e_let, e_let, e_pR KZ2, e_bs, e_gR (S := gsR (gnw T 9 n) (gZ S) 0 (some (gZ T))) KZ2, e_bs, sR_s, va_up_s, show (0 : Int32) = nI 0 from rfl, p_copy (S := gsR (gnw T 9 n) (gZ S) 0 (some (gZ T))) (p1 := 0) (p2 := 0) K2 KY (by rw [sR_N, N2, N1]; omega) (by rw [sR_N, NY]; omega) (by rw [sR_N, N2, N1]; omega) (by rw [sR_N, NY]; omega), e_bs]
  · refine ⟨f12.1, fun a ha => ?_⟩
    obtain ⟨g1, g2, g3, g4⟩ := f12.2 a ha
    have ha2 := w a ha
    refine ⟨g1, g2, fun q => ⟨?_, (g3 q).2⟩, fun q => ?_⟩
    · rw [sA_n (by omega)]; exact (g3 q).1
    · rw [sA_R, sR_n (by omega)]; exact g4 q
  · refine ⟨KZ2, hz, gZ T, ?_, by omega, KY, NY, fun j hj => ?_⟩
    · rw [sA_R, sR_s, va_up_s]
    · rw [sA_s, va_cpy_e, if_pos (by omega), sR_I, I2, I1, show 0 + (j - 0) = j by omega]
  · show zz ≤ gZ T + 1
    omega
theorem p_longAt {zz : Nat} {S : gS} {r n p : Nat} {f : Nat → Int32} (h : rw_at zz S r n f) (hp : p + 8 ≤ n) (hn : n ≤ 120) : f_X3_longAt S r (nI p) = some (s_lg (fun j => f j &&& 255) p, S) := by
  obtain ⟨h1, h2, b, h3, h4, h5, h6, h7⟩ := h
  unfold f_X3_longAt
  rw [e_gR h1, e_bs, h3, p_readLong h5 (by omega) (by omega), e_bi, lg_c (M' := fun j => f j &&& 255) (p' := p) (fun j hj => by rw [h7 _ (by omega)])]
/-! strips -/
def st_L (S : gS) (a bs N : Nat) : Prop := gK S a = 5 ∧ gR S a 0 = some bs ∧ gK S bs = 9 ∧ gN S bs = N
theorem st_fr {A B : List Nat} {S S' : gS} {a bs N : Nat} (h : st_L S a bs N) (F : fr_S A B S S') (hB : a ∉ B) : st_L S' a bs N := by
  obtain ⟨h1, h2, h3, h4⟩ := h
  exact ⟨fr_K F h1, by rw [fr_R F h1 hB]; exact h2, fr_K F h3, by rw [fr_N F h3]; exact h4⟩
theorem p_free {S : gS} {a bs N c : Nat} (h : st_L S a bs N) (hc : gI S a 1 = nI c) (hcN : c ≤ N) : f_X5_free S a = some (nI (N - c), S) := by
  obtain ⟨h1, h2, h3, h4⟩ := h
  unfold f_X5_free
  rw [e_gR h1, e_bs, h2, e_N (by omega), e_bs, h4, e_gI h1, e_bs, hc, pk_sub hcN]
theorem p_sAdd {S : gS} {a bs N c r p n : Nat} (h : st_L S a bs N) (hN : N < 2 ^ 31) (hc : gI S a 1 = nI c) (hcN : c + n ≤ N) (k1 : gK S r = 9) (h1 : p + n ≤ gN S r) (m1 : gN S r < 2 ^ 31) : f_X5_addRow S a (some r) (nI p) (nI n) = some (gsI (gsA S bs (va_cpy (gI S r) (gI S bs) p c n)) a 1 (nI (c + n))) := by
  have h0 := h
  obtain ⟨g1, g2, g3, g4⟩ := h
  unfold f_X5_addRow
  rw [p_hold (by omega) m1 h1, e_bi, if_neg (by decide), e_dc g1, p_free h0 hc (by omega), e_bi, if_neg (nI_nlt (by omega) (by omega)), e_gR g1, e_bs, g2, e_gI g1, e_bs, hc, p_copy k1 g3 h1 (by omega) m1 (by omega), e_bs, e_gI (S := gsA S bs _) g1, e_bs, sA_n (k_ne g1 g3), hc, nI_add, e_pI (S := gsA S bs _) g1, e_bs]
theorem p_sBec {S : gS} {a bs N r n : Nat} (h : st_L S a bs N) (hN : N < 2 ^ 31) (hcN : n ≤ N) (k1 : gK S r = 9) (h1 : n ≤ gN S r) (m1 : gN S r < 2 ^ 31) : f_X5_become S a (some r) (nI n) = some (gsI (gsA (gsI S a 1 (nI 0)) bs (va_cpy (gI S r) (gI S bs) 0 0 n)) a 1 (nI n)) := by
  have h0 := h
  obtain ⟨g1, g2, g3, g4⟩ := h
  unfold f_X5_become
  rw [e_pI g1, e_bs, e_dc (S := gsI S a 1 0) g1, show (0 : Int32) = nI 0 from rfl, p_sAdd (S := gsI S a 1 (nI 0)) (c := 0) (a := a) h0 hN (by rw [sI_s, va_up_s]) (by omega) k1 (by rw [sI_N]; omega) m1, e_bs, sI_n (k_ne k1 g1), sI_n (k_ne g3 g1), Nat.zero_add]
theorem p_use {S : gS} {a bs N c : Nat} (h : st_L S a bs N) (hc : gI S a 1 = nI c) : f_X5_useUp S a = some (nI c, gsI S a 1 (nI 0)) := by
  unfold f_X5_useUp
  rw [e_gI h.1, e_bs, hc, e_pI h.1, e_bs]
  rfl
