/-! feed, end, again, out, outs -/
theorem p_addIntL {a bs N c : Nat} {v : Int32} {g : Nat → Int32} (hc : c + 4 ≤ N) (hN : N < 2 ^ 31) (fu : Nat) : ∀ d i, i + d = 4 → ∀ S, st_L S a bs N → gI S a 1 = nI (c + i) → (∀ j, gI S bs j = if c ≤ j ∧ j < c + i then sb_ (s_by v (j - c)) else g j) → ∃ S', f_X5_addInt_L12 (fu + d + 1) S a v (nI (8 * d) + (-8)) = some S' ∧ fr_S [a, bs] [] S S' ∧ gI S' a 1 = nI (c + 4) ∧ ∀ j, gI S' bs j = if c ≤ j ∧ j < c + 4 then sb_ (s_by v (j - c)) else g j
  | 0, i, hi, S, hL, h1, h2 => by
    have : i = 4 := by omega
    subst this
    exact ⟨S, by rw [f_X5_addInt_L12, if_pos (by decide)], fr_refl _ _ _, h1, h2⟩
  | d + 1, i, hi, S, hL, h1, h2 => by
    have hL0 := hL
    obtain ⟨g1, g2, g3, g4⟩ := hL
    have e0 : nI (8 * (d + 1)) + (-8) = nI (8 * d) := by
      have : ∀ x : Int32, x + 8 + (-8) = x := fun x => by rw [Int32.add_assoc]; exact Int32.add_zero x
      rw [show 8 * (d + 1) = 8 * d + 8 by omega, ← nI_add]
      exact this _
    have ne := k_ne g1 g3
    rw [show fu + (d + 1) + 1 = (fu + d + 1) + 1 by omega, e0, f_X5_addInt_L12, if_neg (nI_pos (by omega)), e_gR g1, e_bs, g2, e_gI g1, e_bs, h1, e_aB g3 g4 (by omega) hN, e_bs, e_gI (S := gsI S bs _ _) g1, e_bs, sI_n ne, h1, nI_1, e_pI (S := gsI S bs _ _) g1, e_bs, e_let]
    generalize hw : (g_ushr v (nI (8 * d))).toInt8.toInt32.toInt8.toInt32 = w
    have hw' : w = sb_ (s_by v i) := by
      rw [← hw, show 8 * d = 24 - 8 * i by omega]
      show sb_ (sb_ _) = sb_ (_ &&& 255)
      rw [sb_sb, sb_m]
    obtain ⟨S', r1, r2, r3, r4⟩ := p_addIntL (v := v) (g := g) hc hN fu d (i + 1) (by omega) (gsI (gsI S bs (c + i) w) a 1 (nI (c + i + 1))) hL0 (by rw [sI_s, va_up_s]; rfl) (fun j => by
      rw [sI_n (Ne.symm ne), sI_s, va_up_e, h2 j, hw']
      by_cases e : j = c + i
      · subst e; rw [if_pos rfl, if_pos (by omega), show c + i - c = i by omega]
      · rw [if_neg e]
        by_cases e2 : c ≤ j ∧ j < c + i
        · rw [if_pos e2, if_pos (by omega)]
        · rw [if_neg e2, if_neg (by omega)])
    exact ⟨S', r1, fr_tr (fr_tr (fr_i (by simp)) (fr_i (by simp))) r2, r3, r4⟩
theorem p_addInt {S : gS} {a bs N c : Nat} {v : Int32} (hc : c + 4 ≤ N) (hN : N < 2 ^ 31) (hL : st_L S a bs N) (h1 : gI S a 1 = nI c) : ∃ S', f_X5_addInt S a v = some S' ∧ fr_S [a, bs] [] S S' ∧ gI S' a 1 = nI (c + 4) ∧ ∀ j, gI S' bs j = if c ≤ j ∧ j < c + 4 then sb_ (s_by v (j - c)) else gI S bs j := by
  obtain ⟨fu, hf⟩ := g_fu 4
  obtain ⟨S', r⟩ := p_addIntL (v := v) (g := gI S bs) hc hN fu 4 0 (by omega) S hL h1 (fun j => by rw [if_neg (by omega)])
  refine ⟨S', ?_, r.2⟩
  unfold f_X5_addInt
  rw [e_dc hL.1, p_free hL h1 (by omega), e_bi, if_pos (show (4 : Int32) ≤ nI (N - c) from nI_le (a := 4) (by omega) (by omega)), hf, show 4 + fu + 1 = fu + 4 + 1 by omega]
  exact r.1
theorem fd_step {a bs c k : Nat} {vv g : Nat → Int32} {S S' : gS} (hb : ∀ j, gI S bs j = if c ≤ j ∧ j < c + 4 * k then sb_ (s_by (vv ((j - c) / 4)) ((j - c) % 4)) else g j) (h : ∀ j, gI S' bs j = if c + 4 * k ≤ j ∧ j < c + 4 * k + 4 then sb_ (s_by (vv k) (j - (c + 4 * k))) else gI S bs j) : ∀ j, gI S' bs j = if c ≤ j ∧ j < c + 4 * (k + 1) then sb_ (s_by (vv ((j - c) / 4)) ((j - c) % 4)) else g j := by
  intro j
  rw [h j, hb j]
  by_cases e : c + 4 * k ≤ j ∧ j < c + 4 * k + 4
  · rw [if_pos e, if_pos (by omega), show (j - c) / 4 = k by omega, show j - (c + 4 * k) = (j - c) % 4 by omega]
  · rw [if_neg e]
    by_cases e2 : c ≤ j ∧ j < c + 4 * k
    · rw [if_pos e2, if_pos (by omega)]
    · rw [if_neg e2, if_neg (by omega)]
def v5_ (a b c d e : Int32) (k : Nat) : Int32 := [a, b, c, d, e].getD k 0
theorem c_feed {z n : Nat} {S : gS} {a b c d e : Int32} (hy : ly_ z S) (h1 : gI S (z + 1) 1 = nI n) (hn : n + 20 ≤ 2200) : ∃ S', f_X7_feed S z a b c d e = some (nI (n + 20), S') ∧ fr_S [z + 1, z + 2] [] S S' ∧ gI S' (z + 1) 1 = nI (n + 20) ∧ ∀ j, gI S' (z + 2) j = if n ≤ j ∧ j < n + 4 * 5 then sb_ (s_by (v5_ a b c d e ((j - n) / 4)) ((j - n) % 4)) else gI S (z + 2) j := by
  have hs := hy.2.1
  obtain ⟨S1, e1, f1, c1, b1⟩ := p_addInt (v := a) (by omega) (by decide) hs h1
  obtain ⟨S2, e2, f2', c2, b2⟩ := p_addInt (v := b) (by omega) (by decide) (st_fr hs f1 (by simp)) c1
  have f2 := fr_tr f1 f2'
  obtain ⟨S3, e3, f3', c3, b3⟩ := p_addInt (v := c) (by omega) (by decide) (st_fr hs f2 (by simp)) c2
  have f3 := fr_tr f2 f3'
  obtain ⟨S4, e4, f4', c4, b4⟩ := p_addInt (v := d) (by omega) (by decide) (st_fr hs f3 (by simp)) c3
  have f4 := fr_tr f3 f4'
  obtain ⟨S5, e5, f5', c5, b5⟩ := p_addInt (v := e) (by omega) (by decide) (st_fr hs f4 (by simp)) c4
  have f5 := fr_tr f4 f5'
  have q0 : ∀ j, gI S (z + 2) j = if n ≤ j ∧ j < n + 4 * 0 then sb_ (s_by (v5_ a b c d e ((j - n) / 4)) ((j - n) % 4)) else gI S (z + 2) j := fun j => by rw [if_neg (by omega)]
  have q1 := fd_step (a := z + 1) q0 b1
  have q2 := fd_step (a := z + 1) q1 b2
  have q3 := fd_step (a := z + 1) q2 b3
  have q4 := fd_step (a := z + 1) q3 b4
  have q5 := fd_step (a := z + 1) q4 b5
  have K : ∀ {T : gS}, fr_S [z + 1, z + 2] [] S T → gK T z = 7 ∧ gR T z 0 = some (z + 1) ∧ gK T (z + 1) = 5 := fun f => ⟨fr_K f hy.1.1, by rw [fr_R f hy.1.1 (by simp)]; exact hy.1.2.1, fr_K f hs.1⟩
  obtain ⟨x0, y0, w0⟩ := K (fr_refl _ _ S)
  obtain ⟨x1, y1, w1⟩ := K f1
  obtain ⟨x2, y2, w2⟩ := K f2
  obtain ⟨x3, y3, w3⟩ := K f3
  obtain ⟨x4, y4, w4⟩ := K f4
  obtain ⟨x5, y5, w5⟩ := K f5
  refine ⟨S5, ?_, f5, c5, q5⟩
  unfold f_X7_feed
  rw [e_gR x0, e_bs, y0, e_dc w0, p_free hs h1 (by omega), e_bi, if_pos (show (20 : Int32) ≤ nI (2200 - n) from nI_le (a := 20) (by omega) (by omega)), e_gR x0, e_bs, y0, e_dc w0, e1, e_bs, e_gR x1, e_bs, y1, e_dc w1, e2, e_bs, e_gR x2, e_bs, y2, e_dc w2, e3, e_bs, e_gR x3, e_bs, y3, e_dc w3, e4, e_bs, e_gR x4, e_bs, y4, e_dc w4, e5, e_bs, e_gR x5, e_bs, y5, e_gI w5, e_bs, c5]
theorem p8_fourL {m c : Nat} {v : Int32} {g : Nat → Int32} (hc : c + 4 ≤ 2220) (fu : Nat) : ∀ d i, i + d = 4 → ∀ S, md_L S m → gI S m 2 = nI c → (∀ j, gI S (m + 1) j = if c ≤ j ∧ j < c + i then s_by v (j - c) else g j) → f_X8_four_L2 (fu + d + 1) S m v (nI i) = some (gsI (gsA S (m + 1) fun j => if c ≤ j ∧ j < c + 4 then s_by v (j - c) else g j) m 2 (nI (c + 4)))
  | 0, i, hi, S, hL, h1, h2 => by
    have : i = 4 := by omega
    subst this
    have : gI S (m + 1) = fun j => if c ≤ j ∧ j < c + 4 then s_by v (j - c) else g j := funext h2
    rw [f_X8_four_L2, if_pos (show (4 : Int32) ≤ nI 4 from by decide), e_gI hL.1, e_bs, h1, e_pI hL.1, e_bs, ← this, sA_i, show nI c + 4 = nI (c + 4) from nI_add _ 4]
  | d + 1, i, hi, S, hL, h1, h2 => by
    have e0 : (24 : Int32) - 8 * nI i = nI (24 - 8 * i) := by rw [show (8 : Int32) = nI 8 from rfl, pk_mul, show (24 : Int32) = nI 24 from rfl, pk_sub (by omega)]
    rw [show fu + (d + 1) + 1 = (fu + d + 1) + 1 by omega, f_X8_four_L2, if_neg (show ¬ (4 : Int32) ≤ nI i from nI_ge (b := 4) (by omega) (by decide)), e_gR hL.1, e_bs, md_r hL 1 1, e_gI hL.1, e_bs, h1, nI_add, e0, by_ar _ (by omega), e_aI (md_k hL 1 10 2220) (md_n hL 1 10 2220) (by omega), e_bs, e_let, nI_1]
    have := p8_fourL (v := v) (g := g) hc fu d (i + 1) (by omega) (gsI S (m + 1) (c + i) (s_by v i)) hL (by rw [sI_n (by omega)]; exact h1) (fun j => by
      rw [sI_s, va_up_e, h2 j]
      by_cases e : j = c + i
      · subst e; rw [if_pos rfl, if_pos (by omega), show c + i - c = i by omega]
      · rw [if_neg e]
        by_cases e2 : c ≤ j ∧ j < c + i
        · rw [if_pos e2, if_pos (by omega)]
        · rw [if_neg e2, if_neg (by omega)])
    rw [show gsA (gsI S (m + 1) (c + i) (s_by v i)) (m + 1) (fun j => if c ≤ j ∧ j < c + 4 then s_by v (j - c) else g j) = gsA S (m + 1) (fun j => if c ≤ j ∧ j < c + 4 then s_by v (j - c) else g j) by rw [sI_A, sA_A]] at this
    exact this
theorem p8_four {S : gS} {m c : Nat} {v : Int32} (hc : c + 4 ≤ 2220) (hL : md_L S m) (h1 : gI S m 2 = nI c) : ∃ S', f_X8_four S m v = some S' ∧ fr_S [m, m + 1] [] S S' ∧ gI S' m 2 = nI (c + 4) ∧ (∀ k, k ≠ 2 → gI S' m k = gI S m k) ∧ ∀ j, gI S' (m + 1) j = if c ≤ j ∧ j < c + 4 then s_by v (j - c) else gI S (m + 1) j := by
  obtain ⟨fu, hf⟩ := g_fu 4
  refine ⟨gsI (gsA S (m + 1) fun j => if c ≤ j ∧ j < c + 4 then s_by v (j - c) else gI S (m + 1) j) m 2 (nI (c + 4)), ?_, fr_tr (fr_A (by simp)) (fr_i (by simp)), by rw [sI_s, va_up_s], fun k hk => by rw [sI_s, va_up_n _ _ _ hk, sA_n (by omega)], fun j => by rw [sI_n (by omega), sA_s]⟩
  unfold f_X8_four
  rw [hf, show 4 + fu + 1 = fu + 4 + 1 by omega]
  exact p8_fourL hc fu 4 0 (by omega) S hL h1 (fun j => by rw [if_neg (by omega)])
theorem fd_step8 {bs c k : Nat} {vv g : Nat → Int32} {S S' : gS} (hb : ∀ j, gI S bs j = if c ≤ j ∧ j < c + 4 * k then s_by (vv ((j - c) / 4)) ((j - c) % 4) else g j) (h : ∀ j, gI S' bs j = if c + 4 * k ≤ j ∧ j < c + 4 * k + 4 then s_by (vv k) (j - (c + 4 * k)) else gI S bs j) : ∀ j, gI S' bs j = if c ≤ j ∧ j < c + 4 * (k + 1) then s_by (vv ((j - c) / 4)) ((j - c) % 4) else g j := by
  intro j
  rw [h j, hb j]
  by_cases e : c + 4 * k ≤ j ∧ j < c + 4 * k + 4
  · rw [if_pos e, if_pos (by omega), show (j - c) / 4 = k by omega, show j - (c + 4 * k) = (j - c) % 4 by omega]
  · rw [if_neg e]
    by_cases e2 : c ≤ j ∧ j < c + 4 * k
    · rw [if_pos e2, if_pos (by omega)]
    · rw [if_neg e2, if_neg (by omega)]
theorem m_feed {m n : Nat} {S : gS} {a b c d e : Int32} (hL : md_L S m) (h1 : gI S m 2 = nI n) (hn : n + 20 ≤ 2200) : ∃ S', f_X8_feed S m a b c d e = some (nI (n + 20), S') ∧ fr_S [m, m + 1] [] S S' ∧ gI S' m 2 = nI (n + 20) ∧ (∀ k, k ≠ 0 → k ≠ 2 → gI S' m k = gI S m k) ∧ ∀ j, gI S' (m + 1) j = if n ≤ j ∧ j < n + 4 * 5 then s_by (v5_ a b c d e ((j - n) / 4)) ((j - n) % 4) else gI S (m + 1) j := by
  have F0 : fr_S [m, m + 1] [] S (gsI S m 0 0) := fr_i (by simp)
  have L0 : md_L (gsI S m 0 0) m := hL
  have g0 : gI (gsI S m 0 0) m 2 = nI n := by rw [sI_s, va_up_n _ _ _ (by decide)]; exact h1
  have t0 : gI (gsI S m 0 0) (m + 1) = gI S (m + 1) := sI_n (by omega)
  have k0 : ∀ k, k ≠ 0 → gI (gsI S m 0 0) m k = gI S m k := fun k hk => by rw [sI_s, va_up_n _ _ _ hk]
  have q0 : fpI S 8 0 (some m) 0 = some (gsI S m 0 0) := e_pI hL.1
  generalize gsI S m 0 0 = S0 at *
  obtain ⟨S1, e1, f1, c1, k1, b1⟩ := p8_four (v := a) (by omega) L0 g0
  have L1 := md_fr L0 f1 (by simp)
  obtain ⟨S2, e2, f2, c2, k2, b2⟩ := p8_four (v := b) (by omega) L1 c1
  have L2 := md_fr L1 f2 (by simp)
  obtain ⟨S3, e3, f3, c3, k3, b3⟩ := p8_four (v := c) (by omega) L2 c2
  have L3 := md_fr L2 f3 (by simp)
  obtain ⟨S4, e4, f4, c4, k4, b4⟩ := p8_four (v := d) (by omega) L3 c3
  have L4 := md_fr L3 f4 (by simp)
  obtain ⟨S5, e5, f5, c5, k5, b5⟩ := p8_four (v := e) (by omega) L4 c4
  have L5 := md_fr L4 f5 (by simp)
  have p0 : ∀ j, gI S0 (m + 1) j = if n ≤ j ∧ j < n + 4 * 0 then s_by (v5_ a b c d e ((j - n) / 4)) ((j - n) % 4) else gI S (m + 1) j := fun j => by rw [if_neg (by omega), t0]
  have q1 := fd_step8 p0 b1
  have q2 := fd_step8 q1 b2
  have q3 := fd_step8 q2 b3
  have q4 := fd_step8 q3 b4
  have q5 := fd_step8 q4 b5
  refine ⟨S5, ?_, fr_tr F0 (fr_tr f1 (fr_tr f2 (fr_tr f3 (fr_tr f4 f5)))), c5, fun k h0 h2 => by rw [k5 k h2, k4 k h2, k3 k h2, k2 k h2, k1 k h2, k0 k h0], q5⟩
  unfold f_X8_feed
  rw [q0, e_bs, e_gI L0.1, e_bs, g0, show nI n + 20 = nI (n + 20) from nI_add _ 20, if_pos (show nI (n + 20) ≤ (2200 : Int32) from nI_le (b := 2200) hn (by decide)), e_dc L0.1, e1, e_bs, e_dc L1.1, e2, e_bs, e_dc L2.1, e3, e_bs, e_dc L3.1, e4, e_bs, e_dc L4.1, e5, e_bs, e_gI L5.1, e_bs, c5]
theorem o_feed {z : Nat} {S : gS} {a b c d e : Int32} (h : in_ z S) : ∃ r S1 S2, f_X7_feed S z a b c d e = some (r, S1) ∧ gK S1 (z + 45) = 8 ∧ f_X8_feed S1 (z + 45) a b c d e = some (r, S2) ∧ in_ z S2 := by
  have h0 := h
  obtain ⟨y, tp, oo, ms, lo, vw⟩ := h
  obtain ⟨n, n1, n2, n3, n4⟩ := tp
  by_cases c0 : n + 20 ≤ 2200
  · obtain ⟨S1, e1, f1, c1, b1⟩ := c_feed (a := a) (b := b) (c := c) (d := d) (e := e) y n2 c0
    have y1 := ly_fr y f1 (by simp)
    have m1 : gI S1 (z + 45) = gI S (z + 45) := fr_I f1 (ly_md y).1 (by (try unfold lq_) <;> (try unfold pq_) <;> (try unfold cq_) <;> (simp only [List.mem_cons, List.not_mem_nil, or_false, false_or, not_false_eq_true, List.cons_append, List.nil_append]) <;> omega)
    obtain ⟨S2, e2, f2, c2, k2, b2⟩ := m_feed (m := z + 45) (a := a) (b := b) (c := c) (d := d) (e := e) (ly_md y1) (by rw [m1]; exact n3) c0
    have F : fr_S [z + 1, z + 2, z + 45, z + 46] [] S S2 := fr_tr (fr_mo f1 (fun x hx => by (try unfold lq_ at hx) <;> (try unfold pq_ at hx) <;> (try unfold cq_ at hx) <;> (try unfold lq_) <;> (try unfold pq_) <;> (try unfold cq_) <;> (simp only [List.mem_cons, List.not_mem_nil, or_false, false_or, List.cons_append, List.nil_append] at hx ⊢) <;> omega) (by simp)) (fr_mo f2 (fun x hx => by (try unfold lq_ at hx) <;> (try unfold pq_ at hx) <;> (try unfold cq_ at hx) <;> (try unfold lq_) <;> (try unfold pq_) <;> (try unfold cq_) <;> (simp only [List.mem_cons, List.not_mem_nil, or_false, false_or, List.cons_append, List.nil_append] at hx ⊢) <;> omega) (by simp))
    have y2 := ly_fr y1 f2 (by simp)
    refine ⟨nI (n + 20), S1, S2, e1, (ly_md y1).1, e2, y2, ⟨n + 20, c0, ?_, c2, ?_⟩, oo_fr oo y F (fun x hx => by (try unfold lq_ at hx) <;> (try unfold pq_ at hx) <;> (try unfold cq_ at hx) <;> (simp only [List.mem_cons, List.not_mem_nil, or_false, false_or, List.cons_append, List.nil_append] at hx) <;> (try simp only [loA, loB, tpA, ooA, msA, vwA, vwB, lyB, scA]) <;> omega) ?_, ms_fr ms y F (fun x hx => by (try unfold lq_ at hx) <;> (try unfold pq_ at hx) <;> (try unfold cq_ at hx) <;> (simp only [List.mem_cons, List.not_mem_nil, or_false, false_or, List.cons_append, List.nil_append] at hx) <;> (try simp only [loA, loB, tpA, ooA, msA, vwA, vwB, lyB, scA]) <;> omega) ?_, fun l hl => ?_, vw_fr vw y F (fun x hx => by (try unfold lq_ at hx) <;> (try unfold pq_ at hx) <;> (try unfold cq_ at hx) <;> (simp only [List.mem_cons, List.not_mem_nil, or_false, false_or, List.cons_append, List.nil_append] at hx) <;> (try simp only [loA, loB, tpA, ooA, msA, vwA, vwB, lyB, scA]) <;> omega) (fun x hx => by (try unfold lq_ at hx) <;> (try unfold pq_ at hx) <;> (try unfold cq_ at hx) <;> (simp only [List.mem_cons, List.not_mem_nil, or_false, false_or, List.cons_append, List.nil_append] at hx) <;> (try simp only [loA, loB, tpA, ooA, msA, vwA, vwB, lyB, scA]) <;> omega)⟩
    · rw [fr_I f2 y1.2.1.1 (by (try unfold lq_) <;> (try unfold pq_) <;> (try unfold cq_) <;> (simp only [List.mem_cons, List.not_mem_nil, or_false, false_or, not_false_eq_true, List.cons_append, List.nil_append]) <;> omega)]; exact c1
    · intro j hj
      rw [fr_I f2 y1.2.1.2.2.1 (by (try unfold lq_) <;> (try unfold pq_) <;> (try unfold cq_) <;> (simp only [List.mem_cons, List.not_mem_nil, or_false, false_or, not_false_eq_true, List.cons_append, List.nil_append]) <;> omega), b1 j]
      show _ = sb_ (gI S2 (z + 45 + 1) j) ∧ bt_ (gI S2 (z + 45 + 1) j)
      rw [b2 j, show gI S1 (z + 45 + 1) = gI S (z + 46) from fr_I f1 (ly_mk y 1 10 2220) (by (try unfold lq_) <;> (try unfold pq_) <;> (try unfold cq_) <;> (simp only [List.mem_cons, List.not_mem_nil, or_false, false_or, not_false_eq_true, List.cons_append, List.nil_append]) <;> omega)]
      by_cases q : n ≤ j ∧ j < n + 4 * 5
      · rw [if_pos q, if_pos q]; exact ⟨rfl, s_by_m _ _⟩
      · rw [if_neg q, if_neg q]; exact n4 j hj
    · rw [k2 4 (by decide) (by decide), m1]
    · rw [k2 17 (by decide) (by decide), m1]
    · obtain ⟨N, TS, H, kn, q⟩ := lo l hl
      exact ⟨N, TS, H, kn, lo_fr q hl y F (fun x hx => by (try unfold lq_ at hx) <;> (try unfold pq_ at hx) <;> (try unfold cq_ at hx) <;> (simp only [List.mem_cons, List.not_mem_nil, or_false, false_or, List.cons_append, List.nil_append] at hx) <;> (try simp only [loA, loB, tpA, ooA, msA, vwA, vwB, lyB, scA]) <;> omega) (fun x hx => by (try unfold lq_ at hx) <;> (try unfold pq_ at hx) <;> (try unfold cq_ at hx) <;> (simp only [List.mem_cons, List.not_mem_nil, or_false, false_or, List.cons_append, List.nil_append] at hx) <;> (try simp only [loA, loB, tpA, ooA, msA, vwA, vwB, lyB, scA]) <;> omega)⟩
  · have e1 : f_X7_feed S z a b c d e = some (-1, S) := by
      unfold f_X7_feed
      rw [e_gR y.1.1, e_bs, y.1.2.1, e_dc y.2.1.1, p_free y.2.1 n2 n1, e_bi, if_neg (show ¬ (20 : Int32) ≤ nI (2200 - n) from nI_ge (b := 20) (by omega) (by decide))]
    have F : fr_S [z + 45] [] S (gsI S (z + 45) 0 0) := fr_i (by simp)
    refine ⟨-1, S, gsI S (z + 45) 0 0, e1, (ly_md y).1, ?_, in_sc h0 F (fun x hx => by (try unfold lq_ at hx) <;> (try unfold pq_ at hx) <;> (try unfold cq_ at hx) <;> (simp only [List.mem_cons, List.not_mem_nil, or_false, false_or, List.cons_append, List.nil_append] at hx) <;> (try simp only [loA, loB, tpA, ooA, msA, vwA, vwB, lyB, scA]) <;> omega) ?_ ?_ ?_⟩
    · unfold f_X8_feed
      rw [e_pI (ly_md y).1, e_bs, e_gI (S := gsI S (z + 45) 0 0) (ly_md y).1, e_bs, sI_s, va_up_n _ _ _ (by decide), n3, show nI n + 20 = nI (n + 20) from nI_add _ 20, if_neg (show ¬ nI (n + 20) ≤ (2200 : Int32) from nI_ge (a := 2200) (by omega) (by omega))]
    · rw [sI_s, va_up_n _ _ _ (by decide)]
    · rw [sI_s, va_up_n _ _ _ (by decide)]
    · rw [sI_s, va_up_n _ _ _ (by decide)]
theorem in_m0 {z : Nat} {S : gS} {w : Int32} (h : in_ z S) : in_ z (gsI S (z + 45) 0 w) := in_sc (A := [z + 45]) h (fr_i (by simp)) (fun x hx => by (try unfold lq_ at hx) <;> (try unfold pq_ at hx) <;> (try unfold cq_ at hx) <;> (simp only [List.mem_cons, List.not_mem_nil, or_false, false_or, List.cons_append, List.nil_append] at hx) <;> (try simp only [loA, loB, tpA, ooA, msA, vwA, vwB, lyB, scA]) <;> omega) (by rw [sI_s, va_up_n _ _ _ (by decide)]) (by rw [sI_s, va_up_n _ _ _ (by decide)]) (by rw [sI_s, va_up_n _ _ _ (by decide)])
theorem o_end {z : Nat} {S : gS} {v : Int32} (h : in_ z S) : ∃ r S1 S2, f_X7_end S z v = some (r, S1) ∧ gK S1 (z + 45) = 8 ∧ f_X8_end S1 (z + 45) v = some (r, S2) ∧ in_ z S2 := by
  have h0 := h
  obtain ⟨y, tp, oo, ms, lo, vw⟩ := h
  obtain ⟨n, n1, n2, n3, n4⟩ := tp
  have M := ly_md y
  unfold f_X7_end f_X8_end
  by_cases c0 : v < 0
  · exact ⟨0, S, gsI S (z + 45) 0 0, by rw [if_pos c0], M.1, by rw [e_pI M.1, e_bs, if_pos c0], in_m0 h0⟩
  · obtain ⟨j, j1, rfl⟩ := nI_of c0
    rw [if_neg c0, e_gR y.1.1, e_bs, y.1.2.1, e_gI y.2.1.1, e_bs, n2]
    by_cases c1 : j ≤ n
    · have F1 : fr_S [z + 1] [] S (gsI S (z + 1) 1 (nI j)) := fr_i (by simp)
      have y1 := ly_fr y F1 (by simp)
      refine ⟨1, gsI S (z + 1) 1 (nI j), gsI (gsI (gsI S (z + 1) 1 (nI j)) (z + 45) 0 0) (z + 45) 2 (nI j), ?_, M.1, ?_, ?_⟩
      · rw [if_pos (nI_le c1 (by omega)), e_bs, e_pI y.2.1.1, e_bs]
      · rw [e_pI (S := gsI S (z + 1) 1 (nI j)) M.1, e_bs, if_neg c0, e_gI (S := gsI (gsI S (z + 1) 1 (nI j)) (z + 45) 0 0) M.1, e_bs, sI_s, va_up_n _ _ _ (by decide), sI_n (by omega), n3, if_pos (nI_le c1 (by omega)), e_pI (S := gsI (gsI S (z + 1) 1 (nI j)) (z + 45) 0 0) M.1, e_bs]
      · have F : fr_S [z + 1, z + 45] [] S (gsI (gsI (gsI S (z + 1) 1 (nI j)) (z + 45) 0 0) (z + 45) 2 (nI j)) := fr_tr (fr_tr (fr_i (by simp)) (fr_i (by simp))) (fr_i (by simp))
        refine ⟨ly_fr y F (by simp), ⟨j, by omega, ?_, ?_, ?_⟩, oo_fr oo y F (fun x hx => by (try unfold lq_ at hx) <;> (try unfold pq_ at hx) <;> (try unfold cq_ at hx) <;> (simp only [List.mem_cons, List.not_mem_nil, or_false, false_or, List.cons_append, List.nil_append] at hx) <;> (try simp only [loA, loB, tpA, ooA, msA, vwA, vwB, lyB, scA]) <;> omega) ?_, ms_fr ms y F (fun x hx => by (try unfold lq_ at hx) <;> (try unfold pq_ at hx) <;> (try unfold cq_ at hx) <;> (simp only [List.mem_cons, List.not_mem_nil, or_false, false_or, List.cons_append, List.nil_append] at hx) <;> (try simp only [loA, loB, tpA, ooA, msA, vwA, vwB, lyB, scA]) <;> omega) ?_, fun l hl => ?_, vw_fr vw y F (fun x hx => by (try unfold lq_ at hx) <;> (try unfold pq_ at hx) <;> (try unfold cq_ at hx) <;> (simp only [List.mem_cons, List.not_mem_nil, or_false, false_or, List.cons_append, List.nil_append] at hx) <;> (try simp only [loA, loB, tpA, ooA, msA, vwA, vwB, lyB, scA]) <;> omega) (fun x hx => by (try unfold lq_ at hx) <;> (try unfold pq_ at hx) <;> (try unfold cq_ at hx) <;> (simp only [List.mem_cons, List.not_mem_nil, or_false, false_or, List.cons_append, List.nil_append] at hx) <;> (try simp only [loA, loB, tpA, ooA, msA, vwA, vwB, lyB, scA]) <;> omega)⟩
        · rw [sI_n (by omega), sI_n (by omega), sI_s, va_up_s]
        · rw [sI_s, va_up_s]
        · rw [sI_n (by omega), sI_n (by omega), sI_n (by omega)]
          exact rb_fr n4 F y.2.1.2.2.1 (by (try unfold lq_) <;> (try unfold pq_) <;> (try unfold cq_) <;> (simp only [List.mem_cons, List.not_mem_nil, or_false, false_or, not_false_eq_true, List.cons_append, List.nil_append]) <;> omega)
        · rw [sI_s, va_up_n _ _ _ (by decide), sI_s, va_up_n _ _ _ (by decide), sI_n (by omega)]
        · rw [sI_s, va_up_n _ _ _ (by decide), sI_s, va_up_n _ _ _ (by decide), sI_n (by omega)]
        · obtain ⟨N, TS, H, kn, q⟩ := lo l hl
          exact ⟨N, TS, H, kn, lo_fr q hl y F (fun x hx => by (try unfold lq_ at hx) <;> (try unfold pq_ at hx) <;> (try unfold cq_ at hx) <;> (simp only [List.mem_cons, List.not_mem_nil, or_false, false_or, List.cons_append, List.nil_append] at hx) <;> (try simp only [loA, loB, tpA, ooA, msA, vwA, vwB, lyB, scA]) <;> omega) (fun x hx => by (try unfold lq_ at hx) <;> (try unfold pq_ at hx) <;> (try unfold cq_ at hx) <;> (simp only [List.mem_cons, List.not_mem_nil, or_false, false_or, List.cons_append, List.nil_append] at hx) <;> (try simp only [loA, loB, tpA, ooA, msA, vwA, vwB, lyB, scA]) <;> omega)⟩
    · refine ⟨0, S, gsI S (z + 45) 0 0, ?_, M.1, ?_, in_m0 h0⟩
      · rw [if_neg (nI_ge (by omega) j1)]
      · rw [e_pI M.1, e_bs, if_neg c0, e_gI (S := gsI S (z + 45) 0 0) M.1, e_bs, sI_s, va_up_n _ _ _ (by decide), n3, if_neg (nI_ge (by omega) j1)]
theorem o_outs {z : Nat} {S : gS} (h : in_ z S) : ∃ r S1 S2, f_X7_outs S z = some (r, S1) ∧ gK S1 (z + 45) = 8 ∧ f_X8_outs S1 (z + 45) = some (r, S2) ∧ in_ z S2 := by
  have h0 := h
  obtain ⟨y, tp, oo, ms, lo, vw⟩ := h
  obtain ⟨n, n1, n2, n3, n4⟩ := oo
  have M := ly_md y
  refine ⟨nI n, S, gsI S (z + 45) 0 0, ?_, M.1, ?_, in_m0 h0⟩
  · unfold f_X7_outs
    rw [e_gR y.1.1, e_bs, y.1.2.2.1, e_gI y.2.2.1.1, e_bs, n2]
  · unfold f_X8_outs
    rw [e_pI M.1, e_bs, e_gI (S := gsI S (z + 45) 0 0) M.1, e_bs, sI_s, va_up_n _ _ _ (by decide), n3]
theorem o_out {z : Nat} {S : gS} {v : Int32} (h : in_ z S) : ∃ r S1 S2, f_X7_out S z v = some (r, S1) ∧ gK S1 (z + 45) = 8 ∧ f_X8_out S1 (z + 45) v = some (r, S2) ∧ in_ z S2 := by
  have h0 := h
  obtain ⟨y, tp, oo, ms, lo, vw⟩ := h
  obtain ⟨n, n1, n2, n3, n4⟩ := oo
  have M := ly_md y
  unfold f_X7_out f_X8_out f_X5_byteAt
  rw [e_gR y.1.1, e_bs, y.1.2.2.1, e_dc y.2.2.1.1]
  by_cases c0 : v < 0
  · exact ⟨-1, S, gsI S (z + 45) 0 0, by rw [if_pos c0, e_bi], M.1, by rw [e_pI M.1, e_bs, if_pos c0], in_m0 h0⟩
  · obtain ⟨j, j1, rfl⟩ := nI_of c0
    rw [if_neg c0, e_gI y.2.2.1.1, e_bs, n2]
    by_cases c1 : j < n
    · refine ⟨gI S (z + 47) j, S, gsI S (z + 45) 0 0, ?_, M.1, ?_, in_m0 h0⟩
      · rw [if_pos (nI_lt c1 (by omega)), e_gR y.2.2.1.1, e_bs, y.2.2.1.2.1, e_I y.2.2.1.2.2.1 y.2.2.1.2.2.2 (by omega), e_bs, e_bi, rb_and n4 (by omega)]
      · rw [e_pI M.1, e_bs, if_neg c0, e_gI (S := gsI S (z + 45) 0 0) M.1, e_bs, sI_s, va_up_n _ _ _ (by decide), n3, if_pos (nI_lt c1 (by omega)), e_gR (S := gsI S (z + 45) 0 0) M.1, e_bs, sI_R, md_r M 3 2, e_I (S := gsI S (z + 45) 0 0) (md_k M 2 10 2400) (md_n M 2 10 2400) (by omega), e_bs, sI_n (by omega)]
    · refine ⟨-1, S, gsI S (z + 45) 0 0, ?_, M.1, ?_, in_m0 h0⟩
      · rw [if_neg (nI_nlt (by omega) j1), e_bi]
      · rw [e_pI M.1, e_bs, if_neg c0, e_gI (S := gsI S (z + 45) 0 0) M.1, e_bs, sI_s, va_up_n _ _ _ (by decide), n3, if_neg (nI_nlt (by omega) j1)]
