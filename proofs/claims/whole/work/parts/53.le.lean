/-! the class's keys, entries and heads -/
def rb_ (S : gS) (r n : Nat) (T : Nat → Int32) : Prop := ∀ j, j < n → gI S r j = sb_ (T j) ∧ bt_ (T j)
theorem rb_and {S : gS} {r n : Nat} {T : Nat → Int32} (h : rb_ S r n T) {j : Nat} (hj : j < n) : gI S r j &&& 255 = T j := by
  rw [(h j hj).1, sb_and]; exact (h j hj).2
theorem rb_fr {A B : List Nat} {S S' : gS} {r n : Nat} {T : Nat → Int32} (h : rb_ S r n T) (F : fr_S A B S S') (hk : gK S r = 9) (hA : r ∉ A) : rb_ S' r n T := fun j hj => by rw [fr_I F hk hA]; exact h j hj
theorem rb_dg {S : gS} {r n p : Nat} {T : Nat → Int32} (h : rb_ S r n T) (hp : p + 32 ≤ n) : dg_at S r p (w_at T p) := fun j hj => by
  rw [(h _ (by omega)).1, by_w (fun k hk => (h _ (by omega)).2) hj]
theorem p_fillL {r N : Nat} {g : Nat → Int32} (hN : N < 1000000) (fu : Nat) : ∀ d i, i + d = N → ∀ S, gK S r = 9 → gN S r = N → (∀ j, gI S r j = if j < i then 0 else g j) → f_J7_fill_031fb_L5 (fu + d + 1) S (some r) 0 (nI i) (nI N) = some (gsA S r fun j => if j < N then 0 else g j)
  | 0, i, hi, S, hk, hn, h => by
    have : i = N := by omega
    subst this
    have : gI S r = fun j => if j < i then 0 else g j := funext h
    rw [f_J7_fill_031fb_L5, if_pos (nI_le (Nat.le_refl _) (by omega)), ← this, sA_i]
  | d + 1, i, hi, S, hk, hn, h => by
    rw [show fu + (d + 1) + 1 = (fu + d + 1) + 1 by omega, f_J7_fill_031fb_L5, if_neg (nI_ge (by omega) (by omega)), e_aB hk hn (by omega) (by omega), e_bs, e_let, nI_1]
    have := p_fillL (g := g) hN fu d (i + 1) (by omega) (gsI S r i (0 : Int32).toInt8.toInt32) hk hn (fun j => by
      rw [sI_s, va_up_e, h j]
      by_cases e : j = i
      · rw [if_pos e, if_pos (by omega)]; rfl
      · rw [if_neg e]
        by_cases e2 : j < i
        · rw [if_pos e2, if_pos (by omega)]
        · rw [if_neg e2, if_neg (by omega)])
    rw [show gsA (gsI S r i (0 : Int32).toInt8.toInt32) r (fun j => if j < N then 0 else g j) = gsA S r (fun j => if j < N then 0 else g j) by rw [sI_A, sA_A]] at this
    exact this
theorem p_takeKey {S : gS} {b r n : Nat} {key : Nat → Int32} (hL : lg_L S b) (hr : gK S r = 9) (hn : n ≤ 100) (hN : 100 ≤ gN S r) (hN2 : gN S r < 2 ^ 31) (hr4 : r ≠ b + 4) (hk : rb_ S r n key) : ∃ S', f_X1_takeKey S b (some r) (nI n) = some S' ∧ fr_S [b, b + 1, b + 2, b + 3, b + 4] [] S S' ∧ (∀ j, j < 64 → gI S' (b + 4) j = sb_ (s_kb key n j)) ∧ gI S' b 2 = nI n ∧ ∀ k, k ≠ 2 → gI S' b k = gI S b k := by
  obtain ⟨fu, hf⟩ := g_fu 64
  have E1 : f_J7_fill_031fb S (some (b + 4)) 0 = some (gsA S (b + 4) fun j => if j < 64 then 0 else gI S (b + 4) j) := by
    unfold f_J7_fill_031fb
    rw [e_N (by rw [lg_k hL 4 9 64]; decide), e_bs, lg_n hL 4 9 64, hf, show 64 + fu + 1 = fu + 64 + 1 by omega]
    exact p_fillL (by decide) fu 64 0 (by omega) S (lg_k hL 4 9 64) (lg_n hL 4 9 64) (fun j => by rw [if_neg (by omega)])
  have F1 : fr_S [b, b + 1, b + 2, b + 3, b + 4] [] S (gsA S (b + 4) fun j => if j < 64 then 0 else gI S (b + 4) j) := fr_A (by simp)
  have R1 : gI (gsA S (b + 4) fun j => if j < 64 then 0 else gI S (b + 4) j) (b + 4) = fun j => if j < 64 then 0 else gI S (b + 4) j := sA_s
  have R2 : gI (gsA S (b + 4) fun j => if j < 64 then 0 else gI S (b + 4) j) r = gI S r := sA_n hr4
  have R3 : gI (gsA S (b + 4) fun j => if j < 64 then 0 else gI S (b + 4) j) b = gI S b := sA_n (by omega)
  generalize hT : (gsA S (b + 4) fun j => if j < 64 then 0 else gI S (b + 4) j) = S1 at E1 F1 R1 R2 R3
  have L1 := lq_L hL F1
  have hr1 : gK S1 r = 9 := fr_K F1 hr
  have hN1 : gN S1 r = gN S r := fr_N F1 hr
  unfold f_X1_takeKey
  rw [e_gR hL.1, e_bs, lg_r hL 1 4, E1, e_bs]
  by_cases c : n ≤ 64
  · rw [if_pos (show nI n ≤ (64 : Int32) from nI_le (b := 64) c (by decide)), e_gR L1.1, e_bs, lg_r L1 1 4, show (0 : Int32) = nI 0 from rfl, p_copy hr1 (lg_k L1 4 9 64) (by omega) (by rw [lg_n L1 4 9 64]; omega) (by omega) (by rw [lg_n L1 4 9 64]; decide), e_bs, e_pI (S := gsA S1 (b + 4) _) L1.1, e_bs]
    refine ⟨_, rfl, fr_tr F1 (fr_tr (fr_A (by simp)) (fr_i (by simp))), fun j hj => ?_, ?_, fun k hk' => ?_⟩
    · rw [sI_n (by omega), sA_s, va_cpy_e, R1, R2]
      unfold s_kb
      rw [if_pos c]
      by_cases cj : j < n
      · rw [if_pos (by omega), if_pos cj, Nat.zero_add, Nat.sub_zero]; exact (hk j cj).1
      · rw [if_neg (by omega), if_neg cj]; exact if_pos hj
    · rw [sI_s, va_up_s]
    · rw [sI_s, va_up_n _ _ _ hk', sA_n (by omega), R3]
  · rw [if_neg (show ¬ nI n ≤ (64 : Int32) from nI_ge (a := 64) (by omega) (by omega))]
    obtain ⟨S2, e2, f2, i2⟩ := p_begin key (lg_sh L1)
    have L2 := lq_L L1 f2
    have hrA : r ∉ [b + 1, b + 2, b + 3] := by
      have h1 := k_ne hr1 (lg_k L1 1 4 4)
      have h2 := k_ne hr1 (lg_k L1 2 10 8)
      have h3 := k_ne hr1 (lg_k L1 3 10 64)
      simp [h1, h2, h3]
    obtain ⟨S3, e3, f3, i3⟩ := p_addRow (k := n) (p := 0) (n := 0) (lg_sh L2) (fr_K f2 hr1) (by rw [fr_N f2 hr1]; omega) (by rw [fr_N f2 hr1]; omega) (by omega) (fun j hj => by
      rw [fr_I f2 hr1 hrA, R2, Nat.zero_add]; exact rb_and hk hj) i2
    rw [Nat.zero_add] at i3
    have f23 := fr_tr f2 f3
    have L3 := lq_L L1 f23
    obtain ⟨S4, e4, f4, i4⟩ := p_finish (r := b + 4) (lg_sh L3) (lg_k L3 4 9 64) (by rw [lg_n L3 4 9 64]; decide) (by rw [lg_n L3 4 9 64]; decide) (by omega) i3
    have L4 := lq_L L3 f4
    have f24 : fr_S [b + 1, b + 2, b + 3, b + 4] [] S1 S4 := fr_tr (fr_mo f23 (by simp) (by simp)) f4
    rw [e_gR L1.1, e_bs, lg_r L1 0 1, e_dc (lg_k L1 1 4 4), e2, e_bs, e_gR L2.1, e_bs, lg_r L2 0 1, e_dc (lg_k L2 1 4 4), show (0 : Int32) = nI 0 from rfl, e3, e_bs, e_gR L3.1, e_bs, lg_r L3 0 1, e_gR L3.1, e_bs, lg_r L3 1 4, e_dc (lg_k L3 1 4 4), e4, e_bs, e_pI L4.1, e_bs]
    refine ⟨_, rfl, fr_tr F1 (fr_tr (fr_mo f24 (by simp) (by simp)) (fr_i (by simp))), fun j hj => ?_, ?_, fun k hk' => ?_⟩
    · rw [sI_n (by omega), i4]
      unfold s_kb
      rw [if_neg c]
      by_cases cj : j < 32
      · rw [if_pos cj, if_pos cj]
      · rw [if_neg cj, if_neg cj, fr_I f23 (lg_k L1 4 9 64) (by simp), R1]; exact if_pos hj
    · rw [sI_s, va_up_s]
    · rw [sI_s, va_up_n _ _ _ hk', fr_I f24 L1.1 (by simp), R3]
def er_I (zz : Nat) (S : gS) (b N : Nat) (kf : Nat → Nat) (ef : Nat → Nat → Int32) : Prop := ∀ i, i < N → kf i ≤ 120 ∧ (∀ j, j < kf i → bt_ (ef i j)) ∧ ∃ r, gR S (b + 5) i = some r ∧ rw_at zz S r (kf i) (fun j => sb_ (ef i j))
theorem p_numberOfL {zz : Nat} {S : gS} {b r n N : Nat} {T : Nat → Int32} {kf : Nat → Nat} {ef : Nat → Nat → Int32} (hL : lg_L S b) (hN : N ≤ 200) (h4 : gI S b 4 = nI N) (hr : gK S r = 9) (hn : n ≤ 120) (hrN : 120 ≤ gN S r) (hrN2 : gN S r < 2 ^ 31) (hT : rb_ S r n T) (he : er_I zz S b N kf ef) (fu : Nat) : ∀ d i, i + d = N → (∀ i', i' < i → ¬ (kf i' = n ∧ ∀ j, j < n → ef i' j = T j)) → ∃ x, f_X1_numberOf_L2 (fu + d + 1) S b (some r) (nI n) (nI i) = some (x, S) ∧ ((∃ i, i < N ∧ x = nI i ∧ (kf i = n ∧ ∀ j, j < n → ef i j = T j) ∧ ∀ i', i' < i → ¬ (kf i' = n ∧ ∀ j, j < n → ef i' j = T j)) ∨ (x = -1 ∧ ∀ i, i < N → ¬ (kf i = n ∧ ∀ j, j < n → ef i j = T j)))
  | 0, i, hi, h => by
    have : i = N := by omega
    subst this
    exact ⟨-1, by rw [f_X1_numberOf_L2, e_gI hL.1, e_bs, h4, if_pos (nI_le (Nat.le_refl _) (by omega))], Or.inr ⟨rfl, h⟩⟩
  | d + 1, i, hi, h => by
    obtain ⟨g1, g0, rr, g2, g3⟩ := he i (by omega)
    obtain ⟨q1, q2, bb, q3, q4, q5, q6, q7⟩ := g3
    rw [show fu + (d + 1) + 1 = (fu + d + 1) + 1 by omega, f_X1_numberOf_L2, e_gI hL.1, e_bs, h4, if_neg (nI_ge (by omega) (by omega)), if_neg (show ¬ (200 : Int32) ≤ nI i from nI_ge (b := 200) (by omega) (by decide)), e_gR hL.1, e_bs, lg_r hL 3 5, e_R (lg_k hL 5 14 200) (lg_n hL 5 14 200) (by omega), e_bs, g2, e_nl, e_gR q1, e_bs, q3, e_N (by omega), e_bs, q6]
    by_cases c : kf i = n
    · rw [if_pos (by rw [c]), e_bs]
      obtain ⟨x, s1, s2⟩ := p_same (S := S) (r1 := bb) (r2 := r) (p1 := 0) (p2 := 0) (n := n) q5 hr (by omega) (by omega) (by omega) hrN2 (by omega)
      have eq : (∀ j, j < n → gI S bb (0 + j) = gI S r (0 + j)) ↔ ∀ j, j < n → ef i j = T j := by
        constructor
        · intro q j hj
          have := q j hj
          rw [Nat.zero_add, q7 j (by omega), (hT j hj).1] at this
          exact (sb_inj (g0 j (by omega)) (hT j hj).2).mp this
        · intro q j hj
          rw [Nat.zero_add, q7 j (by omega), (hT j hj).1]
          show sb_ (ef i j) = _
          rw [q j hj]
      rw [eq] at s2
      rw [show (0 : Int32) = nI 0 from rfl, s1, e_bi]
      rcases s2 with ⟨rfl, s2⟩ | ⟨rfl, s2⟩
      · rw [if_neg (by decide)]
        exact ⟨nI i, rfl, Or.inl ⟨i, by omega, rfl, ⟨c, s2⟩, h⟩⟩
      · rw [if_pos (by decide), e_let, nI_1]
        refine p_numberOfL hL hN h4 hr hn hrN hrN2 hT he fu d (i + 1) (by omega) (fun i' hi' => ?_)
        by_cases e : i' = i
        · subst e; exact fun q => s2 q.2
        · exact h i' (by omega)
    · rw [if_neg (by rw [nI_eq (by omega) (by omega)]; exact c), e_let, nI_1]
      refine p_numberOfL hL hN h4 hr hn hrN hrN2 hT he fu d (i + 1) (by omega) (fun i' hi' => ?_)
      by_cases e : i' = i
      · subst e; exact fun q => c q.1
      · exact h i' (by omega)
theorem p_numberOf {zz : Nat} {S : gS} {b r n N : Nat} {T : Nat → Int32} {kf : Nat → Nat} {ef : Nat → Nat → Int32} (hL : lg_L S b) (hN : N ≤ 200) (h4 : gI S b 4 = nI N) (hr : gK S r = 9) (hn : n ≤ 120) (hrN : 120 ≤ gN S r) (hrN2 : gN S r < 2 ^ 31) (hT : rb_ S r n T) (he : er_I zz S b N kf ef) : ∃ x, f_X1_numberOf S b (some r) (nI n) = some (x, S) ∧ ((∃ i, i < N ∧ x = nI i ∧ (kf i = n ∧ ∀ j, j < n → ef i j = T j) ∧ ∀ i', i' < i → ¬ (kf i' = n ∧ ∀ j, j < n → ef i' j = T j)) ∨ (x = -1 ∧ ∀ i, i < N → ¬ (kf i = n ∧ ∀ j, j < n → ef i j = T j))) := by
  obtain ⟨fu, hf⟩ := g_fu N
  unfold f_X1_numberOf
  rw [hf, show N + fu + 1 = fu + N + 1 by omega]
  exact p_numberOfL hL hN h4 hr hn hrN hrN2 hT he fu N 0 (by omega) (fun i hi => by omega)
theorem p_leafAt {zz : Nat} {S : gS} {b i N : Nat} {lf : Nat → Nat → Int32} (hL : lg_L S b) (h : fu_I zz S b lf N) (hi : i < N) (hN2 : N ≤ 200) : ∃ bb, f_X1_leafAt S b (nI i) = some (some bb, S) ∧ gK S bb = 9 ∧ gN S bb = 32 ∧ zz ≤ bb ∧ dg_at S bb 0 (lf i) := by
  obtain ⟨bb, f1, k1, n1, z1, g1⟩ := p_fullOf (k := 0) (a := i) (N := N) hL h (by simp) (by omega) (by omega) hN2
  refine ⟨bb, ?_, k1, n1, z1, by rw [Nat.pow_zero, s_rt1] at g1; exact g1⟩
  unfold f_X1_leafAt
  rw [e_dc hL.1, nI_1, show i + 1 = i + 2 ^ 0 from rfl, f1, e_bi]
theorem p_nolL {zz : Nat} {S : gS} {b r TS N : Nat} {lf : Nat → Nat → Int32} {W : Nat → Int32} (hL : lg_L S b) (hTS : TS ≤ N) (hN : N ≤ 200) (h6 : gI S b 6 = nI TS) (hr : gK S r = 9) (hrN : 32 ≤ gN S r) (hrN2 : gN S r < 2 ^ 31) (hW : dg_at S r 0 W) (h : fu_I zz S b lf N) (fu : Nat) : ∀ d i, i + d = TS → (∀ i', i' < i → ¬ ∀ q, q < 8 → lf i' q = W q) → ∃ x, f_X1_numberOfLeaf_L2 (fu + d + 1) S b (some r) (nI i) = some (x, S) ∧ ((∃ i, i < TS ∧ x = nI i ∧ (∀ q, q < 8 → lf i q = W q) ∧ ∀ i', i' < i → ¬ ∀ q, q < 8 → lf i' q = W q) ∨ (x = -1 ∧ ∀ i, i < TS → ¬ ∀ q, q < 8 → lf i q = W q))
  | 0, i, hi, hh => by
    have : i = TS := by omega
    subst this
    exact ⟨-1, by rw [f_X1_numberOfLeaf_L2, e_gI hL.1, e_bs, h6, if_pos (nI_le (Nat.le_refl _) (by omega))], Or.inr ⟨rfl, hh⟩⟩
  | d + 1, i, hi, hh => by
    obtain ⟨bb, f1, k1, n1, z1, g1⟩ := p_leafAt hL h (show i < N by omega) hN
    obtain ⟨x, s1, s2⟩ := p_same (S := S) (r1 := bb) (r2 := r) (p1 := 0) (p2 := 0) (n := 32) k1 hr (by omega) (by omega) (by omega) hrN2 (by decide)
    rw [same_dg g1 hW] at s2
    rw [show fu + (d + 1) + 1 = (fu + d + 1) + 1 by omega, f_X1_numberOfLeaf_L2, e_gI hL.1, e_bs, h6, if_neg (nI_ge (by omega) (by omega)), e_dc hL.1, f1, e_bi, show (0 : Int32) = nI 0 from rfl, show (32 : Int32) = nI 32 from rfl, s1, e_bi]
    rcases s2 with ⟨rfl, s2⟩ | ⟨rfl, s2⟩
    · rw [if_neg (by decide)]
      exact ⟨nI i, rfl, Or.inl ⟨i, by omega, rfl, s2, hh⟩⟩
    · rw [if_pos (by decide), e_let, nI_1]
      refine p_nolL hL hTS hN h6 hr hrN hrN2 hW h fu d (i + 1) (by omega) (fun i' hi' => ?_)
      by_cases e : i' = i
      · subst e; exact s2
      · exact hh i' (by omega)
theorem p_nol {zz : Nat} {S : gS} {b r TS N : Nat} {lf : Nat → Nat → Int32} {W : Nat → Int32} (hL : lg_L S b) (hTS : TS ≤ N) (hN : N ≤ 200) (h6 : gI S b 6 = nI TS) (hr : gK S r = 9) (hrN : 32 ≤ gN S r) (hrN2 : gN S r < 2 ^ 31) (hW : dg_at S r 0 W) (h : fu_I zz S b lf N) : ∃ x, f_X1_numberOfLeaf S b (some r) = some (x, S) ∧ ((∃ i, i < TS ∧ x = nI i ∧ (∀ q, q < 8 → lf i q = W q) ∧ ∀ i', i' < i → ¬ ∀ q, q < 8 → lf i' q = W q) ∨ (x = -1 ∧ ∀ i, i < TS → ¬ ∀ q, q < 8 → lf i q = W q)) := by
  obtain ⟨fu, hf⟩ := g_fu TS
  unfold f_X1_numberOfLeaf
  rw [hf, show TS + fu + 1 = fu + TS + 1 by omega]
  exact p_nolL hL hTS hN h6 hr hrN hrN2 hW h fu TS 0 (by omega) (fun i hi => by omega)
theorem p_addEntry {zz : Nat} {S : gS} {b r n N : Nat} {lf : Nat → Nat → Int32} {E : Nat → Int32} (hb : b + 9 < zz) (hL : lg_L S b) (wf : wf_S S) (hz : zz ≤ gZ S) (hfu : fu_I zz S b lf N) (h4 : gI S b 4 = nI N) (hN : N < 200) (hr : gK S r = 9) (hn : n ≤ 120) (hrN : 120 ≤ gN S r) (hrN2 : gN S r < 2 ^ 31) (hr8 : r ≠ b + 8) (hE : ∀ j, j < n → gI S r j &&& 255 = E j) : ∃ S', f_X1_addEntry S b (some r) (nI n) = some (nI N, S') ∧ fr_S (b :: lq_ b) [b + 5, b + 6] S S' ∧ gI S' b 4 = nI (N + 1) ∧ (∀ k, k ≠ 4 → gI S' b k = gI S b k) ∧ (∃ rr, gR S' (b + 5) = va_up (gR S (b + 5)) N (some rr) ∧ rw_at zz S' rr n (gI S r)) ∧ fu_I zz S' b (fun i => if i = N then s_lf E n else lf i) (N + 1) ∧ zz ≤ gZ S' := by
  have hbA : ∀ x ∈ b :: lq_ b, x < zz := fun x hx => by unfold lq_ at hx; simp only [List.mem_cons, List.not_mem_nil, or_false] at hx; omega
  obtain ⟨S1, e1, f1, r1, z1⟩ := p_new (zz := zz) (src := r) (n := n) wf hz hr (by omega) hrN2 hn
  have L1 := lq_L hL f1
  have e2 : faR S1 14 3 (some (b + 5)) (nI N) (some (gZ S)) = some (gsR S1 (b + 5) N (some (gZ S))) := e_aR (lg_k L1 5 14 200) (lg_n L1 5 14 200) (by omega) r1.1
  have F2 : fr_S (b :: lq_ b) [b + 5, b + 6] S (gsI (gsR S1 (b + 5) N (some (gZ S))) b 4 (nI (N + 1))) := fr_tr (fr_tr (fr_mo f1 (by simp) (by simp)) (fr_r (by simp))) (fr_i (by simp))
  have I2 : gI (gsR S1 (b + 5) N (some (gZ S))) b = gI S b := by rw [sR_I, fr_I f1 hL.1 (by simp)]
  have K2 : gK (gsR S1 (b + 5) N (some (gZ S))) b = 1 := L1.1
  have I2' : gI (gsI (gsR S1 (b + 5) N (some (gZ S))) b 4 (nI (N + 1))) b = va_up (gI S b) 4 (nI (N + 1)) := by rw [sI_s, I2]
  have R5 : gR (gsI (gsR S1 (b + 5) N (some (gZ S))) b 4 (nI (N + 1))) (b + 5) = va_up (gR S (b + 5)) N (some (gZ S)) := by rw [sI_R, sR_s, fr_R f1 (lg_k hL 5 14 200) (by simp)]
  have rr2 : rw_at zz (gsI (gsR S1 (b + 5) N (some (gZ S))) b 4 (nI (N + 1))) (gZ S) n (gI S r) := rw_fr r1 (fr_tr (fr_r (A := [b]) (B := [b + 5]) (by simp)) (fr_i (by simp))) (fun x hx => by simp at hx; omega) (fun x hx => by simp at hx; omega)
  have Z2 : gZ (gsI (gsR S1 (b + 5) N (some (gZ S))) b 4 (nI (N + 1))) = gZ S1 := rfl
  have R6 : gR (gsI (gsR S1 (b + 5) N (some (gZ S))) b 4 (nI (N + 1))) (b + 6) = gR S (b + 6) := by rw [sI_R, sR_n (by omega), fr_R f1 (lg_k hL 6 14 400) (by simp)]
  have hfu2 : fu_I zz (gsI (gsR S1 (b + 5) N (some (gZ S))) b 4 (nI (N + 1))) b lf N := fu_fr hfu hL (A := [b]) (B := [b + 5]) (fr_tr (fr_tr (fr_mo f1 (by simp) (by simp)) (fr_r (by simp))) (fr_i (by simp))) (fun x hx => by simp at hx; omega) (fun x hx => by simp at hx; omega) (by simp)
  have e3 : fpI (gsR S1 (b + 5) N (some (gZ S))) 1 4 (some b) (gI (gsR S1 (b + 5) N (some (gZ S))) b 4 + 1) = some (gsI (gsR S1 (b + 5) N (some (gZ S))) b 4 (nI (N + 1))) := by rw [e_pI K2, I2, h4, nI_1]
  generalize gsI (gsR S1 (b + 5) N (some (gZ S))) b 4 (nI (N + 1)) = S2 at *
  have L2 : lg_L S2 b := lg_fr hL F2 (by simp) (by simp)
  have wf2 := F2.1 wf
  have hr2 : gK S2 r = 9 := fr_K F2 hr
  have hrA : r ∉ b :: lq_ b := by
    have h0 := k_ne hr hL.1
    have h1 := k_ne hr (lg_k hL 1 4 4)
    have h2 := k_ne hr (lg_k hL 2 10 8)
    have h3 := k_ne hr (lg_k hL 3 10 64)
    unfold lq_
    simp [h0, h1, h2, h3, hr8]
  have hrB : r ∉ [b + 1, b + 2, b + 3] := by
    have h1 := k_ne hr (lg_k hL 1 4 4)
    have h2 := k_ne hr (lg_k hL 2 10 8)
    have h3 := k_ne hr (lg_k hL 3 10 64)
    simp [h1, h2, h3]
  have mo : ∀ x ∈ [b + 1, b + 2, b + 3], x ∈ lq_ b := by unfold lq_; simp
  obtain ⟨S3, e4, f3, i3⟩ := p_begin (s_lm E) (lg_sh L2)
  have L3 := lq_L L2 f3
  obtain ⟨S4, e5, f4', i4⟩ := p_add (b := 0) (lg_sh L3) i3 (by rfl)
  have f4 := fr_tr f3 f4'
  have L4 := lq_L L2 f4
  obtain ⟨S5, e6, f5', i5⟩ := p_addRow (k := n) (p := 0) (n := 0 + 1) (lg_sh L4) (fr_K f4 hr2) (by rw [fr_N f4 hr2, fr_N F2 hr]; omega) (by rw [fr_N f4 hr2, fr_N F2 hr]; omega) (by omega) (fun j hj => by
    rw [fr_I f4 hr2 hrB, fr_I F2 hr hrA, Nat.zero_add, hE j hj]
    unfold s_lm
    rw [if_neg (by omega), show 0 + 1 + j - 1 = j by omega]) i4
  have f5 := fr_tr f4 f5'
  have L5 := lq_L L2 f5
  rw [show 0 + 1 + n = n + 1 by omega] at i5
  obtain ⟨S6, e7, f6', i6⟩ := p_finish (r := b + 8) (lg_sh L5) (lg_k L5 8 9 32) (by rw [lg_n L5 8 9 32]; decide) (by rw [lg_n L5 8 9 32]; decide) (by omega) i5
  have f6 : fr_S (lq_ b) [] S2 S6 := fr_tr (fr_mo f5 mo (by simp)) f6'
  have L6 := lq_L L2 f6
  have I6 : gI S6 b = va_up (gI S b) 4 (nI (N + 1)) := by rw [fr_I f6 L2.1 (lq_n (by omega))]; exact I2'
  have wf6 := f6.1 wf2
  have hz6 : zz ≤ gZ S6 := by
    obtain ⟨-, q2, bb, -, q3, q4, -⟩ := rr2
    have := wf6 bb (by rw [fr_K f6 q4]; decide)
    omega
  obtain ⟨S7, e8, F7, R7, rr7, z7⟩ := p_keepFull (zz := zz) (a := N) (w := 1) L6 wf6 hz6 (by decide) (by omega)
  have L7 := lg_fr L6 F7 (by simp) (by simp)
  have I7 : gI S7 b = va_up (gI S b) 4 (nI (N + 1)) := by rw [fr_I F7 L6.1 (by simp)]; exact I6
  obtain ⟨fu, hf⟩ := g_fu 8
  have hlq : ∀ x ∈ lq_ b, x < zz := fun x hx => hbA x (List.mem_cons_of_mem _ hx)
  have hfu6 := fu_fr hfu2 L2 f6 hlq (by simp) (by simp)
  obtain ⟨S8, e9, F8, i8, z8⟩ := p_join (lf := fun i => if i = N then s_lf E n else lf i) (N := N + 1) hb (by omega) (by omega) fu 8 0 (by omega) (by simp) S7 L7 (F7.1 wf6) z7 (by
    intro j a hja hP
    by_cases cj : a + 2 ^ j ≤ N
    · obtain ⟨q, q1, q2⟩ := hfu6 j a hja cj
      refine ⟨q, ?_, rw_fr (rw_c q2 fun j' hj' => ?_) F7 (by simp) (fun x hx => by simp at hx; omega)⟩
      · rw [R7, va_up_n, q1]
        have := Nat.two_pow_pos j
        omega
      · rw [d_by_c (s_rt_c (lf' := fun i => if i = N then s_lf E n else lf i) (2 ^ j) a (fun i g1 g2 q' hq' => by rw [if_neg (show ¬ i = N by omega)])) hj']
    · have hj0 : j = 0 := by rcases hP.2 with q | q <;> omega
      subst hj0
      have ha : a = N := by have := hP.1; rw [Nat.pow_zero] at this cj; omega
      subst ha
      refine ⟨gZ S6, by rw [R7, Nat.pow_zero, va_up_s], rw_c rr7 fun j' hj' => ?_⟩
      rw [i6, if_pos hj', Nat.pow_zero, s_rt1, if_pos rfl]
      rfl)
  refine ⟨S8, ?_, ?_, ?_, fun k hk => ?_, ⟨gZ S, ?_, ?_⟩, i8, z8⟩
  · unfold f_X1_addEntry
    rw [e_gI hL.1, e_bs, h4, if_pos (show nI N < (200 : Int32) from nI_lt (b := 200) hN (by decide)), e_bs, e_gR hL.1, e_bs, lg_r hL 3 5, e_let, e_let, e1, e_bs, e2, e_bs, e_gI K2, e_bs, e3, e_bs, e_gR L2.1, e_bs, lg_r L2 0 1, e_dc (lg_k L2 1 4 4), e4, e_bs, e_gR L3.1, e_bs, lg_r L3 0 1, e_dc (lg_k L3 1 4 4), e5, e_bs, e_gR L4.1, e_bs, lg_r L4 0 1, e_dc (lg_k L4 1 4 4), show (0 : Int32) = nI 0 from rfl, e6, e_bs, e_gR L5.1, e_bs, lg_r L5 0 1, e_gR L5.1, e_bs, lg_r L5 9 8, e_dc (lg_k L5 1 4 4), e7, e_bs, e_gI L6.1, e_bs, I6, va_up_s, e_dc L6.1, e8, e_bs, e_gI L7.1, e_bs, I7, va_up_s, e_dc L7.1]
    unfold f_X1_joinFulls
    rw [hf, show 8 + fu + 1 = fu + 8 + 1 by omega, show (1 : Int32) = nI (2 ^ 0) from rfl]
    rw [show 2 * 0 = 0 from rfl] at e9
    rw [e9, e_bs]
  · refine fr_tr F2 (fr_tr (fr_mo f6 (fun x hx => List.mem_cons_of_mem _ hx) (by simp)) (fr_tr (fr_mo F7 (by simp) (by simp)) (fr_mo F8 (fun x hx => List.mem_cons_of_mem _ hx) (by simp))))
  · rw [fr_I F8 L7.1 (lq_n (by omega)), I7, va_up_s]
  · rw [fr_I F8 L7.1 (lq_n (by omega)), I7, va_up_n _ _ _ hk]
  · rw [fr_R F8 (lg_k L7 5 14 200) (by simp), fr_R F7 (lg_k L6 5 14 200) (by simp), fr_R f6 (lg_k L2 5 14 200) (by simp), R5]
  · exact rw_fr (rw_fr (rw_fr rr2 f6 hlq (by simp)) F7 (by simp) (fun x hx => by simp at hx; omega)) F8 hlq (fun x hx => by simp at hx; omega)
