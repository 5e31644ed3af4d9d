/-! the class's logs -/
def lg_R : List (Nat × Nat) := [(0, 1), (1, 4), (3, 5), (5, 6), (7, 7), (9, 8), (10, 9)]
def lg_A : List (Nat × Nat × Nat) := [(1, 4, 4), (2, 10, 8), (3, 10, 64), (4, 9, 64), (5, 14, 200), (6, 14, 400), (7, 14, 40), (8, 9, 32), (9, 9, 80)]
def lg_L (S : gS) (b : Nat) : Prop := gK S b = 1 ∧ (∀ q ∈ lg_R, gR S b q.1 = some (b + q.2)) ∧ (∀ q ∈ lg_A, gK S (b + q.1) = q.2.1 ∧ gN S (b + q.1) = q.2.2) ∧ gR S (b + 1) 0 = some (b + 2) ∧ gR S (b + 1) 1 = some (b + 3)
theorem lg_r {S : gS} {b : Nat} (h : lg_L S b) (k o : Nat) (hq : (k, o) ∈ lg_R := by decide) : gR S b k = some (b + o) := h.2.1 (k, o) hq
theorem lg_k {S : gS} {b : Nat} (h : lg_L S b) (o k n : Nat) (hq : (o, k, n) ∈ lg_A := by decide) : gK S (b + o) = k := (h.2.2.1 (o, k, n) hq).1
theorem lg_n {S : gS} {b : Nat} (h : lg_L S b) (o k n : Nat) (hq : (o, k, n) ∈ lg_A := by decide) : gN S (b + o) = n := (h.2.2.1 (o, k, n) hq).2
theorem lg_sh {S : gS} {b : Nat} (h : lg_L S b) : sh_L S (b + 1) (b + 2) (b + 3) := ⟨⟨lg_k h 1 4 4, h.2.2.2.1, h.2.2.2.2⟩, ⟨lg_k h 2 10 8, lg_n h 2 10 8⟩, ⟨lg_k h 3 10 64, lg_n h 3 10 64⟩, by omega, by omega, by omega⟩
theorem lg_fr {A B : List Nat} {S S' : gS} {b : Nat} (h : lg_L S b) (f : fr_S A B S S') (hB : b ∉ B) (hB1 : b + 1 ∉ B) : lg_L S' b := by
  have h0 := h
  obtain ⟨h1, h2, h3, h4, h5⟩ := h
  refine ⟨fr_K f h1, fun q hq => by rw [fr_R f h1 hB]; exact h2 q hq, fun q hq => ?_, by rw [fr_R f (lg_k h0 1 4 4) hB1]; exact h4, by rw [fr_R f (lg_k h0 1 4 4) hB1]; exact h5⟩
  have hk : q.2.1 < 16 := by
    have : ∀ q ∈ lg_A, q.2.1 < 16 := by decide
    exact this q hq
  exact ⟨fr_K f (h3 q hq).1 hk, by rw [fr_N f (h3 q hq).1 hk]; exact (h3 q hq).2⟩
/-- the frame of what a log does with digests -/
def lq_ (b : Nat) : List Nat := [b + 1, b + 2, b + 3, b + 8]
theorem lq_n {b x : Nat} (h : x ≠ b + 1 ∧ x ≠ b + 2 ∧ x ≠ b + 3 ∧ x ≠ b + 8) : x ∉ lq_ b := by
  unfold lq_
  simp only [List.mem_cons, List.not_mem_nil, or_false]
  omega
theorem lq_L {S S' : gS} {b : Nat} {A : List Nat} (h : lg_L S b) (f : fr_S A [] S S') : lg_L S' b := lg_fr h f (by simp) (by simp)
theorem s_nd_c {A B A' B' : Nat → Int32} (h1 : ∀ i, i < 8 → A i = A' i) (h2 : ∀ i, i < 8 → B i = B' i) {i : Nat} (hi : i < 8) : s_nd A B i = s_nd A' B' i := by
  refine s_dg_c (fun j hj => ?_) hi
  unfold s_nm
  by_cases c : j = 0
  · rw [if_pos c, if_pos c]
  · rw [if_neg c, if_neg c]
    by_cases c2 : j < 33
    · rw [if_pos c2, if_pos c2, d_by_c h1 (by omega)]
    · rw [if_neg c2, if_neg c2, d_by_c h2 (by omega)]
theorem s_rt_c {lf lf' : Nat → Nat → Int32} : ∀ n a, (∀ i, a ≤ i → i < a + n → ∀ q, q < 8 → lf i q = lf' i q) → ∀ q, q < 8 → s_rt lf a n q = s_rt lf' a n q := by
  intro n
  induction n using Nat.strongRecOn with
  | ind n ih =>
    intro a h q hq
    by_cases c : n = 0
    · subst c; rw [s_rt0, s_rt0]
    · by_cases c1 : n = 1
      · subst c1; rw [s_rt1, s_rt1]; exact h a (by omega) (by omega) q hq
      · obtain ⟨b1, b2, b3⟩ := s_fr_b (n := n) (by omega)
        rw [s_rt2 lf a (n := n) (by omega), s_rt2 lf' a (n := n) (by omega)]
        exact s_nd_c (ih _ b2 a (fun i h1 h2 => h i h1 (by omega))) (ih _ (by omega) _ (fun i h1 h2 => h i (by omega) (by omega))) hq
theorem dg_c {S : gS} {r p : Nat} {W W' : Nat → Int32} (h : dg_at S r p W) (e : ∀ i, i < 8 → W i = W' i) : dg_at S r p W' := fun j hj => by rw [h j hj, d_by_c e hj]
theorem dg_fr {A B : List Nat} {S S' : gS} {r p : Nat} {W : Nat → Int32} (h : dg_at S r p W) (F : fr_S A B S S') (hk : gK S r = 9) (hA : r ∉ A) : dg_at S' r p W := fun j hj => by rw [fr_I F hk hA]; exact h j hj
/-! full parts -/
def fu_P (zz : Nat) (S : gS) (b : Nat) (lf : Nat → Nat → Int32) (P : Nat → Nat → Prop) : Prop := ∀ k a, 2 ^ k ∣ a → P k a → ∃ r, gR S (b + 6) (2 * a + 2 ^ k - 1) = some r ∧ rw_at zz S r 32 (fun j => sb_ (d_by (s_rt lf a (2 ^ k)) j))
def fu_I (zz : Nat) (S : gS) (b : Nat) (lf : Nat → Nat → Int32) (N : Nat) : Prop := fu_P zz S b lf (fun k a => a + 2 ^ k ≤ N)
theorem fu_fr {zz : Nat} {A B : List Nat} {S S' : gS} {b : Nat} {lf : Nat → Nat → Int32} {P : Nat → Nat → Prop} (h : fu_P zz S b lf P) (hL : lg_L S b) (F : fr_S A B S S') (hA : ∀ x ∈ A, x < zz) (hB : ∀ x ∈ B, x < zz) (h6 : b + 6 ∉ B) : fu_P zz S' b lf P := by
  intro k a h1 h2
  obtain ⟨r, h3, h4⟩ := h k a h1 h2
  exact ⟨r, by rw [fr_R F (lg_k hL 6 14 400) h6]; exact h3, rw_fr h4 F hA hB⟩
theorem fu_c {zz : Nat} {S : gS} {b : Nat} {lf lf' : Nat → Nat → Int32} {N : Nat} {P : Nat → Nat → Prop} (h : fu_P zz S b lf P) (hP : ∀ k a, P k a → a + 2 ^ k ≤ N) (e : ∀ i, i < N → ∀ q, q < 8 → lf i q = lf' i q) : fu_P zz S b lf' P := by
  intro k a h1 h2
  obtain ⟨r, h3, h4⟩ := h k a h1 h2
  have := hP k a h2
  exact ⟨r, h3, rw_c h4 fun j hj => by rw [d_by_c (s_rt_c (2 ^ k) a (fun i g1 g2 => e i (by omega))) hj]⟩
theorem slot_inj {k k' a a' : Nat} (h : 2 ^ k ∣ a) (h' : 2 ^ k' ∣ a') (e : 2 * a + 2 ^ k = 2 * a' + 2 ^ k') : k = k' ∧ a = a' := by
  have key : ∀ {k k' a a' : Nat}, 2 ^ k ∣ a → 2 ^ k' ∣ a' → 2 * a + 2 ^ k = 2 * a' + 2 ^ k' → k < k' → False := by
    intro k k' a a' h h' e hlt
    obtain ⟨x, rfl⟩ := h
    obtain ⟨y, rfl⟩ := h'
    obtain ⟨d, rfl⟩ : ∃ d, k' = k + 1 + d := ⟨k' - k - 1, by omega⟩
    have e2 : 2 ^ (k + 1 + d) = 2 ^ k * (2 * 2 ^ d) := by rw [Nat.pow_add, Nat.pow_succ, Nat.mul_assoc]
    rw [e2] at e
    have e3 : 2 ^ k * (2 * x + 1) = 2 ^ k * (2 * (2 * 2 ^ d * y) + 2 * 2 ^ d) := by
      have a1 : 2 ^ k * (2 * x + 1) = 2 * (2 ^ k * x) + 2 ^ k := by rw [Nat.mul_add, Nat.mul_one, Nat.mul_left_comm]
      have a2 : 2 ^ k * (2 * (2 * 2 ^ d * y) + 2 * 2 ^ d) = 2 * (2 ^ k * (2 * 2 ^ d) * y) + 2 ^ k * (2 * 2 ^ d) := by rw [Nat.mul_add, Nat.mul_left_comm, Nat.mul_assoc (2 ^ k) (2 * 2 ^ d) y]
      rw [a1, a2]; exact e
    have := Nat.eq_of_mul_eq_mul_left (Nat.two_pow_pos k) e3
    omega
  rcases Nat.lt_trichotomy k k' with c | c | c
  · exact (key h h' e c).elim
  · subst c; exact ⟨rfl, by omega⟩
  · exact (key h' h e.symm c).elim
theorem p_fullOf {zz : Nat} {S : gS} {b a k N : Nat} {lf : Nat → Nat → Int32} {P : Nat → Nat → Prop} (hL : lg_L S b) (h : fu_P zz S b lf P) (hd : 2 ^ k ∣ a) (hP : P k a) (hN : a + 2 ^ k ≤ N) (hN2 : N ≤ 200) : ∃ bb, f_X1_fullOf S b (nI a) (nI (a + 2 ^ k)) = some (some bb, S) ∧ gK S bb = 9 ∧ gN S bb = 32 ∧ zz ≤ bb ∧ dg_at S bb 0 (s_rt lf a (2 ^ k)) := by
  obtain ⟨r, h3, h1, h2, bb, h4, h5, h6, h7, h8⟩ := h k a hd hP
  have hp := Nat.two_pow_pos k
  refine ⟨bb, ?_, h6, h7, h5, fun j hj => by rw [Nat.zero_add]; exact h8 j hj⟩
  unfold f_X1_fullOf
  rw [nI_add, show nI (a + (a + 2 ^ k)) - 1 = nI (2 * a + 2 ^ k - 1) from by rw [show (1 : Int32) = nI 1 from rfl, pk_sub (by omega)]; congr 1; omega, e_let, if_neg (nI_pos (by omega)), e_gR hL.1, e_bs, lg_r hL 5 6, e_N (by rw [lg_k hL 6 14 400]; decide), e_bs, lg_n hL 6 14 400, if_pos (nI_lt (by omega) (by decide)), e_bs, e_R (lg_k hL 6 14 400) (lg_n hL 6 14 400) (by omega), e_bs, h3, e_nl, e_gR h1, e_bs, h4]
theorem p_keepFull {zz : Nat} {S : gS} {b a w : Nat} (hL : lg_L S b) (wf : wf_S S) (hz : zz ≤ gZ S) (hw : 0 < w) (hs : 2 * a + w ≤ 400) : ∃ S', f_X1_keepFull S b (nI a) (nI (a + w)) = some S' ∧ fr_S [] [b + 6] S S' ∧ gR S' (b + 6) = va_up (gR S (b + 6)) (2 * a + w - 1) (some (gZ S)) ∧ rw_at zz S' (gZ S) 32 (gI S (b + 8)) ∧ zz ≤ gZ S' := by
  obtain ⟨S1, e1, f1, r1, z1⟩ := p_new (zz := zz) (src := b + 8) (n := 32) wf hz (lg_k hL 8 9 32) (by rw [lg_n hL 8 9 32]; decide) (by rw [lg_n hL 8 9 32]; decide) (by decide)
  have L1 := lq_L hL f1
  have Z6 : b + 6 < gZ S := wf _ (by rw [lg_k hL 6 14 400]; decide)
  have q0 : gR (gnw S 3 1) b = gR S b := fr_R (A := []) (B := []) (fr_n wf) hL.1 (by simp)
  refine ⟨gsR S1 (b + 6) (2 * a + w - 1) (some (gZ S)), ?_, ?_, ?_, ?_, z1⟩
  · unfold f_X1_keepFull
    rw [nI_add, show nI (a + (a + w)) - 1 = nI (2 * a + w - 1) from by rw [show (1 : Int32) = nI 1 from rfl, pk_sub (by omega)]; congr 1; omega, e_let, if_neg (nI_pos (by omega)), e_gR hL.1, e_bs, lg_r hL 5 6, e_N (by rw [lg_k hL 6 14 400]; decide), e_bs, lg_n hL 6 14 400, if_neg (nI_ge (by omega) (by decide)), e_bs, e_let, e_let, e_gR (fr_K (A := []) (B := []) (fr_n wf) hL.1), e_bs, q0, lg_r hL 9 8, show (32 : Int32) = nI 32 from rfl, e1, e_bs, e_aR (lg_k L1 6 14 400) (lg_n L1 6 14 400) (by omega) r1.1, e_bs]
  · exact fr_tr (fr_mo f1 (by simp) (by simp)) (fr_r (by simp))
  · rw [sR_s, fr_R f1 (lg_k hL 6 14 400) (by simp)]
  · obtain ⟨g1, g2, bb, g3, g4⟩ := r1
    refine ⟨g1, g2, bb, ?_, g4⟩
    rw [sR_n (by omega)]; exact g3
theorem p_join {zz : Nat} {b N : Nat} {lf : Nat → Nat → Int32} (hb : b + 9 < zz) (hN : 0 < N) (hN2 : N ≤ 200) (fu : Nat) : ∀ d k, k + d = 8 → 2 ^ k ∣ N → ∀ S, lg_L S b → wf_S S → zz ≤ gZ S → fu_P zz S b lf (fun j a => a + 2 ^ j ≤ N ∧ (a + 2 ^ j < N ∨ j ≤ k)) → ∃ S', f_X1_joinFulls_L2 (fu + d + 1) S (2 * k) (121 * k) b (nI N) (nI (2 ^ k)) = some S' ∧ fr_S (lq_ b) [b + 6] S S' ∧ fu_I zz S' b lf N ∧ zz ≤ gZ S' := by
  intro d
  induction d with
  | zero =>
    intro k hk hd
    have : k = 8 := by omega
    subst this
    have := Nat.le_of_dvd hN hd
    omega
  | succ d ih =>
    intro k hk hd S hL wf hz h
    have hk7 : k ≤ 7 := by omega
    have hp := Nat.two_pow_pos k
    have hle := Nat.le_of_dvd hN hd
    have hpk : 2 ^ k < 200 := by
      have : 2 ^ k ≤ 2 ^ 7 := Nat.pow_le_pow_right (by decide) hk7
      omega
    have e2 : (2 : Int32) * nI (2 ^ k) - 1 = nI (2 ^ (k + 1) - 1) := by
      rw [show (2 : Int32) = nI 2 from rfl, pk_mul, show (1 : Int32) = nI 1 from rfl, pk_sub (by omega), Nat.pow_succ, Nat.mul_comm]
    have e3 : nI N &&& nI (2 ^ (k + 1) - 1) = nI (N % 2 ^ (k + 1)) := pk_andN (by omega) (k + 1) (pk_tn (by rw [Nat.pow_succ]; omega))
    rw [show fu + (d + 1) + 1 = (fu + d + 1) + 1 by omega, f_X1_joinFulls_L2, e_gd (by omega), if_neg (show ¬ (200 : Int32) ≤ nI (2 ^ k) from nI_ge (b := 200) hpk (by decide)), e2, e3]
    by_cases c : N % 2 ^ (k + 1) = 0
    · have hd1 : 2 ^ (k + 1) ∣ N := Nat.dvd_of_mod_eq_zero c
      have hle1 := Nat.le_of_dvd hN hd1
      have hps : 2 ^ (k + 1) = 2 * 2 ^ k := by rw [Nat.pow_succ, Nat.mul_comm]
      have hdA : 2 ^ (k + 1) ∣ N - 2 ^ (k + 1) := Nat.dvd_sub hd1 (Nat.dvd_refl _)
      have hdB : 2 ^ k ∣ N - 2 ^ k := Nat.dvd_sub hd (Nat.dvd_refl _)
      have hdA' : 2 ^ k ∣ N - 2 ^ (k + 1) := Nat.dvd_trans ⟨2, by rw [hps, Nat.mul_comm]⟩ hdA
      obtain ⟨b1, f1, k1, n1, z1, g1⟩ := p_fullOf (k := k) (a := N - 2 ^ (k + 1)) (N := N) hL h hdA' ⟨by omega, by omega⟩ (by omega) hN2
      obtain ⟨b2, f2, k2, n2, z2, g2⟩ := p_fullOf (k := k) (a := N - 2 ^ k) (N := N) hL h hdB ⟨by omega, by omega⟩ (by omega) hN2
      rw [show N - 2 ^ (k + 1) + 2 ^ k = N - 2 ^ k by omega] at f1
      rw [show N - 2 ^ k + 2 ^ k = N by omega] at f2
      obtain ⟨S1, e1, F1, i1⟩ := p_node (r3 := b + 8) (lg_sh hL) k1 (by omega) (by omega) k2 (by omega) (by omega) (lg_k hL 8 9 32) (by rw [lg_n hL 8 9 32]; decide) (by rw [lg_n hL 8 9 32]; decide) g1 g2
      have F1' : fr_S (lq_ b) [] S S1 := F1
      have L1 := lq_L hL F1
      have wf1 := F1.1 wf
      have hz1 : zz ≤ gZ S1 := by
        have := wf1 b2 (by rw [fr_K F1 k2]; decide)
        omega
      obtain ⟨S2, e4, F2, R2, r2, z2'⟩ := p_keepFull (zz := zz) (a := N - 2 ^ (k + 1)) (w := 2 ^ (k + 1)) L1 wf1 hz1 (by omega) (by omega)
      rw [show N - 2 ^ (k + 1) + 2 ^ (k + 1) = N by omega] at e4
      have L2 := lg_fr L1 F2 (by simp) (by simp)
      have hbA : ∀ x ∈ lq_ b, x < zz := fun x hx => by unfold lq_ at hx; simp only [List.mem_cons, List.not_mem_nil, or_false] at hx; omega
      have h1 := fu_fr h hL F1' hbA (by simp) (by simp)
      obtain ⟨S3, e5, F3, i3, z3⟩ := ih (k + 1) (by omega) hd1 S2 L2 (F2.1 wf1) z2' (by
        intro j a hja hP
        by_cases cj : j = k + 1 ∧ a = N - 2 ^ (k + 1)
        · obtain ⟨rfl, rfl⟩ := cj
          refine ⟨gZ S1, by rw [R2, va_up_s], rw_c r2 fun q hq => ?_⟩
          rw [i1 q, if_pos hq]
          have hfr : s_fr (2 ^ (k + 1)) = 2 ^ k := s_fr_u (by omega) (by omega)
          rw [s_rt2 lf _ (n := 2 ^ (k + 1)) (by omega), hfr, show N - 2 ^ (k + 1) + 2 ^ k = N - 2 ^ k by omega, show 2 ^ (k + 1) - 2 ^ k = 2 ^ k by omega]
        · have hPk : a + 2 ^ j < N ∨ j ≤ k := by
            rcases hP.2 with q | q
            · exact Or.inl q
            · by_cases ce : j = k + 1
              · subst ce
                exact Or.inl (by have := hP.1; omega)
              · exact Or.inr (by omega)
          obtain ⟨r, g3, g4⟩ := h1 j a hja ⟨hP.1, hPk⟩
          refine ⟨r, ?_, rw_fr g4 F2 (by simp) (fun x hx => by simp only [List.mem_cons, List.not_mem_nil, or_false] at hx; omega)⟩
          rw [R2, va_up_n, g3]
          intro e
          have hj := Nat.two_pow_pos j
          exact cj (slot_inj hja hdA (by omega)))
      refine ⟨S3, ?_, fr_tr (fr_mo F1' (fun _ q => q) (by simp)) (fr_tr (fr_mo F2 (by simp) (fun _ q => q)) F3), i3, z3⟩
      rw [c, if_pos (show nI 0 = (0 : Int32) from rfl), pk_sub (by omega), e_let, pk_sub (by omega), e_let, show N - 2 ^ k - 2 ^ k = N - 2 ^ (k + 1) by omega, e_gR hL.1, e_bs, lg_r hL 0 1, e_dc hL.1, f1, e_bi, e_dc hL.1, f2, e_bi, e_gR hL.1, e_bs, lg_r hL 9 8, e_dc (lg_k hL 1 4 4), show (0 : Int32) = nI 0 from rfl, e1, e_bs, e_dc L1.1, e_gd (by omega), e4, e_bs, e_let, show nI (2 ^ k) * 2 = nI (2 ^ (k + 1)) from pk_mul _ 2]
      exact e5
    · refine ⟨S, by rw [if_neg (by rw [show (0 : Int32) = nI 0 from rfl, nI_eq (by omega) (by decide)]; exact c)], fr_refl _ _ _, ?_, hz⟩
      intro j a hja hP
      refine h j a hja ⟨hP, ?_⟩
      by_cases cl : a + 2 ^ j < N
      · exact Or.inl cl
      · right
        have e : a + 2 ^ j = N := by omega
        by_cases cj : j ≤ k
        · exact cj
        · exfalso
          apply c
          apply Nat.mod_eq_zero_of_dvd
          refine Nat.dvd_trans (Nat.pow_dvd_pow 2 (show k + 1 ≤ j by omega)) ?_
          rw [← e]
          exact Nat.dvd_add hja (Nat.dvd_refl _)
