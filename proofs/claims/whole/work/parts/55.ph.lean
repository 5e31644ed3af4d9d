/-! descents -/
def ds_ (c : Nat → Nat → Bool) (n : Nat) : Nat → Nat × Nat
  | 0 => (0, n)
  | t + 1 => if c (ds_ c n t).1 (ds_ c n t).2 then ((ds_ c n t).1, s_fr (ds_ c n t).2) else ((ds_ c n t).1 + s_fr (ds_ c n t).2, (ds_ c n t).2 - s_fr (ds_ c n t).2)
def sd_ (c : Nat → Nat → Bool) (n t : Nat) : Nat := if c (ds_ c n t).1 (ds_ c n t).2 then 0 else 1
def pp_ (c : Nat → Nat → Bool) (n t : Nat) : Nat × Nat := if c (ds_ c n t).1 (ds_ c n t).2 then ((ds_ c n t).1 + s_fr (ds_ c n t).2, (ds_ c n t).2 - s_fr (ds_ c n t).2) else ((ds_ c n t).1, s_fr (ds_ c n t).2)
def ev_ (c : Nat → Nat → Bool) (n : Nat) : Nat → Nat
  | 0 => 0
  | t + 1 => if c (ds_ c n t).1 (ds_ c n t).2 then ev_ c n t else 1
def cl_ (i s k : Nat) : Bool := decide (i < s + s_fr k)
def cs_ (m s k : Nat) : Bool := decide (m ≤ s + s_fr k)
theorem ev_01 (c : Nat → Nat → Bool) (n : Nat) : ∀ t, ev_ c n t = 0 ∨ ev_ c n t = 1
  | 0 => Or.inl rfl
  | t + 1 => by
    show (if _ then _ else _) = 0 ∨ (if _ then _ else _) = 1
    by_cases h : c (ds_ c n t).1 (ds_ c n t).2 = true
    · rw [if_pos h]; exact ev_01 c n t
    · rw [if_neg h]; exact Or.inr rfl
theorem fr_pow {k e : Nat} (h2 : 2 ≤ k) (h : k ≤ 2 ^ e) : 1 ≤ e ∧ s_fr k ≤ 2 ^ (e - 1) := by
  obtain ⟨b1, b2, b3⟩ := s_fr_b h2
  have he : 1 ≤ e := by
    cases e with
    | zero => simp at h; omega
    | succ e => omega
  have hl := l2_lt (k := e) (show 0 < k - 1 by omega) (by omega)
  exact ⟨he, Nat.pow_le_pow_right (by decide) (by omega)⟩
theorem ds_b {c : Nat → Nat → Bool} {n e : Nat} (hn : 1 ≤ n) (he : n ≤ 2 ^ e) : ∀ t, (∀ t', t' < t → 2 ≤ (ds_ c n t').2) → 1 ≤ (ds_ c n t).2 ∧ (ds_ c n t).1 + (ds_ c n t).2 ≤ n ∧ t ≤ e ∧ (ds_ c n t).2 ≤ 2 ^ (e - t) ∧ al_ (ds_ c n t).1 (ds_ c n t).2
  | 0, _ => ⟨hn, by show 0 + n ≤ n; omega, by omega, he, al_0 n⟩
  | t + 1, h => by
    obtain ⟨h1, h2, h3, h4, h5⟩ := ds_b hn he t (fun t' ht => h t' (by omega))
    have hk := h t (by omega)
    obtain ⟨b1, b2, b3⟩ := s_fr_b hk
    obtain ⟨p1, p2⟩ := fr_pow hk h4
    rw [show e - t - 1 = e - (t + 1) by omega] at p2
    show 1 ≤ (if _ then _ else _ : Nat × Nat).2 ∧ (if _ then _ else _ : Nat × Nat).1 + (if _ then _ else _ : Nat × Nat).2 ≤ n ∧ _ ∧ (if _ then _ else _ : Nat × Nat).2 ≤ _ ∧ al_ (if _ then _ else _ : Nat × Nat).1 (if _ then _ else _ : Nat × Nat).2
    by_cases hc : c (ds_ c n t).1 (ds_ c n t).2 = true
    · simp only [if_pos hc]
      exact ⟨b1, by omega, by omega, p2, al_l h5 hk⟩
    · simp only [if_neg hc]
      exact ⟨by omega, by omega, by omega, by omega, al_r h5 hk⟩
theorem pp_b {c : Nat → Nat → Bool} {n e t : Nat} (hn : 1 ≤ n) (he : n ≤ 2 ^ e) (h : ∀ t', t' ≤ t → 2 ≤ (ds_ c n t').2) : 1 ≤ (pp_ c n t).2 ∧ (pp_ c n t).1 + (pp_ c n t).2 ≤ n ∧ t + 1 ≤ e ∧ (pp_ c n t).2 ≤ 2 ^ (e - (t + 1)) ∧ al_ (pp_ c n t).1 (pp_ c n t).2 := by
  obtain ⟨h1, h2, h3, h4, h5⟩ := ds_b (c := c) hn he t (fun t' ht => h t' (by omega))
  have hk := h t (by omega)
  obtain ⟨b1, b2, b3⟩ := s_fr_b hk
  obtain ⟨p1, p2⟩ := fr_pow hk h4
  rw [show e - t - 1 = e - (t + 1) by omega] at p2
  unfold pp_
  by_cases hc : c (ds_ c n t).1 (ds_ c n t).2 = true
  · simp only [if_pos hc]
    exact ⟨by omega, by omega, by omega, by omega, al_r h5 hk⟩
  · simp only [if_neg hc]
    exact ⟨b1, by omega, by omega, p2, al_l h5 hk⟩
/-! the class's path -/
def pt_L (S : gS) (p : Nat) : Prop := (gK S p = 2 ∧ gR S p 0 = some (p + 1) ∧ gR S p 1 = some (p + 2) ∧ gR S p 2 = some (p + 3)) ∧ (gK S (p + 1) = 11 ∧ gN S (p + 1) = 64) ∧ (gK S (p + 2) = 11 ∧ gN S (p + 2) = 64) ∧ gK S (p + 3) = 12 ∧ gN S (p + 3) = 64
theorem pt_fr {A B : List Nat} {S S' : gS} {p : Nat} (h : pt_L S p) (F : fr_S A B S S') (hB : p ∉ B) : pt_L S' p := by
  obtain ⟨⟨h1, h2, h3, h4⟩, ⟨h5, h6⟩, ⟨h7, h8⟩, h9, h10⟩ := h
  exact ⟨⟨fr_K F h1, by rw [fr_R F h1 hB]; exact h2, by rw [fr_R F h1 hB]; exact h3, by rw [fr_R F h1 hB]; exact h4⟩, ⟨fr_K F h5, by rw [fr_N F h5]; exact h6⟩, ⟨fr_K F h7, by rw [fr_N F h7]; exact h8⟩, fr_K F h9, by rw [fr_N F h9]; exact h10⟩
def pt_I (S : gS) (p : Nat) (c : Nat → Nat → Bool) (n T e : Nat) : Prop := gI S p 3 = nI T ∧ gL S p 4 = lN (ds_ c n T).1 ∧ gL S p 5 = lN ((ds_ c n T).1 + (ds_ c n T).2) ∧ gI S p 6 = nI e ∧ ∀ t, t < T → gL S (p + 1) t = lN (pp_ c n t).1 ∧ gL S (p + 2) t = lN ((pp_ c n t).1 + (pp_ c n t).2) ∧ gI S (p + 3) t = nI (sd_ c n t)
theorem lshl1 (a : Nat) : lN a <<< ((1 : Int32).toInt64 &&& 63) = lN (2 * a) := by
  apply i64_bv
  show BitVec.ofNat 64 a <<< 1 = BitVec.ofNat 64 (2 * a)
  apply BitVec.eq_of_toNat_eq
  rw [BitVec.toNat_shiftLeft, BitVec.toNat_ofNat, BitVec.toNat_ofNat, Nat.shiftLeft_eq]
  omega
theorem p_frontL {S : gS} {k : Nat} (hk : k < 2 ^ 63) (fu : Nat) : ∀ d i, i + d = 62 → 2 ^ i < k → f_X2_frontOf_L5 (fu + d + 1) S (lN k) (lN (2 ^ i)) (nI i) = some (lN (s_fr k), S)
  | 0, i, hi, h => by
    have : i = 62 := by omega
    subst this
    rw [f_X2_frontOf_L5, if_pos (show (62 : Int32) ≤ nI 62 from by decide), s_fr_u h (by omega)]
  | d + 1, i, hi, h => by
    have hp := Nat.two_pow_pos i
    rw [show fu + (d + 1) + 1 = (fu + d + 1) + 1 by omega, f_X2_frontOf_L5, if_neg (show ¬ (62 : Int32) ≤ nI i from nI_ge (b := 62) (by omega) (by decide)), lN_sub (by omega)]
    by_cases c : k ≤ 2 ^ (i + 1)
    · rw [if_pos ((lg_cmp_ge _ _).mpr ((pk_lLE (by omega) (by omega)).mpr (by rw [Nat.pow_succ] at c; omega))), s_fr_u h c]
    · rw [if_neg (fun q => c (by have := (pk_lLE (by omega) (by omega)).mp ((lg_cmp_ge _ _).mp q); rw [Nat.pow_succ]; omega)), e_let, e_let, lshl1, nI_1, show 2 * 2 ^ i = 2 ^ (i + 1) by rw [Nat.pow_succ, Nat.mul_comm]]
      exact p_frontL hk fu d (i + 1) (by omega) (by omega)
theorem p_front {S : gS} {k : Nat} (h2 : 2 ≤ k) (hk : k < 2 ^ 63) : f_X2_frontOf S (lN k) = some (lN (s_fr k), S) := by
  obtain ⟨fu, hf⟩ := g_fu 62
  unfold f_X2_frontOf
  rw [hf, show 62 + fu + 1 = fu + 62 + 1 by omega]
  exact p_frontL hk fu 62 0 (by omega) (by omega)
theorem p_note {S : gS} {p t w : Nat} {v1 v3 : Int64} (hL : pt_L S p) (ht : t < 64) (h3 : gI S p 3 = nI t) (hw : w < 2) : f_X2_note S p v1 v3 (nI w) = some (gsI (gsI (gsL (gsL S (p + 1) t v1) (p + 2) t v3) (p + 3) t (nI w)) p 3 (nI (t + 1))) := by
  obtain ⟨⟨k1, k2, k3, k4⟩, ⟨k5, k6⟩, ⟨k7, k8⟩, k9, k10⟩ := hL
  have hw1 : nI w &&& 1 = nI w := by
    obtain rfl | rfl : w = 0 ∨ w = 1 := by omega
    · decide
    · decide
  unfold f_X2_note
  rw [e_gI k1, e_bs, h3, if_pos (show nI t < (64 : Int32) from nI_lt (b := 64) ht (by decide)), e_gR k1, e_bs, k2, e_bs, e_aL k5 k6 ht, e_bs, e_gR (S := gsL S (p + 1) t v1) k1, e_bs, sL_R, k3, e_gI (S := gsL S (p + 1) t v1) k1, e_bs, sL_I, h3, e_aL (S := gsL S (p + 1) t v1) k7 k8 ht, e_bs, e_gR (S := gsL (gsL S (p + 1) t v1) (p + 2) t v3) k1, e_bs, sL_R, sL_R, k4, e_gI (S := gsL (gsL S (p + 1) t v1) (p + 2) t v3) k1, e_bs, sL_I, sL_I, h3, e_aZ (S := gsL (gsL S (p + 1) t v1) (p + 2) t v3) k9 k10 ht, e_bs, hw1, e_gI (S := gsI (gsL (gsL S (p + 1) t v1) (p + 2) t v3) (p + 3) t (nI w)) k1, e_bs, sI_n (by omega), sL_I, sL_I, h3, nI_1, e_pI (S := gsI (gsL (gsL S (p + 1) t v1) (p + 2) t v3) (p + 3) t (nI w)) k1, e_bs]
def pq_ (p : Nat) : List Nat := [p, p + 1, p + 2, p + 3]
theorem p_passBack {S : gS} {p n t e : Nat} {c : Nat → Nat → Bool} (hL : pt_L S p) (ht : t < 64) (h : pt_I S p c n t e) (hc : c (ds_ c n t).1 (ds_ c n t).2 = true) (hk : 2 ≤ (ds_ c n t).2) : ∃ S', f_X2_passBack S p (lN ((ds_ c n t).1 + s_fr (ds_ c n t).2)) = some S' ∧ fr_S (pq_ p) [] S S' ∧ pt_I S' p c n (t + 1) e := by
  obtain ⟨h3, h4, h5, h6, h7⟩ := h
  obtain ⟨b1, b2, b3⟩ := s_fr_b hk
  have e1 := p_note (w := 0) (v1 := lN ((ds_ c n t).1 + s_fr (ds_ c n t).2)) (v3 := lN ((ds_ c n t).1 + (ds_ c n t).2)) hL ht h3 (by decide)
  refine ⟨gsL (gsI (gsI (gsL (gsL S (p + 1) t (lN ((ds_ c n t).1 + s_fr (ds_ c n t).2))) (p + 2) t (lN ((ds_ c n t).1 + (ds_ c n t).2))) (p + 3) t (nI 0)) p 3 (nI (t + 1))) p 5 (lN ((ds_ c n t).1 + s_fr (ds_ c n t).2)), ?_, ?_, ?_, ?_, ?_, ?_, ?_⟩
  · unfold f_X2_passBack
    rw [e_gL hL.1.1, e_bs, h5, e_dc hL.1.1, show (0 : Int32) = nI 0 from rfl, e1, e_bs, e_pL, e_bs]
    exact hL.1.1
  · unfold pq_
    exact fr_tr (fr_tr (fr_tr (fr_tr (fr_l (by simp)) (fr_l (by simp))) (fr_i (by simp))) (fr_i (by simp))) (fr_l (by simp))
  · rw [sL_I, sI_s, va_up_s]
  · show _ = lN (if _ then _ else _ : Nat × Nat).1
    rw [if_pos hc, sL_s, va_up_n _ _ _ (by decide), sI_L, sI_L, sL_n (by omega), sL_n (by omega), h4]
  · show _ = lN ((if _ then _ else _ : Nat × Nat).1 + (if _ then _ else _ : Nat × Nat).2)
    rw [if_pos hc, sL_s, va_up_s]
  · rw [sL_I, sI_s, va_up_n _ _ _ (by decide), sI_n (by omega), sL_I, sL_I, h6]
  · intro t' ht'
    rw [sL_n (by omega), sI_L, sI_L, sL_n (by omega), sL_s, sL_n (show p + 2 ≠ p by omega), sI_L, sI_L, sL_s, sL_n (show p + 2 ≠ p + 1 by omega), sL_I, sI_n (by omega), sI_s, sL_I, sL_I, va_up_e, va_up_e, va_up_e]
    by_cases q : t' = t
    · subst q
      unfold pp_ sd_
      rw [if_pos hc, if_pos hc, if_pos rfl, if_pos rfl, if_pos rfl]
      exact ⟨rfl, by congr 1; show _ = (ds_ c n t').1 + s_fr (ds_ c n t').2 + ((ds_ c n t').2 - s_fr (ds_ c n t').2); omega, rfl⟩
    · rw [if_neg q, if_neg q, if_neg q]
      exact h7 t' (by omega)
theorem p_passFront {S : gS} {p n t e : Nat} {c : Nat → Nat → Bool} (hL : pt_L S p) (ht : t < 64) (h : pt_I S p c n t e) (hc : ¬ c (ds_ c n t).1 (ds_ c n t).2 = true) (hk : 2 ≤ (ds_ c n t).2) : ∃ S', f_X2_passFront S p (lN ((ds_ c n t).1 + s_fr (ds_ c n t).2)) = some S' ∧ fr_S (pq_ p) [] S S' ∧ pt_I S' p c n (t + 1) e := by
  obtain ⟨h3, h4, h5, h6, h7⟩ := h
  obtain ⟨b1, b2, b3⟩ := s_fr_b hk
  have e1 := p_note (w := 1) (v1 := lN (ds_ c n t).1) (v3 := lN ((ds_ c n t).1 + s_fr (ds_ c n t).2)) hL ht h3 (by decide)
  refine ⟨gsL (gsI (gsI (gsL (gsL S (p + 1) t (lN (ds_ c n t).1)) (p + 2) t (lN ((ds_ c n t).1 + s_fr (ds_ c n t).2))) (p + 3) t (nI 1)) p 3 (nI (t + 1))) p 4 (lN ((ds_ c n t).1 + s_fr (ds_ c n t).2)), ?_, ?_, ?_, ?_, ?_, ?_, ?_⟩
  · unfold f_X2_passFront
    rw [e_gL hL.1.1, e_bs, h4, e_dc hL.1.1, show (1 : Int32) = nI 1 from rfl, e1, e_bs, e_pL, e_bs]
    exact hL.1.1
  · unfold pq_
    exact fr_tr (fr_tr (fr_tr (fr_tr (fr_l (by simp)) (fr_l (by simp))) (fr_i (by simp))) (fr_i (by simp))) (fr_l (by simp))
  · rw [sL_I, sI_s, va_up_s]
  · show _ = lN (if _ then _ else _ : Nat × Nat).1
    rw [if_neg hc, sL_s, va_up_s]
  · show _ = lN ((if _ then _ else _ : Nat × Nat).1 + (if _ then _ else _ : Nat × Nat).2)
    rw [if_neg hc, sL_s, va_up_n _ _ _ (by decide), sI_L, sI_L, sL_n (by omega), sL_n (by omega), h5]
    congr 1
    show _ = (ds_ c n t).1 + s_fr (ds_ c n t).2 + ((ds_ c n t).2 - s_fr (ds_ c n t).2)
    omega
  · rw [sL_I, sI_s, va_up_n _ _ _ (by decide), sI_n (by omega), sL_I, sL_I, h6]
  · intro t' ht'
    rw [sL_n (by omega), sI_L, sI_L, sL_n (by omega), sL_s, sL_n (show p + 2 ≠ p by omega), sI_L, sI_L, sL_s, sL_n (show p + 2 ≠ p + 1 by omega), sL_I, sI_n (by omega), sI_s, sL_I, sL_I, va_up_e, va_up_e, va_up_e]
    by_cases q : t' = t
    · subst q
      unfold pp_ sd_
      rw [if_neg hc, if_neg hc, if_pos rfl, if_pos rfl, if_pos rfl]
      exact ⟨rfl, rfl, rfl⟩
    · rw [if_neg q, if_neg q, if_neg q]
      exact h7 t' (by omega)
theorem p_leafL {p i n : Nat} (hn : n < 2 ^ 63) (hi : i < n) (fu : Nat) : ∀ d t, t + d = 64 → (∀ t', t' < t → 2 ≤ (ds_ (cl_ i) n t').2) → ∀ S, pt_L S p → pt_I S p (cl_ i) n t 0 → ∃ T S', f_X2_goToLeaf_L8 (fu + d + 1) S p (lN i) (nI t) = some S' ∧ fr_S (pq_ p) [] S S' ∧ (∀ t', t' < T → 2 ≤ (ds_ (cl_ i) n t').2) ∧ (ds_ (cl_ i) n T).2 < 2 ∧ pt_I S' p (cl_ i) n T 0
  | 0, t, ht, hg, S, hL, h => by
    have := (ds_b (c := cl_ i) (e := 63) (by omega) (by omega) t hg).2.2.1
    omega
  | d + 1, t, ht, hg, S, hL, h => by
    obtain ⟨b1, b2, b3, b4, b5⟩ := ds_b (c := cl_ i) (e := 63) (by omega) (by omega) t hg
    rw [show fu + (d + 1) + 1 = (fu + d + 1) + 1 by omega, f_X2_goToLeaf_L8, if_neg (show ¬ (64 : Int32) ≤ nI t from nI_ge (b := 64) (by omega) (by decide)), e_gL hL.1.1, e_bs, e_gL hL.1.1, e_bs, h.2.2.1, h.2.1, lN_sub (by omega), show (ds_ (cl_ i) n t).1 + (ds_ (cl_ i) n t).2 - (ds_ (cl_ i) n t).1 = (ds_ (cl_ i) n t).2 by omega, show (1 : Int64) = lN 1 from rfl]
    by_cases c2 : (ds_ (cl_ i) n t).2 < 2
    · exact ⟨t, S, by rw [if_pos ((lg_cmp_le _ _).mpr (show lN _ ≤ lN 1 from (pk_lLE (by omega) (by decide)).mpr (by omega)))], fr_refl _ _ _, hg, c2, h⟩
    · have hk : 2 ≤ (ds_ (cl_ i) n t).2 := by omega
      obtain ⟨f1, f2, f3⟩ := s_fr_b hk
      have hg' : ∀ t', t' < t + 1 → 2 ≤ (ds_ (cl_ i) n t').2 := fun t' ht' => by
        by_cases e : t' = t
        · rw [e]; exact hk
        · exact hg t' (by omega)
      rw [if_neg (fun q => by have := (pk_lLE (by omega) (by decide)).mp (show lN _ ≤ lN 1 from (lg_cmp_le _ _).mp q); omega), e_bs, e_bs, e_bs, lN_sub (by omega), show (ds_ (cl_ i) n t).1 + (ds_ (cl_ i) n t).2 - (ds_ (cl_ i) n t).1 = (ds_ (cl_ i) n t).2 by omega, p_front hk (by omega), e_bi, lN_add, e_let]
      by_cases c : cl_ i (ds_ (cl_ i) n t).1 (ds_ (cl_ i) n t).2 = true
      · have c' : i < (ds_ (cl_ i) n t).1 + s_fr (ds_ (cl_ i) n t).2 := of_decide_eq_true c
        obtain ⟨S1, e1, g1, i1⟩ := p_passBack hL (by omega) h c hk
        obtain ⟨T, S2, e2, g2, i2⟩ := p_leafL hn hi fu d (t + 1) (by omega) hg' S1 (pt_fr hL g1 (by simp)) i1
        refine ⟨T, S2, ?_, fr_tr g1 g2, i2⟩
        rw [if_neg (fun q => by have := (pk_lLE (by omega) (by omega)).mp ((lg_cmp_ge _ _).mp q); omega), e_dc hL.1.1, e1, e_bs, e_let, nI_1]
        exact e2
      · have c' : ¬ i < (ds_ (cl_ i) n t).1 + s_fr (ds_ (cl_ i) n t).2 := fun q => c (decide_eq_true q)
        obtain ⟨S1, e1, g1, i1⟩ := p_passFront hL (by omega) h c hk
        obtain ⟨T, S2, e2, g2, i2⟩ := p_leafL hn hi fu d (t + 1) (by omega) hg' S1 (pt_fr hL g1 (by simp)) i1
        refine ⟨T, S2, ?_, fr_tr g1 g2, i2⟩
        rw [if_pos ((lg_cmp_ge _ _).mpr ((pk_lLE (by omega) (by omega)).mpr (by omega))), e_dc hL.1.1, e1, e_bs, e_let, nI_1]
        exact e2
theorem p_pbegin {S : gS} {p n : Nat} {c : Nat → Nat → Bool} (hL : pt_L S p) : ∃ S', f_X2_begin S p (lN n) = some S' ∧ fr_S (pq_ p) [] S S' ∧ pt_I S' p c n 0 0 := by
  have k1 := hL.1.1
  refine ⟨gsI (gsL (gsL (gsI S p 3 0) p 4 0) p 5 (lN n)) p 6 0, ?_, ?_, ?_, ?_, ?_, ?_, fun t ht => by omega⟩
  · unfold f_X2_begin
    rw [e_pI k1, e_bs, e_pL (S := gsI S p 3 0) k1, e_bs, e_pL (S := gsL (gsI S p 3 0) p 4 0) k1, e_bs, e_pZ (S := gsL (gsL (gsI S p 3 0) p 4 0) p 5 (lN n)) k1 (Or.inl rfl), e_bs]
  · unfold pq_
    exact fr_tr (fr_tr (fr_tr (fr_i (by simp)) (fr_l (by simp))) (fr_l (by simp))) (fr_i (by simp))
  · rw [sI_s, va_up_n _ _ _ (by decide), sL_I, sL_I, sI_s, va_up_s]; rfl
  · rw [sI_L, sL_s, va_up_n _ _ _ (by decide), sL_s, va_up_s]; rfl
  · rw [sI_L, sL_s, va_up_s]
    show lN n = lN (0 + n)
    rw [Nat.zero_add]
  · rw [sI_s, va_up_s]; rfl
theorem p_goToLeaf {S : gS} {p i n : Nat} (hL : pt_L S p) (hn : n < 2 ^ 63) (hi : i < n) : ∃ T S', f_X2_goToLeaf S p (lN i) (lN n) = some S' ∧ fr_S (pq_ p) [] S S' ∧ (∀ t', t' < T → 2 ≤ (ds_ (cl_ i) n t').2) ∧ (ds_ (cl_ i) n T).2 < 2 ∧ pt_I S' p (cl_ i) n T 0 := by
  obtain ⟨S1, e1, f1, i1⟩ := p_pbegin (n := n) (c := cl_ i) hL
  obtain ⟨fu, hf⟩ := g_fu 64
  obtain ⟨T, S2, e2, f2, r⟩ := p_leafL hn hi fu 64 0 (by omega) (fun t' ht => by omega) S1 (pt_fr hL f1 (by simp)) i1
  refine ⟨T, S2, ?_, fr_tr f1 f2, r⟩
  unfold f_X2_goToLeaf
  rw [e_dc hL.1.1, e1, e_bs, hf, show 64 + fu + 1 = fu + 64 + 1 by omega]
  exact e2
theorem ds_s {m n : Nat} (hm : 0 < m) (hmn : m ≤ n) : ∀ t, (∀ t', t' < t → m < (ds_ (cs_ m) n t').1 + (ds_ (cs_ m) n t').2) → (ds_ (cs_ m) n t).1 < m ∧ m ≤ (ds_ (cs_ m) n t).1 + (ds_ (cs_ m) n t).2 ∧ ∀ t', t' < t → 2 ≤ (ds_ (cs_ m) n t').2
  | 0, _ => ⟨hm, by show m ≤ 0 + n; omega, fun t' h => by omega⟩
  | t + 1, h => by
    obtain ⟨h1, h2, h3⟩ := ds_s hm hmn t (fun t' ht => h t' (by omega))
    have hk : 2 ≤ (ds_ (cs_ m) n t).2 := by have := h t (by omega); omega
    obtain ⟨b1, b2, b3⟩ := s_fr_b hk
    have h3' : ∀ t', t' < t + 1 → 2 ≤ (ds_ (cs_ m) n t').2 := fun t' ht' => by
      by_cases e : t' = t
      · rw [e]; exact hk
      · exact h3 t' (by omega)
    refine ⟨?_, ?_, h3'⟩
    · show (if _ then _ else _ : Nat × Nat).1 < m
      by_cases c : cs_ m (ds_ (cs_ m) n t).1 (ds_ (cs_ m) n t).2 = true
      · rw [if_pos c]; exact h1
      · rw [if_neg c]
        have : ¬ m ≤ (ds_ (cs_ m) n t).1 + s_fr (ds_ (cs_ m) n t).2 := fun q => c (decide_eq_true q)
        show (ds_ (cs_ m) n t).1 + s_fr (ds_ (cs_ m) n t).2 < m
        omega
    · show m ≤ (if _ then _ else _ : Nat × Nat).1 + (if _ then _ else _ : Nat × Nat).2
      by_cases c : cs_ m (ds_ (cs_ m) n t).1 (ds_ (cs_ m) n t).2 = true
      · rw [if_pos c]; exact of_decide_eq_true c
      · rw [if_neg c]
        show m ≤ (ds_ (cs_ m) n t).1 + s_fr (ds_ (cs_ m) n t).2 + ((ds_ (cs_ m) n t).2 - s_fr (ds_ (cs_ m) n t).2)
        omega
theorem p_sizeL {p m n : Nat} (hn : n < 2 ^ 63) (hm : 0 < m) (hmn : m ≤ n) (fu : Nat) : ∀ d t, t + d = 64 → (∀ t', t' < t → m < (ds_ (cs_ m) n t').1 + (ds_ (cs_ m) n t').2) → ∀ S, pt_L S p → pt_I S p (cs_ m) n t (ev_ (cs_ m) n t) → ∃ T S', f_X2_goToSize_L8 (fu + d + 1) S p (lN m) (nI t) = some S' ∧ fr_S (pq_ p) [] S S' ∧ (∀ t', t' < T → m < (ds_ (cs_ m) n t').1 + (ds_ (cs_ m) n t').2) ∧ (ds_ (cs_ m) n T).1 + (ds_ (cs_ m) n T).2 ≤ m ∧ pt_I S' p (cs_ m) n T (ev_ (cs_ m) n T)
  | 0, t, ht, hg, S, hL, h => by
    have := (ds_b (c := cs_ m) (e := 63) (by omega) (by omega) t (ds_s hm hmn t hg).2.2).2.2.1
    omega
  | d + 1, t, ht, hg, S, hL, h => by
    obtain ⟨s1, s2, s3⟩ := ds_s hm hmn t hg
    obtain ⟨b1, b2, b3, b4, b5⟩ := ds_b (c := cs_ m) (e := 63) (by omega) (by omega) t s3
    rw [show fu + (d + 1) + 1 = (fu + d + 1) + 1 by omega, f_X2_goToSize_L8, if_neg (show ¬ (64 : Int32) ≤ nI t from nI_ge (b := 64) (by omega) (by decide)), e_gL hL.1.1, e_bs, h.2.2.1]
    by_cases c2 : (ds_ (cs_ m) n t).1 + (ds_ (cs_ m) n t).2 ≤ m
    · exact ⟨t, S, by rw [if_pos ((lg_cmp_le _ _).mpr ((pk_lLE (by omega) (by omega)).mpr c2))], fr_refl _ _ _, hg, c2, h⟩
    · have hk : 2 ≤ (ds_ (cs_ m) n t).2 := by omega
      obtain ⟨f1, f2, f3⟩ := s_fr_b hk
      have hg' : ∀ t', t' < t + 1 → m < (ds_ (cs_ m) n t').1 + (ds_ (cs_ m) n t').2 := fun t' ht' => by
        by_cases e : t' = t
        · rw [e]; omega
        · exact hg t' (by omega)
      rw [if_neg (fun q => by have := (pk_lLE (by omega) (by omega)).mp ((lg_cmp_le _ _).mp q); omega), e_gL hL.1.1, e_bs, e_bs, e_bs, h.2.1, lN_sub (by omega), show (ds_ (cs_ m) n t).1 + (ds_ (cs_ m) n t).2 - (ds_ (cs_ m) n t).1 = (ds_ (cs_ m) n t).2 by omega, p_front hk (by omega), e_bi, lN_add, e_let]
      by_cases c : cs_ m (ds_ (cs_ m) n t).1 (ds_ (cs_ m) n t).2 = true
      · have c' : m ≤ (ds_ (cs_ m) n t).1 + s_fr (ds_ (cs_ m) n t).2 := of_decide_eq_true c
        obtain ⟨S1, e1, g1, i1⟩ := p_passBack hL (by omega) h c hk
        have he : ev_ (cs_ m) n (t + 1) = ev_ (cs_ m) n t := if_pos c
        obtain ⟨T, S2, e2, g2, i2⟩ := p_sizeL hn hm hmn fu d (t + 1) (by omega) hg' S1 (pt_fr hL g1 (by simp)) (by rw [he]; exact i1)
        refine ⟨T, S2, ?_, fr_tr g1 g2, i2⟩
        rw [if_neg (fun q => by have := (pk_lLT (by omega) (by omega)).mp ((lg_cmp_gt _ _).mp q); omega), e_dc hL.1.1, e1, e_bs, e_let, nI_1]
        exact e2
      · have c' : ¬ m ≤ (ds_ (cs_ m) n t).1 + s_fr (ds_ (cs_ m) n t).2 := fun q => c (decide_eq_true q)
        obtain ⟨S1, e1, g1, i1⟩ := p_passFront hL (by omega) h c hk
        have L1 := pt_fr hL g1 (by simp)
        have he : ev_ (cs_ m) n (t + 1) = 1 := if_neg c
        have g1' : fr_S (pq_ p) [] S (gsI S1 p 6 1) := fr_tr g1 (fr_i (by unfold pq_; simp))
        obtain ⟨j1, j2, j3, j4, j5⟩ := i1
        obtain ⟨T, S2, e2, g2, i2⟩ := p_sizeL hn hm hmn fu d (t + 1) (by omega) hg' (gsI S1 p 6 1) L1 (by
          rw [he]
          refine ⟨by rw [sI_s, va_up_n _ _ _ (by decide)]; exact j1, j2, j3, by rw [sI_s, va_up_s]; rfl, fun t' ht' => ?_⟩
          rw [sI_n (show p + 3 ≠ p by omega)]
          exact j5 t' ht')
        refine ⟨T, S2, ?_, fr_tr g1' g2, i2⟩
        rw [if_pos ((lg_cmp_gt _ _).mpr ((pk_lLT (by omega) (by omega)).mpr (by omega))), e_dc hL.1.1, e1, e_bs, e_pZ L1.1.1 (Or.inr rfl), e_bs, e_let, nI_1]
        exact e2
theorem p_goToSize {S : gS} {p m n : Nat} (hL : pt_L S p) (hn : n < 2 ^ 63) (hm : 0 < m) (hmn : m ≤ n) : ∃ T S', f_X2_goToSize S p (lN m) (lN n) = some S' ∧ fr_S (pq_ p) [] S S' ∧ (∀ t', t' < T → m < (ds_ (cs_ m) n t').1 + (ds_ (cs_ m) n t').2) ∧ (ds_ (cs_ m) n T).1 + (ds_ (cs_ m) n T).2 ≤ m ∧ pt_I S' p (cs_ m) n T (ev_ (cs_ m) n T) := by
  obtain ⟨S1, e1, f1, i1⟩ := p_pbegin (n := n) (c := cs_ m) hL
  obtain ⟨fu, hf⟩ := g_fu 64
  obtain ⟨T, S2, e2, f2, r⟩ := p_sizeL hn hm hmn fu 64 0 (by omega) (fun t' ht => by omega) S1 (pt_fr hL f1 (by simp)) i1
  refine ⟨T, S2, ?_, fr_tr f1 f2, r⟩
  unfold f_X2_goToSize
  rw [e_dc hL.1.1, e1, e_bs, hf, show 64 + fu + 1 = fu + 64 + 1 by omega]
  exact e2
