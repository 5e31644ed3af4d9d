/-! the reference's descents -/
def sm_I (S : gS) (m : Nat) (c : Nat → Nat → Bool) (n T : Nat) : Prop := gI S m 23 = nI T ∧ ∀ t, t < T → gI S (m + 19) t = nI (sd_ c n t)
theorem ds_l {i n : Nat} (hi : i < n) : ∀ t, (∀ t', t' < t → 2 ≤ (ds_ (cl_ i) n t').2) → (ds_ (cl_ i) n t).1 ≤ i ∧ i < (ds_ (cl_ i) n t).1 + (ds_ (cl_ i) n t).2
  | 0, _ => ⟨by show 0 ≤ i; omega, by show i < 0 + n; omega⟩
  | t + 1, h => by
    obtain ⟨h1, h2⟩ := ds_l hi t (fun t' ht => h t' (by omega))
    obtain ⟨b1, b2, b3⟩ := s_fr_b (h t (by omega))
    show (if _ then _ else _ : Nat × Nat).1 ≤ i ∧ i < (if _ then _ else _ : Nat × Nat).1 + (if _ then _ else _ : Nat × Nat).2
    by_cases c : cl_ i (ds_ (cl_ i) n t).1 (ds_ (cl_ i) n t).2 = true
    · rw [if_pos c]; exact ⟨h1, of_decide_eq_true c⟩
    · rw [if_neg c]
      have : ¬ i < (ds_ (cl_ i) n t).1 + s_fr (ds_ (cl_ i) n t).2 := fun q => c (decide_eq_true q)
      show (ds_ (cl_ i) n t).1 + s_fr (ds_ (cl_ i) n t).2 ≤ i ∧ i < (ds_ (cl_ i) n t).1 + s_fr (ds_ (cl_ i) n t).2 + ((ds_ (cl_ i) n t).2 - s_fr (ds_ (cl_ i) n t).2)
      omega
theorem ds_t {c : Nat → Nat → Bool} {n t : Nat} (h : c (ds_ c n t).1 (ds_ c n t).2 = true) : ds_ c n (t + 1) = ((ds_ c n t).1, s_fr (ds_ c n t).2) := if_pos h
theorem ds_f {c : Nat → Nat → Bool} {n t : Nat} (h : ¬ c (ds_ c n t).1 (ds_ c n t).2 = true) : ds_ c n (t + 1) = ((ds_ c n t).1 + s_fr (ds_ c n t).2, (ds_ c n t).2 - s_fr (ds_ c n t).2) := if_neg h
theorem p8_chainL {m i n : Nat} (hn : n < 2 ^ 63) (hi : i < n) (fu : Nat) : ∀ d t, t + d = 64 → (∀ t', t' < t → 2 ≤ (ds_ (cl_ i) n t').2) → ∀ S, md_L S m → sm_I S m (cl_ i) n t → ∃ T S', f_X8_chainOf_L11 (fu + d + 1) S m (lN (i - (ds_ (cl_ i) n t).1)) (lN (ds_ (cl_ i) n t).2) = some S' ∧ fr_S [m, m + 19] [] S S' ∧ (∀ k, k ≠ 23 → gI S' m k = gI S m k) ∧ (∀ t', t' < T → 2 ≤ (ds_ (cl_ i) n t').2) ∧ (ds_ (cl_ i) n T).2 < 2 ∧ sm_I S' m (cl_ i) n T
  | 0, t, ht, hg, S, hL, h => by
    have := (ds_b (c := cl_ i) (e := 63) (by omega) (by omega) t hg).2.2.1
    omega
  | d + 1, t, ht, hg, S, hL, h => by
    obtain ⟨b1, b2, b3, b4, b5⟩ := ds_b (c := cl_ i) (e := 63) (by omega) (by omega) t hg
    obtain ⟨l1, l2⟩ := ds_l hi t hg
    rw [show fu + (d + 1) + 1 = (fu + d + 1) + 1 by omega, f_X8_chainOf_L11, show (1 : Int64) = lN 1 from rfl]
    by_cases c2 : (ds_ (cl_ i) n t).2 < 2
    · exact ⟨t, S, by rw [if_pos ((lg_cmp_le _ _).mpr ((pk_lLE (by omega) (by decide)).mpr (by omega)))], fr_refl _ _ _, fun _ _ => rfl, hg, c2, h⟩
    · have hk : 2 ≤ (ds_ (cl_ i) n t).2 := by omega
      obtain ⟨f1, f2, f3⟩ := s_fr_b hk
      have hg' : ∀ t', t' < t + 1 → 2 ≤ (ds_ (cl_ i) n t').2 := fun t' ht' => by
        by_cases e : t' = t
        · rw [e]; exact hk
        · exact hg t' (by omega)
      have k1 := md_k hL 19 10 70
      have k2 := md_n hL 19 10 70
      have ne : m ≠ m + 19 := by omega
      rw [if_neg (fun q => by have := (pk_lLE (by omega) (by decide)).mp ((lg_cmp_le _ _).mp q); omega), g_fr64 hk (by omega), e_bi, e_gR hL.1, e_bs, md_r hL 22 19, e_gI hL.1, e_bs, h.1]
      by_cases c : cl_ i (ds_ (cl_ i) n t).1 (ds_ (cl_ i) n t).2 = true
      · have c' : i < (ds_ (cl_ i) n t).1 + s_fr (ds_ (cl_ i) n t).2 := of_decide_eq_true c
        have hsd : sd_ (cl_ i) n t = 0 := if_pos c
        have cc : ¬ 0 ≤ lg_cmp (lN (i - (ds_ (cl_ i) n t).1)) (lN (s_fr (ds_ (cl_ i) n t).2)) := fun q => by have := (pk_lLE (by omega) (by omega)).mp ((lg_cmp_ge _ _).mp q); omega
        have cn : ¬ lg_cmp (lN (i - (ds_ (cl_ i) n t).1)) 0 < 0 := fun q => by have := (pk_lLT (by omega) (by decide)).mp (show lN _ < lN 0 from (lg_cmp_lt _ _).mp q); omega
        have LT : md_L (gsI S (m + 19) t 0) m := hL
        obtain ⟨T, S2, e2, g2, i2⟩ := p8_chainL hn hi fu d (t + 1) (by omega) hg' (gsI (gsI S (m + 19) t 0) m 23 (nI (t + 1))) hL ⟨by rw [sI_s, va_up_s], fun t' ht' => by
          rw [sI_n (Ne.symm ne), sI_s, va_up_e]
          by_cases e : t' = t
          · rw [if_pos e, e, hsd]; rfl
          · rw [if_neg e]; exact h.2 t' (by omega)⟩
        rw [ds_t c] at e2
        refine ⟨T, S2, ?_, fr_tr (fr_tr (fr_i (by simp)) (fr_i (by simp))) g2, fun k hk' => by rw [i2.1 k hk', sI_s, va_up_n _ _ _ hk', sI_n ne], i2.2⟩
        simp only [if_neg cc, if_neg cn, e_let]
        rw [e_aI k1 k2 (by omega), e_bs, e_gR LT.1, e_bs, md_r LT 22 19, e_gI LT.1, e_bs, sI_n ne, h.1, e_I (md_k LT 19 10 70) (md_n LT 19 10 70) (by omega), e_bs, sI_s, va_up_s, if_pos rfl, e_bs, nI_1, e_pI LT.1, e_bs]
        exact e2
      · have c' : ¬ i < (ds_ (cl_ i) n t).1 + s_fr (ds_ (cl_ i) n t).2 := fun q => c (decide_eq_true q)
        have hsd : sd_ (cl_ i) n t = 1 := if_neg c
        have cc : 0 ≤ lg_cmp (lN (i - (ds_ (cl_ i) n t).1)) (lN (s_fr (ds_ (cl_ i) n t).2)) := (lg_cmp_ge _ _).mpr ((pk_lLE (by omega) (by omega)).mpr (by omega))
        have cn : ¬ lg_cmp (lN (i - (ds_ (cl_ i) n t).1 - s_fr (ds_ (cl_ i) n t).2)) 0 < 0 := fun q => by have := (pk_lLT (by omega) (by decide)).mp (show lN _ < lN 0 from (lg_cmp_lt _ _).mp q); omega
        have LT : md_L (gsI S (m + 19) t 1) m := hL
        obtain ⟨T, S2, e2, g2, i2⟩ := p8_chainL hn hi fu d (t + 1) (by omega) hg' (gsI (gsI S (m + 19) t 1) m 23 (nI (t + 1))) hL ⟨by rw [sI_s, va_up_s], fun t' ht' => by
          rw [sI_n (Ne.symm ne), sI_s, va_up_e]
          by_cases e : t' = t
          · rw [if_pos e, e, hsd]; rfl
          · rw [if_neg e]; exact h.2 t' (by omega)⟩
        rw [ds_f c] at e2
        refine ⟨T, S2, ?_, fr_tr (fr_tr (fr_i (by simp)) (fr_i (by simp))) g2, fun k hk' => by rw [i2.1 k hk', sI_s, va_up_n _ _ _ hk', sI_n ne], i2.2⟩
        simp only [if_pos cc, e_let]
        rw [e_aI k1 k2 (by omega), e_bs, lN_sub (by omega)]
        simp only [if_neg cn]
        rw [e_gR LT.1, e_bs, md_r LT 22 19, e_gI LT.1, e_bs, sI_n ne, h.1, e_I (md_k LT 19 10 70) (md_n LT 19 10 70) (by omega), e_bs, sI_s, va_up_s, if_neg (by decide), e_bs, nI_1, e_pI LT.1, e_bs, lN_sub (by omega)]
        rw [show i - ((ds_ (cl_ i) n t).1 + s_fr (ds_ (cl_ i) n t).2) = i - (ds_ (cl_ i) n t).1 - s_fr (ds_ (cl_ i) n t).2 by omega] at e2
        exact e2
theorem p8_chainOf {S : gS} {m i n : Nat} (hL : md_L S m) (hn : n < 2 ^ 63) (hi : i < n) : ∃ T S', f_X8_chainOf S m (lN i) (lN n) = some S' ∧ fr_S [m, m + 19] [] S S' ∧ (∀ k, k ≠ 23 → gI S' m k = gI S m k) ∧ (∀ t', t' < T → 2 ≤ (ds_ (cl_ i) n t').2) ∧ (ds_ (cl_ i) n T).2 < 2 ∧ sm_I S' m (cl_ i) n T := by
  obtain ⟨fu, hf⟩ := g_fu 64
  obtain ⟨T, S2, e2, g2, i2, r⟩ := p8_chainL hn hi fu 64 0 (by omega) (fun t' ht => by omega) (gsI S m 23 (nI 0)) hL ⟨by rw [sI_s, va_up_s], fun t' ht => by omega⟩
  refine ⟨T, S2, ?_, fr_tr (fr_i (by simp)) g2, fun k hk => by rw [i2 k hk, sI_s, va_up_n _ _ _ hk], r⟩
  unfold f_X8_chainOf
  rw [e_pI hL.1, e_bs, hf, show 64 + fu + 1 = fu + 64 + 1 by omega]
  exact e2
theorem p8_stepsL {m q n : Nat} (hn : n < 2 ^ 63) (hq : 0 < q) (hqn : q ≤ n) (fu : Nat) : ∀ d t, t + d = 64 → (∀ t', t' < t → q < (ds_ (cs_ q) n t').1 + (ds_ (cs_ q) n t').2) → ∀ S, md_L S m → sm_I S m (cs_ q) n t → gI S m 24 = nI (1 - ev_ (cs_ q) n t) → ∃ T S', f_X8_stepsOf_L16 (fu + d + 1) S m (lN (q - (ds_ (cs_ q) n t).1)) (lN (ds_ (cs_ q) n t).2) = some S' ∧ fr_S [m, m + 19] [] S S' ∧ (∀ k, k ≠ 23 → k ≠ 24 → gI S' m k = gI S m k) ∧ (∀ t', t' < T → q < (ds_ (cs_ q) n t').1 + (ds_ (cs_ q) n t').2) ∧ (ds_ (cs_ q) n T).1 + (ds_ (cs_ q) n T).2 ≤ q ∧ sm_I S' m (cs_ q) n T ∧ gI S' m 24 = nI (1 - ev_ (cs_ q) n T)
  | 0, t, ht, hg, S, hL, h, h24 => by
    have := (ds_b (c := cs_ q) (e := 63) (by omega) (by omega) t (ds_s hq hqn t hg).2.2).2.2.1
    omega
  | d + 1, t, ht, hg, S, hL, h, h24 => by
    obtain ⟨s1, s2, s3⟩ := ds_s hq hqn t hg
    obtain ⟨b1, b2, b3, b4, b5⟩ := ds_b (c := cs_ q) (e := 63) (by omega) (by omega) t s3
    rw [show fu + (d + 1) + 1 = (fu + d + 1) + 1 by omega, f_X8_stepsOf_L16]
    by_cases c2 : (ds_ (cs_ q) n t).1 + (ds_ (cs_ q) n t).2 ≤ q
    · exact ⟨t, S, by rw [if_pos ((lg_cmp_eq _ _).mpr (by congr 1; omega))], fr_refl _ _ _, fun _ _ _ => rfl, hg, c2, h, h24⟩
    · have hk : 2 ≤ (ds_ (cs_ q) n t).2 := by omega
      obtain ⟨f1, f2, f3⟩ := s_fr_b hk
      have hg' : ∀ t', t' < t + 1 → q < (ds_ (cs_ q) n t').1 + (ds_ (cs_ q) n t').2 := fun t' ht' => by
        by_cases e : t' = t
        · rw [e]; omega
        · exact hg t' (by omega)
      have k1 := md_k hL 19 10 70
      have k2 := md_n hL 19 10 70
      have ne : m ≠ m + 19 := by omega
      have hev := ev_01 (cs_ q) n t
      rw [if_neg (fun z => by have := (pk_lEQ (by omega) (by omega)).mp ((lg_cmp_eq _ _).mp z); omega), g_fr64 hk (by omega), e_bi, e_gR hL.1, e_bs, md_r hL 22 19, e_gI hL.1, e_bs, h.1]
      have go : ∀ (w x : Int32), w = nI (sd_ (cs_ q) n t) → x = nI (1 - ev_ (cs_ q) n (t + 1)) → ∃ T S', f_X8_stepsOf_L16 (fu + d + 1) (gsI (gsI (gsI S (m + 19) t w) m 24 x) m 23 (nI (t + 1))) m (lN (q - (ds_ (cs_ q) n (t + 1)).1)) (lN (ds_ (cs_ q) n (t + 1)).2) = some S' ∧ fr_S [m, m + 19] [] S S' ∧ (∀ k, k ≠ 23 → k ≠ 24 → gI S' m k = gI S m k) ∧ (∀ t', t' < T → q < (ds_ (cs_ q) n t').1 + (ds_ (cs_ q) n t').2) ∧ (ds_ (cs_ q) n T).1 + (ds_ (cs_ q) n T).2 ≤ q ∧ sm_I S' m (cs_ q) n T ∧ gI S' m 24 = nI (1 - ev_ (cs_ q) n T) := by
        intro w x hw hx
        obtain ⟨T, S2, e2, g2, i2, r⟩ := p8_stepsL hn hq hqn fu d (t + 1) (by omega) hg' (gsI (gsI (gsI S (m + 19) t w) m 24 x) m 23 (nI (t + 1))) hL ⟨by rw [sI_s, va_up_s], fun t' ht' => by
          rw [sI_n (Ne.symm ne), sI_n (Ne.symm ne), sI_s, va_up_e]
          by_cases e : t' = t
          · rw [if_pos e, e, hw]
          · rw [if_neg e]; exact h.2 t' (by omega)⟩ (by rw [sI_s, va_up_n _ _ _ (by decide), sI_s, va_up_s, hx])
        exact ⟨T, S2, e2, fr_tr (fr_tr (fr_tr (fr_i (by simp)) (fr_i (by simp))) (fr_i (by simp))) g2, fun k h23 h24' => by rw [i2 k h23 h24', sI_s, va_up_n _ _ _ h23, sI_s, va_up_n _ _ _ h24', sI_n ne], r⟩
      have fin : ∀ (w x : Int32) (u v : Int64), x = 0 ∨ x = 1 → ∀ z, (∀ r : Option gS, r = f_X8_stepsOf_L16 (fu + d + 1) (gsI (gsI (gsI S (m + 19) t w) m 24 x) m 23 (nI (t + 1))) m u v → r = z) → ((fpZ (gsI S (m + 19) t w) 8 24 (some m) x).bind fun S25 => (fgI S25 8 23 (some m)).bind fun x37 => (fpI S25 8 23 (some m) (x37 + 1)).bind fun S39 => f_X8_stepsOf_L16 (fu + d + 1) S39 m u v) = z := by
        intro w x u v hx z hz
        apply hz
        rw [e_pZ (S := gsI S (m + 19) t w) hL.1 hx, e_bs, e_gI (S := gsI (gsI S (m + 19) t w) m 24 x) hL.1, e_bs, sI_s, va_up_n _ _ _ (by decide), sI_n ne, h.1, nI_1, e_pI (S := gsI (gsI S (m + 19) t w) m 24 x) hL.1, e_bs]
      by_cases c : cs_ q (ds_ (cs_ q) n t).1 (ds_ (cs_ q) n t).2 = true
      · have c' : q ≤ (ds_ (cs_ q) n t).1 + s_fr (ds_ (cs_ q) n t).2 := of_decide_eq_true c
        have hsd : sd_ (cs_ q) n t = 0 := if_pos c
        have hev' : ev_ (cs_ q) n (t + 1) = ev_ (cs_ q) n t := if_pos c
        have cc : ¬ 0 < lg_cmp (lN (q - (ds_ (cs_ q) n t).1)) (lN (s_fr (ds_ (cs_ q) n t).2)) := fun z => by have := (pk_lLT (by omega) (by omega)).mp ((lg_cmp_gt _ _).mp z); omega
        have LT : md_L (gsI S (m + 19) t 0) m := hL
        obtain ⟨T, S2, e2, r⟩ := go 0 (nI (1 - ev_ (cs_ q) n t)) (by rw [hsd]; rfl) (by rw [hev'])
        rw [ds_t c] at e2
        refine ⟨T, S2, ?_, r⟩
        simp only [if_neg cc, e_let]
        rw [e_aI k1 k2 (by omega), e_bs, e_gI LT.1, e_bs, sI_n ne, h24]
        rcases hev with z | z
        · rw [z] at e2 ⊢
          rw [if_neg (by decide)]
          exact fin 0 1 _ _ (Or.inr rfl) _ (fun r hr => hr.trans e2)
        · rw [z] at e2 ⊢
          rw [if_pos (by decide)]
          exact fin 0 0 _ _ (Or.inl rfl) _ (fun r hr => hr.trans e2)
      · have c' : ¬ q ≤ (ds_ (cs_ q) n t).1 + s_fr (ds_ (cs_ q) n t).2 := fun z => c (decide_eq_true z)
        have hsd : sd_ (cs_ q) n t = 1 := if_neg c
        have hev' : ev_ (cs_ q) n (t + 1) = 1 := if_neg c
        have cc : 0 < lg_cmp (lN (q - (ds_ (cs_ q) n t).1)) (lN (s_fr (ds_ (cs_ q) n t).2)) := (lg_cmp_gt _ _).mpr ((pk_lLT (by omega) (by omega)).mpr (by omega))
        have LT : md_L (gsI S (m + 19) t 1) m := hL
        obtain ⟨T, S2, e2, r⟩ := go 1 0 (by rw [hsd]; rfl) (by rw [hev']; rfl)
        rw [ds_f c] at e2
        refine ⟨T, S2, ?_, r⟩
        rw [show q - ((ds_ (cs_ q) n t).1 + s_fr (ds_ (cs_ q) n t).2) = q - (ds_ (cs_ q) n t).1 - s_fr (ds_ (cs_ q) n t).2 by omega] at e2
        simp only [if_pos cc, e_let]
        rw [e_aI k1 k2 (by omega), e_bs, e_gI LT.1, e_bs, sI_n ne, h24, lN_sub (by omega), lN_sub (by omega), ite_self]
        exact fin 1 0 _ _ (Or.inl rfl) _ (fun r hr => hr.trans e2)
theorem p8_stepsOf {S : gS} {m q n : Nat} (hL : md_L S m) (hn : n < 2 ^ 63) (hq : 0 < q) (hqn : q ≤ n) : ∃ T S', f_X8_stepsOf S m (lN q) (lN n) = some S' ∧ fr_S [m, m + 19] [] S S' ∧ (∀ k, k ≠ 23 → k ≠ 24 → gI S' m k = gI S m k) ∧ (∀ t', t' < T → q < (ds_ (cs_ q) n t').1 + (ds_ (cs_ q) n t').2) ∧ (ds_ (cs_ q) n T).1 + (ds_ (cs_ q) n T).2 ≤ q ∧ sm_I S' m (cs_ q) n T ∧ gI S' m 24 = nI (1 - ev_ (cs_ q) n T) := by
  obtain ⟨fu, hf⟩ := g_fu 64
  obtain ⟨T, S2, e2, g2, i2, r⟩ := p8_stepsL hn hq hqn fu 64 0 (by omega) (fun t' ht => by omega) (gsI (gsI S m 23 (nI 0)) m 24 1) hL ⟨by rw [sI_s, va_up_n _ _ _ (by decide), sI_s, va_up_s], fun t' ht => by omega⟩ (by rw [sI_s, va_up_s]; rfl)
  refine ⟨T, S2, ?_, fr_tr (fr_tr (fr_i (by simp)) (fr_i (by simp))) g2, fun k h1 h2 => by rw [i2 k h1 h2, sI_s, va_up_n _ _ _ h2, sI_s, va_up_n _ _ _ h1], r⟩
  unfold f_X8_stepsOf
  rw [e_pI hL.1, e_bs, e_pZ (S := gsI S m 23 0) hL.1 (Or.inr rfl), e_bs, hf, show 64 + fu + 1 = fu + 64 + 1 by omega]
  exact e2
/-! the part beside the way, and the part at its end -/
theorem g_fr64' {S : gS} {k : Nat} (h : 2 ≤ k) (hk : k ≤ 200) : f_X8_front S (nI k).toInt64 = some (lN (s_fr k), S) := by
  rw [nI_l (by omega), g_fr64 h (by omega)]
theorem p8_otherL {m l n T N t0 bo : Nat} {c : Nat → Nat → Bool} (hl : l < 2) (hn : 1 ≤ n) (hnN : n ≤ N) (hT : ∀ t', t' < T → 2 ≤ (ds_ c n t').2) (ht0 : t0 < T) (hbo : max 1 (2 * (pp_ c n t0).2 - 1) ≤ bo) (fu : Nat) {S : gS} (hL : mh_ S m) (h17 : gI S m 17 = nI 0) (hE : en_I S m l N) (hs : sm_I S m c n T) : ∀ d j, j + d = t0 → ∃ S', f_X8_other_L9 bo (fu + d + 1) S 0 0 m (nI l) (nI t0) (nI (ds_ c n j).1) (nI (ds_ c n j).2) (nI j) = some S' ∧ mg_S m S S' ∧ sl_at S' m 0 (s_rt (lf_ S m l) (pp_ c n t0).1 (pp_ c n t0).2)
  | 0, j, hj => by
    have : j = t0 := by omega
    subst this
    have hN := hE.1
    obtain ⟨b1, b2, b3, b4, b5⟩ := ds_b (c := c) (e := 8) hn (by omega) j (fun t' h => hT t' (by omega))
    have hk := hT j ht0
    obtain ⟨f1, f2, f3⟩ := s_fr_b hk
    obtain ⟨p1, p2, p3, p4, p5⟩ := pp_b (c := c) (e := 8) (t := j) hn (by omega) (fun t' h => hT t' (by omega))
    have hroot := p8_root hl 9 (pp_ c n j).1 (pp_ c n j).2 0 S (by omega) (by decide) (show (pp_ c n j).1 + (pp_ c n j).2 ≤ N by omega) (by decide) hL h17 hE
    obtain ⟨S', e1, s1, i1, -⟩ := hroot
    refine ⟨S', ?_, s1, i1⟩
    have hsj := hs.2 j ht0
    rw [f_X8_other_L9, e_gd (by omega), if_pos (nI_le (Nat.le_refl _) (by omega)), g_fr64' hk (by omega), e_bi, lN_i, e_let, e_gR hL.1.1, e_bs, md_r hL.1 22 19, e_I (md_k hL.1 19 10 70) (md_n hL.1 19 10 70) (by omega), e_bs, hsj]
    unfold sd_
    unfold pp_ at e1 hbo
    by_cases cc : c (ds_ c n j).1 (ds_ c n j).2 = true
    · rw [if_pos cc] at e1 hbo
      simp only at e1 hbo
      rw [if_pos cc, if_pos (by decide), pk_sub (by omega), nI_add, e_gd (by rw [rb_n (by omega)]; omega), show (0 : Int32) = nI 0 from rfl, e1, e_bs]
    · rw [if_neg cc] at e1 hbo
      simp only at e1 hbo
      rw [if_neg cc, if_neg (by decide), e_gd (by rw [rb_n (by omega)]; omega), show (0 : Int32) = nI 0 from rfl, e1, e_bs]
  | d + 1, j, hj => by
    have hN := hE.1
    obtain ⟨b1, b2, b3, b4, b5⟩ := ds_b (c := c) (e := 8) hn (by omega) j (fun t' h => hT t' (by omega))
    have hk := hT j (by omega)
    obtain ⟨f1, f2, f3⟩ := s_fr_b hk
    obtain ⟨S', e1, r⟩ := p8_otherL hl hn hnN hT ht0 hbo fu hL h17 hE hs d (j + 1) (by omega)
    refine ⟨S', ?_, r⟩
    have hsj := hs.2 j (by omega)
    have hp3 := (pp_b (c := c) (e := 8) (t := t0) hn (by omega) (fun t' h => hT t' (by omega))).2.2.1
    have hfi : fI S 10 (some (m + 19)) (nI j) = some (nI (sd_ c n j)) := by rw [e_I (md_k hL.1 19 10 70) (md_n hL.1 19 10 70) (by omega), hsj]
    rw [show fu + (d + 1) + 1 = (fu + d + 1) + 1 by omega, f_X8_other_L9, e_gd (by omega), if_neg (nI_ge (by omega) (by omega)), g_fr64' hk (by omega), e_bi, lN_i, e_let]
    simp only [e_gR hL.1.1, md_r hL.1 22 19, e_bs, hfi]
    unfold sd_
    by_cases cc : c (ds_ c n j).1 (ds_ c n j).2 = true
    · rw [ds_t cc] at e1
      rw [if_pos cc, if_pos (by decide), e_let, if_pos (by decide), e_let, nI_1, show nI (ds_ c n j).1 + 0 = nI (ds_ c n j).1 from Int32.add_zero _]
      exact e1
    · rw [ds_f cc] at e1
      rw [if_neg cc, if_neg (by decide), nI_add, e_let, if_neg (by decide), pk_sub (by omega), e_let, e_let, nI_1]
      exact e1
theorem p8_other {S : gS} {m l n T N t0 bo : Nat} {c : Nat → Nat → Bool} (hl : l < 2) (hn : 1 ≤ n) (hnN : n ≤ N) (hT : ∀ t', t' < T → 2 ≤ (ds_ c n t').2) (ht0 : t0 < T) (hT63 : T ≤ 63) (hbo : max 1 (2 * (pp_ c n t0).2 - 1) ≤ bo) (hL : mh_ S m) (h17 : gI S m 17 = nI 0) (hE : en_I S m l N) (hs : sm_I S m c n T) : ∃ S', f_X8_other bo S m (nI l) (nI n) (nI t0) = some S' ∧ mg_S m S S' ∧ sl_at S' m 0 (s_rt (lf_ S m l) (pp_ c n t0).1 (pp_ c n t0).2) := by
  obtain ⟨fu, hf⟩ := g_fu t0
  obtain ⟨S', e1, r⟩ := p8_otherL hl hn hnN hT ht0 hbo fu hL h17 hE hs t0 0 (by omega)
  refine ⟨S', ?_, r⟩
  unfold f_X8_other
  rw [hf, show t0 + fu + 1 = fu + t0 + 1 by omega]
  exact e1
theorem p8_innerL {m l n T N : Nat} {c : Nat → Nat → Bool} (hl : l < 2) (hn : 1 ≤ n) (hnN : n ≤ N) (hT : ∀ t', t' < T → 2 ≤ (ds_ c n t').2) (fu : Nat) {S : gS} (hL : mh_ S m) (h17 : gI S m 17 = nI 0) (hE : en_I S m l N) (hs : sm_I S m c n T) : ∀ d j, j + d = T → ∃ S', f_X8_inner_L8 400 (fu + d + 1) S 0 0 m (nI l) (nI (ds_ c n j).1) (nI (ds_ c n j).2) (nI j) = some S' ∧ mg_S m S S' ∧ sl_at S' m 0 (s_rt (lf_ S m l) (ds_ c n T).1 (ds_ c n T).2)
  | 0, j, hj => by
    have : j = T := by omega
    subst this
    have hN := hE.1
    obtain ⟨b1, b2, b3, b4, b5⟩ := ds_b (c := c) (e := 8) hn (by omega) j (fun t' h => hT t' (by omega))
    obtain ⟨S', e1, s1, i1, -⟩ := p8_root hl 9 (ds_ c n j).1 (ds_ c n j).2 0 S (by omega) (by decide) (show (ds_ c n j).1 + (ds_ c n j).2 ≤ N by omega) (by decide) hL h17 hE
    refine ⟨S', ?_, s1, i1⟩
    rw [f_X8_inner_L8, e_gd (by omega), e_gI hL.1.1, e_bs, hs.1, if_pos (nI_le (Nat.le_refl _) (by omega)), e_gd (by rw [rb_n (by omega)]; omega), show (0 : Int32) = nI 0 from rfl, e1, e_bs]
  | d + 1, j, hj => by
    have hN := hE.1
    obtain ⟨b1, b2, b3, b4, b5⟩ := ds_b (c := c) (e := 8) hn (by omega) j (fun t' h => hT t' (by omega))
    have hb3 := (ds_b (c := c) (e := 8) hn (by omega) T (fun t' h => hT t' (by omega))).2.2.1
    have hk := hT j (by omega)
    obtain ⟨f1, f2, f3⟩ := s_fr_b hk
    obtain ⟨S', e1, r⟩ := p8_innerL hl hn hnN hT fu hL h17 hE hs d (j + 1) (by omega)
    refine ⟨S', ?_, r⟩
    have hsj := hs.2 j (by omega)
    have hfi : fI S 10 (some (m + 19)) (nI j) = some (nI (sd_ c n j)) := by rw [e_I (md_k hL.1 19 10 70) (md_n hL.1 19 10 70) (by omega), hsj]
    rw [show fu + (d + 1) + 1 = (fu + d + 1) + 1 by omega, f_X8_inner_L8, e_gd (by omega), e_gI hL.1.1, e_bs, hs.1, if_neg (nI_ge (by omega) (by omega)), g_fr64' hk (by omega), e_bi, lN_i, e_let]
    simp only [e_gR hL.1.1, md_r hL.1 22 19, e_bs, hfi]
    unfold sd_
    by_cases cc : c (ds_ c n j).1 (ds_ c n j).2 = true
    · rw [ds_t cc] at e1
      rw [if_pos cc, if_pos (by decide), e_let, if_pos (by decide), e_let, nI_1, show nI (ds_ c n j).1 + 0 = nI (ds_ c n j).1 from Int32.add_zero _]
      exact e1
    · rw [ds_f cc] at e1
      rw [if_neg cc, if_neg (by decide), nI_add, e_let, if_neg (by decide), pk_sub (by omega), e_let, e_let, nI_1]
      exact e1
theorem p8_inner {S : gS} {m l n T N : Nat} {c : Nat → Nat → Bool} (hl : l < 2) (hn : 1 ≤ n) (hnN : n ≤ N) (hT : ∀ t', t' < T → 2 ≤ (ds_ c n t').2) (hT63 : T ≤ 63) (hL : mh_ S m) (h17 : gI S m 17 = nI 0) (hE : en_I S m l N) (hs : sm_I S m c n T) : ∃ S', f_X8_inner 400 S m (nI l) (nI n) = some S' ∧ mg_S m S S' ∧ sl_at S' m 0 (s_rt (lf_ S m l) (ds_ c n T).1 (ds_ c n T).2) := by
  obtain ⟨fu, hf⟩ := g_fu T
  obtain ⟨S', e1, r⟩ := p8_innerL hl hn hnN hT fu hL h17 hE hs T 0 (by omega)
  refine ⟨S', ?_, r⟩
  unfold f_X8_inner
  rw [hf, show T + fu + 1 = fu + T + 1 by omega]
  exact e1
