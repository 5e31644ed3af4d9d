/-! find, isSealed, seal -/
theorem mg_rf {m : Nat} {S : gS} (h17 : gI S m 17 = nI 0) : mg_S m S S := ⟨fr_refl _ _ _, fun _ _ => rfl, h17⟩
/-- the state after the reference has used the tape and said that nothing was thrown -/
theorem mu_ {m : Nat} {T : gS} (hH : mh_ T m) (h17 : gI T m 17 = nI 0) : mh_ (gsI (gsI T m 2 (nI 0)) m 0 0) m ∧ gI (gsI (gsI T m 2 (nI 0)) m 0 0) m 17 = nI 0 ∧ gI (gsI (gsI T m 2 (nI 0)) m 0 0) m 2 = nI 0 ∧ gI (gsI (gsI T m 2 (nI 0)) m 0 0) m 0 = 0 ∧ gI (gsI (gsI T m 2 (nI 0)) m 0 0) m 4 = gI T m 4 ∧ (∀ o, 1 ≤ o → gI (gsI (gsI T m 2 (nI 0)) m 0 0) (m + o) = gI T (m + o)) ∧ fr_S [m] [] T (gsI (gsI T m 2 (nI 0)) m 0 0) := by
  refine ⟨⟨hH.1, hH.2.1, fun t ht => ?_⟩, ?_, ?_, ?_, ?_, fun o ho => ?_, fr_tr (fr_i (by simp)) (fr_i (by simp))⟩
  · rw [sI_n (by omega), sI_n (by omega)]; exact hH.2.2 t ht
  · rw [sI_s, va_up_n _ _ _ (by decide), sI_s, va_up_n _ _ _ (by decide)]; exact h17
  · rw [sI_s, va_up_n _ _ _ (by decide), sI_s, va_up_s]
  · rw [sI_s, va_up_s]
  · rw [sI_s, va_up_n _ _ _ (by decide), sI_s, va_up_n _ _ _ (by decide)]
  · rw [sI_n (by omega), sI_n (by omega)]
theorem p8_findL {m l N TS : Nat} {W : Nat → Int32} {lf : Nat → Nat → Int32} (hl : l < 2) (hTS : TS ≤ N) (fu : Nat) : ∀ d i, i + d = TS → ∀ S, mh_ S m → gI S m 17 = nI 0 → en_I S m l N → lf_ S m l = lf → gI S (m + 8) l = nI TS → sl_at S m 0 W → ∃ x S', f_X8_find_L48 (fu + d + 1) S i (8 * i) m (nI l) (nI i) = some (x, S') ∧ mg_S m S S' ∧ ((∃ i0, i ≤ i0 ∧ i0 < TS ∧ x = nI i0 ∧ (∀ q, q < 8 → lf i0 q = W q) ∧ ∀ i', i ≤ i' → i' < i0 → ¬ ∀ q, q < 8 → lf i' q = W q) ∨ (x = -1 ∧ ∀ i', i ≤ i' → i' < TS → ¬ ∀ q, q < 8 → lf i' q = W q))
  | 0, i, hi, S, hH, h17, hE, hlf, h8, hW => by
    have hN := hE.1
    have : i = TS := by omega
    subst this
    refine ⟨-1, S, ?_, mg_rf h17, Or.inr ⟨rfl, fun i' h1 h2 => by omega⟩⟩
    rw [f_X8_find_L48, e_gd (by omega), e_gR hH.1.1, e_bs, md_r hH.1 10 8, e_I (md_k hH.1 8 10 2) (md_n hH.1 8 10 2) hl, e_bs, h8, if_pos (nI_le (Nat.le_refl _) (by omega))]
  | d + 1, i, hi, S, hH, h17, hE, hlf, h8, hW => by
    have hN := hE.1
    obtain ⟨S1, e1, s1, i1⟩ := p8_leaf1 (s := 1) (i := i) hH h17 hl (by decide) hE (by omega)
    have H1 := mg_h s1 hH
    rw [hlf] at i1
    have g5 := mg_o s1 hH 5 10 48000
    have g6 := mg_o s1 hH 6 10 400
    have g8 := mg_o s1 hH 8 10 2
    have w1 : sl_at S1 m 0 W := fun q hq => by rw [i1, sl_out hq (by decide)]; exact hW q hq
    have w2 : ∀ q, q < 8 → gI S1 (m + 18) (8 * 1 + q) = lf i q := fun q hq => by rw [i1, sl_in hq]
    obtain ⟨x, e2, hx⟩ := p8_isSame (a := 0) (b := 1) H1.1 (by decide) (by decide)
    have hiff : (∀ j, j < 8 → gI S1 (m + 18) (8 * 0 + j) = gI S1 (m + 18) (8 * 1 + j)) ↔ ∀ q, q < 8 → lf i q = W q := by
      constructor
      · intro w q hq
        have := w q hq
        rw [w1 q hq, w2 q hq] at this
        exact this.symm
      · intro w q hq
        rw [w1 q hq, w2 q hq]; exact (w q hq).symm
    rw [hiff] at hx
    have st : f_X8_find_L48 (fu + (d + 1) + 1) S i (8 * i) m (nI l) (nI i) = if x = 0 then f_X8_find_L48 (fu + d + 1) S1 (i + 1) (8 * (i + 1)) m (nI l) (nI (i + 1)) else some (nI i, S1) := by
      rw [show fu + (d + 1) + 1 = (fu + d + 1) + 1 by omega, f_X8_find_L48, e_gd (by omega), e_gR hH.1.1, e_bs, md_r hH.1 10 8, e_I (md_k hH.1 8 10 2) (md_n hH.1 8 10 2) hl, e_bs, h8, if_neg (nI_ge (by omega) (by omega)), e_dc hH.1.1, e_gd (by omega), show f_X8_leafOf S m (nI l) (nI i) 1 = some S1 from e1, e_bs, e_dc H1.1.1, show f_X8_isSame S1 m 0 1 = some (x, S1) from e2, e_bi, e_let, nI_1, show 8 * i + 8 = 8 * (i + 1) by omega]
    rw [st]
    rcases hx with ⟨rfl, q⟩ | ⟨rfl, q⟩
    · rw [if_neg (by decide)]
      exact ⟨nI i, S1, rfl, s1, Or.inl ⟨i, Nat.le_refl _, by omega, rfl, q, fun i' h1 h2 => by omega⟩⟩
    · rw [if_pos rfl]
      obtain ⟨x', S', e3, s3, hx'⟩ := p8_findL (W := W) (lf := lf) hl hTS fu d (i + 1) (by omega) S1 H1 s1.2.2 (en_c hE g5 g6) (by rw [lf_c g5 g6]; exact hlf) (by rw [g8]; exact h8) w1
      refine ⟨x', S', e3, mg_tr s1 s3, ?_⟩
      rcases hx' with ⟨i0, j1, j2, j3, j4, j5⟩ | ⟨j1, j2⟩
      · refine Or.inl ⟨i0, by omega, j2, j3, j4, fun i' h1 h2 => ?_⟩
        by_cases e : i' = i
        · subst e; exact q
        · exact j5 i' (by omega) h2
      · refine Or.inr ⟨j1, fun i' h1 h2 => ?_⟩
        by_cases e : i' = i
        · subst e; exact q
        · exact j2 i' (by omega) h2
theorem m_find {m l N TS : Nat} {T : gS} (hH : mh_ T m) (h17 : gI T m 17 = nI 0) (hl : l < 2) (hE : en_I T m l N) (hTS : TS ≤ N) (h8 : gI T (m + 8) l = nI TS) (h2 : gI T m 2 = nI 32) : ∃ x S', f_X8_find T m (nI l) = some (x, S') ∧ fr_S [m, m + 14, m + 15, m + 16, m + 18] [] T S' ∧ gI S' m 2 = nI 0 ∧ gI S' m 0 = 0 ∧ gI S' m 4 = gI T m 4 ∧ gI S' m 17 = nI 0 ∧ ((∃ i0, i0 < TS ∧ x = nI i0 ∧ (∀ q, q < 8 → lf_ T m l i0 q = w_at (gI T (m + 1)) 0 q) ∧ ∀ i', i' < i0 → ¬ ∀ q, q < 8 → lf_ T m l i' q = w_at (gI T (m + 1)) 0 q) ∨ (x = -1 ∧ ∀ i', i' < TS → ¬ ∀ q, q < 8 → lf_ T m l i' q = w_at (gI T (m + 1)) 0 q)) := by
  obtain ⟨H0, k17, k2, k0, k4, ko, F0⟩ := mu_ hH h17
  have us := m_use hH.1.1 h2
  have th : f_X8_find T m (nI l) = (f_X8_fromTape (gsI (gsI T m 2 (nI 0)) m 0 0) m 0 0).bind fun S24 => f_X8_find_L48 gFuel S24 0 0 m (nI l) 0 := by
    unfold f_X8_find f_X8_find_B28
    rw [e_dc hH.1.1, us, e_bi, isl_in hl, e_bi, if_neg (by decide), if_pos (show nI 32 = (32 : Int32) from rfl), e_gd (by decide), m_th (T := gsI T m 2 (nI 0)) hH.1.1, if_pos (by decide), e_dc (S := gsI (gsI T m 2 (nI 0)) m 0 0) hH.1.1]
  rw [th]
  generalize gsI (gsI T m 2 (nI 0)) m 0 0 = S0 at *
  have e1 := p8_fromTape (p := 0) (s := 0) H0.1 (by decide) (by decide)
  rw [show f_X8_fromTape S0 m 0 0 = _ from e1, e_bs]
  have s1 := mg_A (S := S0) (m := m) (f := sl_ (gI S0 (m + 18)) 0 (w_at (gI S0 (m + 1)) 0)) k17
  have w1 : sl_at (gsA S0 (m + 18) (sl_ (gI S0 (m + 18)) 0 (w_at (gI S0 (m + 1)) 0))) m 0 (w_at (gI T (m + 1)) 0) := fun q hq => by rw [sA_s, sl_in hq, ko 1 (by decide)]
  generalize gsA S0 (m + 18) (sl_ (gI S0 (m + 18)) 0 (w_at (gI S0 (m + 1)) 0)) = S1 at *
  have H1 := mg_h s1 H0
  have g5 : gI S1 (m + 5) = gI T (m + 5) := (mg_o s1 H0 5 10 48000).trans (ko 5 (by decide))
  have g6 : gI S1 (m + 6) = gI T (m + 6) := (mg_o s1 H0 6 10 400).trans (ko 6 (by decide))
  have g8 : gI S1 (m + 8) = gI T (m + 8) := (mg_o s1 H0 8 10 2).trans (ko 8 (by decide))
  obtain ⟨fu, hf⟩ := g_fu TS (by have := hE.1; omega)
  obtain ⟨x, S2, e2, s2, hx⟩ := p8_findL (W := w_at (gI T (m + 1)) 0) (lf := lf_ T m l) hl hTS fu TS 0 (by omega) S1 H1 s1.2.2 (en_c hE g5 g6) (lf_c g5 g6) (by rw [g8]; exact h8) w1
  have s3 := mg_tr s1 s2
  refine ⟨x, S2, ?_, fr_tr (fr_mo F0 (by simp) (by simp)) s3.1, by rw [s3.2.1 2 (by decide), k2], by rw [s3.2.1 0 (by decide), k0], by rw [s3.2.1 4 (by decide), k4], s3.2.2, ?_⟩
  · rw [hf, show TS + fu + 1 = fu + TS + 1 by omega]; exact e2
  · rcases hx with ⟨i0, j1, j2, j3, j4, j5⟩ | ⟨j1, j2⟩
    · exact Or.inl ⟨i0, j2, j3, j4, fun i' hi' => j5 i' (by omega) hi'⟩
    · exact Or.inr ⟨j1, fun i' hi' => j2 i' (by omega) hi'⟩
theorem uq_find {z : Nat} {S : gS} {a : Int32} (h : in_ z S) : Tq z (f_L_find S (some z) a (some (z + 65))) (fun T => f_X8_find T (z + 45) a) := by
  have y := h.1
  have M := ly_md y
  obtain ⟨n, n1, n3, n4, eu, Fu, yu, cu⟩ := su_ h
  have hu1 : ∀ x ∈ [z + 1], u1A z x := fun x hx => by simp only [List.mem_cons, List.not_mem_nil, or_false] at hx; unfold u1A; omega
  have mu : gI (gsI S (z + 1) 1 (nI 0)) (z + 45) = gI S (z + 45) := sI_n (by omega)
  have mo : ∀ o, 2 ≤ o → gI (gsI S (z + 1) 1 (nI 0)) (z + o) = gI S (z + o) := fun o ho => sI_n (by omega)
  unfold f_L_find f_X7_find
  rw [e_dc y.1.1, e_gR y.1.1, e_bs, y.1.2.1, e_dc y.2.1.1, eu, e_bi, e_dc yu.1.1]
  generalize hSu : gsI S (z + 1) 1 (nI 0) = Su at *
  have Mu := ly_md yu
  have thr : ∀ w : Int32, ¬ w ≤ 0 → f_X8_find_B28 (gsI (gsZ Su (gZ Su + 1)) (z + 45) 2 (nI 0)) 0 0 (z + 45) a w (some (z + 45)) = some (0, gsI (gsI (gsZ Su (gZ Su + 1)) (z + 45) 2 (nI 0)) (z + 45) 0 w) := by
    intro w hw
    unfold f_X8_find_B28
    rw [e_gd (by decide), m_th (T := gsI (gsZ Su (gZ Su + 1)) (z + 45) 2 (nI 0)) Mu.1, if_neg hw]
  have us : f_X8_use (gsZ Su (gZ Su + 1)) (z + 45) = some (nI n, gsI (gsZ Su (gZ Su + 1)) (z + 45) 2 (nI 0)) := m_use (T := gsZ Su (gZ Su + 1)) Mu.1 (by rw [sZ_I, mu]; exact n3)
  rcases lg_cs a with ca | ⟨l, hl, rfl⟩
  · rw [lof_bad ca, e_bxl, e_bxl, if_pos rfl]
    refine ⟨1, gsZ Su (gZ Su + 1), 0, _, rfl, Mu.1, ?_, m0_s, fun q => absurd q (by decide), in_thr (w := 1) h Fu hu1 cu⟩
    show f_X8_find _ _ _ = _
    unfold f_X8_find
    rw [e_dc (S := gsZ Su (gZ Su + 1)) Mu.1, us, e_bi, isl_bad ca, e_bi, if_pos rfl]
    exact thr 1 (by decide)
  · rw [lof_in yu hl, e_bxr]
    obtain ⟨N, TS, H, kn, hlo⟩ := h.2.2.2.2.1 l hl
    have hlou := lo_fr hlo hl y Fu (fun x hx => by (try unfold lq_ at hx) <;> (try unfold pq_ at hx) <;> (try unfold cq_ at hx) <;> (simp only [List.mem_cons, List.not_mem_nil, or_false, false_or, List.cons_append, List.nil_append] at hx) <;> (try simp only [loA, loB, tpA, ooA, msA, vwA, vwB, lyB, scA]) <;> omega) (fun x hx => by (try unfold lq_ at hx) <;> (try unfold pq_ at hx) <;> (try unfold cq_ at hx) <;> (simp only [List.mem_cons, List.not_mem_nil, or_false, false_or, List.cons_append, List.nil_append] at hx) <;> (try simp only [loA, loB, tpA, ooA, msA, vwA, vwB, lyB, scA]) <;> omega)
    obtain ⟨⟨a1u, a2u, a3u⟩, ⟨b1u, b2u, b3u⟩, -, -, -, -, fuu, -, -⟩ := hlou
    have hN := a3u.1
    have Lu := ly_lg yu hl
    have T46 : gI Su (z + 46) = gI S (z + 46) := mo 46 (by decide)
    have n4u : rb_ Su (z + 2) 2200 (gI Su (z + 46)) := by rw [T46]; exact rb_fr n4 Fu y.2.1.2.2.1 (by (try unfold lq_) <;> (try unfold pq_) <;> (try unfold cq_) <;> (simp only [List.mem_cons, List.not_mem_nil, or_false, false_or, not_false_eq_true, List.cons_append, List.nil_append]) <;> omega)
    by_cases cn : n = 32
    · subst cn
      obtain ⟨x, e1, hx⟩ := p_nol (r := z + 2) (W := w_at (gI Su (z + 46)) 0) Lu b3u hN b1u yu.2.1.2.2.1 (by rw [yu.2.1.2.2.2]; decide) (by rw [yu.2.1.2.2.2]; decide) (rb_dg n4u (by decide)) fuu
      rw [if_pos (show nI 32 = (32 : Int32) from rfl), e_gR yu.1.1, e_bs, yu.1.2.1, e_gR yu.2.1.1, e_bs, yu.2.1.2.1, e_dc Lu.1, e1, e_bi, e_bxr, aL_o yu, e_bs]
      have F1 : fr_S [z + 1, z + 65] [] S (gsL Su (z + 65) 0 x.toInt64) := fr_tr (fr_mo Fu (by simp) (by simp)) (fr_l (by simp))
      have Hh : mh_ (gsL Su (z + 65) 0 x.toInt64) (z + 45) := ⟨Mu, ly_wf yu, fun q hq => by rw [sL_I]; show gI Su (z + 62) q = _; rw [mo 62 (by decide)]; exact h.2.2.2.1.2 q hq⟩
      obtain ⟨x', S2, e2, F2, k2, k0, k4, k17, hx'⟩ := m_find (T := gsL Su (z + 65) 0 x.toInt64) (m := z + 45) (l := l) (N := N) (TS := TS) Hh (by rw [sL_I, mu]; exact h.2.2.2.1.1) hl a3u b3u b2u (by rw [sL_I, mu]; exact n3)
      have hxx : x = x' := by
        rcases hx with ⟨i, j1, rfl, j3, j4⟩ | ⟨rfl, j1⟩
        · rcases hx' with ⟨i', k1, rfl, k3, k4⟩ | ⟨rfl, k1⟩
          · rcases Nat.lt_trichotomy i i' with q | q | q
            · exact (k4 i q j3).elim
            · rw [q]
            · exact (j4 i' q k3).elim
          · exact (k1 i j1 j3).elim
        · rcases hx' with ⟨i', k1, rfl, k3, k4⟩ | ⟨rfl, k1⟩
          · exact (j1 i' k1 k3).elim
          · rfl
      subst hxx
      refine ⟨0, gsL Su (z + 65) 0 x.toInt64, x, S2, rfl, Mu.1, e2, k0, fun _ => ?_, in_us (A1 := [z + 1, z + 65]) h F1 (fun x hx => by simp only [List.mem_cons, List.not_mem_nil, or_false] at hx; unfold u1A scA; omega) cu F2 (fun x hx => by simp only [List.mem_cons, List.not_mem_nil, or_false] at hx; unfold scA; omega) k2 k4 k17⟩
      rw [fr_L F2 (show gK (gsL Su (z + 65) 0 x.toInt64) (z + 65) = 11 from yu.2.2.2.2.2.2.2.2.2.1.1) (by (try unfold lq_) <;> (try unfold pq_) <;> (try unfold cq_) <;> (simp only [List.mem_cons, List.not_mem_nil, or_false, false_or, not_false_eq_true, List.cons_append, List.nil_append]) <;> omega), sL_s, va_up_s]
    · rw [if_neg (show ¬ nI n = (32 : Int32) from by rw [show (32 : Int32) = nI 32 from rfl, nI_eq (by omega) (by decide)]; exact cn), e_bxl, if_neg (by decide), if_pos rfl]
      refine ⟨2, gsZ Su (gZ Su + 1), 0, _, rfl, Mu.1, ?_, m0_s, fun q => absurd q (by decide), in_thr (w := 2) h Fu hu1 cu⟩
      show f_X8_find _ _ _ = _
      unfold f_X8_find
      rw [e_dc (S := gsZ Su (gZ Su + 1)) Mu.1, us, e_bi, isl_in hl, e_bi, if_neg (by decide), if_neg (show ¬ nI n = (32 : Int32) from by rw [show (32 : Int32) = nI 32 from rfl, nI_eq (by omega) (by decide)]; exact cn)]
      exact thr 2 (by decide)
