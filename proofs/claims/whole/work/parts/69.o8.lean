/-! submit -/
theorem isE0 {m e n : Nat} {S : gS} (fu : Nat) (j : Nat) (hn : n < 2 ^ 31) (hj : j < 2 ^ 31) : f_X8_isEntry_L19 (fu + 1) S m (nI e) (nI n) 0 (nI j) = some (0, S) := by
  rw [f_X8_isEntry_L19]
  by_cases c : n ≤ j
  · rw [if_pos (nI_le c hj), if_pos (Or.inl rfl)]
  · rw [if_neg (nI_ge (by omega) hn), if_pos rfl, if_pos (Or.inl rfl)]
theorem isE1 {m e n : Nat} {S : gS} (hL : md_L S m) (he : e < 400) (hn : n ≤ 120) (fu : Nat) : ∀ d i, i + d = n → (∀ j, j < i → gI S (m + 5) (120 * e + j) = gI S (m + 1) j) → ∃ x, f_X8_isEntry_L19 (fu + d + 1) S m (nI e) (nI n) 1 (nI i) = some (x, S) ∧ ((x = 1 ∧ ∀ j, j < n → gI S (m + 5) (120 * e + j) = gI S (m + 1) j) ∨ (x = 0 ∧ ¬ ∀ j, j < n → gI S (m + 5) (120 * e + j) = gI S (m + 1) j))
  | 0, i, hi, h => by
    have : i = n := by omega
    subst this
    exact ⟨1, by rw [f_X8_isEntry_L19, if_pos (nI_le (Nat.le_refl _) (by omega)), if_pos (Or.inr rfl)], Or.inl ⟨rfl, h⟩⟩
  | d + 1, i, hi, h => by
    rw [show fu + (d + 1) + 1 = (fu + d + 1) + 1 by omega, f_X8_isEntry_L19, if_neg (nI_ge (by omega) (by omega)), if_neg (by decide), e_gR hL.1, e_bs, md_r hL 7 5, show (120 : Int32) = nI 120 from rfl, pk_mul, nI_add, e_I (md_k hL 5 10 48000) (md_n hL 5 10 48000) (by omega), e_bs, e_gR hL.1, e_bs, md_r hL 1 1, e_I (md_k hL 1 10 2220) (md_n hL 1 10 2220) (by omega), e_bs]
    by_cases c : gI S (m + 5) (120 * e + i) = gI S (m + 1) i
    · rw [if_pos c, e_let, nI_1]
      refine isE1 hL he hn fu d (i + 1) (by omega) (fun j hj => ?_)
      by_cases q : j = i
      · rw [q]; exact c
      · exact h j (by omega)
    · rw [if_neg c, e_let, nI_1, isE0 (fu + d) (i + 1) (by omega) (by omega)]
      exact ⟨0, rfl, Or.inr ⟨rfl, fun q => c (q i (by omega))⟩⟩
theorem p8_isEntry {m e n k : Nat} {S : gS} (hL : md_L S m) (he : e < 400) (hn : n ≤ 120) (hk : gI S (m + 6) e = nI k) (hk2 : k ≤ 120) : ∃ x, f_X8_isEntry S m (nI e) (nI n) = some (x, S) ∧ ((x = 1 ∧ (k = n ∧ ∀ j, j < n → gI S (m + 5) (120 * e + j) = gI S (m + 1) j)) ∨ (x = 0 ∧ ¬ (k = n ∧ ∀ j, j < n → gI S (m + 5) (120 * e + j) = gI S (m + 1) j))) := by
  unfold f_X8_isEntry f_X8_isEntry_B15
  obtain ⟨fu, hf⟩ := g_fu n
  rw [e_gR hL.1, e_bs, md_r hL 8 6, e_I (md_k hL 6 10 400) (md_n hL 6 10 400) he, e_bs, hk, hf, show n + fu + 1 = fu + n + 1 by omega]
  by_cases c : k = n
  · rw [if_pos (by rw [c])]
    obtain ⟨x, e1, hx⟩ := isE1 hL he hn fu n 0 (by omega) (fun j hj => by omega)
    refine ⟨x, e1, ?_⟩
    rcases hx with ⟨rfl, q⟩ | ⟨rfl, q⟩
    · exact Or.inl ⟨rfl, c, q⟩
    · exact Or.inr ⟨rfl, fun w => q w.2⟩
  · rw [if_neg (by rw [nI_eq (by omega) (by omega)]; exact c), show (0 : Int32) = nI 0 from rfl]
    refine ⟨0, isE0 (fu + n) 0 (by omega) (by decide), Or.inr ⟨rfl, fun w => c w.1⟩⟩
def sq_ (S : gS) (z l n i : Nat) : Prop := kf_ S z l i = n ∧ ∀ j, j < n → ef_ S z l i j = gI S (z + 46) j
theorem p8_subL {z l n N : Nat} {S : gS} (hL : md_L S (z + 45)) (hl : l < 2) (hn : n ≤ 120) (hN : gI S (z + 52) l = nI N) (hE : en_I S (z + 45) l N) (fu : Nat) : ∀ d i, i + d = N → ((∃ i0, i ≤ i0 ∧ i0 < N ∧ sq_ S z l n i0 ∧ (∀ i', i ≤ i' → i' < i0 → ¬ sq_ S z l n i') ∧ f_X8_submit_L42 (fu + d + 1) S (z + 45) (nI l) (nI n) (nI i) = some (nI i0, S)) ∨ ((∀ i', i ≤ i' → i' < N → ¬ sq_ S z l n i') ∧ f_X8_submit_L42 (fu + d + 1) S (z + 45) (nI l) (nI n) (nI i) = f_X8_submit_L42 (fu + 1) S (z + 45) (nI l) (nI n) (nI N)))
  | 0, i, hi => by
    have : i = N := by omega
    subst this
    exact Or.inr ⟨fun i' h1 h2 => by omega, rfl⟩
  | d + 1, i, hi => by
    have hN2 := hE.1
    obtain ⟨k, k1, k2, k3⟩ := hE.2 i (by omega)
    have hkf : kf_ S z l i = k := by unfold kf_; rw [show gI S (z + 51) (200 * l + i) = nI k from k2, nI_clamp (by omega)]
    obtain ⟨x, e1, hx⟩ := p8_isEntry (m := z + 45) (e := 200 * l + i) (n := n) hL (by omega) hn k2 k1
    have hsq : sq_ S z l n i ↔ (k = n ∧ ∀ j, j < n → gI S (z + 45 + 5) (120 * (200 * l + i) + j) = gI S (z + 45 + 1) j) := by
      unfold sq_; rw [hkf]; exact Iff.rfl
    rw [show fu + (d + 1) + 1 = (fu + d + 1) + 1 by omega, f_X8_submit_L42, e_gR hL.1, e_bs, md_r hL 9 7, e_I (md_k hL 7 10 2) (md_n hL 7 10 2) hl, e_bs, show gI S (z + 45 + 7) l = nI N from hN, if_neg (nI_ge (by omega) (by omega)), e_dc hL.1, show (200 : Int32) = nI 200 from rfl, pk_mul, nI_add, e1, e_bi]
    rcases hx with ⟨rfl, q⟩ | ⟨rfl, q⟩
    · rw [if_neg (by decide)]
      exact Or.inl ⟨i, Nat.le_refl _, by omega, hsq.mpr q, fun i' h1 h2 => by omega, rfl⟩
    · rw [if_pos (by decide), e_let, nI_1]
      rcases p8_subL hL hl hn hN hE fu d (i + 1) (by omega) with ⟨i0, j1, j2, j3, j4, j5⟩ | ⟨j1, j2⟩
      · refine Or.inl ⟨i0, by omega, j2, j3, fun i' h1 h2 => ?_, j5⟩
        by_cases e : i' = i
        · subst e; exact fun w => q (hsq.mp w)
        · exact j4 i' (by omega) h2
      · refine Or.inr ⟨fun i' h1 h2 => ?_, j2⟩
        by_cases e : i' = i
        · subst e; exact fun w => q (hsq.mp w)
        · exact j1 i' (by omega) h2
theorem m_subE {T : gS} {m l n N fu : Nat} {e : Int32} (hT : md_L T m) (hl : l < 2) (hn : n < 2 ^ 31) (h7 : gI T (m + 7) l = nI N) : f_X8_submit_L117 (fu + 1) T m (nI l) (nI n) e (nI n) = some (nI N, gsI T (m + 7) l (nI (N + 1))) := by
  have kk := md_k hT 7 10 2
  have kn := md_n hT 7 10 2
  have k8 : gK (gsI T (m + 7) l (nI (N + 1))) m = 8 := hT.1
  have q : fI (gsI T (m + 7) l (nI (N + 1))) 10 (some (m + 7)) (nI l) = some (nI (N + 1)) := by
    rw [e_I (S := gsI T (m + 7) l (nI (N + 1))) (n := 2) kk kn hl, sI_s, va_up_s]
  have q2 : gR (gsI T (m + 7) l (nI (N + 1))) m 9 = some (m + 7) := md_r hT 9 7
  rw [f_X8_submit_L117, if_pos (nI_le (Nat.le_refl _) hn), e_gR hT.1, e_bs, md_r hT 9 7, e_I kk kn hl, e_bs, h7, nI_1, e_aI kk kn hl, e_bs, e_gR k8, e_bs, q2, q, e_bs, nI_pred]
theorem uq_submit {z : Nat} {S : gS} {a : Int32} (h : in_ z S) : Tq z (f_L_submit S (some z) a (some (z + 65))) (fun T => f_X8_submit T (z + 45) a) := by
  have y := h.1
  have M := ly_md y
  obtain ⟨n, n1, n3, n4, eu, Fu, yu, cu⟩ := su_ h
  have hu1 : ∀ x ∈ [z + 1], u1A z x := fun x hx => by simp only [List.mem_cons, List.not_mem_nil, or_false] at hx; unfold u1A; omega
  have mu : gI (gsI S (z + 1) 1 (nI 0)) (z + 45) = gI S (z + 45) := sI_n (by omega)
  have mo : ∀ o, 2 ≤ o → gI (gsI S (z + 1) 1 (nI 0)) (z + o) = gI S (z + o) := fun o ho => sI_n (by omega)
  unfold f_L_submit f_X7_submit
  rw [e_dc y.1.1, e_gR y.1.1, e_bs, y.1.2.1, e_dc y.2.1.1, eu, e_bi, e_dc yu.1.1]
  generalize hSu : gsI S (z + 1) 1 (nI 0) = Su at *
  have Mu := ly_md yu
  have thr : ∀ w : Int32, ¬ w ≤ 0 → f_X8_submit_B28 (gsI (gsZ Su (gZ Su + 1)) (z + 45) 2 (nI 0)) (z + 45) a (nI n) w (some (z + 45)) = some (0, gsI (gsI (gsZ Su (gZ Su + 1)) (z + 45) 2 (nI 0)) (z + 45) 0 w) := by
    intro w hw
    unfold f_X8_submit_B28
    rw [m_th (T := gsI (gsZ Su (gZ Su + 1)) (z + 45) 2 (nI 0)) Mu.1, if_neg hw]
  have us : f_X8_use (gsZ Su (gZ Su + 1)) (z + 45) = some (nI n, gsI (gsZ Su (gZ Su + 1)) (z + 45) 2 (nI 0)) := m_use (T := gsZ Su (gZ Su + 1)) Mu.1 (by rw [sZ_I, mu]; exact n3)
  rcases lg_cs a with ca | ⟨l, hl, rfl⟩
  · rw [lof_bad ca, e_bxl, e_bxl, if_pos rfl]
    refine ⟨1, gsZ Su (gZ Su + 1), 0, _, rfl, Mu.1, ?_, m0_s, fun q => absurd q (by decide), in_thr (w := 1) h Fu hu1 cu⟩
    show f_X8_submit _ _ _ = _
    unfold f_X8_submit
    rw [e_dc (S := gsZ Su (gZ Su + 1)) Mu.1, us, e_bi, isl_bad ca, e_bi, if_pos rfl]
    exact thr 1 (by decide)
  · rw [lof_in yu hl, e_bxr]
    obtain ⟨N, TS, H, kn, hlo⟩ := h.2.2.2.2.1 l hl
    have hlou := lo_fr hlo hl y Fu (fun x hx => by (try unfold lq_ at hx) <;> (try unfold pq_ at hx) <;> (try unfold cq_ at hx) <;> (simp only [List.mem_cons, List.not_mem_nil, or_false, false_or, List.cons_append, List.nil_append] at hx) <;> (try simp only [loA, loB, tpA, ooA, msA, vwA, vwB, lyB, scA]) <;> omega) (fun x hx => by (try unfold lq_ at hx) <;> (try unfold pq_ at hx) <;> (try unfold cq_ at hx) <;> (simp only [List.mem_cons, List.not_mem_nil, or_false, false_or, List.cons_append, List.nil_append] at hx) <;> (try simp only [loA, loB, tpA, ooA, msA, vwA, vwB, lyB, scA]) <;> omega)
    have hlo0 := hlo
    obtain ⟨⟨a1, a2, a3⟩, ⟨b1, b2, b3⟩, ⟨c1, c2, c3⟩, ⟨d1, d2⟩, kb, er, fu, hd, tm⟩ := hlo
    obtain ⟨⟨a1u, a2u, a3u⟩, -, -, -, -, eru, fuu, -, -⟩ := hlou
    have hN := a3.1
    have L := ly_lg y hl
    have Lu := ly_lg yu hl
    have T46 : gI Su (z + 46) = gI S (z + 46) := mo 46 (by decide)
    have n4u : rb_ Su (z + 2) 2200 (gI Su (z + 46)) := by rw [T46]; exact rb_fr n4 Fu y.2.1.2.2.1 (by (try unfold lq_) <;> (try unfold pq_) <;> (try unfold cq_) <;> (simp only [List.mem_cons, List.not_mem_nil, or_false, false_or, not_false_eq_true, List.cons_append, List.nil_append]) <;> omega)
    by_cases cn : n ≤ 120
    · obtain ⟨x, e1, hx⟩ := p_numberOf (r := z + 2) (n := n) (T := gI Su (z + 46)) Lu hN a1u yu.2.1.2.2.1 cn (by rw [yu.2.1.2.2.2]; decide) (by rw [yu.2.1.2.2.2]; decide) (fun j hj => n4u j (by omega)) eru
      rw [if_pos (show nI n ≤ (120 : Int32) from nI_le (b := 120) cn (by decide)), e_gR yu.1.1, e_bs, yu.1.2.1, e_gR yu.2.1.1, e_bs, yu.2.1.2.1, e_dc Lu.1, e1, e_bi]
      -- the reference's search, in any state that has the same rows
      have srch : ∀ {T : gS}, md_L T (z + 45) → gI T (z + 46) = gI Su (z + 46) → gI T (z + 50) = gI Su (z + 50) → gI T (z + 51) = gI Su (z + 51) → gI T (z + 52) = gI Su (z + 52) → ((∃ i0, i0 < N ∧ sq_ Su z l n i0 ∧ (∀ i', i' < i0 → ¬ sq_ Su z l n i') ∧ f_X8_submit_L42 gFuel T (z + 45) (nI l) (nI n) 0 = some (nI i0, T)) ∨ ((∀ i', i' < N → ¬ sq_ Su z l n i') ∧ ∃ f, f_X8_submit_L42 gFuel T (z + 45) (nI l) (nI n) 0 = f_X8_submit_L42 (f + 1) T (z + 45) (nI l) (nI n) (nI N))) := by
        intro T hT t46 t50 t51 t52
        obtain ⟨f, hf⟩ := g_fu N
        have sqe : ∀ i, sq_ T z l n i ↔ sq_ Su z l n i := fun i => by unfold sq_ kf_ ef_; rw [t46, t50, t51]
        have hET : en_I T (z + 45) l N := en_c a3u t50 t51
        have := p8_subL (z := z) (S := T) hT hl cn (by rw [t52]; exact a2u) hET f N 0 (by omega)
        rw [hf, show N + f + 1 = f + N + 1 by omega]
        rcases this with ⟨i0, -, j2, j3, j4, j5⟩ | ⟨j1, j2⟩
        · exact Or.inl ⟨i0, j2, (sqe i0).mp j3, fun i' hi' w => j4 i' (by omega) hi' ((sqe i').mpr w), j5⟩
        · exact Or.inr ⟨fun i' hi' w => j1 i' (by omega) hi' ((sqe i').mpr w), f, j2⟩
      rcases hx with ⟨i, hi, rfl, hq, hq'⟩ | ⟨rfl, hq⟩
      · -- it is there already
        rw [if_neg (fun e => by have := congrArg Int32.toInt e; rw [nI_toInt (by omega)] at this; have e1 : (-1 : Int32).toInt = -1 := rfl; omega), e_bxr, aL_o yu, e_bs]
        have F1 : fr_S [z + 1, z + 65] [] S (gsL Su (z + 65) 0 (nI i).toInt64) := fr_tr (fr_mo Fu (by simp) (by simp)) (fr_l (by simp))
        have us2 : f_X8_use (gsL Su (z + 65) 0 (nI i).toInt64) (z + 45) = some (nI n, gsI (gsL Su (z + 65) 0 (nI i).toInt64) (z + 45) 2 (nI 0)) := m_use (T := gsL Su (z + 65) 0 (nI i).toInt64) Mu.1 (by rw [sL_I, mu]; exact n3)
        have sr := srch (T := gsI (gsI (gsL Su (z + 65) 0 (nI i).toInt64) (z + 45) 2 (nI 0)) (z + 45) 0 0) Mu (by rw [sI_n (by omega), sI_n (by omega), sL_I]) (by rw [sI_n (by omega), sI_n (by omega), sL_I]) (by rw [sI_n (by omega), sI_n (by omega), sL_I]) (by rw [sI_n (by omega), sI_n (by omega), sL_I])
        rcases sr with ⟨i0, j1, j2, j3, j4⟩ | ⟨j1, -⟩
        · have hii : i0 = i := by
            rcases Nat.lt_trichotomy i0 i with q | q | q
            · exact (hq' i0 q j2).elim
            · exact q
            · exact (j3 i q hq).elim
          subst hii
          refine ⟨0, gsL Su (z + 65) 0 (nI i0).toInt64, nI i0, gsI (gsI (gsL Su (z + 65) 0 (nI i0).toInt64) (z + 45) 2 (nI 0)) (z + 45) 0 0, rfl, Mu.1, ?_, m0_s, fun _ => by rw [sI_L, sI_L, sL_s, va_up_s], ?_⟩
          · show f_X8_submit _ _ _ = _
            unfold f_X8_submit
            rw [e_dc (S := gsL Su _ _ _) Mu.1, us2, e_bi, isl_in hl, e_bi, if_neg (by decide), if_pos (show nI n ≤ (120 : Int32) from nI_le (b := 120) cn (by decide))]
            unfold f_X8_submit_B28
            rw [m_th (T := gsI (gsL Su (z + 65) 0 (nI i0).toInt64) (z + 45) 2 (nI 0)) Mu.1, if_pos (by decide)]
            exact j4
          · refine in_us (A1 := [z + 1, z + 65]) (A2 := [z + 45]) h F1 (fun x hx => by simp only [List.mem_cons, List.not_mem_nil, or_false] at hx; unfold u1A scA; omega) cu (fr_tr (fr_i (by simp)) (fr_i (by simp))) (fun x hx => by simp only [List.mem_cons, List.not_mem_nil, or_false] at hx; unfold scA; omega) ?_ ?_ ?_
            · rw [sI_s, va_up_n _ _ _ (by decide), sI_s, va_up_s]
            · rw [sI_s, va_up_n _ _ _ (by decide), sI_s, va_up_n _ _ _ (by decide)]
            · rw [sI_s, va_up_n _ _ _ (by decide), sI_s, va_up_n _ _ _ (by decide), sL_I, mu]; exact h.2.2.2.1.1
        · exact (j1 i hi hq).elim
      · rw [if_pos rfl, e_gI Lu.1, e_bs, a1u]
        by_cases cN : N < 200
        · -- a new one
          rw [if_pos (show nI N < (200 : Int32) from nI_lt (b := 200) cN (by decide)), e_gR yu.1.1, e_bs, yu.1.2.1, e_gR yu.2.1.1, e_bs, yu.2.1.2.1, e_dc Lu.1]
          obtain ⟨S1, e2, f1, p1, o1, ⟨rr, r1, rw1⟩, fu1, z1⟩ := p_addEntry (zz := z + 66) (r := z + 2) (n := n) (N := N) (lf := lf_ Su (z + 45) l) (E := gI Su (z + 46)) (by omega) Lu (ly_wf yu) (ly_z yu) fuu a1u cN yu.2.1.2.2.1 cn (by rw [yu.2.1.2.2.2]; decide) (by rw [yu.2.1.2.2.2]; decide) (by omega) (fun j hj => rb_and n4u (by omega))
          have hB1 : ∀ x ∈ [z + 6 + 10 * l + 5, z + 6 + 10 * l + 6], lyB z x := fun x hx => by simp only [List.mem_cons, List.not_mem_nil, or_false] at hx; unfold lyB; omega
          have y1 := ly_fr yu f1 hB1
          rw [e2, e_bi, e_bxr, aL_o y1, e_bs]
          have F1 : fr_S ([z + 1, z + 65] ++ (z + 6 + 10 * l) :: lq_ (z + 6 + 10 * l)) [z + 6 + 10 * l + 5, z + 6 + 10 * l + 6] S (gsL S1 (z + 65) 0 (nI N).toInt64) := fr_tr (fr_mo Fu (by simp) (by simp)) (fr_tr (fr_mo f1 (fun _ q => List.mem_append_right _ q) (fun _ q => q)) (fr_l (by simp)))
          have p1' : gI (gsL S1 (z + 65) 0 (nI N).toInt64) (z + 6 + 10 * l) 4 = nI (N + 1) := p1
          have o1' : ∀ k, k ≠ 4 → gI (gsL S1 (z + 65) 0 (nI N).toInt64) (z + 6 + 10 * l) k = gI S (z + 6 + 10 * l) k := fun k hk => by
            have := o1 k hk
            rw [fr_I Fu L.1 (by (try unfold lq_) <;> (try unfold pq_) <;> (try unfold cq_) <;> (simp only [List.mem_cons, List.not_mem_nil, or_false, false_or, not_false_eq_true, List.cons_append, List.nil_append]) <;> omega)] at this
            exact this
          have r1' : gR (gsL S1 (z + 65) 0 (nI N).toInt64) (z + 6 + 10 * l + 5) = va_up (gR S (z + 6 + 10 * l + 5)) N (some rr) := by
            rw [sL_R, r1, fr_R Fu (lg_k L 5 14 200) (by simp)]
          have rw1' : rw_at (z + 66) (gsL S1 (z + 65) 0 (nI N).toInt64) rr n (gI Su (z + 2)) := rw_fr rw1 (fr_l (A := [z + 65]) (B := []) (by simp)) (fun x hx => by (try unfold lq_ at hx) <;> (try unfold pq_ at hx) <;> (try unfold cq_ at hx) <;> (simp only [List.mem_cons, List.not_mem_nil, or_false, false_or, List.cons_append, List.nil_append] at hx) <;> (try simp only [loA, loB, tpA, ooA, msA, vwA, vwB, lyB, scA]) <;> omega) (by simp)
          have fu1' : fu_I (z + 66) (gsL S1 (z + 65) 0 (nI N).toInt64) (z + 6 + 10 * l) (fun i => if i = N then s_lf (gI Su (z + 46)) n else lf_ Su (z + 45) l i) (N + 1) := fu_fr fu1 (ly_lg y1 hl) (fr_l (A := [z + 65]) (B := []) (by simp)) (fun x hx => by (try unfold lq_ at hx) <;> (try unfold pq_ at hx) <;> (try unfold cq_ at hx) <;> (simp only [List.mem_cons, List.not_mem_nil, or_false, false_or, List.cons_append, List.nil_append] at hx) <;> (try simp only [loA, loB, tpA, ooA, msA, vwA, vwB, lyB, scA]) <;> omega) (by simp) (by simp)
          have cu' : gI (gsL S1 (z + 65) 0 (nI N).toInt64) (z + 1) 1 = nI 0 := by rw [sL_I, fr_I f1 yu.2.1.1 (by (try unfold lq_) <;> (try unfold pq_) <;> (try unfold cq_) <;> (simp only [List.mem_cons, List.not_mem_nil, or_false, false_or, not_false_eq_true, List.cons_append, List.nil_append]) <;> omega)]; exact cu
          have g1' : gL (gsL S1 (z + 65) 0 (nI N).toInt64) (z + 65) 0 = (nI N).toInt64 := by rw [sL_s, va_up_s]
          generalize gsL S1 (z + 65) 0 (nI N).toInt64 = S2 at *
          have nA : ∀ o, o < 20 → z + 45 + o ∉ [z + 1, z + 65] ++ (z + 6 + 10 * l) :: lq_ (z + 6 + 10 * l) := fun o ho q => by
            unfold lq_ at q
            simp only [List.mem_cons, List.not_mem_nil, or_false, List.mem_append] at q
            omega
          have y2 := ly_fr y F1 hB1
          have M2 := ly_md y2
          have t : ∀ o k n, (o, k, n) ∈ md_A → k < 16 → o < 20 → gI S2 (z + 45 + o) = gI S (z + 45 + o) := fun o k n hq hk h2 => fr_I F1 (ly_mk y o k n hq) (nA o h2) hk
          have m2 : gI S2 (z + 45) = gI S (z + 45) := fr_I F1 M.1 (nA 0 (by decide))
          have us2 : f_X8_use S2 (z + 45) = some (nI n, gsI S2 (z + 45) 2 (nI 0)) := m_use M2.1 (by rw [m2]; exact n3)
          have q50 : gI S2 (z + 50) = gI Su (z + 50) := (t 5 10 48000 (by decide) (by decide) (by decide)).trans (mo 50 (by decide)).symm
          have q51 : gI S2 (z + 51) = gI Su (z + 51) := (t 6 10 400 (by decide) (by decide) (by decide)).trans (mo 51 (by decide)).symm
          have q52 : gI S2 (z + 52) = gI Su (z + 52) := (t 7 10 2 (by decide) (by decide) (by decide)).trans (mo 52 (by decide)).symm
          have q46 : gI S2 (z + 46) = gI Su (z + 46) := (t 1 10 2220 (by decide) (by decide) (by decide)).trans (mo 46 (by decide)).symm
          have sr := srch (T := gsI (gsI S2 (z + 45) 2 (nI 0)) (z + 45) 0 0) M2 (by rw [sI_n (by omega), sI_n (by omega)]; exact q46) (by rw [sI_n (by omega), sI_n (by omega)]; exact q50) (by rw [sI_n (by omega), sI_n (by omega)]; exact q51) (by rw [sI_n (by omega), sI_n (by omega)]; exact q52)
          rcases sr with ⟨i0, j1, j2, -, -⟩ | ⟨-, fN, jN⟩
          · exact (hq i0 j1 j2).elim
          · have M3 : md_L (gsI (gsI S2 (z + 45) 2 (nI 0)) (z + 45) 0 0) (z + 45) := M2
            have i7 : gI (gsI (gsI S2 (z + 45) 2 (nI 0)) (z + 45) 0 0) (z + 45 + 7) l = nI N := by rw [sI_n (by omega), sI_n (by omega), t 7 10 2 (by decide) (by decide) (by decide)]; exact a2
            have M4 : md_L (gsI (gsI (gsI S2 (z + 45) 2 (nI 0)) (z + 45) 0 0) (z + 45 + 6) (200 * l + N) (nI n)) (z + 45) := M2
            obtain ⟨fu', hf⟩ := g_fu n
            have e3 := cp_submit (m := z + 45) (b := l) (c := 200 * l + N) (n := n) (f := gI S (z + 46)) (g := gI S (z + 50)) ⟨cn, by omega⟩ fu' n 0 (by omega) (gsI (gsI (gsI S2 (z + 45) 2 (nI 0)) (z + 45) 0 0) (z + 45 + 6) (200 * l + N) (nI n)) M4 (fun j => by
              rw [sI_n (by omega), sI_n (by omega), sI_n (by omega), t 5 10 48000 (by decide) (by decide) (by decide)]
              unfold ou_; rw [if_neg (by omega)]) (fun q hq => by rw [sI_n (by omega), sI_n (by omega), sI_n (by omega), t 1 10 2220 (by decide) (by decide) (by decide)])
            have M5 : md_L (gsA (gsI (gsI (gsI S2 (z + 45) 2 (nI 0)) (z + 45) 0 0) (z + 45 + 6) (200 * l + N) (nI n)) (z + 45 + 5) (ou_ (gI S (z + 50)) (120 * (200 * l + N)) n (gI S (z + 46)))) (z + 45) := M2
            have i7' : gI (gsA (gsI (gsI (gsI S2 (z + 45) 2 (nI 0)) (z + 45) 0 0) (z + 45 + 6) (200 * l + N) (nI n)) (z + 45 + 5) (ou_ (gI S (z + 50)) (120 * (200 * l + N)) n (gI S (z + 46)))) (z + 45 + 7) l = nI N := by rw [sA_n (by omega), sI_n (by omega)]; exact i7
            have e4 : f_X8_submit S2 (z + 45) (nI l) = some (nI N, gsI (gsA (gsI (gsI (gsI S2 (z + 45) 2 (nI 0)) (z + 45) 0 0) (z + 45 + 6) (200 * l + N) (nI n)) (z + 45 + 5) (ou_ (gI S (z + 50)) (120 * (200 * l + N)) n (gI S (z + 46)))) (z + 45 + 7) l (nI (N + 1))) := by
              unfold f_X8_submit
              rw [e_dc M2.1, us2, e_bi, isl_in hl, e_bi, if_neg (by decide), if_pos (show nI n ≤ (120 : Int32) from nI_le (b := 120) cn (by decide))]
              unfold f_X8_submit_B28
              rw [m_th (T := gsI S2 (z + 45) 2 (nI 0)) M2.1, if_pos (by decide), jN, f_X8_submit_L42, e_gR M3.1, e_bs, md_r M3 9 7, e_I (md_k M3 7 10 2) (md_n M3 7 10 2) hl, e_bs, i7, if_pos (nI_le (Nat.le_refl _) (by omega)), e_bs, e_I (md_k M3 7 10 2) (md_n M3 7 10 2) hl, e_bs, i7, if_neg (show ¬ nI N = (200 : Int32) from by rw [show (200 : Int32) = nI 200 from rfl, nI_eq (by omega) (by decide)]; omega), e_bs, e_I (md_k M3 7 10 2) (md_n M3 7 10 2) hl, e_bs, i7, show (200 : Int32) = nI 200 from rfl, pk_mul, nI_add, e_let, e_gR M3.1, e_bs, md_r M3 8 6, e_aI (md_k M3 6 10 400) (md_n M3 6 10 400) (by omega), e_bs, hf, show n + fu' + 1 = fu' + n + 1 by omega]
              refine Eq.trans e3 ?_
              exact m_subE M5 hl (by omega) i7'
            have F2 : fr_S [z + 45, z + 50, z + 51, z + 52] [] S2 (gsI (gsA (gsI (gsI (gsI S2 (z + 45) 2 (nI 0)) (z + 45) 0 0) (z + 45 + 6) (200 * l + N) (nI n)) (z + 45 + 5) (ou_ (gI S (z + 50)) (120 * (200 * l + N)) n (gI S (z + 46)))) (z + 45 + 7) l (nI (N + 1))) := fr_tr (fr_tr (fr_tr (fr_tr (fr_i (by simp)) (fr_i (by simp))) (fr_i (by simp))) (fr_A (by simp))) (fr_i (by simp))
            have r50 : ∀ j, gI (gsI (gsA (gsI (gsI (gsI S2 (z + 45) 2 (nI 0)) (z + 45) 0 0) (z + 45 + 6) (200 * l + N) (nI n)) (z + 45 + 5) (ou_ (gI S (z + 50)) (120 * (200 * l + N)) n (gI S (z + 46)))) (z + 45 + 7) l (nI (N + 1))) (z + 50) j = ou_ (gI S (z + 50)) (120 * (200 * l + N)) n (gI S (z + 46)) j := fun j => by
              rw [sI_n (by omega)]
              show gI (gsA _ (z + 45 + 5) _) (z + 45 + 5) j = _
              rw [sA_s]
            have r51 : ∀ j, gI (gsI (gsA (gsI (gsI (gsI S2 (z + 45) 2 (nI 0)) (z + 45) 0 0) (z + 45 + 6) (200 * l + N) (nI n)) (z + 45 + 5) (ou_ (gI S (z + 50)) (120 * (200 * l + N)) n (gI S (z + 46)))) (z + 45 + 7) l (nI (N + 1))) (z + 51) j = if j = 200 * l + N then nI n else gI S (z + 51) j := fun j => by
              rw [sI_n (by omega), sA_n (by omega)]
              show gI (gsI _ (z + 45 + 6) _ _) (z + 45 + 6) j = _
              rw [sI_s, va_up_e, sI_n (by omega), sI_n (by omega), t 6 10 400 (by decide) (by decide) (by decide)]
            have r52 : ∀ j, gI (gsI (gsA (gsI (gsI (gsI S2 (z + 45) 2 (nI 0)) (z + 45) 0 0) (z + 45 + 6) (200 * l + N) (nI n)) (z + 45 + 5) (ou_ (gI S (z + 50)) (120 * (200 * l + N)) n (gI S (z + 46)))) (z + 45 + 7) l (nI (N + 1))) (z + 52) j = if j = l then nI (N + 1) else gI S (z + 52) j := fun j => by
              show gI (gsI _ (z + 45 + 7) _ _) (z + 45 + 7) j = _
              rw [sI_s, va_up_e, sA_n (by omega), sI_n (by omega), sI_n (by omega), sI_n (by omega), t 7 10 2 (by decide) (by decide) (by decide)]
            have mk : ∀ k, gI (gsI (gsA (gsI (gsI (gsI S2 (z + 45) 2 (nI 0)) (z + 45) 0 0) (z + 45 + 6) (200 * l + N) (nI n)) (z + 45 + 5) (ou_ (gI S (z + 50)) (120 * (200 * l + N)) n (gI S (z + 46)))) (z + 45 + 7) l (nI (N + 1))) (z + 45) k = if k = 0 then 0 else if k = 2 then nI 0 else gI S (z + 45) k := fun k => by
              rw [sI_n (by omega), sA_n (by omega), sI_n (by omega), sI_s, va_up_e, sI_s, va_up_e, m2]
            generalize gsI (gsA (gsI (gsI (gsI S2 (z + 45) 2 (nI 0)) (z + 45) 0 0) (z + 45 + 6) (200 * l + N) (nI n)) (z + 45 + 5) (ou_ (gI S (z + 50)) (120 * (200 * l + N)) n (gI S (z + 46)))) (z + 45 + 7) l (nI (N + 1)) = S3 at *
            have F : fr_S ([z + 1, z + 65] ++ (z + 6 + 10 * l) :: lq_ (z + 6 + 10 * l) ++ [z + 45, z + 50, z + 51, z + 52]) ([z + 6 + 10 * l + 5, z + 6 + 10 * l + 6] ++ []) S S3 := fr_ap F1 F2
            have hAF : ∀ x ∈ [z + 1, z + 65] ++ (z + 6 + 10 * l) :: lq_ (z + 6 + 10 * l) ++ [z + 45, z + 50, z + 51, z + 52], x = z + 1 ∨ x = z + 65 ∨ x = z + 6 + 10 * l ∨ (z + 6 + 10 * l + 1 ≤ x ∧ x ≤ z + 6 + 10 * l + 3) ∨ x = z + 6 + 10 * l + 8 ∨ x = z + 45 ∨ (z + 50 ≤ x ∧ x ≤ z + 52) := fun x hx => by
              unfold lq_ at hx
              simp only [List.mem_cons, List.not_mem_nil, or_false, List.mem_append] at hx
              omega
            have hBF : ∀ x ∈ [z + 6 + 10 * l + 5, z + 6 + 10 * l + 6] ++ ([] : List Nat), x = z + 6 + 10 * l + 5 ∨ x = z + 6 + 10 * l + 6 := fun x hx => by simp only [List.append_nil, List.mem_cons, List.not_mem_nil, or_false] at hx; exact hx
            refine ⟨0, S2, nI N, S3, rfl, M2.1, e4, by rw [mk 0]; rfl, fun _ => by rw [fr_L F2 y2.2.2.2.2.2.2.2.2.2.1.1 (by (try unfold lq_) <;> (try unfold pq_) <;> (try unfold cq_) <;> (simp only [List.mem_cons, List.not_mem_nil, or_false, false_or, not_false_eq_true, List.cons_append, List.nil_append]) <;> omega), g1'], ly_fr y F (fun x hx => by have := hBF x hx; unfold lyB; omega), tp_0 h.2.1 y F (fun x hx => by have := hAF x hx; omega) ?_ (by rw [mk 2]; rfl), oo_fr h.2.2.1 y F (fun x hx => by have := hAF x hx; unfold ooA; omega) (by rw [mk 4]; rfl), ms_fr h.2.2.2.1 y F (fun x hx => by have := hAF x hx; unfold msA; omega) (by rw [mk 17]; rfl), fun l' hl' => ?_, vw_fr h.2.2.2.2.2 y F (fun x hx => by have := hAF x hx; unfold vwA; omega) (fun x hx => by have := hBF x hx; unfold vwB; omega)⟩
            · rw [fr_I F2 y2.2.1.1 (by (try unfold lq_) <;> (try unfold pq_) <;> (try unfold cq_) <;> (simp only [List.mem_cons, List.not_mem_nil, or_false, false_or, not_false_eq_true, List.cons_append, List.nil_append]) <;> omega)]; exact cu'
            · have g : ∀ o k n, (o, k, n) ∈ md_A → k < 16 → (o < 5 ∨ 7 < o) → 1 ≤ o → o < 20 → gI S3 (z + 45 + o) = gI S (z + 45 + o) := fun o k n hq hk h1 h0 h2 => by rw [fr_I F2 (ly_mk y2 o k n hq) (by (try unfold lq_) <;> (try unfold pq_) <;> (try unfold cq_) <;> (simp only [List.mem_cons, List.not_mem_nil, or_false, false_or, not_false_eq_true, List.cons_append, List.nil_append]) <;> omega) hk]; exact t o k n hq hk h2
              have gl : gL S3 (z + 55) = gL S (z + 55) := fr_L F (ly_mk y 10 11 2) (fun q => by have := hAF _ q; omega)
              have g50 : ∀ l' i j, l' < 2 → i < 200 → j < 120 → (l' ≠ l ∨ i < N) → gI S3 (z + 50) (120 * (200 * l' + i) + j) = gI S (z + 50) (120 * (200 * l' + i) + j) := fun l' i j h1 h2 h3 h4 => by
                rw [r50]
                unfold ou_
                rw [if_neg (by omega)]
              by_cases e : l' = l
              · subst e
                have ob : ∀ k, k ≠ 4 → gI S3 (z + 6 + 10 * l') k = gI S (z + 6 + 10 * l') k := fun k hk => by rw [fr_I F2 (ly_lg y2 hl).1 (by (try unfold lq_) <;> (try unfold pq_) <;> (try unfold cq_) <;> (simp only [List.mem_cons, List.not_mem_nil, or_false, false_or, not_false_eq_true, List.cons_append, List.nil_append]) <;> omega)]; exact o1' k hk
                obtain ⟨x1, x2⟩ := lo_k hl y F (fun q => by have := hAF _ q; omega) (fun j _ => by rw [show gI S3 (z + 48) = gI S (z + 48) from g 3 10 200 (by decide) (by decide) (by decide) (by decide) (by decide)]) (by rw [show gI S3 (z + 49) = gI S (z + 49) from g 4 10 2 (by decide) (by decide) (by decide) (by decide) (by decide)]) d2 kb
                obtain ⟨x6, x7⟩ := lo_h hl y F (fun x hx => by have := hAF x hx; omega) (fun x hx => by have := hBF x hx; omega) c3 (fun i j _ _ => by rw [show gI S3 (z + 54) = gI S (z + 54) from g 9 10 6400 (by decide) (by decide) (by decide) (by decide) (by decide)]) (by rw [gl]) hd tm
                have kN : kf_ S3 z l' N = n := by unfold kf_; rw [r51, if_pos rfl, nI_clamp (by omega)]
                have eN : ∀ j, j < n → ef_ S3 z l' N j = gI S (z + 46) j := fun j hj => by
                  unfold ef_; rw [r50]; unfold ou_
                  rw [if_pos (by omega), show 120 * (200 * l' + N) + j - 120 * (200 * l' + N) = j by omega]
                have kO : ∀ i, i < N → kf_ S3 z l' i = kf_ S z l' i := fun i hi => by unfold kf_; rw [r51, if_neg (by omega)]
                have hrr : rw_at (z + 66) S3 rr n (gI Su (z + 2)) := rw_fr rw1' F2 (fun x hx => by (try unfold lq_ at hx) <;> (try unfold pq_ at hx) <;> (try unfold cq_ at hx) <;> (simp only [List.mem_cons, List.not_mem_nil, or_false, false_or, List.cons_append, List.nil_append] at hx) <;> (try simp only [loA, loB, tpA, ooA, msA, vwA, vwB, lyB, scA]) <;> omega) (by simp)
                refine ⟨N + 1, TS, H, kn, ⟨?_, by rw [r52, if_pos rfl], by omega, fun i hi => ?_⟩, ⟨by rw [ob 6 (by decide)]; exact b1, by rw [show gI S3 (z + 53) = gI S (z + 53) from g 8 10 2 (by decide) (by decide) (by decide) (by decide) (by decide)]; exact b2, by omega⟩, ⟨by rw [ob 8 (by decide)]; exact c1, by rw [show gI S3 (z + 56) = gI S (z + 56) from g 11 10 2 (by decide) (by decide) (by decide) (by decide) (by decide)]; exact c2, c3⟩, ⟨by rw [ob 2 (by decide)]; exact d1, x1⟩, x2, fun i hi => ?_, ?_, x6, x7⟩
                · rw [fr_I F2 (ly_lg y2 hl).1 (by (try unfold lq_) <;> (try unfold pq_) <;> (try unfold cq_) <;> (simp only [List.mem_cons, List.not_mem_nil, or_false, false_or, not_false_eq_true, List.cons_append, List.nil_append]) <;> omega)]; exact p1'
                · by_cases ei : i = N
                  · subst ei
                    refine ⟨n, cn, by show gI S3 (z + 51) _ = _; rw [r51, if_pos rfl], fun j hj => ?_⟩
                    have := eN j hj
                    unfold ef_ at this
                    show bt_ (gI S3 (z + 50) (120 * (200 * l' + i) + j))
                    rw [this]; exact (n4 j (by omega)).2
                  · obtain ⟨k, k1, k2, k3⟩ := a3.2 i (by omega)
                    refine ⟨k, k1, by show gI S3 (z + 51) _ = _; rw [r51, if_neg (by omega)]; exact k2, fun j hj => ?_⟩
                    show bt_ (gI S3 (z + 50) (120 * (200 * l' + i) + j))
                    rw [g50 l' i j hl (by omega) (by omega) (Or.inr (by omega))]; exact k3 j hj
                · by_cases ei : i = N
                  · subst ei
                    rw [kN]
                    refine ⟨cn, fun j hj => by rw [eN j hj]; exact (n4 j (by omega)).2, rr, ?_, rw_c hrr fun j hj => ?_⟩
                    · rw [fr_R F2 (lg_k (ly_lg y2 hl) 5 14 200) (by simp), r1', va_up_s]
                    · rw [eN j hj, fr_I Fu y.2.1.2.2.1 (by (try unfold lq_) <;> (try unfold pq_) <;> (try unfold cq_) <;> (simp only [List.mem_cons, List.not_mem_nil, or_false, false_or, not_false_eq_true, List.cons_append, List.nil_append]) <;> omega)]; exact (n4 j (by omega)).1
                  · obtain ⟨q1, q2, r, q3, q4⟩ := er i (by omega)
                    rw [kO i (by omega)]
                    have hef : ∀ j, j < kf_ S z l' i → ef_ S3 z l' i j = ef_ S z l' i j := fun j hj => g50 l' i j hl (by omega) (by omega) (Or.inr (by omega))
                    refine ⟨q1, fun j hj => by rw [hef j hj]; exact q2 j hj, r, ?_, rw_fr (rw_c q4 fun j hj => by rw [hef j hj]) F (fun x hx => by have := hAF x hx; omega) (fun x hx => by have := hBF x hx; omega)⟩
                    rw [fr_R F2 (lg_k (ly_lg y2 hl) 5 14 200) (by simp), r1', va_up_n _ _ _ ei]; exact q3
                · refine fu_c (N := N + 1) (fu_fr fu1' (ly_lg y2 hl) F2 (fun x hx => by (try unfold lq_ at hx) <;> (try unfold pq_ at hx) <;> (try unfold cq_ at hx) <;> (simp only [List.mem_cons, List.not_mem_nil, or_false, false_or, List.cons_append, List.nil_append] at hx) <;> (try simp only [loA, loB, tpA, ooA, msA, vwA, vwB, lyB, scA]) <;> omega) (by simp) (by simp)) (fun k a q => q) (fun i hi q hq8 => ?_)
                  by_cases ei : i = N
                  · subst ei
                    rw [if_pos rfl, T46]
                    unfold lf_
                    have k6 : gI S3 (z + 45 + 6) (200 * l' + i) = nI n := by
                      have := r51 (200 * l' + i)
                      rw [if_pos rfl] at this
                      exact this
                    rw [k6, nI_clamp (by omega)]
                    refine s_lf_c (fun j hj => ?_) hq8
                    have := eN j hj
                    unfold ef_ at this
                    exact this.symm
                  · rw [if_neg ei]
                    obtain ⟨k, k1, k2, k3⟩ := a3u.2 i (by omega)
                    unfold lf_
                    rw [show gI S3 (z + 45 + 6) (200 * l' + i) = gI Su (z + 45 + 6) (200 * l' + i) from by show gI S3 (z + 51) _ = gI Su (z + 51) _; rw [r51, if_neg (by omega), mo 51 (by decide)], k2, nI_clamp (by omega)]
                    exact s_lf_c (fun j hj => by show gI Su (z + 50) _ = gI S3 (z + 50) _; rw [g50 l' i j hl (by omega) (by omega) (Or.inr (by omega)), mo 50 (by decide)]) hq8
              · obtain ⟨N', TS', H', kn', q⟩ := h.2.2.2.2.1 l' hl'
                refine ⟨N', TS', H', kn', lo_ag q hl' y F (fun x hx => by have := hAF x hx; omega) (fun x hx => by have := hBF x hx; unfold loB; omega) ⟨⟨fun j hj => by rw [show gI S3 (z + 48) = gI S (z + 48) from g 3 10 200 (by decide) (by decide) (by decide) (by decide) (by decide)], by rw [show gI S3 (z + 49) = gI S (z + 49) from g 4 10 2 (by decide) (by decide) (by decide) (by decide) (by decide)]⟩, ⟨fun i j h1 h2 => g50 l' i j hl' h1 h2 (Or.inl e), fun i hi => by rw [r51, if_neg (by omega)], by rw [r52, if_neg e], by rw [show gI S3 (z + 53) = gI S (z + 53) from g 8 10 2 (by decide) (by decide) (by decide) (by decide) (by decide)]⟩, fun i j _ _ => by rw [show gI S3 (z + 54) = gI S (z + 54) from g 9 10 6400 (by decide) (by decide) (by decide) (by decide) (by decide)], by rw [gl], by rw [show gI S3 (z + 56) = gI S (z + 56) from g 11 10 2 (by decide) (by decide) (by decide) (by decide) (by decide)]⟩⟩
        · -- no room
          have hN200 : N = 200 := by omega
          subst hN200
          rw [if_neg (show ¬ nI 200 < (200 : Int32) from by decide), e_bxl, if_neg (by decide), if_neg (by decide), if_pos rfl]
          have sr := srch (T := gsI (gsI (gsZ Su (gZ Su + 1)) (z + 45) 2 (nI 0)) (z + 45) 0 0) Mu (by rw [sI_n (by omega), sI_n (by omega), sZ_I]) (by rw [sI_n (by omega), sI_n (by omega), sZ_I]) (by rw [sI_n (by omega), sI_n (by omega), sZ_I]) (by rw [sI_n (by omega), sI_n (by omega), sZ_I])
          rcases sr with ⟨i0, j1, j2, -, -⟩ | ⟨-, fN, jN⟩
          · exact (hq i0 j1 j2).elim
          · refine ⟨3, gsZ Su (gZ Su + 1), 0, gsI (gsI (gsI (gsZ Su (gZ Su + 1)) (z + 45) 2 (nI 0)) (z + 45) 0 0) (z + 45) 0 3, rfl, Mu.1, ?_, m0_s, fun q => absurd q (by decide), in_m0 (in_thr (w := 0) h Fu hu1 cu)⟩
            show f_X8_submit _ _ _ = _
            unfold f_X8_submit
            rw [e_dc (S := gsZ Su (gZ Su + 1)) Mu.1, us, e_bi, isl_in hl, e_bi, if_neg (by decide), if_pos (show nI n ≤ (120 : Int32) from nI_le (b := 120) cn (by decide))]
            unfold f_X8_submit_B28
            have M3 : md_L (gsI (gsI (gsZ Su (gZ Su + 1)) (z + 45) 2 (nI 0)) (z + 45) 0 0) (z + 45) := Mu
            have i7 : gI (gsI (gsI (gsZ Su (gZ Su + 1)) (z + 45) 2 (nI 0)) (z + 45) 0 0) (z + 45 + 7) l = nI 200 := by rw [sI_n (by omega), sI_n (by omega), sZ_I]; exact a2u
            rw [m_th (T := gsI (gsZ Su (gZ Su + 1)) (z + 45) 2 (nI 0)) Mu.1, if_pos (by decide), jN, f_X8_submit_L42, e_gR M3.1, e_bs, md_r M3 9 7, e_I (md_k M3 7 10 2) (md_n M3 7 10 2) hl, e_bs, i7, if_pos (show nI 200 ≤ nI 200 from by decide), e_bs, e_I (md_k M3 7 10 2) (md_n M3 7 10 2) hl, e_bs, i7, if_pos (show nI 200 = (200 : Int32) from rfl), e_pI M3.1, e_bs]
    · rw [if_neg (show ¬ nI n ≤ (120 : Int32) from nI_ge (a := 120) (by omega) (by omega)), e_bxl, if_neg (by decide), if_pos rfl]
      refine ⟨2, gsZ Su (gZ Su + 1), 0, _, rfl, Mu.1, ?_, m0_s, fun q => absurd q (by decide), in_thr (w := 2) h Fu hu1 cu⟩
      show f_X8_submit _ _ _ = _
      unfold f_X8_submit
      rw [e_dc (S := gsZ Su (gZ Su + 1)) Mu.1, us, e_bi, isl_in hl, e_bi, if_neg (by decide), if_neg (show ¬ nI n ≤ (120 : Int32) from nI_ge (a := 120) (by omega) (by omega))]
      exact thr 2 (by decide)
