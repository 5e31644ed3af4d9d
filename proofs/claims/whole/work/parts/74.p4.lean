/-! has -/
theorem isw_in {w : Nat} {S : gS} (hw : w < 4) : f_X8_isWitness S (nI w) = some (1, S) := by
  unfold f_X8_isWitness
  rw [if_neg (nI_pos (by omega)), if_neg (show ¬ (3 : Int32) < nI w from nI_nlt (a := 3) (by omega) (by decide))]
theorem isw_bad {S : gS} {v : Int32} (h : v < 0 ∨ nI 4 ≤ v) : f_X8_isWitness S v = some (0, S) := by
  unfold f_X8_isWitness
  by_cases c : v < 0
  · rw [if_pos c]
  · have h4 := h.resolve_left c
    rw [if_neg c, if_pos (show (3 : Int32) < v from Int32.lt_of_lt_of_le (show (3 : Int32) < nI 4 by decide) h4)]
theorem vof_bad {z : Nat} {S : gS} {v1 v2 : Int32} (h : (v1 < 0 ∨ nI 4 ≤ v1) ∨ (v2 < 0 ∨ nI 2 ≤ v2)) : f_X7_viewOf S z v1 v2 = some (.inl "java/lang/IndexOutOfBoundsException", gsZ S (gZ S + 1)) := by
  unfold f_X7_viewOf
  by_cases c1 : v1 < 0
  · rw [if_pos c1]
  · rw [if_neg c1]
    by_cases c2 : (4 : Int32) ≤ v1
    · rw [if_pos c2]
    · rw [if_neg c2]
      have h2 : v2 < 0 ∨ nI 2 ≤ v2 := by
        rcases h with (q | q) | q
        · exact (c1 q).elim
        · exact (c2 q).elim
        · exact q
      by_cases c3 : v2 < 0
      · rw [if_pos c3]
      · rw [if_neg c3, if_neg (show ¬ v2 < (2 : Int32) from fun q => absurd (h2.resolve_left c3) (Int32.not_le.mpr q))]
theorem vof_in {z w l : Nat} {S : gS} (y : ly_ z S) (hw : w < 4) (hl : l < 2) : f_X7_viewOf S z (nI w) (nI l) = some (.inr (some (z + 27 + (2 * w + l))), S) := by
  unfold f_X7_viewOf
  rw [if_neg (nI_pos (by omega)), if_neg (show ¬ (4 : Int32) ≤ nI w from nI_ge (b := 4) (by omega) (by decide)), if_neg (nI_pos (by omega)), if_pos (show nI l < (2 : Int32) from nI_lt (b := 2) hl (by decide)), e_gR y.1.1, e_bs, y.1.2.2.2.2.1, show (2 : Int32) = nI 2 from rfl, pk_mul, nI_add, e_R y.2.2.2.2.2.1.1 y.2.2.2.2.2.1.2.1 (show w * 2 + l < 8 by omega), e_bs, (y.2.2.2.2.2.1.2.2 (w * 2 + l) (by omega)).1, Nat.mul_comm w 2]
theorem plc {w l q : Nat} {S : gS} : f_X8_placeOf S (nI w) (nI l) (nI q) = some (nI (3 * (2 * w + l) + q), S) := by
  unfold f_X8_placeOf
  rw [show (2 : Int32) = nI 2 from rfl, show (3 : Int32) = nI 3 from rfl, pk_mul, nI_add, pk_mul, nI_add]
theorem row_in {a q : Nat} {S : gS} (hk : gK S a = 6) (hq : q < 3) : f_X6_rowAt S a (nI q) = some (gR S a q, S) := by
  unfold f_X6_rowAt
  rw [e_let]
  obtain rfl | rfl | rfl : q = 0 ∨ q = 1 ∨ q = 2 := by omega
  · rw [if_pos (by decide), e_gR hk, e_bs]
  · rw [if_neg (by decide), if_pos (by decide), e_gR hk, e_bs]
  · rw [if_neg (by decide), if_neg (by decide), if_pos (by decide), e_gR hk, e_bs]
theorem row_bad {a : Nat} {S : gS} {v : Int32} (h : v < 0 ∨ nI 3 ≤ v) : f_X6_rowAt S a v = some (none, S) := by
  unfold f_X6_rowAt
  have h0 : ¬ v = 0 := fun e => by subst e; exact absurd h (by decide)
  have h1 : ¬ v = 1 := fun e => by subst e; exact absurd h (by decide)
  have h2 : ¬ v = 2 := fun e => by subst e; exact absurd h (by decide)
  have h3 : v.toInt < 0 ∨ 2 < v.toInt := by
    rcases h with c | c
    · exact Or.inl (Int32.lt_iff_toInt_lt.mp c)
    · have : (3 : Int) ≤ v.toInt := Int32.le_iff_toInt_le.mp c
      omega
  rw [e_let, if_neg h0, if_neg h1, if_neg h2, if_pos h3]
theorem m_hasE {T : gS} {m c fu : Nat} (hT : md_L T m) : f_X8_has_L70 (fu + 1) T m (nI c) (nI 80) = some (1, gsI T m 4 (nI 80)) := by
  rw [f_X8_has_L70, if_pos (show (80 : Int32) ≤ nI 80 from by decide), e_pI hT.1, e_bs]
  rfl
theorem m_has {m w l q : Nat} {T : gS} (hL : md_L T m) (hw : w < 4) (hl : l < 2) (hq : q < 3) (h1 : gI T (m + 13) (3 * (2 * w + l) + q) = 1) : ∃ S', f_X8_has T m (nI w) (nI l) (nI q) = some (1, S') ∧ fr_S [m, m + 2] [] T S' ∧ gI S' m 0 = 0 ∧ (∀ k, k ≠ 0 → k ≠ 4 → gI S' m k = gI T m k) ∧ gI S' m 4 = nI 80 ∧ ∀ j, gI S' (m + 2) j = if j < 80 then gI T (m + 12) (80 * (3 * (2 * w + l) + q) + j) else gI T (m + 2) j := by
  obtain ⟨fu, hf⟩ := g_fu 80
  have L0 : md_L (gsI T m 0 0) m := hL
  have e := cp_has (m := m) (c := 3 * (2 * w + l) + q) (n := 80) (f := fun j => gI T (m + 12) (80 * (3 * (2 * w + l) + q) + j)) (g := gI T (m + 2)) rfl (by omega) fu 80 0 (by omega) (gsI T m 0 0) L0 (fun j => by rw [sI_n (by omega)]; unfold ou_; rw [if_neg (by omega)]) (fun j hj => by rw [sI_n (by omega)])
  have L1 : md_L (gsA (gsI T m 0 0) (m + 2) (ou_ (gI T (m + 2)) 0 80 fun j => gI T (m + 12) (80 * (3 * (2 * w + l) + q) + j))) m := hL
  have e2 := m_hasE (fu := fu) (c := 3 * (2 * w + l) + q) L1
  refine ⟨gsI (gsA (gsI T m 0 0) (m + 2) (ou_ (gI T (m + 2)) 0 80 fun j => gI T (m + 12) (80 * (3 * (2 * w + l) + q) + j))) m 4 (nI 80), ?_, fr_tr (fr_i (by simp)) (fr_tr (fr_A (by simp)) (fr_i (by simp))), ?_, fun k h0 h4 => ?_, by rw [sI_s, va_up_s], fun j => ?_⟩
  · unfold f_X8_has f_X8_has_B47
    rw [isw_in hw, e_bi, if_neg (by decide), isl_in hl, e_bi, if_neg (by decide), if_neg (nI_pos (by omega)), if_neg (show ¬ (2 : Int32) < nI q from nI_nlt (a := 2) (by omega) (by decide)), e_gR hL.1, e_bs, md_r hL 15 13, plc, e_bi, e_I (md_k hL 13 12 24) (md_n hL 13 12 24) (by omega), e_bs, h1, if_neg (by decide), m_th hL.1, if_pos (by decide), plc, e_bi, hf, show 80 + fu + 1 = fu + 80 + 1 by omega]
    exact e.trans e2
  · rw [sI_s, va_up_n _ _ _ (by decide), sA_n (by omega), sI_s, va_up_s]
  · rw [sI_s, va_up_n _ _ _ h4, sA_n (by omega), sI_s, va_up_n _ _ _ h0]
  · rw [sI_n (by omega), sA_s]
    unfold ou_
    by_cases c : j < 80
    · rw [if_pos (by omega), if_pos c, Nat.sub_zero]
    · rw [if_neg (by omega), if_neg c]
theorem ub_has {z : Nat} {S : gS} {a b c : Int32} (h : in_ z S) : Tb z (f_L_has S (some z) a b c (some (z + 65))) (fun T => f_X8_has T (z + 45) a b c) := by
  have y := h.1
  have M := ly_md y
  unfold f_L_has f_X7_has
  rw [e_dc y.1.1, e_dc y.1.1]
  have thr : ∀ w : Int32, ¬ w ≤ 0 → f_X8_has_B47 (gsZ S (gZ S + 1)) (z + 45) a b c w (some (z + 45)) = some (0, gsI (gsZ S (gZ S + 1)) (z + 45) 0 w) := by
    intro w hw
    unfold f_X8_has_B47
    rw [m_th (T := gsZ S (gZ S + 1)) M.1, if_neg hw]
  have bad : ((a < 0 ∨ nI 4 ≤ a) ∨ (b < 0 ∨ nI 2 ≤ b)) → Tb z (some (1, gsZ S (gZ S + 1))) (fun T => f_X8_has T (z + 45) a b c) := by
    intro hab
    refine ⟨1, gsZ S (gZ S + 1), 0, gsI (gsZ S (gZ S + 1)) (z + 45) 0 1, rfl, M.1, ?_, m0_s, fun q => absurd q (by decide), in_m0 (in_zz h)⟩
    show f_X8_has _ _ _ _ _ = _
    unfold f_X8_has f_X8_has_B15
    rcases iv_cs a (n := 4) (by decide) with ca | ⟨w, hw, rfl⟩
    · rw [isw_bad ca, e_bi, if_pos rfl]
      exact thr 1 (by decide)
    · rcases lg_cs b with cb | ⟨l, hl, rfl⟩
      · rw [isw_in hw, e_bi, if_neg (by decide), isl_bad cb, e_bi, if_pos rfl]
        exact thr 1 (by decide)
      · rcases hab with (q | q) | q | q
        · exact absurd q (nI_pos (by omega))
        · exact absurd q (nI_ge (by omega) (by decide))
        · exact absurd q (nI_pos (by omega))
        · exact absurd q (nI_ge (by omega) (by decide))
  rcases iv_cs a (n := 4) (by decide) with ca | ⟨w, hw, rfl⟩
  · rw [vof_bad (Or.inl ca), e_bxl, e_bxl, if_pos rfl]
    exact bad (Or.inl ca)
  · rcases lg_cs b with cb | ⟨l, hl, rfl⟩
    · rw [vof_bad (Or.inr cb), e_bxl, e_bxl, if_pos rfl]
      exact bad (Or.inr cb)
    · have hv : 2 * w + l < 8 := by omega
      have V := (y.2.2.2.2.2.1.2.2 (2 * w + l) hv).2
      rw [vof_in y hw hl, e_bxr, e_dc V]
      have no : (∀ T : gS, T = gsZ S (gZ S + 1) → f_X8_has T (z + 45) (nI w) (nI l) c = f_X8_has_B47 T (z + 45) (nI w) (nI l) c 2 (some (z + 45))) → Tb z (some (2, gsZ S (gZ S + 1))) (fun T => f_X8_has T (z + 45) (nI w) (nI l) c) := by
        intro e
        refine ⟨2, gsZ S (gZ S + 1), 0, gsI (gsZ S (gZ S + 1)) (z + 45) 0 2, rfl, M.1, ?_, m0_s, fun q => absurd q (by decide), in_m0 (in_zz h)⟩
        exact (e _ rfl).trans (thr 2 (by decide))
      rcases iv_cs c (n := 3) (by decide) with cc | ⟨q, hq, rfl⟩
      · rw [row_bad cc, e_bi, e_nn, e_bxl, if_neg (by decide), if_pos rfl]
        refine no fun T hT => ?_
        unfold f_X8_has f_X8_has_B42
        rw [isw_in hw, e_bi, if_neg (by decide), isl_in hl, e_bi, if_neg (by decide)]
        by_cases c0 : c < 0
        · rw [if_pos c0]
        · rw [if_neg c0, if_pos (show (2 : Int32) < c from Int32.lt_of_lt_of_le (show (2 : Int32) < nI 3 by decide) (cc.resolve_left c0))]
      · rw [row_in V hq, e_bi]
        rcases h.2.2.2.2.2 (2 * w + l) q hv hq with ⟨v1, v2⟩ | ⟨v1, v2, -, r, v3, rw0⟩
        · rw [v2, e_nn, e_bxl, if_neg (by decide), if_pos rfl]
          refine no fun T hT => ?_
          have MT : md_L T (z + 45) := by rw [hT]; exact M
          unfold f_X8_has f_X8_has_B42
          rw [isw_in hw, e_bi, if_neg (by decide), isl_in hl, e_bi, if_neg (by decide), if_neg (nI_pos (by omega)), if_neg (show ¬ (2 : Int32) < nI q from nI_nlt (a := 2) (by omega) (by decide)), e_gR MT.1, e_bs, md_r MT 15 13, plc, e_bi, e_I (md_k MT 13 12 24) (md_n MT 13 12 24) (by omega), e_bs, show gI T (z + 45 + 13) (3 * (2 * w + l) + q) = 0 from by rw [hT]; exact v1, if_pos rfl]
        · have rw1 := rw0
          obtain ⟨k3, z3, bb, R0, zb, kb3, nb, vb⟩ := rw0
          obtain ⟨S1, e1, f1, p1, q1⟩ := p_bec (n := 80) (r := bb) y (by decide) kb3 (by omega) (by omega)
          have y1 := ly_fr y f1 (by simp)
          rw [v3, e_nl, e_gR y.1.1, e_bs, y.1.2.2.1, e_gR k3, e_bs, R0, e_bs, e_N (by omega), e_bs, nb, e_dc y.2.2.1.1, e1, e_bs, e_bxr, if_neg (by decide), aL_o y1, e_bs]
          have F1 : fr_S [z + 3, z + 4, z + 65] [] S (gsL S1 (z + 65) 0 1) := fr_tr (fr_mo f1 (fun x hx => by (try unfold lq_ at hx) <;> (try unfold pq_ at hx) <;> (try unfold cq_ at hx) <;> (try unfold lq_) <;> (try unfold pq_) <;> (try unfold cq_) <;> (simp only [List.mem_cons, List.not_mem_nil, or_false, false_or, List.cons_append, List.nil_append] at hx ⊢) <;> omega) (by simp)) (fr_l (by simp))
          have p1' : gI (gsL S1 (z + 65) 0 1) (z + 3) 1 = nI 80 := p1
          have q1' : ∀ j, gI (gsL S1 (z + 65) 0 1) (z + 4) j = if j < 80 then gI S bb j else gI S (z + 4) j := q1
          have g1' : gL (gsL S1 (z + 65) 0 1) (z + 65) 0 = 1 := by rw [sL_s, va_up_s]
          generalize gsL S1 (z + 65) 0 1 = S1' at *
          have y1' := ly_fr y F1 (by simp)
          have M1 := ly_md y1'
          have t : ∀ o k n, (o, k, n) ∈ md_A → k < 16 → o < 20 → gI S1' (z + 45 + o) = gI S (z + 45 + o) := fun o k n hq hk h2 => fr_I F1 (ly_mk y o k n hq) (by (try unfold lq_) <;> (try unfold pq_) <;> (try unfold cq_) <;> (simp only [List.mem_cons, List.not_mem_nil, or_false, false_or, not_false_eq_true, List.cons_append, List.nil_append]) <;> omega) hk
          have m1 : gI S1' (z + 45) = gI S (z + 45) := fr_I F1 M.1 (by (try unfold lq_) <;> (try unfold pq_) <;> (try unfold cq_) <;> (simp only [List.mem_cons, List.not_mem_nil, or_false, false_or, not_false_eq_true, List.cons_append, List.nil_append]) <;> omega)
          obtain ⟨S2, e2, F2, k0, kk, k4, b2⟩ := m_has (T := S1') (m := z + 45) (w := w) (l := l) (q := q) M1 hw hl hq (by rw [t 13 12 24 (by decide) (by decide) (by decide)]; exact v1)
          refine ⟨0, S1', 1, S2, rfl, M1.1, e2, k0, fun _ => Or.inr ⟨rfl, by rw [fr_L F2 y1'.2.2.2.2.2.2.2.2.2.1.1 (by (try unfold lq_) <;> (try unfold pq_) <;> (try unfold cq_) <;> (simp only [List.mem_cons, List.not_mem_nil, or_false, false_or, not_false_eq_true, List.cons_append, List.nil_append]) <;> omega), g1']⟩, ?_⟩
          refine in_out2 (n := 80) (V := fun j => gI S (z + 57) (80 * (3 * (2 * w + l) + q) + j)) h (by decide) F1 (fun x hx => by simp only [List.mem_cons, List.not_mem_nil, or_false] at hx; unfold o1A scA; omega) (by (try unfold lq_) <;> (try unfold pq_) <;> (try unfold cq_) <;> (simp only [List.mem_cons, List.not_mem_nil, or_false, false_or, not_false_eq_true, List.cons_append, List.nil_append]) <;> omega) p1' (fun j => ?_) F2 (fun x hx => by simp only [List.mem_cons, List.not_mem_nil, or_false] at hx; unfold o2A scA; omega) (fun k hk => ?_) k4 (fun j => ?_) v2
          · rw [q1' j]
            by_cases c : j < 80
            · rw [if_pos c, if_pos c]; exact vb j c
            · rw [if_neg c, if_neg c]
          · rcases hk with rfl | rfl
            · exact kk 2 (by decide) (by decide)
            · exact kk 17 (by decide) (by decide)
          · rw [b2 j, t 12 10 1920 (by decide) (by decide) (by decide)]
