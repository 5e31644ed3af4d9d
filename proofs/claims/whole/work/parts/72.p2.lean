/-! isSealed, seal -/
theorem hd_T {T : Nat → Int32} (h : ∀ j, j < 48 → bt_ (T j)) {j : Nat} (hj : j < 48) : s_hd (s_lg T 0) (s_lg T 8) (w_at T 16) j = T j := by
  unfold s_hd
  by_cases c : j < 8
  · rw [if_pos c, lb_lg (fun i hi => h _ (by omega)) c, Nat.zero_add]
  · rw [if_neg c]
    by_cases c2 : j < 16
    · rw [if_pos c2, lb_lg (fun i hi => h _ (by omega)) (by omega), show 8 + (j - 8) = j by omega]
    · rw [if_neg c2, by_w (fun i hi => h _ (by omega)) (by omega), show 16 + (j - 16) = j by omega]
theorem m_seal0 {m l kn : Nat} {T : gS} (hH : mh_ T m) (h17 : gI T m 17 = nI 0) (hl : l < 2) (hk : ky_I T m l kn) (hb : ∀ j, j < 48 → bt_ (gI T (m + 1) j)) : ∃ S1 S2, f_X8_fromTape T m 16 0 = some S1 ∧ gK S1 m = 8 ∧ f_X8_tapeLong S1 m 0 = some (s_lg (gI T (m + 1)) 0, S1) ∧ f_X8_tapeLong S1 m 8 = some (s_lg (gI T (m + 1)) 8, S1) ∧ f_X8_sealOf S1 m (nI l) (s_lg (gI T (m + 1)) 0) (s_lg (gI T (m + 1)) 8) = some S2 ∧ mg_S m T S2 ∧ sl_at S2 m 1 (s_sl (kb_ T m l) (gI T (m + 1))) := by
  have s1 := mg_A (S := T) (m := m) (f := sl_ (gI T (m + 18)) 0 (w_at (gI T (m + 1)) 16)) h17
  have e1 := p8_fromTape (p := 16) (s := 0) hH.1 (by decide) (by decide)
  have w1 : sl_at (gsA T (m + 18) (sl_ (gI T (m + 18)) 0 (w_at (gI T (m + 1)) 16))) m 0 (w_at (gI T (m + 1)) 16) := fun q hq => by rw [sA_s, sl_in hq]
  generalize gsA T (m + 18) (sl_ (gI T (m + 18)) 0 (w_at (gI T (m + 1)) 16)) = S1 at *
  have H1 := mg_h s1 hH
  have g1 := mg_o s1 hH 1 10 2220
  have g3 := mg_o s1 hH 3 10 200
  have g4 := mg_o s1 hH 4 10 2
  have e2 := p8_tapeLong (p := 0) H1.1 (by decide)
  have e3 := p8_tapeLong (p := 8) H1.1 (by decide)
  rw [g1] at e2 e3
  obtain ⟨S2, e4, s2, w2, -⟩ := p8_sealOf (t := s_lg (gI T (m + 1)) 0) (z := s_lg (gI T (m + 1)) 8) H1 s1.2.2 hl (show ky_I S1 m l kn by unfold ky_I; rw [g3, g4]; exact hk) w1
  have hkb : kb_ S1 m l = kb_ T m l := by unfold kb_; rw [g3, g4]
  refine ⟨S1, S2, e1, H1.1.1, e2, e3, e4, mg_tr s1 s2, fun q hq => ?_⟩
  rw [w2 q hq, hkb]
  exact s_sl_c (fun _ _ => rfl) (fun j hj => hd_T hb hj) hq
theorem m_sealed {m l kn : Nat} {T : gS} (hH : mh_ T m) (h17 : gI T m 17 = nI 0) (hl : l < 2) (hk : ky_I T m l kn) (hb : ∀ j, j < 48 → bt_ (gI T (m + 1) j)) : ∃ x S', f_X8_sealed T m (nI l) = some (x, S') ∧ mg_S m T S' ∧ ((x = 1 ∧ ∀ i, i < 8 → s_sl (kb_ T m l) (gI T (m + 1)) i = w_at (gI T (m + 1)) 48 i) ∨ (x = 0 ∧ ¬ ∀ i, i < 8 → s_sl (kb_ T m l) (gI T (m + 1)) i = w_at (gI T (m + 1)) 48 i)) := by
  obtain ⟨S1, S2, e1, k1, e2, e3, e4, s2, w2⟩ := m_seal0 hH h17 hl hk hb
  have H2 := mg_h s2 hH
  have g1 := mg_o s2 hH 1 10 2220
  have e5 := p8_fromTape (p := 48) (s := 5) H2.1 (by decide) (by decide)
  rw [g1] at e5
  have s3 := mg_A (S := S2) (m := m) (f := sl_ (gI S2 (m + 18)) 5 (w_at (gI T (m + 1)) 48)) s2.2.2
  have w3 : sl_at (gsA S2 (m + 18) (sl_ (gI S2 (m + 18)) 5 (w_at (gI T (m + 1)) 48))) m 5 (w_at (gI T (m + 1)) 48) := fun q hq => by rw [sA_s, sl_in hq]
  have w4 : sl_at (gsA S2 (m + 18) (sl_ (gI S2 (m + 18)) 5 (w_at (gI T (m + 1)) 48))) m 1 (s_sl (kb_ T m l) (gI T (m + 1))) := fun q hq => by rw [sA_s, sl_out hq (by decide)]; exact w2 q hq
  generalize gsA S2 (m + 18) (sl_ (gI S2 (m + 18)) 5 (w_at (gI T (m + 1)) 48)) = S3 at *
  have H3 := mg_h s3 H2
  obtain ⟨x, e6, hx⟩ := p8_isSame (a := 1) (b := 5) H3.1 (by decide) (by decide)
  have hiff : (∀ j, j < 8 → gI S3 (m + 18) (8 * 1 + j) = gI S3 (m + 18) (8 * 5 + j)) ↔ ∀ i, i < 8 → s_sl (kb_ T m l) (gI T (m + 1)) i = w_at (gI T (m + 1)) 48 i := by
    constructor
    · intro w q hq
      have := w q hq
      rw [w4 q hq, w3 q hq] at this
      exact this
    · intro w q hq
      rw [w4 q hq, w3 q hq]; exact w q hq
  rw [hiff] at hx
  refine ⟨x, S3, ?_, mg_tr s2 s3, hx⟩
  unfold f_X8_sealed
  rw [e_dc hH.1.1, e1, e_bs, e_dc k1, e2, e_bi, e_dc k1, e3, e_bi, e_dc k1, e4, e_bs, e_dc H2.1.1, show f_X8_fromTape S2 m 48 5 = _ from e5, e_bs, e_dc H3.1.1, show f_X8_isSame S3 m 1 5 = _ from e6, e_bi]
  rcases hx with ⟨rfl, -⟩ | ⟨rfl, -⟩
  · rw [if_pos (Or.inr rfl)]
  · rw [if_pos (Or.inl rfl)]
theorem m_isSealed {m l kn : Nat} {T : gS} (hH : mh_ T m) (h17 : gI T m 17 = nI 0) (hl : l < 2) (hk : ky_I T m l kn) (hb : ∀ j, j < 48 → bt_ (gI T (m + 1) j)) (h2 : gI T m 2 = nI 80) : ∃ x S', f_X8_isSealed T m (nI l) = some (x, S') ∧ fr_S [m, m + 14, m + 15, m + 16, m + 18] [] T S' ∧ gI S' m 2 = nI 0 ∧ gI S' m 0 = 0 ∧ gI S' m 4 = gI T m 4 ∧ gI S' m 17 = nI 0 ∧ ((x = 1 ∧ ∀ i, i < 8 → s_sl (kb_ T m l) (gI T (m + 1)) i = w_at (gI T (m + 1)) 48 i) ∨ (x = 0 ∧ ¬ ∀ i, i < 8 → s_sl (kb_ T m l) (gI T (m + 1)) i = w_at (gI T (m + 1)) 48 i)) := by
  obtain ⟨H0, k17, k2, k0, k4, ko, F0⟩ := mu_ hH h17
  have us := m_use hH.1.1 h2
  have th : f_X8_isSealed T m (nI l) = gBi (f_X8_sealed (gsI (gsI T m 2 (nI 0)) m 0 0) m (nI l)) fun x26 S24 => if x26 = 0 then some (0, S24) else some (1, S24) := by
    unfold f_X8_isSealed
    rw [e_dc hH.1.1, us, e_bi, isl_in hl, e_bi, if_neg (by decide), if_pos (show nI 80 = (80 : Int32) from rfl), m_th (T := gsI T m 2 (nI 0)) hH.1.1, if_pos (by decide), e_dc (S := gsI (gsI T m 2 (nI 0)) m 0 0) hH.1.1]
  rw [th]
  generalize gsI (gsI T m 2 (nI 0)) m 0 0 = S0 at *
  have g1 := ko 1 (by decide)
  have g3 := ko 3 (by decide)
  have g4 := ko 4 (by decide)
  obtain ⟨x, S1, e1, s1, hx⟩ := m_sealed H0 k17 hl (show ky_I S0 m l kn by unfold ky_I; rw [g3, g4]; exact hk) (by rw [g1]; exact hb)
  have hkb : kb_ S0 m l = kb_ T m l := by unfold kb_; rw [g3, g4]
  rw [hkb, g1] at hx
  refine ⟨x, S1, ?_, fr_tr (fr_mo F0 (by simp) (by simp)) s1.1, by rw [s1.2.1 2 (by decide), k2], by rw [s1.2.1 0 (by decide), k0], by rw [s1.2.1 4 (by decide), k4], s1.2.2, hx⟩
  rw [e1, e_bi]
  rcases hx with ⟨rfl, -⟩ | ⟨rfl, -⟩
  · rw [if_neg (by decide)]
  · rw [if_pos rfl]
theorem ub_isSealed {z : Nat} {S : gS} {a : Int32} (h : in_ z S) : Tb z (f_L_isSealed S (some z) a (some (z + 65))) (fun T => f_X8_isSealed T (z + 45) a) := by
  have y := h.1
  have M := ly_md y
  obtain ⟨n, n1, n3, n4, eu, Fu, yu, cu⟩ := su_ h
  have hu1 : ∀ x ∈ [z + 1], u1A z x := fun x hx => by simp only [List.mem_cons, List.not_mem_nil, or_false] at hx; unfold u1A; omega
  have mu : gI (gsI S (z + 1) 1 (nI 0)) (z + 45) = gI S (z + 45) := sI_n (by omega)
  have mo : ∀ o, 2 ≤ o → gI (gsI S (z + 1) 1 (nI 0)) (z + o) = gI S (z + o) := fun o ho => sI_n (by omega)
  unfold f_L_isSealed f_X7_isSealed
  rw [e_dc y.1.1, e_gR y.1.1, e_bs, y.1.2.1, e_dc y.2.1.1, eu, e_bi, e_dc yu.1.1]
  generalize hSu : gsI S (z + 1) 1 (nI 0) = Su at *
  have Mu := ly_md yu
  have us : f_X8_use (gsZ Su (gZ Su + 1)) (z + 45) = some (nI n, gsI (gsZ Su (gZ Su + 1)) (z + 45) 2 (nI 0)) := m_use (T := gsZ Su (gZ Su + 1)) Mu.1 (by rw [sZ_I, mu]; exact n3)
  rcases lg_cs a with ca | ⟨l, hl, rfl⟩
  · rw [lof_bad ca, e_bxl, e_bxl, if_pos rfl]
    refine ⟨1, gsZ Su (gZ Su + 1), 0, _, rfl, Mu.1, ?_, m0_s, fun q => absurd q (by decide), in_thr (w := 1) h Fu hu1 cu⟩
    show f_X8_isSealed _ _ _ = _
    unfold f_X8_isSealed
    rw [e_dc (S := gsZ Su (gZ Su + 1)) Mu.1, us, e_bi, isl_bad ca, e_bi, if_pos rfl, m_th (T := gsI (gsZ Su (gZ Su + 1)) (z + 45) 2 (nI 0)) Mu.1, if_neg (by decide)]
  · rw [lof_in yu hl, e_bxr]
    obtain ⟨N, TS, H, kn, hlo⟩ := h.2.2.2.2.1 l hl
    have hlou := lo_fr hlo hl y Fu (fun x hx => by (try unfold lq_ at hx) <;> (try unfold pq_ at hx) <;> (try unfold cq_ at hx) <;> (simp only [List.mem_cons, List.not_mem_nil, or_false, false_or, List.cons_append, List.nil_append] at hx) <;> (try simp only [loA, loB, tpA, ooA, msA, vwA, vwB, lyB, scA]) <;> omega) (fun x hx => by (try unfold lq_ at hx) <;> (try unfold pq_ at hx) <;> (try unfold cq_ at hx) <;> (simp only [List.mem_cons, List.not_mem_nil, or_false, false_or, List.cons_append, List.nil_append] at hx) <;> (try simp only [loA, loB, tpA, ooA, msA, vwA, vwB, lyB, scA]) <;> omega)
    obtain ⟨-, -, -, ⟨d1u, d2u⟩, kbu, -, -, -, -⟩ := hlou
    have Lu := ly_lg yu hl
    have T46 : gI Su (z + 46) = gI S (z + 46) := mo 46 (by decide)
    have n4u : rb_ Su (z + 2) 2200 (gI Su (z + 46)) := by rw [T46]; exact rb_fr n4 Fu y.2.1.2.2.1 (by (try unfold lq_) <;> (try unfold pq_) <;> (try unfold cq_) <;> (simp only [List.mem_cons, List.not_mem_nil, or_false, false_or, not_false_eq_true, List.cons_append, List.nil_append]) <;> omega)
    by_cases cn : n = 80
    · subst cn
      obtain ⟨x, S1, e1, f1, hx⟩ := p_hasSealed (r := z + 2) (KB := kb_ Su (z + 45) l) (H := gI Su (z + 46)) (W := w_at (gI Su (z + 46)) 48) Lu kbu yu.2.1.2.2.1 (by rw [yu.2.1.2.2.2]; decide) (by rw [yu.2.1.2.2.2]; decide) (by omega) (fun j hj => rb_and n4u (by omega)) (rb_dg n4u (by decide))
      have y1 := ly_fr yu f1 (by simp)
      have hx01 : x = 0 ∨ x = 1 := by
        rcases hx with ⟨q, -⟩ | ⟨q, -⟩
        · exact Or.inr q
        · exact Or.inl q
      have cl : ∀ w : Int64, fr_S ([z + 1, z + 65] ++ lq_ (z + 6 + 10 * l)) [] S (gsL S1 (z + 65) 0 w) := fun w => fr_tr (fr_mo Fu (by simp) (by simp)) (fr_tr (fr_mo f1 (fun _ q => List.mem_append_right _ q) (by simp)) (fr_l (by simp)))
      have hA : ∀ x ∈ [z + 1, z + 65] ++ lq_ (z + 6 + 10 * l), u1A z x := fun x hx => by
        unfold lq_ at hx
        simp only [List.mem_cons, List.not_mem_nil, or_false, List.mem_append] at hx
        unfold u1A scA
        omega
      have nA : ∀ o, o < 20 → z + 45 + o ∉ [z + 1, z + 65] ++ lq_ (z + 6 + 10 * l) := fun o ho q => by
        unfold lq_ at q
        simp only [List.mem_cons, List.not_mem_nil, or_false, List.mem_append] at q
        omega
      have go : ∀ w : Int64, ((w = 0 ∧ x = 0) ∨ (w = 1 ∧ x = 1)) → Tb z (some (0, gsL S1 (z + 65) 0 w)) (fun T => f_X8_isSealed T (z + 45) (nI l)) := by
        intro w hw
        have F1 := cl w
        have c1 : gI (gsL S1 (z + 65) 0 w) (z + 1) 1 = nI 0 := by rw [sL_I, fr_I f1 yu.2.1.1 (by (try unfold lq_) <;> (try unfold pq_) <;> (try unfold cq_) <;> (simp only [List.mem_cons, List.not_mem_nil, or_false, false_or, not_false_eq_true, List.cons_append, List.nil_append]) <;> omega)]; exact cu
        have g1' : gL (gsL S1 (z + 65) 0 w) (z + 65) 0 = w := by rw [sL_s, va_up_s]
        generalize gsL S1 (z + 65) 0 w = S2 at *
        have y2 := ly_fr y F1 (by simp)
        have t : ∀ o k n, (o, k, n) ∈ md_A → k < 16 → o < 20 → gI S2 (z + 45 + o) = gI S (z + 45 + o) := fun o k n hq hk h2 => fr_I F1 (ly_mk y o k n hq) (nA o h2) hk
        have m2 : gI S2 (z + 45) = gI S (z + 45) := fr_I F1 M.1 (nA 0 (by decide))
        have Hh : mh_ S2 (z + 45) := ⟨ly_md y2, ly_wf y2, fun q hq => by rw [t 17 10 64 (by decide) (by decide) (by decide)]; exact h.2.2.2.1.2 q hq⟩
        have g3 : gI S2 (z + 45 + 3) = gI Su (z + 45 + 3) := (t 3 10 200 (by decide) (by decide) (by decide)).trans (mo 48 (by decide)).symm
        have g4 : gI S2 (z + 45 + 4) = gI Su (z + 45 + 4) := (t 4 10 2 (by decide) (by decide) (by decide)).trans (mo 49 (by decide)).symm
        have g1 : gI S2 (z + 45 + 1) = gI Su (z + 46) := (t 1 10 2220 (by decide) (by decide) (by decide)).trans (mo 46 (by decide)).symm
        obtain ⟨x', S3, e3, F3, k2, k0, k4, k17, hx'⟩ := m_isSealed (T := S2) (m := z + 45) (l := l) (kn := kn) Hh (by rw [m2]; exact h.2.2.2.1.1) hl (show ky_I S2 (z + 45) l kn by unfold ky_I; rw [g3, g4]; exact d2u) (fun j hj => by rw [g1]; exact (n4u j (by omega)).2) (by rw [m2]; exact n3)
        have hkb : kb_ S2 (z + 45) l = kb_ Su (z + 45) l := by unfold kb_; rw [g3, g4]
        rw [hkb, g1] at hx'
        have hxx : x = x' := by
          rcases hx with ⟨rfl, q⟩ | ⟨rfl, q⟩
          · rcases hx' with ⟨rfl, q'⟩ | ⟨rfl, q'⟩
            · rfl
            · exact (q' q).elim
          · rcases hx' with ⟨rfl, q'⟩ | ⟨rfl, q'⟩
            · exact (q q').elim
            · rfl
        refine ⟨0, S2, x', S3, rfl, (ly_md y2).1, e3, k0, fun _ => ?_, in_us (A1 := [z + 1, z + 65] ++ lq_ (z + 6 + 10 * l)) h F1 hA c1 F3 (fun x hx => by simp only [List.mem_cons, List.not_mem_nil, or_false] at hx; unfold scA; omega) k2 k4 k17⟩
        rw [fr_L F3 y2.2.2.2.2.2.2.2.2.2.1.1 (by (try unfold lq_) <;> (try unfold pq_) <;> (try unfold cq_) <;> (simp only [List.mem_cons, List.not_mem_nil, or_false, false_or, not_false_eq_true, List.cons_append, List.nil_append]) <;> omega), g1', ← hxx]
        rcases hw with ⟨rfl, rfl⟩ | ⟨rfl, rfl⟩
        · exact Or.inl ⟨rfl, rfl⟩
        · exact Or.inr ⟨rfl, rfl⟩
      rw [if_pos (show nI 80 = (80 : Int32) from rfl), e_gR yu.1.1, e_bs, yu.1.2.1, e_gR yu.2.1.1, e_bs, yu.2.1.2.1, e_dc Lu.1, e1, e_bi, if_pos hx01, e_bxr]
      rcases hx01 with q | q
      · rw [if_pos q, aL_o y1, e_bs]
        exact go 0 (Or.inl ⟨rfl, q⟩)
      · rw [if_neg (by rw [q]; decide), aL_o y1, e_bs]
        exact go 1 (Or.inr ⟨rfl, q⟩)
    · have cn' : ¬ nI n = (80 : Int32) := by rw [show (80 : Int32) = nI 80 from rfl, nI_eq (by omega) (by decide)]; exact cn
      rw [if_neg cn', e_bxl, if_neg (by decide), if_pos rfl]
      refine ⟨2, gsZ Su (gZ Su + 1), 0, _, rfl, Mu.1, ?_, m0_s, fun q => absurd q (by decide), in_thr (w := 2) h Fu hu1 cu⟩
      show f_X8_isSealed _ _ _ = _
      unfold f_X8_isSealed
      rw [e_dc (S := gsZ Su (gZ Su + 1)) Mu.1, us, e_bi, isl_in hl, e_bi, if_neg (by decide), if_neg cn', m_th (T := gsI (gsZ Su (gZ Su + 1)) (z + 45) 2 (nI 0)) Mu.1, if_neg (by decide)]
/-- seal's row -/
def sv_ (KB T : Nat → Int32) (j : Nat) : Int32 := if j < 48 then T j else d_by (s_sl KB T) (j - 48)
theorem m_sealE {m fu : Nat} {T : gS} {W f g : Nat → Int32} (hL : md_L T m) (hW : sl_at T m 1 W) (hf : ∀ q, q < 48 → gI T (m + 1) q = f q) (hg : gI T (m + 2) = g) : ∃ S', f_X8_seal_L65 (fu + 48 + 1) T m 0 = some (1, S') ∧ fr_S [m, m + 2] [] T S' ∧ gI S' m 4 = nI 80 ∧ (∀ k, k ≠ 4 → gI S' m k = gI T m k) ∧ ∀ j, gI S' (m + 2) j = if j < 80 then (if j < 48 then f j else d_by W (j - 48)) else g j := by
  have e := cp_seal (m := m) (n := 48) (f := f) (g := g) rfl fu 48 0 (by omega) T hL (fun j => by rw [hg]; unfold ou_; rw [if_neg (by omega)]) (fun q hq => hf q hq)
  have L1 : md_L (gsA T (m + 2) (ou_ g 0 48 f)) m := hL
  have W1 : ∀ q, q < 8 → gI (gsI (gsA T (m + 2) (ou_ g 0 48 f)) m 4 (nI 48)) (m + 18) (8 * 1 + q) = W q := fun q hq => by rw [sI_n (by omega), sA_n (by omega)]; exact hW q hq
  have e2 := p8_outSlot (S := gsI (gsA T (m + 2) (ou_ g 0 48 f)) m 4 (nI 48)) (m := m) (s := 1) (o := 48) (W := W) hL (by decide) (by decide) (by rw [sI_s, va_up_s]) W1
  refine ⟨gsI (gsA (gsI (gsA T (m + 2) (ou_ g 0 48 f)) m 4 (nI 48)) (m + 2) (ou_ (gI (gsI (gsA T (m + 2) (ou_ g 0 48 f)) m 4 (nI 48)) (m + 2)) 48 32 (d_by W))) m 4 (nI (48 + 32)), ?_, fr_tr (fr_tr (fr_A (by simp)) (fr_i (by simp))) (fr_tr (fr_A (by simp)) (fr_i (by simp))), by rw [sI_s, va_up_s], fun k hk => ?_, fun j => ?_⟩
  · rw [show (0 : Int32) = nI 0 from rfl, e, f_X8_seal_L65, if_pos (show (48 : Int32) ≤ nI 48 from by decide), show (48 : Int32) = nI 48 from rfl, e_pI L1.1, e_bs, e_dc (S := gsI (gsA T (m + 2) (ou_ g 0 48 f)) m 4 (nI 48)) L1.1, show f_X8_outSlot (gsI (gsA T (m + 2) (ou_ g 0 48 f)) m 4 (nI 48)) m 1 = _ from e2, e_bs]
  · rw [sI_s, va_up_n _ _ _ hk, sA_n (by omega), sI_s, va_up_n _ _ _ hk, sA_n (by omega)]
  · rw [sI_n (by omega), sA_s, sI_n (by omega), sA_s]
    unfold ou_
    by_cases c : j < 80
    · rw [if_pos c]
      by_cases c2 : j < 48
      · rw [if_neg (by omega), if_pos (by omega), if_pos c2, Nat.sub_zero]
      · rw [if_pos (by omega), if_neg c2]
    · rw [if_neg c, if_neg (by omega), if_neg (by omega)]
theorem m_seal {m l kn : Nat} {T : gS} (hH : mh_ T m) (h17 : gI T m 17 = nI 0) (hl : l < 2) (hk : ky_I T m l kn) (hb : ∀ j, j < 48 → bt_ (gI T (m + 1) j)) (h2 : gI T m 2 = nI 48) : ∃ S', f_X8_seal T m (nI l) = some (1, S') ∧ fr_S [m, m + 2, m + 14, m + 15, m + 16, m + 18] [] T S' ∧ gI S' m 2 = nI 0 ∧ gI S' m 0 = 0 ∧ gI S' m 4 = nI 80 ∧ gI S' m 17 = nI 0 ∧ ∀ j, gI S' (m + 2) j = if j < 80 then sv_ (kb_ T m l) (gI T (m + 1)) j else gI T (m + 2) j := by
  obtain ⟨H0, k17, k2, k0, k4, ko, F0⟩ := mu_ hH h17
  have us := m_use hH.1.1 h2
  have th : f_X8_seal T m (nI l) = (f_X8_fromTape (gsI (gsI T m 2 (nI 0)) m 0 0) m 16 0).bind fun S24 => gDc S24 8 (some m) fun a26 => gBi (f_X8_tapeLong S24 a26 0) fun x30 S28 => gDc S28 8 (some m) fun a31 => gBi (f_X8_tapeLong S28 a31 8) fun x35 S33 => gDc S33 8 (some m) fun a36 => (f_X8_sealOf S33 a36 (nI l) x30 x35).bind fun S38 => f_X8_seal_L65 gFuel S38 m 0 := by
    unfold f_X8_seal f_X8_seal_B28
    rw [e_dc hH.1.1, us, e_bi, isl_in hl, e_bi, if_neg (by decide), if_pos (show nI 48 = (48 : Int32) from rfl), m_th (T := gsI T m 2 (nI 0)) hH.1.1, if_pos (by decide), e_dc (S := gsI (gsI T m 2 (nI 0)) m 0 0) hH.1.1]
  rw [th]
  generalize gsI (gsI T m 2 (nI 0)) m 0 0 = S0 at *
  have g1 := ko 1 (by decide)
  have g2 := ko 2 (by decide)
  have g3 := ko 3 (by decide)
  have g4 := ko 4 (by decide)
  obtain ⟨S1, S2, e1, k1, e2, e3, e4, s2, w2⟩ := m_seal0 H0 k17 hl (show ky_I S0 m l kn by unfold ky_I; rw [g3, g4]; exact hk) (by rw [g1]; exact hb)
  have hkb : kb_ S0 m l = kb_ T m l := by unfold kb_; rw [g3, g4]
  rw [hkb, g1] at w2
  have H2 := mg_h s2 H0
  obtain ⟨fu, hf⟩ := g_fu 48
  obtain ⟨S3, e5, f3, p4, pk, b3⟩ := m_sealE (fu := fu) (f := gI T (m + 1)) (g := gI T (m + 2)) H2.1 w2 (fun q hq => by rw [mg_o s2 H0 1 10 2220, g1]) ((mg_o s2 H0 2 10 2400).trans g2)
  refine ⟨S3, ?_, fr_tr (fr_mo F0 (by simp) (by simp)) (fr_tr (fr_mo s2.1 (fun x hx => by (try unfold lq_ at hx) <;> (try unfold pq_ at hx) <;> (try unfold cq_ at hx) <;> (try unfold lq_) <;> (try unfold pq_) <;> (try unfold cq_) <;> (simp only [List.mem_cons, List.not_mem_nil, or_false, false_or, List.cons_append, List.nil_append] at hx ⊢) <;> omega) (by simp)) (fr_mo f3 (fun x hx => by (try unfold lq_ at hx) <;> (try unfold pq_ at hx) <;> (try unfold cq_ at hx) <;> (try unfold lq_) <;> (try unfold pq_) <;> (try unfold cq_) <;> (simp only [List.mem_cons, List.not_mem_nil, or_false, false_or, List.cons_append, List.nil_append] at hx ⊢) <;> omega) (by simp))), by rw [pk 2 (by decide), s2.2.1 2 (by decide), k2], by rw [pk 0 (by decide), s2.2.1 0 (by decide), k0], p4, by rw [pk 17 (by decide)]; exact s2.2.2, fun j => ?_⟩
  · rw [e1, e_bs, e_dc k1, e2, e_bi, e_dc k1, e3, e_bi, e_dc k1, e4, e_bs, hf, show 48 + fu + 1 = fu + 48 + 1 by omega]
    exact e5
  · rw [b3 j]; rfl
theorem bt_sv {KB T : Nat → Int32} (h : ∀ j, j < 48 → bt_ (T j)) (j : Nat) : bt_ (sv_ KB T j) := by
  unfold sv_
  by_cases c : j < 48
  · rw [if_pos c]; exact h j c
  · rw [if_neg c]; exact bt_dby _ _
theorem ub_seal {z : Nat} {S : gS} {a : Int32} (h : in_ z S) : Tb z (f_L_seal S (some z) a (some (z + 65))) (fun T => f_X8_seal T (z + 45) a) := by
  have y := h.1
  have M := ly_md y
  obtain ⟨n, n1, n3, n4, eu, Fu, yu, cu⟩ := su_ h
  have hu1 : ∀ x ∈ [z + 1], u1A z x := fun x hx => by simp only [List.mem_cons, List.not_mem_nil, or_false] at hx; unfold u1A; omega
  have mu : gI (gsI S (z + 1) 1 (nI 0)) (z + 45) = gI S (z + 45) := sI_n (by omega)
  have mo : ∀ o, 2 ≤ o → gI (gsI S (z + 1) 1 (nI 0)) (z + o) = gI S (z + o) := fun o ho => sI_n (by omega)
  unfold f_L_seal f_X7_seal
  rw [e_dc y.1.1, e_gR y.1.1, e_bs, y.1.2.1, e_dc y.2.1.1, eu, e_bi, e_dc yu.1.1]
  generalize hSu : gsI S (z + 1) 1 (nI 0) = Su at *
  have Mu := ly_md yu
  have us : f_X8_use (gsZ Su (gZ Su + 1)) (z + 45) = some (nI n, gsI (gsZ Su (gZ Su + 1)) (z + 45) 2 (nI 0)) := m_use (T := gsZ Su (gZ Su + 1)) Mu.1 (by rw [sZ_I, mu]; exact n3)
  have thr : ∀ w : Int32, ¬ w ≤ 0 → f_X8_seal_B28 (gsI (gsZ Su (gZ Su + 1)) (z + 45) 2 (nI 0)) (z + 45) a w (some (z + 45)) = some (0, gsI (gsI (gsZ Su (gZ Su + 1)) (z + 45) 2 (nI 0)) (z + 45) 0 w) := by
    intro w hw
    unfold f_X8_seal_B28
    rw [m_th (T := gsI (gsZ Su (gZ Su + 1)) (z + 45) 2 (nI 0)) Mu.1, if_neg hw]
  rcases lg_cs a with ca | ⟨l, hl, rfl⟩
  · rw [lof_bad ca, e_bxl, e_bxl, if_pos rfl]
    refine ⟨1, gsZ Su (gZ Su + 1), 0, _, rfl, Mu.1, ?_, m0_s, fun q => absurd q (by decide), in_thr (w := 1) h Fu hu1 cu⟩
    show f_X8_seal _ _ _ = _
    unfold f_X8_seal
    rw [e_dc (S := gsZ Su (gZ Su + 1)) Mu.1, us, e_bi, isl_bad ca, e_bi, if_pos rfl]
    exact thr 1 (by decide)
  · rw [lof_in yu hl, e_bxr]
    obtain ⟨N, TS, H, kn, hlo⟩ := h.2.2.2.2.1 l hl
    have hlou := lo_fr hlo hl y Fu (fun x hx => by (try unfold lq_ at hx) <;> (try unfold pq_ at hx) <;> (try unfold cq_ at hx) <;> (simp only [List.mem_cons, List.not_mem_nil, or_false, false_or, List.cons_append, List.nil_append] at hx) <;> (try simp only [loA, loB, tpA, ooA, msA, vwA, vwB, lyB, scA]) <;> omega) (fun x hx => by (try unfold lq_ at hx) <;> (try unfold pq_ at hx) <;> (try unfold cq_ at hx) <;> (simp only [List.mem_cons, List.not_mem_nil, or_false, false_or, List.cons_append, List.nil_append] at hx) <;> (try simp only [loA, loB, tpA, ooA, msA, vwA, vwB, lyB, scA]) <;> omega)
    obtain ⟨-, -, -, ⟨d1u, d2u⟩, kbu, -, -, -, -⟩ := hlou
    have Lu := ly_lg yu hl
    have T46 : gI Su (z + 46) = gI S (z + 46) := mo 46 (by decide)
    have n4u : rb_ Su (z + 2) 2200 (gI Su (z + 46)) := by rw [T46]; exact rb_fr n4 Fu y.2.1.2.2.1 (by (try unfold lq_) <;> (try unfold pq_) <;> (try unfold cq_) <;> (simp only [List.mem_cons, List.not_mem_nil, or_false, false_or, not_false_eq_true, List.cons_append, List.nil_append]) <;> omega)
    by_cases cn : n = 48
    · subst cn
      obtain ⟨S1, e1, f1, p1, q1⟩ := p_bec (n := 48) (r := z + 2) yu (by decide) yu.2.1.2.2.1 (by rw [yu.2.1.2.2.2]; decide) (by rw [yu.2.1.2.2.2]; decide)
      have y1 := ly_fr yu f1 (by simp)
      have L1 := ly_lg y1 hl
      have n4v : rb_ S1 (z + 2) 2200 (gI Su (z + 46)) := rb_fr n4u f1 yu.2.1.2.2.1 (by (try unfold lq_) <;> (try unfold pq_) <;> (try unfold cq_) <;> (simp only [List.mem_cons, List.not_mem_nil, or_false, false_or, not_false_eq_true, List.cons_append, List.nil_append]) <;> omega)
      obtain ⟨S2, e2, f2, v2⟩ := p_seal (r := z + 2) (KB := kb_ Su (z + 45) l) (H := gI Su (z + 46)) L1 (fun j hj => by rw [fr_I f1 (lg_k Lu 4 9 64) (by (try unfold lq_) <;> (try unfold pq_) <;> (try unfold cq_) <;> (simp only [List.mem_cons, List.not_mem_nil, or_false, false_or, not_false_eq_true, List.cons_append, List.nil_append]) <;> omega)]; exact kbu j hj) y1.2.1.2.2.1 (by rw [y1.2.1.2.2.2]; decide) (by rw [y1.2.1.2.2.2]; decide) (fun j hj => rb_and n4v (by omega))
      have y2 := ly_fr y1 f2 (by simp)
      have L2 := ly_lg y2 hl
      have p2 : gI S2 (z + 3) 1 = nI 48 := by rw [fr_I f2 y1.2.2.1.1 (by (try unfold lq_) <;> (try unfold pq_) <;> (try unfold cq_) <;> (simp only [List.mem_cons, List.not_mem_nil, or_false, false_or, not_false_eq_true, List.cons_append, List.nil_append]) <;> omega)]; exact p1
      have e3 := p_sAdd (S := S2) (a := z + 3) (bs := z + 4) (N := 288) (c := 48) (r := z + 6 + 10 * l + 8) (p := 0) (n := 32) y2.2.2.1 (by decide) p2 (by decide) (lg_k L2 8 9 32) (by rw [lg_n L2 8 9 32]; decide) (by rw [lg_n L2 8 9 32]; decide)
      have F3 : fr_S [z + 3, z + 4] [] S2 (gsI (gsA S2 (z + 4) (va_cpy (gI S2 (z + 6 + 10 * l + 8)) (gI S2 (z + 4)) 0 48 32)) (z + 3) 1 (nI (48 + 32))) := fr_tr (fr_A (by simp)) (fr_i (by simp))
      have c3 : gI (gsI (gsA S2 (z + 4) (va_cpy (gI S2 (z + 6 + 10 * l + 8)) (gI S2 (z + 4)) 0 48 32)) (z + 3) 1 (nI (48 + 32))) (z + 3) 1 = nI 80 := by rw [sI_s, va_up_s]
      have b3 : ∀ j, gI (gsI (gsA S2 (z + 4) (va_cpy (gI S2 (z + 6 + 10 * l + 8)) (gI S2 (z + 4)) 0 48 32)) (z + 3) 1 (nI (48 + 32))) (z + 4) j = if j < 80 then sb_ (sv_ (kb_ Su (z + 45) l) (gI Su (z + 46)) j) else gI S (z + 4) j := fun j => by
        rw [sI_n (by omega), sA_s, va_cpy_e, fr_I f2 y1.2.2.1.2.2.1 (by (try unfold lq_) <;> (try unfold pq_) <;> (try unfold cq_) <;> (simp only [List.mem_cons, List.not_mem_nil, or_false, false_or, not_false_eq_true, List.cons_append, List.nil_append]) <;> omega), q1 j, mo 4 (by decide)]
        unfold sv_
        by_cases c : j < 80
        · rw [if_pos c]
          by_cases c2 : j < 48
          · rw [if_neg (by omega), if_pos c2, if_pos c2]; exact (n4u j (by omega)).1
          · rw [if_pos (by omega), if_neg c2, v2 (j - 48) (by omega)]
        · rw [if_neg c, if_neg (by omega), if_neg (by omega)]
      generalize gsI (gsA S2 (z + 4) (va_cpy (gI S2 (z + 6 + 10 * l + 8)) (gI S2 (z + 4)) 0 48 32)) (z + 3) 1 (nI (48 + 32)) = S3 at *
      have y3 := ly_fr y2 F3 (by simp)
      rw [if_pos (show nI 48 = (48 : Int32) from rfl), e_gR yu.1.1, e_bs, yu.1.2.2.1, e_gR yu.1.1, e_bs, yu.1.2.1, e_gR yu.2.1.1, e_bs, yu.2.1.2.1, e_dc yu.2.2.1.1, show f_X5_become Su (z + 3) (some (z + 2)) 48 = _ from e1, e_bs, e_gR y1.1.1, e_bs, y1.1.2.2.1, e_gR y1.1.1, e_bs, y1.1.2.1, e_gR y1.2.1.1, e_bs, y1.2.1.2.1, e_dc L1.1, e2, e_bi, e_dc y2.2.2.1.1, show f_X5_addRow S2 (z + 3) (some (z + 6 + 10 * l + 8)) 0 32 = _ from e3, e_bs, e_bxr, if_neg (by decide), aL_o y3, e_bs]
      have F1 : fr_S ([z + 1, z + 3, z + 4, z + 65] ++ lq_ (z + 6 + 10 * l)) [] S (gsL S3 (z + 65) 0 1) := fr_tr (fr_mo Fu (by simp) (by simp)) (fr_tr (fr_mo f1 (by simp) (by simp)) (fr_tr (fr_mo f2 (fun _ q => List.mem_append_right _ q) (by simp)) (fr_tr (fr_mo F3 (by simp) (by simp)) (fr_l (by simp)))))
      have hA : ∀ x ∈ [z + 1, z + 3, z + 4, z + 65] ++ lq_ (z + 6 + 10 * l), o1A z x := fun x hx => by
        unfold lq_ at hx
        simp only [List.mem_cons, List.not_mem_nil, or_false, List.mem_append] at hx
        unfold o1A scA
        omega
      have nA : ∀ o, o < 20 → z + 45 + o ∉ [z + 1, z + 3, z + 4, z + 65] ++ lq_ (z + 6 + 10 * l) := fun o ho q => by
        unfold lq_ at q
        simp only [List.mem_cons, List.not_mem_nil, or_false, List.mem_append] at q
        omega
      have c1 : gI (gsL S3 (z + 65) 0 1) (z + 1) 1 = nI 0 := by rw [sL_I, fr_I F3 y2.2.1.1 (by (try unfold lq_) <;> (try unfold pq_) <;> (try unfold cq_) <;> (simp only [List.mem_cons, List.not_mem_nil, or_false, false_or, not_false_eq_true, List.cons_append, List.nil_append]) <;> omega), fr_I f2 y1.2.1.1 (by (try unfold lq_) <;> (try unfold pq_) <;> (try unfold cq_) <;> (simp only [List.mem_cons, List.not_mem_nil, or_false, false_or, not_false_eq_true, List.cons_append, List.nil_append]) <;> omega), fr_I f1 yu.2.1.1 (by (try unfold lq_) <;> (try unfold pq_) <;> (try unfold cq_) <;> (simp only [List.mem_cons, List.not_mem_nil, or_false, false_or, not_false_eq_true, List.cons_append, List.nil_append]) <;> omega)]; exact cu
      have c3' : gI (gsL S3 (z + 65) 0 1) (z + 3) 1 = nI 80 := c3
      have b3' : ∀ j, gI (gsL S3 (z + 65) 0 1) (z + 4) j = if j < 80 then sb_ (sv_ (kb_ Su (z + 45) l) (gI Su (z + 46)) j) else gI S (z + 4) j := b3
      have g1' : gL (gsL S3 (z + 65) 0 1) (z + 65) 0 = 1 := by rw [sL_s, va_up_s]
      generalize gsL S3 (z + 65) 0 1 = S4 at *
      have y4 := ly_fr y F1 (by simp)
      have t : ∀ o k n, (o, k, n) ∈ md_A → k < 16 → o < 20 → gI S4 (z + 45 + o) = gI S (z + 45 + o) := fun o k n hq hk h2 => fr_I F1 (ly_mk y o k n hq) (nA o h2) hk
      have m2 : gI S4 (z + 45) = gI S (z + 45) := fr_I F1 M.1 (nA 0 (by decide))
      have Hh : mh_ S4 (z + 45) := ⟨ly_md y4, ly_wf y4, fun q hq => by rw [t 17 10 64 (by decide) (by decide) (by decide)]; exact h.2.2.2.1.2 q hq⟩
      have g3 : gI S4 (z + 45 + 3) = gI Su (z + 45 + 3) := (t 3 10 200 (by decide) (by decide) (by decide)).trans (mo 48 (by decide)).symm
      have g4 : gI S4 (z + 45 + 4) = gI Su (z + 45 + 4) := (t 4 10 2 (by decide) (by decide) (by decide)).trans (mo 49 (by decide)).symm
      have g1 : gI S4 (z + 45 + 1) = gI Su (z + 46) := (t 1 10 2220 (by decide) (by decide) (by decide)).trans (mo 46 (by decide)).symm
      have hkb : kb_ S4 (z + 45) l = kb_ Su (z + 45) l := by unfold kb_; rw [g3, g4]
      obtain ⟨S5, e5, F5, k2, k0, k4, k17, b5⟩ := m_seal (T := S4) (m := z + 45) (l := l) (kn := kn) Hh (by rw [m2]; exact h.2.2.2.1.1) hl (show ky_I S4 (z + 45) l kn by unfold ky_I; rw [g3, g4]; exact d2u) (fun j hj => by rw [g1]; exact (n4u j (by omega)).2) (by rw [m2]; exact n3)
      rw [hkb, g1] at b5
      refine ⟨0, S4, 1, S5, rfl, (ly_md y4).1, e5, k0, fun _ => Or.inr ⟨rfl, by rw [fr_L F5 y4.2.2.2.2.2.2.2.2.2.1.1 (by (try unfold lq_) <;> (try unfold pq_) <;> (try unfold cq_) <;> (simp only [List.mem_cons, List.not_mem_nil, or_false, false_or, not_false_eq_true, List.cons_append, List.nil_append]) <;> omega), g1']⟩, in_out (n := 80) (V := sv_ (kb_ Su (z + 45) l) (gI Su (z + 46))) h (by decide) F1 hA c3' b3' F5 (fun x hx => by simp only [List.mem_cons, List.not_mem_nil, or_false] at hx; unfold o2A scA; omega) k4 b5 (fun j _ => bt_sv (fun j hj => (n4u j (by omega)).2) j) (tp_0 h.2.1 y (fr_ap F1 F5) (fun x hx => ?_) ?_ k2) k17⟩
      · unfold lq_ at hx
        simp only [List.mem_cons, List.not_mem_nil, or_false, List.mem_append] at hx
        omega
      · rw [fr_I F5 y4.2.1.1 (by (try unfold lq_) <;> (try unfold pq_) <;> (try unfold cq_) <;> (simp only [List.mem_cons, List.not_mem_nil, or_false, false_or, not_false_eq_true, List.cons_append, List.nil_append]) <;> omega)]; exact c1
    · have cn' : ¬ nI n = (48 : Int32) := by rw [show (48 : Int32) = nI 48 from rfl, nI_eq (by omega) (by decide)]; exact cn
      rw [if_neg cn', e_bxl, if_neg (by decide), if_pos rfl]
      refine ⟨2, gsZ Su (gZ Su + 1), 0, _, rfl, Mu.1, ?_, m0_s, fun q => absurd q (by decide), in_thr (w := 2) h Fu hu1 cu⟩
      show f_X8_seal _ _ _ = _
      unfold f_X8_seal
      rw [e_dc (S := gsZ Su (gZ Su + 1)) Mu.1, us, e_bi, isl_in hl, e_bi, if_neg (by decide), if_neg cn']
      exact thr 2 (by decide)
