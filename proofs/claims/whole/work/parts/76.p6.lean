/-! gossip -/
theorem plc0 {w l : Nat} {S : gS} : f_X8_placeOf S (nI w) (nI l) 0 = some (nI (3 * (2 * w + l)), S) := plc (q := 0)
theorem m_gos {m w1 w2 l : Nat} {T : gS} (hH : mh_ T m) (h17 : gI T m 17 = nI 0) (hw1 : w1 < 4) (hw2 : w2 < 4) (hl : l < 2) (f1 : gI T (m + 13) (3 * (2 * w1 + l)) = 1) (f2 : gI T (m + 13) (3 * (2 * w2 + l)) = 1) : ∃ S1, mg_S m (gsI T m 0 0) S1 ∧ (¬ lg_cmp (s_lg (rr_ T (m + 12) (3 * (2 * w1 + l))) 8) (s_lg (rr_ T (m + 12) (3 * (2 * w2 + l))) 8) = 0 → f_X8_gossip T m (nI w1) (nI w2) (nI l) = if lg_cmp (s_lg (rr_ T (m + 12) (3 * (2 * w1 + l))) 8) (s_lg (rr_ T (m + 12) (3 * (2 * w2 + l))) 8) ≤ 0 then some (2, gsI T m 0 0) else some (1, gsI T m 0 0)) ∧ (lg_cmp (s_lg (rr_ T (m + 12) (3 * (2 * w1 + l))) 8) (s_lg (rr_ T (m + 12) (3 * (2 * w2 + l))) 8) = 0 → (∀ i, i < 8 → w_at (rr_ T (m + 12) (3 * (2 * w1 + l))) 16 i = w_at (rr_ T (m + 12) (3 * (2 * w2 + l))) 16 i) → f_X8_gossip T m (nI w1) (nI w2) (nI l) = some (0, S1)) ∧ (lg_cmp (s_lg (rr_ T (m + 12) (3 * (2 * w1 + l))) 8) (s_lg (rr_ T (m + 12) (3 * (2 * w2 + l))) 8) = 0 → (¬ ∀ i, i < 8 → w_at (rr_ T (m + 12) (3 * (2 * w1 + l))) 16 i = w_at (rr_ T (m + 12) (3 * (2 * w2 + l))) 16 i) → f_X8_gossip T m (nI w1) (nI w2) (nI l) = (f_X8_told S1 m (nI (3 * (2 * w1 + l))) (nI (3 * (2 * w1 + l))) (nI (3 * (2 * w2 + l)))).bind fun S65 => gDc S65 8 (some m) fun a67 => (f_X8_told S65 a67 (nI (3 * (2 * w2 + l))) (nI (3 * (2 * w1 + l))) (nI (3 * (2 * w2 + l)))).bind fun S69 => some (3, S69)) := by
  have L0 : md_L (gsI T m 0 0) m := hH.1
  have k13 : gI (gsI T m 0 0) (m + 13) = gI T (m + 13) := sI_n (by omega)
  have k12 : gI (gsI T m 0 0) (m + 12) = gI T (m + 12) := sI_n (by omega)
  have k17 : gI (gsI T m 0 0) m 17 = nI 0 := by rw [sI_s, va_up_n _ _ _ (by decide)]; exact h17
  have hd : f_X8_gossip T m (nI w1) (nI w2) (nI l) = gBi (f_X8_seenLong (gsI T m 0 0) m (nI (3 * (2 * w1 + l))) 8) fun x38 S36 => gDc S36 8 (some m) fun a39 => gBi (f_X8_seenLong S36 a39 (nI (3 * (2 * w2 + l))) 8) fun x43 S41 => if (lg_cmp x38 x43) = 0 then gDc S41 8 (some m) fun a47 => (f_X8_seenSlot S41 a47 (nI (3 * (2 * w1 + l))) 10).bind fun S49 => gDc S49 8 (some m) fun a51 => (f_X8_seenSlot S49 a51 (nI (3 * (2 * w2 + l))) 11).bind fun S53 => gDc S53 8 (some m) fun a55 => gBi (f_X8_isSame S53 a55 10 11) fun x59 S57 => if x59 = 0 then gDc S57 8 (some m) fun a63 => (f_X8_told S57 a63 (nI (3 * (2 * w1 + l))) (nI (3 * (2 * w1 + l))) (nI (3 * (2 * w2 + l)))).bind fun S65 => gDc S65 8 (some m) fun a67 => (f_X8_told S65 a67 (nI (3 * (2 * w2 + l))) (nI (3 * (2 * w1 + l))) (nI (3 * (2 * w2 + l)))).bind fun S69 => some (3, S69) else some (0, S57) else if (lg_cmp x38 x43) ≤ 0 then some (2, S41) else some (1, S41) := by
    unfold f_X8_gossip f_X8_gossip_B27
    rw [isw_in hw1, e_bi, if_neg (by decide), isw_in hw2, e_bi, if_neg (by decide), isl_in hl, e_bi, if_neg (by decide), m_th hH.1.1, if_pos (by decide), plc0, e_bi, plc0, e_bi, e_gR L0.1, e_bs, md_r L0 15 13, e_I (md_k L0 13 12 24) (md_n L0 13 12 24) (by omega), e_bs, k13, f1, if_neg (by decide), e_bs, e_I (md_k L0 13 12 24) (md_n L0 13 12 24) (by omega), e_bs, k13, f2, if_neg (by decide), e_dc L0.1]
  generalize gsI T m 0 0 = S0 at *
  have e1 := p8_seenLong (p := 3 * (2 * w1 + l)) (o := 8) L0 (by omega) (by decide)
  have e2 := p8_seenLong (p := 3 * (2 * w2 + l)) (o := 8) L0 (by omega) (by decide)
  rw [k12] at e1 e2
  have u1 : s_lg (rr_ T (m + 12) (3 * (2 * w1 + l))) 8 = s_lg (gI T (m + 12)) (80 * (3 * (2 * w1 + l)) + 8) := lg_sh'
  have u2 : s_lg (rr_ T (m + 12) (3 * (2 * w2 + l))) 8 = s_lg (gI T (m + 12)) (80 * (3 * (2 * w2 + l)) + 8) := lg_sh'
  rw [show f_X8_seenLong S0 m (nI (3 * (2 * w1 + l))) 8 = _ from e1, e_bi, e_dc L0.1, show f_X8_seenLong S0 m (nI (3 * (2 * w2 + l))) 8 = _ from e2, e_bi, ← u1, ← u2] at hd
  have e3 := p8_seenSlot (p := 3 * (2 * w1 + l)) (s := 10) L0 (by omega) (by decide)
  have s1 := mg_A (S := S0) (m := m) (f := sl_ (gI S0 (m + 18)) 10 (w_at (gI S0 (m + 12)) (80 * (3 * (2 * w1 + l)) + 16))) k17
  have w1' : ∀ i, i < 8 → gI (gsA S0 (m + 18) (sl_ (gI S0 (m + 18)) 10 (w_at (gI S0 (m + 12)) (80 * (3 * (2 * w1 + l)) + 16)))) (m + 18) (8 * 10 + i) = w_at (rr_ T (m + 12) (3 * (2 * w1 + l))) 16 i := fun i hi => by rw [sA_s, sl_in hi, k12]; exact w_sh.symm
  have q1 : gI (gsA S0 (m + 18) (sl_ (gI S0 (m + 18)) 10 (w_at (gI S0 (m + 12)) (80 * (3 * (2 * w1 + l)) + 16)))) (m + 12) = gI T (m + 12) := by rw [sA_n (by omega), k12]
  rw [e_dc L0.1, show f_X8_seenSlot S0 m (nI (3 * (2 * w1 + l))) 10 = _ from e3, e_bs] at hd
  generalize gsA S0 (m + 18) (sl_ (gI S0 (m + 18)) 10 (w_at (gI S0 (m + 12)) (80 * (3 * (2 * w1 + l)) + 16))) = S1 at *
  have L1 := md_fr L0 s1.1 (by simp)
  have e4 := p8_seenSlot (p := 3 * (2 * w2 + l)) (s := 11) L1 (by omega) (by decide)
  have s2 := mg_A (S := S1) (m := m) (f := sl_ (gI S1 (m + 18)) 11 (w_at (gI S1 (m + 12)) (80 * (3 * (2 * w2 + l)) + 16))) s1.2.2
  have w2' : ∀ i, i < 8 → gI (gsA S1 (m + 18) (sl_ (gI S1 (m + 18)) 11 (w_at (gI S1 (m + 12)) (80 * (3 * (2 * w2 + l)) + 16)))) (m + 18) (8 * 11 + i) = w_at (rr_ T (m + 12) (3 * (2 * w2 + l))) 16 i := fun i hi => by rw [sA_s, sl_in hi, q1]; exact w_sh.symm
  have w3' : ∀ i, i < 8 → gI (gsA S1 (m + 18) (sl_ (gI S1 (m + 18)) 11 (w_at (gI S1 (m + 12)) (80 * (3 * (2 * w2 + l)) + 16)))) (m + 18) (8 * 10 + i) = w_at (rr_ T (m + 12) (3 * (2 * w1 + l))) 16 i := fun i hi => by rw [sA_s, sl_out hi (by decide)]; exact w1' i hi
  rw [e_dc L1.1, show f_X8_seenSlot S1 m (nI (3 * (2 * w2 + l))) 11 = _ from e4, e_bs] at hd
  generalize gsA S1 (m + 18) (sl_ (gI S1 (m + 18)) 11 (w_at (gI S1 (m + 12)) (80 * (3 * (2 * w2 + l)) + 16))) = S2 at *
  have L2 := md_fr L1 s2.1 (by simp)
  obtain ⟨x, e5, hx⟩ := p8_isSame (a := 10) (b := 11) L2 (by decide) (by decide)
  have hiff : (∀ j, j < 8 → gI S2 (m + 18) (8 * 10 + j) = gI S2 (m + 18) (8 * 11 + j)) ↔ ∀ i, i < 8 → w_at (rr_ T (m + 12) (3 * (2 * w1 + l))) 16 i = w_at (rr_ T (m + 12) (3 * (2 * w2 + l))) 16 i := by
    constructor
    · intro w q hq
      have := w q hq
      rw [w3' q hq, w2' q hq] at this
      exact this
    · intro w q hq
      rw [w3' q hq, w2' q hq]; exact w q hq
  rw [hiff] at hx
  rw [e_dc L2.1, show f_X8_isSame S2 m 10 11 = _ from e5, e_bi, e_dc L2.1] at hd
  refine ⟨S2, mg_tr s1 s2, fun c => ?_, fun c w => ?_, fun c w => ?_⟩
  · rw [hd, if_neg c]
  · rw [hd, if_pos c]
    rcases hx with ⟨rfl, q⟩ | ⟨rfl, q⟩
    · rw [if_neg (by decide)]
    · exact (q w).elim
  · rw [hd, if_pos c]
    rcases hx with ⟨rfl, q⟩ | ⟨rfl, q⟩
    · exact (w q).elim
    · rw [if_pos rfl]
theorem uq_gossip {z : Nat} {S : gS} {a b c : Int32} (h : in_ z S) : Tq z (f_L_gossip S (some z) a b c (some (z + 65))) (fun T => f_X8_gossip T (z + 45) a b c) := by
  have y := h.1
  have M := ly_md y
  unfold f_L_gossip f_X7_gossip
  rw [e_dc y.1.1, e_dc y.1.1]
  have thr : f_X8_gossip_B27 (gsZ S (gZ S + 1)) (z + 45) a b c 1 (some (z + 45)) = some (0, gsI (gsZ S (gZ S + 1)) (z + 45) 0 1) := by
    unfold f_X8_gossip_B27
    rw [m_th (T := gsZ S (gZ S + 1)) M.1, if_neg (by decide)]
  have bad : f_X8_gossip (gsZ S (gZ S + 1)) (z + 45) a b c = f_X8_gossip_B27 (gsZ S (gZ S + 1)) (z + 45) a b c 1 (some (z + 45)) → Tq z (some (1, gsZ S (gZ S + 1))) (fun T => f_X8_gossip T (z + 45) a b c) := fun e => ⟨1, gsZ S (gZ S + 1), 0, gsI (gsZ S (gZ S + 1)) (z + 45) 0 1, rfl, M.1, e.trans thr, m0_s, fun q => absurd q (by decide), in_m0 (in_zz h)⟩
  rcases iv_cs a (n := 4) (by decide) with ca | ⟨w1, hw1, rfl⟩
  · rw [vof_bad (Or.inl ca), e_bxl, e_bxl, if_pos rfl]
    refine bad ?_
    unfold f_X8_gossip f_X8_gossip_B22
    rw [isw_bad ca, e_bi, if_pos rfl]
  rcases lg_cs c with cc | ⟨l, hl, rfl⟩
  · rw [vof_bad (Or.inr cc), e_bxl, e_bxl, if_pos rfl]
    refine bad ?_
    unfold f_X8_gossip f_X8_gossip_B22
    rw [isw_in hw1, e_bi, if_neg (by decide)]
    rcases iv_cs b (n := 4) (by decide) with cb | ⟨w2, hw2, rfl⟩
    · rw [isw_bad cb, e_bi, if_pos rfl]
    · rw [isw_in hw2, e_bi, if_neg (by decide), isl_bad cc, e_bi, if_pos rfl]
  rw [vof_in y hw1 hl, e_bxr, e_dc y.1.1]
  rcases iv_cs b (n := 4) (by decide) with cb | ⟨w2, hw2, rfl⟩
  · rw [vof_bad (Or.inl cb), e_bxl, e_bxl, if_pos rfl]
    refine bad ?_
    unfold f_X8_gossip f_X8_gossip_B22
    rw [isw_in hw1, e_bi, if_neg (by decide), isw_bad cb, e_bi, if_pos rfl]
  have hv1 : 2 * w1 + l < 8 := by omega
  have hv2 : 2 * w2 + l < 8 := by omega
  have V1 := (y.2.2.2.2.2.1.2.2 (2 * w1 + l) hv1).2
  have V2 := (y.2.2.2.2.2.1.2.2 (2 * w2 + l) hv2).2
  have h0 := vw_vs h.2.2.2.2.2
  rw [vof_in y hw2 hl, e_bxr, e_gR V1, e_bs, e_gR V2, e_bs]
  have G1 := vs_get h0 hv1 (show 0 < 3 by decide)
  have G2 := vs_get h0 hv2 (show 0 < 3 by decide)
  simp only [Nat.add_zero] at G1 G2
  -- nothing seen
  have non : ∀ T : gS, T = gsL S (z + 65) 0 (0 : Int32).toInt64 → (gI S (z + 58) (3 * (2 * w1 + l)) = 0 ∨ (gI S (z + 58) (3 * (2 * w1 + l)) = 1 ∧ gI S (z + 58) (3 * (2 * w2 + l)) = 0)) → Tq z (some (0, T)) (fun T => f_X8_gossip T (z + 45) (nI w1) (nI w2) (nI l)) := by
    intro T hT hf
    have MT : md_L T (z + 45) := by rw [hT]; exact M
    have L0 : md_L (gsI T (z + 45) 0 0) (z + 45) := MT
    have k13 : gI (gsI T (z + 45) 0 0) (z + 45 + 13) = gI S (z + 58) := by rw [sI_n (by omega), hT]; rfl
    refine ⟨0, T, 0, gsI T (z + 45) 0 0, rfl, MT.1, ?_, m0_s, fun _ => by rw [sI_L, hT, sL_s, va_up_s], by rw [hT]; exact in_m0 (in_l h)⟩
    show f_X8_gossip _ _ _ _ _ = _
    unfold f_X8_gossip f_X8_gossip_B27
    rw [isw_in hw1, e_bi, if_neg (by decide), isw_in hw2, e_bi, if_neg (by decide), isl_in hl, e_bi, if_neg (by decide), m_th MT.1, if_pos (by decide), plc0, e_bi, plc0, e_bi, e_gR L0.1, e_bs, md_r L0 15 13, e_I (md_k L0 13 12 24) (md_n L0 13 12 24) (by omega), e_bs, k13]
    rcases hf with q | ⟨q, q'⟩
    · rw [if_pos q]
    · rw [if_neg (by rw [q]; decide), e_bs, e_I (md_k L0 13 12 24) (md_n L0 13 12 24) (by omega), e_bs, k13, if_pos q']
  rcases G1 with ⟨g1, g1'⟩ | ⟨g1, -, r1, g1', Q1⟩
  · rw [show gR S (z + 27 + (2 * w1 + l)) 0 = none from g1', e_nn, e_bxr, aL_o y, e_bs]
    exact non _ rfl (Or.inl g1)
  rw [show gR S (z + 27 + (2 * w1 + l)) 0 = some r1 from g1', e_nl]
  rcases G2 with ⟨g2, g2'⟩ | ⟨g2, -, r2, g2', Q2⟩
  · rw [show gR S (z + 27 + (2 * w2 + l)) 0 = none from g2', e_nn, e_bxr, aL_o y, e_bs]
    exact non _ rfl (Or.inr ⟨g1, g2⟩)
  rw [show gR S (z + 27 + (2 * w2 + l)) 0 = some r2 from g2', e_nl]
  obtain ⟨bb1, k31, R1, zb1, kb1, nb1, rb1⟩ := vq_b Q1
  obtain ⟨bb2, k32, R2, zb2, kb2, nb2, rb2⟩ := vq_b Q2
  rw [e_dc k31, show f_X3_longAt S r1 8 = _ from vq_lg (p := 8) Q1 (by decide), e_bi, e_dc k32, show f_X3_longAt S r2 8 = _ from vq_lg (p := 8) Q2 (by decide), e_bi]
  obtain ⟨xs, es, hxs⟩ := p_same (S := S) (r1 := bb1) (r2 := bb2) (p1 := 16) (p2 := 16) (n := 32) kb1 kb2 (by omega) (by omega) (by omega) (by omega) (by decide)
  rw [same_dg (rb_dg rb1 (by decide)) (rb_dg rb2 (by decide))] at hxs
  -- an answer that changes nothing
  have ans : ∀ (x : Int32) (T : gS), T = gsL S (z + 65) 0 x.toInt64 → (∀ S2, mg_S (z + 45) (gsI T (z + 45) 0 0) S2 → f_X8_gossip T (z + 45) (nI w1) (nI w2) (nI l) = some (x, S2) → Tq z (some (0, T)) (fun T => f_X8_gossip T (z + 45) (nI w1) (nI w2) (nI l))) := by
    intro x T hT S2 s2 e2
    have MT : md_L T (z + 45) := by rw [hT]; exact M
    have F : fr_S [z + 45, z + 45 + 14, z + 45 + 15, z + 45 + 16, z + 45 + 18] [] T S2 := fr_tr (fr_i (by simp)) s2.1
    have hTin : in_ z T := by rw [hT]; exact in_l h
    refine ⟨0, T, x, S2, rfl, MT.1, e2, by rw [s2.2.1 0 (by decide), m0_s], fun _ => ?_, in_sc hTin F (fun x hx => by (try unfold lq_ at hx) <;> (try unfold pq_ at hx) <;> (try unfold cq_ at hx) <;> (simp only [List.mem_cons, List.not_mem_nil, or_false, false_or, List.cons_append, List.nil_append] at hx) <;> (try simp only [loA, loB, tpA, ooA, msA, vwA, vwB, lyB, scA]) <;> omega) ?_ ?_ ?_⟩
    · rw [fr_L F hTin.1.2.2.2.2.2.2.2.2.2.1.1 (by (try unfold lq_) <;> (try unfold pq_) <;> (try unfold cq_) <;> (simp only [List.mem_cons, List.not_mem_nil, or_false, false_or, not_false_eq_true, List.cons_append, List.nil_append]) <;> omega), hT, sL_s, va_up_s]
    · rw [s2.2.1 2 (by decide), sI_s, va_up_n _ _ _ (by decide)]
    · rw [s2.2.1 4 (by decide), sI_s, va_up_n _ _ _ (by decide)]
    · rw [s2.2.2]; exact hTin.2.2.2.1.1.symm
  have mgs : ∀ (T : gS), md_L T (z + 45) → gI T (z + 45 + 12) = gI S (z + 57) → gI T (z + 45 + 13) = gI S (z + 58) → gI T (z + 45 + 17) = gI S (z + 62) → gI T (z + 45) = gI S (z + 45) → wf_S T → ∃ S1, mg_S (z + 45) (gsI T (z + 45) 0 0) S1 ∧ (¬ lg_cmp (s_lg (rr_ S (z + 57) (3 * (2 * w1 + l))) 8) (s_lg (rr_ S (z + 57) (3 * (2 * w2 + l))) 8) = 0 → f_X8_gossip T (z + 45) (nI w1) (nI w2) (nI l) = if lg_cmp (s_lg (rr_ S (z + 57) (3 * (2 * w1 + l))) 8) (s_lg (rr_ S (z + 57) (3 * (2 * w2 + l))) 8) ≤ 0 then some (2, gsI T (z + 45) 0 0) else some (1, gsI T (z + 45) 0 0)) ∧ (lg_cmp (s_lg (rr_ S (z + 57) (3 * (2 * w1 + l))) 8) (s_lg (rr_ S (z + 57) (3 * (2 * w2 + l))) 8) = 0 → (∀ i, i < 8 → w_at (rr_ S (z + 57) (3 * (2 * w1 + l))) 16 i = w_at (rr_ S (z + 57) (3 * (2 * w2 + l))) 16 i) → f_X8_gossip T (z + 45) (nI w1) (nI w2) (nI l) = some (0, S1)) ∧ (lg_cmp (s_lg (rr_ S (z + 57) (3 * (2 * w1 + l))) 8) (s_lg (rr_ S (z + 57) (3 * (2 * w2 + l))) 8) = 0 → (¬ ∀ i, i < 8 → w_at (rr_ S (z + 57) (3 * (2 * w1 + l))) 16 i = w_at (rr_ S (z + 57) (3 * (2 * w2 + l))) 16 i) → f_X8_gossip T (z + 45) (nI w1) (nI w2) (nI l) = (f_X8_told S1 (z + 45) (nI (3 * (2 * w1 + l))) (nI (3 * (2 * w1 + l))) (nI (3 * (2 * w2 + l)))).bind fun S65 => gDc S65 8 (some (z + 45)) fun a67 => (f_X8_told S65 a67 (nI (3 * (2 * w2 + l))) (nI (3 * (2 * w1 + l))) (nI (3 * (2 * w2 + l)))).bind fun S69 => some (3, S69)) := by
    intro T MT t12 t13 t17 tm wT
    have rrE : rr_ T (z + 45 + 12) = rr_ S (z + 57) := by funext c j; unfold rr_; rw [t12]
    have := m_gos (m := z + 45) (w1 := w1) (w2 := w2) (l := l) (T := T) ⟨MT, wT, fun q hq => by rw [t17]; exact h.2.2.2.1.2 q hq⟩ (by rw [tm]; exact h.2.2.2.1.1) hw1 hw2 hl (by rw [t13]; exact g1) (by rw [t13]; exact g2)
    rw [rrE] at this
    exact this
  by_cases c1 : lg_cmp (s_lg (rr_ S (z + 57) (3 * (2 * w1 + l))) 8) (s_lg (rr_ S (z + 57) (3 * (2 * w2 + l))) 8) = 0
  · rw [if_pos c1, e_gR k31, e_bs, R1, e_gR k32, e_bs, R2, show f_X3_same S (some bb1) 16 (some bb2) 16 32 = _ from es, e_bi]
    rcases hxs with ⟨rfl, q⟩ | ⟨rfl, q⟩
    · rw [if_neg (by decide), e_bxr, aL_o y, e_bs]
      obtain ⟨S1, s1, -, e2, -⟩ := mgs (gsL S (z + 65) 0 (0 : Int32).toInt64) M rfl rfl rfl rfl (ly_wf y)
      exact ans 0 _ rfl S1 s1 (e2 c1 q)
    · -- two stories
      rw [if_pos rfl, e_dc V1]
      obtain ⟨S1, e1, f1, x1⟩ := c_keepEv (x := some r1) (y := some r2) V1
      have B1 : ∀ x ∈ [z + 27 + (2 * w1 + l)], lyB z x := fun x hx => by simp only [List.mem_cons, List.not_mem_nil, or_false] at hx; unfold lyB; omega
      have B2 : ∀ x ∈ [z + 27 + (2 * w2 + l)], lyB z x := fun x hx => by simp only [List.mem_cons, List.not_mem_nil, or_false] at hx; unfold lyB; omega
      have y1 := ly_fr y f1 B1
      have V21 := (y1.2.2.2.2.2.1.2.2 (2 * w2 + l) hv2).2
      obtain ⟨S2, e2, f2, x2⟩ := c_keepEv (x := some r1) (y := some r2) V21
      have y2 := ly_fr y1 f2 B2
      rw [e1, e_bs, e_dc V21, e2, e_bs, e_bxr, aL_o y2, e_bs]
      have F1 : fr_S [z + 65] [z + 27 + (2 * w1 + l), z + 27 + (2 * w2 + l)] S (gsL S2 (z + 65) 0 (3 : Int32).toInt64) := fr_tr (fr_mo f1 (by simp) (by simp)) (fr_tr (fr_mo f2 (by simp) (by simp)) (fr_l (by simp)))
      have hB : ∀ x ∈ [z + 27 + (2 * w1 + l), z + 27 + (2 * w2 + l)], z + 27 ≤ x ∧ x ≤ z + 34 := fun x hx => by simp only [List.mem_cons, List.not_mem_nil, or_false] at hx; omega
      have hBl : ∀ x ∈ [z + 27 + (2 * w1 + l), z + 27 + (2 * w2 + l)], lyB z x := fun x hx => by have := hB x hx; unfold lyB; omega
      have RR : ∀ v q, v < 8 → gR (gsL S2 (z + 65) 0 (3 : Int32).toInt64) (z + 27 + v) q = if v = 2 * w2 + l ∧ (if 2 * w2 + l = 2 * w1 + l ∧ gR S (z + 27 + (2 * w1 + l)) 1 = none ∧ (1 = 1 ∨ 1 = 2) then (if 1 = 1 then some r1 else some r2) else gR S (z + 27 + (2 * w2 + l)) 1) = none ∧ (q = 1 ∨ q = 2) then (if q = 1 then some r1 else some r2) else (if v = 2 * w1 + l ∧ gR S (z + 27 + (2 * w1 + l)) 1 = none ∧ (q = 1 ∨ q = 2) then (if q = 1 then some r1 else some r2) else gR S (z + 27 + v) q) := by
        intro v q hv
        have E1 : ∀ v q, v < 8 → gR S1 (z + 27 + v) q = if v = 2 * w1 + l ∧ gR S (z + 27 + (2 * w1 + l)) 1 = none ∧ (q = 1 ∨ q = 2) then (if q = 1 then some r1 else some r2) else gR S (z + 27 + v) q := by
          intro v q hv
          by_cases e : v = 2 * w1 + l
          · subst e
            rw [x1 q]
            by_cases c : gR S (z + 27 + (2 * w1 + l)) 1 = none ∧ (q = 1 ∨ q = 2)
            · rw [if_pos c]; exact (if_pos ⟨rfl, c⟩).symm
            · rw [if_neg c, if_neg (fun w => c w.2)]
          · rw [fr_R f1 (y.2.2.2.2.2.1.2.2 v hv).2 (by simp only [List.mem_cons, List.not_mem_nil, or_false]; omega), if_neg (fun w => e w.1)]
        rw [sL_R, ← E1 (2 * w2 + l) 1 hv2, ← E1 v q hv]
        by_cases e : v = 2 * w2 + l
        · subst e
          rw [x2 q]
          by_cases c : gR S1 (z + 27 + (2 * w2 + l)) 1 = none ∧ (q = 1 ∨ q = 2)
          · rw [if_pos c]; exact (if_pos ⟨rfl, c⟩).symm
          · rw [if_neg c, if_neg (fun w => c w.2)]
        · rw [fr_R f2 (y1.2.2.2.2.2.1.2.2 v hv).2 (by simp only [List.mem_cons, List.not_mem_nil, or_false]; omega), if_neg (fun w => e w.1)]
      have g1L : gL (gsL S2 (z + 65) 0 (3 : Int32).toInt64) (z + 65) 0 = (3 : Int32).toInt64 := by rw [sL_s, va_up_s]
      generalize gsL S2 (z + 65) 0 (3 : Int32).toInt64 = S3 at *
      have y3 := ly_fr y F1 hBl
      have M3 := ly_md y3
      have t : ∀ o k n, (o, k, n) ∈ md_A → k < 16 → o < 20 → gI S3 (z + 45 + o) = gI S (z + 45 + o) := fun o k n hq hk h2 => fr_I F1 (ly_mk y o k n hq) (by (try unfold lq_) <;> (try unfold pq_) <;> (try unfold cq_) <;> (simp only [List.mem_cons, List.not_mem_nil, or_false, false_or, not_false_eq_true, List.cons_append, List.nil_append]) <;> omega) hk
      have m3 : gI S3 (z + 45) = gI S (z + 45) := fr_I F1 M.1 (by (try unfold lq_) <;> (try unfold pq_) <;> (try unfold cq_) <;> (simp only [List.mem_cons, List.not_mem_nil, or_false, false_or, not_false_eq_true, List.cons_append, List.nil_append]) <;> omega)
      obtain ⟨S4, s4, -, -, e4⟩ := mgs S3 M3 (t 12 10 1920 (by decide) (by decide) (by decide)) (t 13 12 24 (by decide) (by decide) (by decide)) (t 17 10 64 (by decide) (by decide) (by decide)) m3 (ly_wf y3)
      have F4 : fr_S [z + 45, z + 45 + 14, z + 45 + 15, z + 45 + 16, z + 45 + 18] [] S3 S4 := fr_tr (fr_i (by simp)) s4.1
      have M4 := md_fr M3 F4 (by simp)
      have k12 : rr_ S4 (z + 45 + 12) = rr_ S (z + 57) := by funext c j; unfold rr_; rw [fr_I F4 (md_k M3 12 10 1920) (by (try unfold lq_) <;> (try unfold pq_) <;> (try unfold cq_) <;> (simp only [List.mem_cons, List.not_mem_nil, or_false, false_or, not_false_eq_true, List.cons_append, List.nil_append]) <;> omega), t 12 10 1920 (by decide) (by decide) (by decide)]
      have k13 : gI S4 (z + 45 + 13) = gI S (z + 58) := by rw [fr_I F4 (md_k M3 13 12 24) (by (try unfold lq_) <;> (try unfold pq_) <;> (try unfold cq_) <;> (simp only [List.mem_cons, List.not_mem_nil, or_false, false_or, not_false_eq_true, List.cons_append, List.nil_append]) <;> omega)]; exact t 13 12 24 (by decide) (by decide) (by decide)
      obtain ⟨S5, e5, F5, fl5, ro5⟩ := m_told (S := S4) (m := z + 45) (p := 3 * (2 * w1 + l)) (a := 3 * (2 * w1 + l)) (b := 3 * (2 * w2 + l)) M4 (by omega) (by omega) (by omega) (by omega) (by omega) (by omega)
      have M5 := md_fr M4 F5 (by simp)
      obtain ⟨S6, e6, F6, fl6, ro6⟩ := m_told (S := S5) (m := z + 45) (p := 3 * (2 * w2 + l)) (a := 3 * (2 * w1 + l)) (b := 3 * (2 * w2 + l)) M5 (by omega) (by omega) (by omega) (by omega) (by omega) (by omega)
      have F36 : fr_S [z + 45, z + 45 + 12, z + 45 + 13, z + 45 + 14, z + 45 + 15, z + 45 + 16, z + 45 + 18] [] S3 S6 := fr_tr (fr_mo F4 (fun x hx => by (try unfold lq_ at hx) <;> (try unfold pq_ at hx) <;> (try unfold cq_ at hx) <;> (try unfold lq_) <;> (try unfold pq_) <;> (try unfold cq_) <;> (simp only [List.mem_cons, List.not_mem_nil, or_false, false_or, List.cons_append, List.nil_append] at hx ⊢) <;> omega) (by simp)) (fr_tr (fr_mo F5 (fun x hx => by (try unfold lq_ at hx) <;> (try unfold pq_ at hx) <;> (try unfold cq_ at hx) <;> (try unfold lq_) <;> (try unfold pq_) <;> (try unfold cq_) <;> (simp only [List.mem_cons, List.not_mem_nil, or_false, false_or, List.cons_append, List.nil_append] at hx ⊢) <;> omega) (by simp)) (fr_mo F6 (fun x hx => by (try unfold lq_ at hx) <;> (try unfold pq_ at hx) <;> (try unfold cq_ at hx) <;> (try unfold lq_) <;> (try unfold pq_) <;> (try unfold cq_) <;> (simp only [List.mem_cons, List.not_mem_nil, or_false, false_or, List.cons_append, List.nil_append] at hx ⊢) <;> omega) (by simp)))
      have F : fr_S ([z + 65] ++ [z + 45, z + 45 + 12, z + 45 + 13, z + 45 + 14, z + 45 + 15, z + 45 + 16, z + 45 + 18]) ([z + 27 + (2 * w1 + l), z + 27 + (2 * w2 + l)] ++ []) S S6 := fr_ap F1 F36
      have hAF : ∀ x ∈ [z + 65] ++ [z + 45, z + 45 + 12, z + 45 + 13, z + 45 + 14, z + 45 + 15, z + 45 + 16, z + 45 + 18], scA z x ∨ x = z + 57 ∨ x = z + 58 := fun x hx => by
        simp only [List.mem_cons, List.not_mem_nil, or_false, List.mem_append] at hx
        unfold scA
        omega
      have hBF : ∀ x ∈ [z + 27 + (2 * w1 + l), z + 27 + (2 * w2 + l)] ++ ([] : List Nat), z + 27 ≤ x ∧ x ≤ z + 34 := fun x hx => by rw [List.append_nil] at hx; exact hB x hx
      have A6 : ∀ x ∈ [z + 65] ++ [z + 45, z + 45 + 12, z + 45 + 13, z + 45 + 14, z + 45 + 15, z + 45 + 16, z + 45 + 18], x < z + 66 := fun x hx => by have := hAF x hx; unfold scA at this; omega
      have B6 : ∀ x ∈ [z + 27 + (2 * w1 + l), z + 27 + (2 * w2 + l)] ++ ([] : List Nat), x < z + 66 := fun x hx => by have := hBF x hx; omega
      have m6 : ∀ k, k ≠ 0 → gI S6 (z + 45) k = if k = 17 then nI 0 else gI S (z + 45) k := fun k hk => by
        rw [fr_I F6 M5.1 (by (try unfold lq_) <;> (try unfold pq_) <;> (try unfold cq_) <;> (simp only [List.mem_cons, List.not_mem_nil, or_false, false_or, not_false_eq_true, List.cons_append, List.nil_append]) <;> omega), fr_I F5 M4.1 (by (try unfold lq_) <;> (try unfold pq_) <;> (try unfold cq_) <;> (simp only [List.mem_cons, List.not_mem_nil, or_false, false_or, not_false_eq_true, List.cons_append, List.nil_append]) <;> omega)]
        by_cases c : k = 17
        · rw [if_pos c, c, s4.2.2]
        · rw [if_neg c, s4.2.1 k c, sI_s, va_up_n _ _ _ hk, m3]
      have Q1' := vq_fr Q1 F A6 B6
      have Q2' := vq_fr Q2 F A6 B6
      have v0 := vs_fr h0 F A6 B6
      have v1 := vs_told (v := 2 * w1 + l) (a := 3 * (2 * w1 + l)) (b := 3 * (2 * w2 + l)) v0 hv1 Q1' Q2'
      have v2 := vs_told (v := 2 * w2 + l) (a := 3 * (2 * w1 + l)) (b := 3 * (2 * w2 + l)) (ra := r1) (rb := r2) v1 hv2 (by
        show vq_ z S6 r1 (rr_ S (z + 57) (if _ ∧ 3 * (2 * w1 + l) = 3 * (2 * w1 + l) + 1 then _ else if _ ∧ 3 * (2 * w1 + l) = 3 * (2 * w1 + l) + 2 then _ else 3 * (2 * w1 + l)))
        rw [if_neg (fun w => by omega), if_neg (fun w => by omega)]; exact Q1') (by
        show vq_ z S6 r2 (rr_ S (z + 57) (if _ ∧ 3 * (2 * w2 + l) = 3 * (2 * w1 + l) + 1 then _ else if _ ∧ 3 * (2 * w2 + l) = 3 * (2 * w1 + l) + 2 then _ else 3 * (2 * w2 + l)))
        rw [if_neg (fun w => by omega), if_neg (fun w => by omega)]; exact Q2')
      refine ⟨0, S3, 3, S6, rfl, M3.1, ?_, ?_, fun _ => by rw [fr_L F36 y3.2.2.2.2.2.2.2.2.2.1.1 (by (try unfold lq_) <;> (try unfold pq_) <;> (try unfold cq_) <;> (simp only [List.mem_cons, List.not_mem_nil, or_false, false_or, not_false_eq_true, List.cons_append, List.nil_append]) <;> omega), g1L], in_vw h F (fun x hx => (hAF x hx).elim Or.inl (fun q => Or.inr (Or.inr q))) hBF (tp_fr h.2.1 y F (fun x hx => by have := hAF x hx; unfold scA at this; unfold tpA; omega) (by rw [m6 2 (by decide)]; rfl)) (by rw [m6 4 (by decide)]; rfl) (by rw [m6 17 (by decide)]; rfl) (vs_vw (vs_c v2 (fun v q hv hq => ?_) (fun c hc => ?_) (fun c j hc hj => ?_)))⟩
      · show f_X8_gossip _ _ _ _ _ = _
        rw [e4 c1 q, e5, e_bs, e_dc M5.1, e6, e_bs]
      · rw [fr_I F6 M5.1 (by (try unfold lq_) <;> (try unfold pq_) <;> (try unfold cq_) <;> (simp only [List.mem_cons, List.not_mem_nil, or_false, false_or, not_false_eq_true, List.cons_append, List.nil_append]) <;> omega), fr_I F5 M4.1 (by (try unfold lq_) <;> (try unfold pq_) <;> (try unfold cq_) <;> (simp only [List.mem_cons, List.not_mem_nil, or_false, false_or, not_false_eq_true, List.cons_append, List.nil_append]) <;> omega), s4.2.1 0 (by decide), m0_s]
      · show gR S6 (z + 27 + v) q = _
        rw [fr_R F36 (y3.2.2.2.2.2.1.2.2 v hv).2 (by simp), RR v q hv]
      · show gI S6 (z + 45 + 13) c = _
        rw [fl6 c, fl5 (3 * (2 * w2 + l) + 1), fl5 c, k13]
      · show rr_ S6 (z + 45 + 12) c j = _
        rw [ro6 c j hj, ro5 _ j hj, fl5 (3 * (2 * w2 + l) + 1), k12, k13]
  · rw [if_neg c1]
    by_cases c2 : lg_cmp (s_lg (rr_ S (z + 57) (3 * (2 * w1 + l))) 8) (s_lg (rr_ S (z + 57) (3 * (2 * w2 + l))) 8) ≤ 0
    · rw [if_pos c2, e_bxr, aL_o y, e_bs]
      obtain ⟨S1, -, e2, -, -⟩ := mgs (gsL S (z + 65) 0 (2 : Int32).toInt64) M rfl rfl rfl rfl (ly_wf y)
      refine ans 2 _ rfl _ (mg_rf ?_) ((e2 c1).trans (if_pos c2))
      rw [sI_s, va_up_n _ _ _ (by decide)]; exact h.2.2.2.1.1
    · rw [if_neg c2, e_bxr, aL_o y, e_bs]
      obtain ⟨S1, -, e2, -, -⟩ := mgs (gsL S (z + 65) 0 (1 : Int32).toInt64) M rfl rfl rfl rfl (ly_wf y)
      refine ans 1 _ rfl _ (mg_rf ?_) ((e2 c1).trans (if_neg c2))
      rw [sI_s, va_up_n _ _ _ (by decide)]; exact h.2.2.2.1.1
