/-! entry, leaf, root, way, proof -/
theorem iv_cs (v : Int32) {n : Nat} (hn : n < 2 ^ 31) : (v < 0 ∨ nI n ≤ v) ∨ ∃ i, i < n ∧ v = nI i := by
  rcases pk_ix v (n := n) hn with q | q | q
  · exact Or.inl (Or.inl q)
  · exact Or.inl (Or.inr q)
  · exact Or.inr q
theorem ng_lt {v : Int32} {n : Nat} (h : v < 0 ∨ nI n ≤ v) (h0 : ¬ v < 0) : ¬ v < nI n := fun q => absurd (h.resolve_left h0) (Int32.not_le.mpr q)
theorem uq_entry {z : Nat} {S : gS} {a v : Int32} (h : in_ z S) : Tq z (f_L_entry S (some z) a v (some (z + 65))) (fun T => f_X8_entry T (z + 45) a v) := by
  have y := h.1
  have M := ly_md y
  unfold f_L_entry f_X7_entry
  rw [e_dc y.1.1, e_dc y.1.1]
  rcases lg_cs a with ca | ⟨l, hl, rfl⟩
  · rw [lof_bad ca, e_bxl, e_bxl, if_pos rfl]
    refine ⟨1, gsZ S (gZ S + 1), 0, gsI (gsZ S (gZ S + 1)) (z + 45) 0 1, rfl, M.1, ?_, m0_s, fun q => absurd q (by decide), in_m0 (in_zz h)⟩
    show f_X8_entry _ _ _ _ = _
    unfold f_X8_entry f_X8_entry_B31
    rw [isl_bad ca, e_bi, if_pos rfl, m_th (T := gsZ S (gZ S + 1)) M.1, if_neg (by decide)]
  · rw [lof_in y hl, e_bxr]
    obtain ⟨N, TS, H, kn, ⟨a1, a2, a3⟩, ⟨b1, b2, b3⟩, ⟨c1, c2, c3⟩, ⟨d1, d2⟩, kb, er, fu, hd, tm⟩ := h.2.2.2.2.1 l hl
    have hN := a3.1
    have L := ly_lg y hl
    rw [e_dc L.1]
    rcases iv_cs v (n := N) (by omega) with cv | ⟨i, hi, rfl⟩
    · rw [p_entryAt_out L a1 cv, e_bi, e_nn, e_bxl, if_neg (by decide), if_pos rfl]
      refine ⟨2, gsZ S (gZ S + 1), 0, gsI (gsZ S (gZ S + 1)) (z + 45) 0 2, rfl, M.1, ?_, m0_s, fun q => absurd q (by decide), in_m0 (in_zz h)⟩
      show f_X8_entry _ _ _ _ = _
      unfold f_X8_entry f_X8_entry_B26 f_X8_entry_B31
      rw [isl_in hl, e_bi, if_neg (by decide)]
      by_cases c0 : v < 0
      · rw [if_pos c0, m_th (T := gsZ S (gZ S + 1)) M.1, if_neg (by decide)]
      · rw [if_neg c0, e_gR (S := gsZ S (gZ S + 1)) M.1, e_bs, sZ_R, md_r M 9 7, e_I (S := gsZ S (gZ S + 1)) (md_k M 7 10 2) (md_n M 7 10 2) hl, e_bs, sZ_I, show gI S (z + 45 + 7) l = nI N from a2, if_neg (ng_lt cv c0), m_th (T := gsZ S (gZ S + 1)) M.1, if_neg (by decide)]
    · obtain ⟨hk, hb, r, r1, rw0⟩ := er i hi
      obtain ⟨k, k120, kk, -⟩ := a3.2 i hi
      have hkf : kf_ S z l i = k := by
        unfold kf_
        rw [show gI S (z + 51) (200 * l + i) = nI k from kk, nI_clamp (by omega)]
      rw [hkf] at hk hb rw0
      have rw1 := rw0
      obtain ⟨k3, zr, bb, R0, zb, kb3, nb, vb⟩ := rw0
      obtain ⟨S1, e1, f1, p1, q1⟩ := p_bec (n := k) (r := bb) y (by omega) kb3 (by omega) (by omega)
      have rw2 := rw_fr rw1 f1 (fun x hx => by (try unfold lq_ at hx) <;> (try unfold pq_ at hx) <;> (try unfold cq_ at hx) <;> (simp only [List.mem_cons, List.not_mem_nil, or_false, false_or, List.cons_append, List.nil_append] at hx) <;> (try simp only [loA, loB, tpA, ooA, msA, vwA, vwB, lyB, scA]) <;> omega) (by simp)
      obtain ⟨k3', -, bb', R0', -, kb3', nb', -⟩ := rw2
      have ebb : bb' = bb := by
        have : gR S1 r 0 = some bb := by rw [fr_R f1 k3 (by simp)]; exact R0
        rw [R0'] at this
        exact Option.some.inj this
      subst ebb
      have y1 := ly_fr y f1 (by simp)
      rw [p_entryAt_in L a1 hN hi, e_bi, r1, e_nl, e_gR y.1.1, e_bs, y.1.2.2.1, e_gR k3, e_bs, R0, e_bs, e_N (by omega), e_bs, nb, e_dc y.2.2.1.1, e1, e_bs, e_gR k3', e_bs, R0', e_N (by omega), e_bs, nb', e_bxr, aL_o y1, e_bs]
      have F1 : fr_S [z + 3, z + 4, z + 65] [] S (gsL S1 (z + 65) 0 (nI k).toInt64) := fr_tr (fr_mo f1 (fun x hx => by (try unfold lq_ at hx) <;> (try unfold pq_ at hx) <;> (try unfold cq_ at hx) <;> (try unfold lq_) <;> (try unfold pq_) <;> (try unfold cq_) <;> (simp only [List.mem_cons, List.not_mem_nil, or_false, false_or, List.cons_append, List.nil_append] at hx ⊢) <;> omega) (by simp)) (fr_l (by simp))
      have p1' : gI (gsL S1 (z + 65) 0 (nI k).toInt64) (z + 3) 1 = nI k := p1
      have q1' : ∀ j, gI (gsL S1 (z + 65) 0 (nI k).toInt64) (z + 4) j = if j < k then gI S bb' j else gI S (z + 4) j := q1
      have g1' : gL (gsL S1 (z + 65) 0 (nI k).toInt64) (z + 65) 0 = (nI k).toInt64 := by rw [sL_s, va_up_s]
      generalize gsL S1 (z + 65) 0 (nI k).toInt64 = S1' at *
      have y1' := ly_fr y F1 (by simp)
      have M1 := ly_md y1'
      have t : ∀ o k n, (o, k, n) ∈ md_A → k < 16 → 1 ≤ o → o < 20 → gI S1' (z + 45 + o) = gI S (z + 45 + o) := fun o k n hq hk h1 h2 => fr_I F1 (ly_mk y o k n hq) (by (try unfold lq_) <;> (try unfold pq_) <;> (try unfold cq_) <;> (simp only [List.mem_cons, List.not_mem_nil, or_false, false_or, not_false_eq_true, List.cons_append, List.nil_append]) <;> omega) hk
      have L3 : md_L (gsI (gsI S1' (z + 45) 0 0) (z + 45) 4 (nI k)) (z + 45) := M1
      obtain ⟨fu', hf⟩ := g_fu k
      have e3 := cp_entry (m := z + 45) (c := 200 * l + i) (n := k) (f := ef_ S z l i) (g := gI S (z + 47)) ⟨k120, by omega⟩ fu' k 0 (by omega) (gsI (gsI S1' (z + 45) 0 0) (z + 45) 4 (nI k)) L3 (by rw [sI_s, va_up_s]) (fun j => by
        rw [sI_n (by omega), sI_n (by omega), t 2 10 2400 (by decide) (by decide) (by decide) (by decide)]
        unfold ou_; rw [if_neg (by omega)]) (fun q hq => by rw [sI_n (by omega), sI_n (by omega), t 5 10 48000 (by decide) (by decide) (by decide) (by decide)]; rfl)
      refine ⟨0, S1', nI k, gsA (gsI (gsI S1' (z + 45) 0 0) (z + 45) 4 (nI k)) (z + 45 + 2) (ou_ (gI S (z + 47)) 0 k (ef_ S z l i)), rfl, M1.1, ?_, ?_, fun _ => g1', ?_⟩
      · show f_X8_entry _ _ _ _ = _
        unfold f_X8_entry f_X8_entry_B31
        rw [isl_in hl, e_bi, if_neg (by decide), if_neg (nI_pos (by omega)), e_gR M1.1, e_bs, md_r M1 9 7, e_I (md_k M1 7 10 2) (md_n M1 7 10 2) hl, e_bs, t 7 10 2 (by decide) (by decide) (by decide) (by decide), show gI S (z + 45 + 7) l = nI N from a2, if_pos (nI_lt hi (by omega)), m_th M1.1, if_pos (by decide), show (200 : Int32) = nI 200 from rfl, pk_mul, nI_add, e_let, e_gR (S := gsI S1' (z + 45) 0 0) M1.1, e_bs, sI_R, md_r M1 8 6, e_I (S := gsI S1' (z + 45) 0 0) (md_k M1 6 10 400) (md_n M1 6 10 400) (by omega), e_bs, sI_n (by omega), t 6 10 400 (by decide) (by decide) (by decide) (by decide), show gI S (z + 45 + 6) (200 * l + i) = nI k from kk, e_pI (S := gsI S1' (z + 45) 0 0) M1.1, e_bs, hf, show k + fu' + 1 = fu' + k + 1 by omega]
        refine Eq.trans e3 ?_
        have LE : md_L (gsA (gsI (gsI S1' (z + 45) 0 0) (z + 45) 4 (nI k)) (z + 45 + 2) (ou_ (gI S (z + 47)) 0 k (ef_ S z l i))) (z + 45) := M1
        have gE : gI (gsA (gsI (gsI S1' (z + 45) 0 0) (z + 45) 4 (nI k)) (z + 45 + 2) (ou_ (gI S (z + 47)) 0 k (ef_ S z l i))) (z + 45) 4 = nI k := by rw [sA_n (by omega), sI_s, va_up_s]
        rw [f_X8_entry_L64, e_gI LE.1, e_bs, gE, if_pos (nI_le (Nat.le_refl _) (by omega)), e_bs]
      · rw [sA_n (by omega), sI_s, va_up_n _ _ _ (by decide), m0_s]
      · have F2 : fr_S [z + 45, z + 47] [] S1' (gsA (gsI (gsI S1' (z + 45) 0 0) (z + 45) 4 (nI k)) (z + 45 + 2) (ou_ (gI S (z + 47)) 0 k (ef_ S z l i))) := fr_tr (fr_tr (fr_i (by simp)) (fr_i (by simp))) (fr_A (by simp))
        refine in_out (n := k) (V := ef_ S z l i) h (by omega) F1 (fun x hx => by simp only [List.mem_cons, List.not_mem_nil, or_false] at hx; unfold o1A scA; omega) p1' (fun j => ?_) F2 (fun x hx => by simp only [List.mem_cons, List.not_mem_nil, or_false] at hx; unfold o2A scA; omega) ?_ (fun j => ?_) hb (tp_12 h F1 (fun x hx => by simp only [List.mem_cons, List.not_mem_nil, or_false] at hx; unfold o1A scA; omega) (by (try unfold lq_) <;> (try unfold pq_) <;> (try unfold cq_) <;> (simp only [List.mem_cons, List.not_mem_nil, or_false, false_or, not_false_eq_true, List.cons_append, List.nil_append]) <;> omega) F2 (fun x hx => by simp only [List.mem_cons, List.not_mem_nil, or_false] at hx; unfold o2A scA; omega) ?_) ?_
        · rw [q1' j]
          by_cases q : j < k
          · rw [if_pos q, if_pos q]; exact vb j q
          · rw [if_neg q, if_neg q]
        · rw [sA_n (by omega), sI_s, va_up_s]
        · show gI _ (z + 45 + 2) j = _
          rw [sA_s]
          unfold ou_
          rw [show gI S1' (z + 47) = gI S (z + 47) from t 2 10 2400 (by decide) (by decide) (by decide) (by decide)]
          by_cases q : j < k
          · rw [if_pos (by omega), if_pos q, Nat.sub_zero]
          · rw [if_neg (by omega), if_neg q]
        · rw [sA_n (by omega), sI_s, va_up_n _ _ _ (by decide), sI_s, va_up_n _ _ _ (by decide)]
        · rw [sA_n (by omega), sI_s, va_up_n _ _ _ (by decide), sI_s, va_up_n _ _ _ (by decide), fr_I F1 M.1 (by (try unfold lq_) <;> (try unfold pq_) <;> (try unfold cq_) <;> (simp only [List.mem_cons, List.not_mem_nil, or_false, false_or, not_false_eq_true, List.cons_append, List.nil_append]) <;> omega)]; exact h.2.2.2.1.1
theorem m_os {m : Nat} {W : Nat → Int32} {S S1 : gS} (hL : mh_ S m) (h1 : mg_S m S S1) (hW : sl_at S1 m 0 W) : ∃ S2 S', fpI S1 8 4 (some m) 0 = some S2 ∧ gK S2 m = 8 ∧ f_X8_outSlot S2 m (nI 0) = some S' ∧ mw_S m S S' ∧ gI S' m 4 = nI 32 ∧ ∀ j, gI S' (m + 2) j = if j < 32 then d_by W j else gI S (m + 2) j := by
  have L1 := mg_h h1 hL
  have L2 : md_L (gsI S1 m 4 0) m := L1.1
  have e := p8_outSlot (S := gsI S1 m 4 0) (s := 0) (o := 0) (W := W) L2 (by decide) (by decide) (by rw [sI_s, va_up_s]; rfl) (fun q hq => by rw [sI_n (by omega)]; exact hW q hq)
  refine ⟨gsI S1 m 4 0, _, e_pI L1.1.1, L1.1.1, e, ⟨fr_tr (fr_mo h1.1 (fun x hx => by (try unfold lq_ at hx) <;> (try unfold pq_ at hx) <;> (try unfold cq_ at hx) <;> (try unfold lq_) <;> (try unfold pq_) <;> (try unfold cq_) <;> (simp only [List.mem_cons, List.not_mem_nil, or_false, false_or, List.cons_append, List.nil_append] at hx ⊢) <;> omega) (by simp)) (fr_tr (fr_i (by simp)) (fr_tr (fr_A (by simp)) (fr_i (by simp)))), fun k k1 k2 => ?_, ?_⟩, by rw [sI_s, va_up_s], fun j => ?_⟩
  · rw [sI_s, va_up_n _ _ _ k2, sA_n (by omega), sI_s, va_up_n _ _ _ k2, h1.2.1 k k1]
  · rw [sI_s, va_up_n _ _ _ (by decide), sA_n (by omega), sI_s, va_up_n _ _ _ (by decide)]; exact h1.2.2
  · rw [sI_n (by omega), sA_s, sI_n (by omega), mg_o h1 hL 2 10 2400]
    unfold ou_
    by_cases q : j < 32
    · rw [if_pos (by omega), if_pos q, Nat.sub_zero]
    · rw [if_neg (by omega), if_neg q]
theorem in_mh {z : Nat} {S : gS} (h : in_ z S) : mh_ S (z + 45) := ⟨ly_md h.1, ly_wf h.1, h.2.2.2.1.2⟩
/-- OUT was written by both -/
theorem in_out2 {z n : Nat} {A1 : List Nat} {V : Nat → Int32} {S S1 S2 : gS} (h : in_ z S) (hn : n ≤ 288) (F1 : fr_S A1 [] S S1) (hA1 : ∀ x ∈ A1, o1A z x) (hz1 : z + 1 ∉ A1) (c1 : gI S1 (z + 3) 1 = nI n) (b1 : ∀ j, gI S1 (z + 4) j = if j < n then sb_ (V j) else gI S (z + 4) j) {A2 : List Nat} (F2 : fr_S A2 [] S1 S2) (hA2 : ∀ x ∈ A2, o2A z x) (k2 : ∀ k, k = 2 ∨ k = 17 → gI S2 (z + 45) k = gI S1 (z + 45) k) (c2 : gI S2 (z + 45) 4 = nI n) (b2 : ∀ j, gI S2 (z + 45 + 2) j = if j < n then V j else gI S1 (z + 45 + 2) j) (hV : ∀ j, j < n → bt_ (V j)) : in_ z S2 := by
  refine in_out h hn F1 hA1 c1 b1 F2 hA2 c2 b2 hV (tp_12 h F1 hA1 hz1 F2 hA2 (k2 2 (Or.inl rfl))) ?_
  rw [k2 17 (Or.inr rfl), fr_I F1 (ly_md h.1).1 (fun q => by have := hA1 _ q; unfold o1A scA at this; omega)]
  exact h.2.2.2.1.1
theorem ub_leaf {z : Nat} {S : gS} {a v : Int32} (h : in_ z S) : Tb z (f_L_leaf S (some z) a v (some (z + 65))) (fun T => f_X8_leaf T (z + 45) a v) := by
  have y := h.1
  have M := ly_md y
  unfold f_L_leaf f_X7_leaf
  rw [e_dc y.1.1, e_dc y.1.1]
  rcases lg_cs a with ca | ⟨l, hl, rfl⟩
  · rw [lof_bad ca, e_bxl, e_bxl, if_pos rfl]
    refine ⟨1, gsZ S (gZ S + 1), 0, gsI (gsZ S (gZ S + 1)) (z + 45) 0 1, rfl, M.1, ?_, m0_s, fun q => absurd q (by decide), in_m0 (in_zz h)⟩
    show f_X8_leaf _ _ _ _ = _
    unfold f_X8_leaf f_X8_leaf_B31
    rw [isl_bad ca, e_bi, if_pos rfl, m_th (T := gsZ S (gZ S + 1)) M.1, if_neg (by decide)]
  · rw [lof_in y hl, e_bxr]
    obtain ⟨N, TS, H, kn, ⟨a1, a2, a3⟩, ⟨b1, b2, b3⟩, ⟨c1, c2, c3⟩, ⟨d1, d2⟩, kb, er, fu, hd, tm⟩ := h.2.2.2.2.1 l hl
    have hN := a3.1
    have L := ly_lg y hl
    rcases iv_cs v (n := N) (by omega) with cv | ⟨i, hi, rfl⟩
    · have ex : (if v < 0 then some ((Sum.inl "java/util/NoSuchElementException" : String ⊕ Int32), gsZ S (gZ S + 1)) else (fgI S 1 4 (some (z + 6 + 10 * l))).bind fun x12 => if v < x12 then (fgR S 7 1 (some z)).bind fun x17 => gDc S 1 (some (z + 6 + 10 * l)) fun a19 => gBi (f_X1_leafAt S a19 v) fun x23 S21 => gDc S21 5 x17 fun a24 => (f_X5_become S21 a24 x23 32).bind fun S26 => (fgI S26 1 6 (some (z + 6 + 10 * l))).bind fun x28 => if x28 ≤ v then some (.inr 0, S26) else some (.inr 1, S26) else some (.inl "java/util/NoSuchElementException", gsZ S (gZ S + 1))) = some (.inl "java/util/NoSuchElementException", gsZ S (gZ S + 1)) := by
        by_cases c0 : v < 0
        · rw [if_pos c0]
        · rw [if_neg c0, e_gI L.1, e_bs, a1, if_neg (ng_lt cv c0)]
      rw [ex, e_bxl, if_neg (by decide), if_pos rfl]
      refine ⟨2, gsZ S (gZ S + 1), 0, gsI (gsZ S (gZ S + 1)) (z + 45) 0 2, rfl, M.1, ?_, m0_s, fun q => absurd q (by decide), in_m0 (in_zz h)⟩
      show f_X8_leaf _ _ _ _ = _
      unfold f_X8_leaf f_X8_leaf_B26 f_X8_leaf_B31
      rw [isl_in hl, e_bi, if_neg (by decide)]
      by_cases c0 : v < 0
      · rw [if_pos c0, m_th (T := gsZ S (gZ S + 1)) M.1, if_neg (by decide)]
      · rw [if_neg c0, e_gR (S := gsZ S (gZ S + 1)) M.1, e_bs, sZ_R, md_r M 9 7, e_I (S := gsZ S (gZ S + 1)) (md_k M 7 10 2) (md_n M 7 10 2) hl, e_bs, sZ_I, show gI S (z + 45 + 7) l = nI N from a2, if_neg (ng_lt cv c0), m_th (T := gsZ S (gZ S + 1)) M.1, if_neg (by decide)]
    · obtain ⟨bb, e0, kb3, nb, zb, vb⟩ := p_leafAt L fu hi hN
      obtain ⟨S1, e1, f1, p1, q1⟩ := p_bec (n := 32) (r := bb) y (by decide) kb3 (by omega) (by omega)
      have y1 := ly_fr y f1 (by simp)
      have L1 := ly_lg y1 hl
      have b1' : gI S1 (z + 6 + 10 * l) 6 = nI TS := by rw [fr_I f1 L.1 (by (try unfold lq_) <;> (try unfold pq_) <;> (try unfold cq_) <;> (simp only [List.mem_cons, List.not_mem_nil, or_false, false_or, not_false_eq_true, List.cons_append, List.nil_append]) <;> omega)]; exact b1
      rw [if_neg (nI_pos (by omega)), e_gI L.1, e_bs, a1, if_pos (nI_lt hi (by omega)), e_gR y.1.1, e_bs, y.1.2.2.1, e_dc L.1, e0, e_bi, e_dc y.2.2.1.1, show (32 : Int32) = nI 32 from rfl, e1, e_bs, e_gI L1.1, e_bs, b1']
      have go : ∀ (w : Int64) (x : Int32), ((w = 0 ∧ x = 0 ∧ TS ≤ i) ∨ (w = 1 ∧ x = 1 ∧ ¬ TS ≤ i)) → Tb z (some (0, gsL S1 (z + 65) 0 w)) (fun T => f_X8_leaf T (z + 45) (nI l) (nI i)) := by
        intro w x hwx
        have F1 : fr_S [z + 3, z + 4, z + 65] [] S (gsL S1 (z + 65) 0 w) := fr_tr (fr_mo f1 (fun x hx => by (try unfold lq_ at hx) <;> (try unfold pq_ at hx) <;> (try unfold cq_ at hx) <;> (try unfold lq_) <;> (try unfold pq_) <;> (try unfold cq_) <;> (simp only [List.mem_cons, List.not_mem_nil, or_false, false_or, List.cons_append, List.nil_append] at hx ⊢) <;> omega) (by simp)) (fr_l (by simp))
        have p1' : gI (gsL S1 (z + 65) 0 w) (z + 3) 1 = nI 32 := p1
        have q1' : ∀ j, gI (gsL S1 (z + 65) 0 w) (z + 4) j = if j < 32 then gI S bb j else gI S (z + 4) j := q1
        have g1' : gL (gsL S1 (z + 65) 0 w) (z + 65) 0 = w := by rw [sL_s, va_up_s]
        generalize gsL S1 (z + 65) 0 w = S1' at *
        have y1' := ly_fr y F1 (by simp)
        have M1 := ly_md y1'
        have t : ∀ o k n, (o, k, n) ∈ md_A → k < 16 → 1 ≤ o → o < 20 → gI S1' (z + 45 + o) = gI S (z + 45 + o) := fun o k n hq hk h1 h2 => fr_I F1 (ly_mk y o k n hq) (by (try unfold lq_) <;> (try unfold pq_) <;> (try unfold cq_) <;> (simp only [List.mem_cons, List.not_mem_nil, or_false, false_or, not_false_eq_true, List.cons_append, List.nil_append]) <;> omega) hk
        have m1 : gI S1' (z + 45) = gI S (z + 45) := fr_I F1 M.1 (by (try unfold lq_) <;> (try unfold pq_) <;> (try unfold cq_) <;> (simp only [List.mem_cons, List.not_mem_nil, or_false, false_or, not_false_eq_true, List.cons_append, List.nil_append]) <;> omega)
        have H0 : mh_ (gsI S1' (z + 45) 0 0) (z + 45) := ⟨M1, F1.1 (ly_wf y), fun q hq => by rw [sI_n (by omega), t 17 10 64 (by decide) (by decide) (by decide) (by decide)]; exact h.2.2.2.1.2 q hq⟩
        have h17 : gI (gsI S1' (z + 45) 0 0) (z + 45) 17 = nI 0 := by rw [sI_s, va_up_n _ _ _ (by decide), m1]; exact h.2.2.2.1.1
        have g5 : gI (gsI S1' (z + 45) 0 0) (z + 45 + 5) = gI S (z + 45 + 5) := by rw [sI_n (by omega), t 5 10 48000 (by decide) (by decide) (by decide) (by decide)]
        have g6 : gI (gsI S1' (z + 45) 0 0) (z + 45 + 6) = gI S (z + 45 + 6) := by rw [sI_n (by omega), t 6 10 400 (by decide) (by decide) (by decide) (by decide)]
        obtain ⟨S3, e3, s3, i3⟩ := p8_leaf1 (s := 0) H0 h17 hl (by decide) (en_c a3 g5 g6) hi
        obtain ⟨S4, S5, e4, k4, e5, s5, c5, b5⟩ := m_os (W := lf_ S (z + 45) l i) H0 s3 (fun q hq => by rw [i3, sl_in hq, lf_c g5 g6])
        have H5 := mw_h s5 H0
        have F2 : fr_S [z + 45, z + 45 + 2, z + 45 + 14, z + 45 + 15, z + 45 + 16, z + 45 + 18] [] S1' S5 := fr_tr (fr_i (by simp)) s5.1
        have t8 : gI S5 (z + 45 + 8) l = nI TS := by rw [mw_o s5 H0 8 10 2, sI_n (by omega), t 8 10 2 (by decide) (by decide) (by decide) (by decide)]; exact b2
        refine ⟨0, S1', x, S5, rfl, M1.1, ?_, ?_, fun _ => ?_, ?_⟩
        · show f_X8_leaf _ _ _ _ = _
          unfold f_X8_leaf f_X8_leaf_B31
          rw [isl_in hl, e_bi, if_neg (by decide), if_neg (nI_pos (by omega)), e_gR M1.1, e_bs, md_r M1 9 7, e_I (md_k M1 7 10 2) (md_n M1 7 10 2) hl, e_bs, t 7 10 2 (by decide) (by decide) (by decide) (by decide), show gI S (z + 45 + 7) l = nI N from a2, if_pos (nI_lt hi (by omega)), m_th M1.1, if_pos (by decide), e_dc (S := gsI S1' (z + 45) 0 0) M1.1, show f_X8_leafOf (gsI S1' (z + 45) 0 0) (z + 45) (nI l) (nI i) 0 = some S3 from e3, e_bs, e4, e_bs, e_dc k4, show (0 : Int32) = nI 0 from rfl, e5, e_bs, e_gR H5.1.1, e_bs, md_r H5.1 10 8, e_I (md_k H5.1 8 10 2) (md_n H5.1 8 10 2) hl, e_bs, t8]
          rcases hwx with ⟨-, rfl, c⟩ | ⟨-, rfl, c⟩
          · rw [if_pos (nI_le c (by omega))]; rfl
          · rw [if_neg (nI_ge (by omega) (by omega))]
        · rw [s5.2.1 0 (by decide) (by decide), m0_s]
        · rw [fr_L F2 y1'.2.2.2.2.2.2.2.2.2.1.1 (by (try unfold lq_) <;> (try unfold pq_) <;> (try unfold cq_) <;> (simp only [List.mem_cons, List.not_mem_nil, or_false, false_or, not_false_eq_true, List.cons_append, List.nil_append]) <;> omega), g1']
          rcases hwx with ⟨rfl, rfl, -⟩ | ⟨rfl, rfl, -⟩
          · exact Or.inl ⟨rfl, rfl⟩
          · exact Or.inr ⟨rfl, rfl⟩
        · refine in_out2 (n := 32) (V := d_by (lf_ S (z + 45) l i)) h (by decide) F1 (fun x hx => by simp only [List.mem_cons, List.not_mem_nil, or_false] at hx; unfold o1A scA; omega) (by (try unfold lq_) <;> (try unfold pq_) <;> (try unfold cq_) <;> (simp only [List.mem_cons, List.not_mem_nil, or_false, false_or, not_false_eq_true, List.cons_append, List.nil_append]) <;> omega) p1' (fun j => ?_) F2 (fun x hx => by simp only [List.mem_cons, List.not_mem_nil, or_false] at hx; unfold o2A scA; omega) (fun k hk => ?_) c5 (fun j => ?_) (fun j _ => bt_dby _ _)
          · rw [q1' j]
            by_cases q : j < 32
            · rw [if_pos q, if_pos q]; have := vb j q; rw [Nat.zero_add] at this; exact this
            · rw [if_neg q, if_neg q]
          · rcases hk with rfl | rfl
            · rw [s5.2.1 2 (by decide) (by decide), sI_s, va_up_n _ _ _ (by decide)]
            · rw [s5.2.2, m1]; exact h.2.2.2.1.1.symm
          · rw [b5 j, sI_n (by omega)]
      by_cases c : TS ≤ i
      · rw [if_pos (nI_le c (by omega)), e_bxr, if_pos rfl, aL_o y1, e_bs]
        exact go 0 0 (Or.inl ⟨rfl, rfl, c⟩)
      · rw [if_neg (nI_ge (by omega) (by omega)), e_bxr, if_neg (by decide), aL_o y1, e_bs]
        exact go 1 1 (Or.inr ⟨rfl, rfl, c⟩)
