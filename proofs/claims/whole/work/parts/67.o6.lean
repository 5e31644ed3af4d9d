/-! proof -/
theorem uq_proof {z : Nat} {S : gS} {a u v : Int32} (h : in_ z S) : Tq z (f_L_proof S (some z) a u v (some (z + 65))) (fun T => f_X8_proof 400 (fun c => 2 ^ (8 - c)) T (z + 45) a u v) := by
  have y := h.1
  have M := ly_md y
  unfold f_L_proof f_X7_proof
  rw [e_dc y.1.1, e_dc y.1.1]
  rcases lg_cs a with ca | ⟨l, hl, rfl⟩
  · rw [lof_bad ca, e_bxl, e_bxl, if_pos rfl]
    refine ⟨1, gsZ S (gZ S + 1), 0, gsI (gsZ S (gZ S + 1)) (z + 45) 0 1, rfl, M.1, ?_, m0_s, fun q => absurd q (by decide), in_m0 (in_zz h)⟩
    show f_X8_proof _ _ _ _ _ _ _ = _
    unfold f_X8_proof f_X8_proof_B36
    rw [isl_bad ca, e_bi, if_pos rfl, e_gd (by decide), m_th (T := gsZ S (gZ S + 1)) M.1, if_neg (by decide)]
  · rw [lof_in y hl, e_bxr]
    obtain ⟨N, TS, H, kn, ⟨a1, a2, a3⟩, ⟨b1, b2, b3⟩, ⟨c1, c2, c3⟩, ⟨d1, d2⟩, kb, er, fu, hd, tm⟩ := h.2.2.2.2.1 l hl
    have hN := a3.1
    have L := ly_lg y hl
    by_cases good : ¬ u ≤ 0 ∧ ¬ v < u ∧ v ≤ nI TS
    · obtain ⟨g0, g1, g2⟩ := good
      have gu : ¬ u < 0 := fun q => g0 (Int32.le_of_lt q)
      obtain ⟨q, hq31, rfl⟩ := nI_of gu
      have hq0 : 0 < q := by
        by_cases c : q = 0
        · subst c; exact absurd (by decide) g0
        · omega
      have gv : ¬ v < 0 := fun c => g1 (Int32.lt_of_lt_of_le c (Int32.not_lt.mp gu))
      obtain ⟨n, hn31, rfl⟩ := nI_of gv
      have hqn : q ≤ n := by
        rw [nI_ltI hn31 hq31] at g1; omega
      have hnTS : n ≤ TS := (nI_leI hn31 (by omega)).mp g2
      obtain ⟨T, S1, e1, f1, hT0, hT2, i1⟩ := p_goToSize (p := z + 35) (m := q) (n := n) y.2.2.2.2.2.2.1 (by omega) hq0 hqn
      have hT := (ds_s hq0 hqn T hT0).2.2
      have y1 := ly_fr y f1 (by simp)
      have L1 := ly_lg y1 hl
      have b3' := (ds_b (c := cs_ q) (e := 8) (by omega) (by omega) T hT).2.2.1
      have fu1 := fu_fr fu L f1 (fun x hx => by unfold pq_ at hx; simp only [List.mem_cons, List.not_mem_nil, or_false] at hx; omega) (by simp) (by simp)
      have hev := ev_01 (cs_ q) n T
      generalize hee : ev_ (cs_ q) n T = e at *
      obtain ⟨S2, e2, f2, p2, q2⟩ := p_wd (e := e) (T := T) (c := cs_ q) (n := n) (N := N) (l := l) (z := z) hl (by omega) (by omega) hN hT (by omega) L1 y1.2.2.1 y1.2.2.2.2.2.2.1 fu1 i1
      have y2 := ly_fr y1 f2 (by simp)
      rw [if_neg g0, if_neg g1, e_gI L.1, e_bs, b1, if_pos g2, e_gR y.1.1, e_bs, y.1.2.2.2.2.2.1, e_dc y.2.2.2.2.2.2.1.1.1, nI_l hq31, nI_l hn31, e1, e_bs, e_gR y1.1.1, e_bs, y1.1.2.2.2.2.2.1, e_gR y1.1.1, e_bs, y1.1.2.2.1, e_dc L1.1, e2, e_bi, e_bxr, aL_o y2, e_bs]
      have F1 : fr_S ([z + 3, z + 4, z + 65] ++ (pq_ (z + 35) ++ lq_ (z + 6 + 10 * l))) [] S (gsL S2 (z + 65) 0 (nI (T + e)).toInt64) := fr_tr (fr_mo f1 (fun _ q => List.mem_append_right _ (List.mem_append_left _ q)) (by simp)) (fr_tr (fr_mo f2 (fun x hx => by simp only [List.mem_cons, List.mem_append] at hx ⊢; rcases hx with q | q | q <;> simp [q]) (by simp)) (fr_l (by simp)))
      have p2' : gI (gsL S2 (z + 65) 0 (nI (T + e)).toInt64) (z + 3) 1 = nI (32 * (T + e)) := p2
      have q2' : ∀ j, gI (gsL S2 (z + 65) 0 (nI (T + e)).toInt64) (z + 4) j = if j < 32 * (T + e) then sb_ (d_by (wd_ (lf_ S (z + 45) l) (cs_ q) n T e (j / 32)) (j % 32)) else gI S (z + 4) j := fun j => by
        have := q2 j
        rw [fr_I f1 y.2.2.1.2.2.1 (by (try unfold lq_) <;> (try unfold pq_) <;> (try unfold cq_) <;> (simp only [List.mem_cons, List.not_mem_nil, or_false, false_or, not_false_eq_true, List.cons_append, List.nil_append]) <;> omega)] at this
        exact this
      have g1' : gL (gsL S2 (z + 65) 0 (nI (T + e)).toInt64) (z + 65) 0 = (nI (T + e)).toInt64 := by rw [sL_s, va_up_s]
      generalize gsL S2 (z + 65) 0 (nI (T + e)).toInt64 = S3 at *
      have nA : ∀ o, o < 20 → z + 45 + o ∉ [z + 3, z + 4, z + 65] ++ (pq_ (z + 35) ++ lq_ (z + 6 + 10 * l)) := fun o ho q => by
        unfold lq_ pq_ at q
        simp only [List.mem_cons, List.not_mem_nil, or_false, List.mem_append] at q
        omega
      have y3 := ly_fr y F1 (by simp)
      have M3 := ly_md y3
      have t : ∀ o k n, (o, k, n) ∈ md_A → k < 16 → o < 20 → gI S3 (z + 45 + o) = gI S (z + 45 + o) := fun o k n hq hk h2 => fr_I F1 (ly_mk y o k n hq) (nA o h2) hk
      have m3 : gI S3 (z + 45) = gI S (z + 45) := fr_I F1 M.1 (nA 0 (by decide))
      have L4 : md_L (gsI S3 (z + 45) 0 0) (z + 45) := M3
      obtain ⟨T', S5, e5, f5, k5, hT', hT2', s5, h24⟩ := p8_stepsOf (S := gsI S3 (z + 45) 0 0) (m := z + 45) (q := q) (n := n) L4 (by omega) hq0 hqn
      have hTT : T' = T := T_v hT' hT2' hT0 hT2
      subst hTT
      rw [hee] at h24
      have F5 : fr_S [z + 45, z + 45 + 19] [] S3 S5 := fr_tr (fr_i (by simp)) f5
      have o5 : ∀ o k n, (o, k, n) ∈ md_A → k < 16 → o < 19 → 1 ≤ o → gI S5 (z + 45 + o) = gI S (z + 45 + o) := fun o k n hq hk h2 h1 => by rw [fr_I F5 (ly_mk y3 o k n hq) (by (try unfold lq_) <;> (try unfold pq_) <;> (try unfold cq_) <;> (simp only [List.mem_cons, List.not_mem_nil, or_false, false_or, not_false_eq_true, List.cons_append, List.nil_append]) <;> omega) hk]; exact t o k n hq hk (by omega)
      have L5 := md_fr M3 F5 (by simp)
      have H5 : mh_ (gsI S5 (z + 45) 4 (nI 0)) (z + 45) := ⟨L5, F5.1 (F1.1 (ly_wf y)), fun q hq => by rw [sI_n (by omega), o5 17 10 64 (by decide) (by decide) (by decide) (by decide)]; exact h.2.2.2.1.2 q hq⟩
      have g5 : gI (gsI S5 (z + 45) 4 (nI 0)) (z + 45 + 5) = gI S (z + 45 + 5) := by rw [sI_n (by omega), o5 5 10 48000 (by decide) (by decide) (by decide) (by decide)]
      have g6 : gI (gsI S5 (z + 45) 4 (nI 0)) (z + 45 + 6) = gI S (z + 45 + 6) := by rw [sI_n (by omega), o5 6 10 400 (by decide) (by decide) (by decide) (by decide)]
      have x17 : gI (gsI S5 (z + 45) 4 (nI 0)) (z + 45) 17 = nI 0 := by rw [sI_s, va_up_n _ _ _ (by decide), k5 17 (by decide) (by decide), sI_s, va_up_n _ _ _ (by decide), m3]; exact h.2.2.2.1.1
      have sm5 : sm_I (gsI S5 (z + 45) 4 (nI 0)) (z + 45) (cs_ q) n T' := sm_o s5 (by rw [sI_s, va_up_n _ _ _ (by decide)]) (by rw [sI_n (by omega)])
      have x4 : gI (gsI S5 (z + 45) 4 (nI 0)) (z + 45) 4 = nI 0 := by rw [sI_s, va_up_s]
      have x24 : gI (gsI S5 (z + 45) 4 (nI 0)) (z + 45) 24 = nI (1 - e) := by rw [sI_s, va_up_n _ _ _ (by decide)]; exact h24
      have xk : ∀ k, k ≠ 4 → k ≠ 23 → k ≠ 24 → gI (gsI S5 (z + 45) 4 (nI 0)) (z + 45) k = gI (gsI S3 (z + 45) 0 0) (z + 45) k := fun k h4 h23 h24' => by rw [sI_s, va_up_n _ _ _ h4, k5 k h23 h24']
      have x2 : gI (gsI S5 (z + 45) 4 (nI 0)) (z + 45 + 2) = gI S (z + 47) := by rw [sI_n (by omega), o5 2 10 2400 (by decide) (by decide) (by decide) (by decide)]
      have F56 : fr_S [z + 45, z + 45 + 2, z + 45 + 14, z + 45 + 15, z + 45 + 16, z + 45 + 18, z + 45 + 19] [] S3 (gsI S5 (z + 45) 4 (nI 0)) := fr_tr (fr_mo F5 (fun x hx => by (try unfold lq_ at hx) <;> (try unfold pq_ at hx) <;> (try unfold cq_ at hx) <;> (try unfold lq_) <;> (try unfold pq_) <;> (try unfold cq_) <;> (simp only [List.mem_cons, List.not_mem_nil, or_false, false_or, List.cons_append, List.nil_append] at hx ⊢) <;> omega) (by simp)) (fr_i (by simp))
      have L6 : md_L (gsI S5 (z + 45) 4 (nI 0)) (z + 45) := L5
      have q6 : fpI S5 8 4 (some (z + 45)) 0 = some (gsI S5 (z + 45) 4 (nI 0)) := e_pI L5.1
      generalize gsI S5 (z + 45) 4 (nI 0) = S6 at *
      obtain ⟨fu', hf⟩ := g_fu T'
      have hp9 := Nat.two_pow_pos (9 - T')
      have main : ∃ S7, (if nI (1 - e) = 0 then gDc S6 8 (some (z + 45)) fun a49 => gGd (0 + 400 ≤ 1000 ∧ 0 + (8 * 400) ≤ 8000) <| (f_X8_inner 400 S6 a49 (nI l) (nI n)).bind fun S53 => gDc S53 8 (some (z + 45)) fun a55 => (f_X8_outSlot S53 a55 0).bind fun S57 => f_X8_proof_B79 400 (fun c => 2 ^ (8 - c)) S57 (0 + 400) (0 + (8 * 400)) (z + 45) (nI l) (nI n) else f_X8_proof_B79 400 (fun c => 2 ^ (8 - c)) S6 0 0 (z + 45) (nI l) (nI n)) = some (nI (T' + e), S7) ∧ mw_S (z + 45) S6 S7 ∧ gI S7 (z + 45) 4 = nI (32 * (T' + e)) ∧ ∀ j, gI S7 (z + 45 + 2) j = if j < 32 * (T' + e) then d_by (wd_ (lf_ S (z + 45) l) (cs_ q) n T' e (j / 32)) (j % 32) else gI S (z + 47) j := by
        rcases hev with z0 | z0
        · subst z0
          obtain ⟨S7, e7, r7⟩ := p8_proofL (gi := 400) (lf := lf_ S (z + 45) l) (g := gI S (z + 47)) (m := z + 45) (c := cs_ q) (T := T') (e := 0) hl (by omega) (show n ≤ N by omega) hT b3' (by decide) fu' T' (Nat.le_refl _) S6 0 H5 x17 (en_c a3 g5 g6) (lf_c g5 g6) sm5 (by omega) (by rw [x4]; congr 1; omega) (fun j => by rw [if_neg (by omega), x2])
          refine ⟨S7, ?_, r7⟩
          rw [if_neg (by decide)]
          unfold f_X8_proof_B79
          rw [e_gd (by decide), e_gI L6.1, e_bs, sm5.1, e_let, hf, show T' + fu' + 1 = fu' + T' + 1 by omega]
          exact e7
        · subst z0
          obtain ⟨S7, e7, s7, i7⟩ := p8_inner (m := z + 45) (c := cs_ q) (T := T') (n := n) (N := N) hl (by omega) (by omega) hT (by omega) H5 x17 (en_c a3 g5 g6) sm5
          rw [lf_c g5 g6] at i7
          obtain ⟨S8, e8, s8, c8, b8⟩ := mw_1 (o := 0) H5 s7 i7 x4 (by decide)
          have H7 := mg_h s7 H5
          have H8 := mw_h s8 H5
          have g5' := mw_o s8 H5 5 10 48000
          have g6' := mw_o s8 H5 6 10 400
          have sm8 : sm_I S8 (z + 45) (cs_ q) n T' := sm_o sm5 (s8.2.1 23 (by decide) (by decide)) (mw_o s8 H5 19 10 70)
          obtain ⟨S9, e9, s9, r9⟩ := p8_proofL (gi := 400) (lf := lf_ S (z + 45) l) (g := gI S (z + 47)) (m := z + 45) (c := cs_ q) (T := T') (e := 1) hl (by omega) (show n ≤ N by omega) hT b3' (by decide) fu' T' (Nat.le_refl _) S8 400 H8 s8.2.2 (en_c (en_c a3 g5 g6) g5' g6') (by rw [lf_c g5' g6', lf_c g5 g6]) sm8 (by omega) (by rw [c8]; congr 1; omega) (fun j => by
            rw [b8 j, x2]
            by_cases q : j < 32
            · rw [if_pos (by omega), if_pos (by omega)]
              unfold wd_
              rw [if_pos (by omega), show j - 0 = j % 32 by omega]
            · rw [if_neg (by omega), if_neg (by omega)])
          refine ⟨S9, ?_, mw_tr s8 s9, r9⟩
          rw [if_pos (by decide), e_dc L6.1, e_gd (by decide), e7, e_bs, e_dc H7.1.1, show (0 : Int32) = nI 0 from rfl, e8, e_bs]
          unfold f_X8_proof_B79
          rw [e_gd (by decide), e_gI H8.1.1, e_bs, sm8.1, e_let, hf, show T' + fu' + 1 = fu' + T' + 1 by omega]
          exact e9
      obtain ⟨S7, e7, s7, p7, q7⟩ := main
      have F2 : fr_S [z + 45, z + 45 + 2, z + 45 + 14, z + 45 + 15, z + 45 + 16, z + 45 + 18, z + 45 + 19] [] S3 S7 := fr_tr F56 (fr_mo s7.1 (fun x hx => by (try unfold lq_ at hx) <;> (try unfold pq_ at hx) <;> (try unfold cq_ at hx) <;> (try unfold lq_) <;> (try unfold pq_) <;> (try unfold cq_) <;> (simp only [List.mem_cons, List.not_mem_nil, or_false, false_or, List.cons_append, List.nil_append] at hx ⊢) <;> omega) (by simp))
      refine ⟨0, S3, nI (T' + e), S7, rfl, M3.1, ?_, ?_, fun _ => ?_, wd_fin (T := T') (e := e) (c := cs_ q) (n := n) (lf := lf_ S (z + 45) l) h (by omega) hl F1 p2' q2' F2 (fun k hk => ?_) p7 (fun j => ?_)⟩
      · show f_X8_proof _ _ _ _ _ _ _ = _
        unfold f_X8_proof f_X8_proof_B36
        rw [isl_in hl, e_bi, if_neg (by decide), if_neg g0, if_neg g1, e_gR M3.1, e_bs, md_r M3 10 8, e_I (md_k M3 8 10 2) (md_n M3 8 10 2) hl, e_bs, t 8 10 2 (by decide) (by decide) (by decide), show gI S (z + 45 + 8) l = nI TS from b2, if_pos g2, e_gd (by decide), m_th M3.1, if_pos (by decide), e_dc (S := gsI S3 (z + 45) 0 0) M3.1, nI_l hq31, nI_l hn31, e5, e_bs, q6, e_bs, e_gI L6.1, e_bs, x24]
        exact e7
      · rw [s7.2.1 0 (by decide) (by decide), xk 0 (by decide) (by decide) (by decide), m0_s]
      · rw [fr_L F2 y3.2.2.2.2.2.2.2.2.2.1.1 (by (try unfold lq_) <;> (try unfold pq_) <;> (try unfold cq_) <;> (simp only [List.mem_cons, List.not_mem_nil, or_false, false_or, not_false_eq_true, List.cons_append, List.nil_append]) <;> omega), g1']
      · rcases hk with rfl | rfl
        · rw [s7.2.1 2 (by decide) (by decide), xk 2 (by decide) (by decide) (by decide), sI_s, va_up_n _ _ _ (by decide)]
        · rw [s7.2.2, m3]; exact h.2.2.2.1.1.symm
      · rw [q7 j, t 2 10 2400 (by decide) (by decide) (by decide)]
    · have ex : (if u ≤ 0 then some ((Sum.inl "java/util/NoSuchElementException" : String ⊕ Int32), gsZ S (gZ S + 1)) else if v < u then some (.inl "java/util/NoSuchElementException", gsZ S (gZ S + 1)) else (fgI S 1 6 (some (z + 6 + 10 * l))).bind fun x15 => if v ≤ x15 then (fgR S 7 4 (some z)).bind fun x20 => gDc S 2 x20 fun a22 => (f_X2_goToSize S a22 u.toInt64 v.toInt64).bind fun S24 => (fgR S24 7 4 (some z)).bind fun x26 => (fgR S24 7 1 (some z)).bind fun x28 => gDc S24 1 (some (z + 6 + 10 * l)) fun a30 => gBi (f_X1_writeDigests S24 a30 x26 x28) fun x34 S32 => some (.inr x34, S32) else some (.inl "java/util/NoSuchElementException", gsZ S (gZ S + 1))) = some (.inl "java/util/NoSuchElementException", gsZ S (gZ S + 1)) := by
        by_cases c0 : u ≤ 0
        · rw [if_pos c0]
        · rw [if_neg c0]
          by_cases c1 : v < u
          · rw [if_pos c1]
          · rw [if_neg c1, e_gI L.1, e_bs, b1, if_neg (fun q => good ⟨c0, c1, q⟩)]
      rw [ex, e_bxl, if_neg (by decide), if_pos rfl]
      refine ⟨2, gsZ S (gZ S + 1), 0, gsI (gsZ S (gZ S + 1)) (z + 45) 0 2, rfl, M.1, ?_, m0_s, fun q => absurd q (by decide), in_m0 (in_zz h)⟩
      show f_X8_proof _ _ _ _ _ _ _ = _
      unfold f_X8_proof f_X8_proof_B31 f_X8_proof_B36
      rw [isl_in hl, e_bi, if_neg (by decide)]
      by_cases c0 : u ≤ 0
      · rw [if_pos c0, e_gd (by decide), e_gd (by decide), m_th (T := gsZ S (gZ S + 1)) M.1, if_neg (by decide)]
      · rw [if_neg c0]
        by_cases c1 : v < u
        · rw [if_pos c1, e_gd (by decide), e_gd (by decide), m_th (T := gsZ S (gZ S + 1)) M.1, if_neg (by decide)]
        · rw [if_neg c1, e_gR (S := gsZ S (gZ S + 1)) M.1, e_bs, sZ_R, md_r M 10 8, e_I (S := gsZ S (gZ S + 1)) (md_k M 8 10 2) (md_n M 8 10 2) hl, e_bs, sZ_I, show gI S (z + 45 + 8) l = nI TS from b2, if_neg (fun q => good ⟨c0, c1, q⟩), e_gd (by decide), e_gd (by decide), m_th (T := gsZ S (gZ S + 1)) M.1, if_neg (by decide)]
