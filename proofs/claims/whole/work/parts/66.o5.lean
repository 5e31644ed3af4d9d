/-! root, way, proof -/
theorem ub_root {z : Nat} {S : gS} {a v : Int32} (h : in_ z S) : Tb z (f_L_root S (some z) a v (some (z + 65))) (fun T => f_X8_root_ T (z + 45) a v) := by
  have y := h.1
  have M := ly_md y
  unfold f_L_root f_X7_root
  rw [e_dc y.1.1, e_dc y.1.1]
  rcases lg_cs a with ca | ⟨l, hl, rfl⟩
  · rw [lof_bad ca, e_bxl, e_bxl, if_pos rfl]
    refine ⟨1, gsZ S (gZ S + 1), 0, gsI (gsZ S (gZ S + 1)) (z + 45) 0 1, rfl, M.1, ?_, m0_s, fun q => absurd q (by decide), in_m0 (in_zz h)⟩
    show f_X8_root_ _ _ _ _ = _
    unfold f_X8_root_ f_X8_root__B31
    rw [isl_bad ca, e_bi, if_pos rfl, e_gd (by decide), m_th (T := gsZ S (gZ S + 1)) M.1, if_neg (by decide)]
  · rw [lof_in y hl, e_bxr]
    obtain ⟨N, TS, H, kn, ⟨a1, a2, a3⟩, ⟨b1, b2, b3⟩, ⟨c1, c2, c3⟩, ⟨d1, d2⟩, kb, er, fu, hd, tm⟩ := h.2.2.2.2.1 l hl
    have hN := a3.1
    have L := ly_lg y hl
    rcases iv_cs v (n := TS + 1) (by omega) with cv | ⟨i, hi, rfl⟩
    · have nle : ¬ v < 0 → ¬ v ≤ nI TS := fun c0 q => by
        have q1 := Int32.le_iff_toInt_le.mp q
        have q2 := Int32.le_iff_toInt_le.mp (cv.resolve_left c0)
        rw [nI_toInt (by omega)] at q1 q2
        omega
      have ex : (if v < 0 then some ((Sum.inl "java/util/NoSuchElementException" : String ⊕ Int32), gsZ S (gZ S + 1)) else (fgI S 1 6 (some (z + 6 + 10 * l))).bind fun x12 => if v ≤ x12 then (fgR S 7 1 (some z)).bind fun x17 => gDc S 1 (some (z + 6 + 10 * l)) fun a19 => gBi (f_X1_rootOf S a19 0 v) fun x23 S21 => gDc S21 5 x17 fun a24 => (f_X5_become S21 a24 x23 32).bind fun S26 => some (.inr 1, S26) else some (.inl "java/util/NoSuchElementException", gsZ S (gZ S + 1))) = some (.inl "java/util/NoSuchElementException", gsZ S (gZ S + 1)) := by
        by_cases c0 : v < 0
        · rw [if_pos c0]
        · rw [if_neg c0, e_gI L.1, e_bs, b1, if_neg (nle c0)]
      rw [ex, e_bxl, if_neg (by decide), if_pos rfl]
      refine ⟨2, gsZ S (gZ S + 1), 0, gsI (gsZ S (gZ S + 1)) (z + 45) 0 2, rfl, M.1, ?_, m0_s, fun q => absurd q (by decide), in_m0 (in_zz h)⟩
      show f_X8_root_ _ _ _ _ = _
      unfold f_X8_root_ f_X8_root__B26 f_X8_root__B31
      rw [isl_in hl, e_bi, if_neg (by decide)]
      by_cases c0 : v < 0
      · rw [if_pos c0, e_gd (by decide), e_gd (by decide), m_th (T := gsZ S (gZ S + 1)) M.1, if_neg (by decide)]
      · rw [if_neg c0, e_gR (S := gsZ S (gZ S + 1)) M.1, e_bs, sZ_R, md_r M 10 8, e_I (S := gsZ S (gZ S + 1)) (md_k M 8 10 2) (md_n M 8 10 2) hl, e_bs, sZ_I, show gI S (z + 45 + 8) l = nI TS from b2, if_neg (nle c0), e_gd (by decide), e_gd (by decide), m_th (T := gsZ S (gZ S + 1)) M.1, if_neg (by decide)]
    · obtain ⟨S0, e0, f0, v0⟩ := p_rootOf (zz := z + 66) (a := 0) (n := i) (N := N) (b := z + 6 + 10 * l) (by omega) (by omega) hN (al_0 i) L fu
      rw [Nat.zero_add] at e0
      have y0 := ly_fr y f0 (by simp)
      have L0 := ly_lg y0 hl
      obtain ⟨S1, e1, f1, p1, q1⟩ := p_bec (n := 32) (r := z + 6 + 10 * l + 8) y0 (by decide) (lg_k L0 8 9 32) (by rw [lg_n L0 8 9 32]; decide) (by rw [lg_n L0 8 9 32]; decide)
      have y1 := ly_fr y0 f1 (by simp)
      rw [if_neg (nI_pos (by omega)), e_gI L.1, e_bs, b1, if_pos (nI_le (by omega) (by omega)), e_gR y.1.1, e_bs, y.1.2.2.1, e_dc L.1, show (0 : Int32) = nI 0 from rfl, e0, e_bi, e_dc y0.2.2.1.1, show (32 : Int32) = nI 32 from rfl, e1, e_bs, e_bxr, if_neg (by decide), show (nI 0 : Int32) = 0 from rfl, aL_o y1, e_bs]
      have F1 : fr_S ([z + 3, z + 4, z + 65] ++ lq_ (z + 6 + 10 * l)) [] S (gsL S1 (z + 65) 0 1) := fr_tr (fr_mo f0 (fun _ q => List.mem_append_right _ q) (by simp)) (fr_tr (fr_mo f1 (fun x hx => List.mem_append_left _ (by simp only [List.mem_cons, List.not_mem_nil, or_false] at hx ⊢; omega)) (by simp)) (fr_l (by simp)))
      have hA1 : ∀ x ∈ [z + 3, z + 4, z + 65] ++ lq_ (z + 6 + 10 * l), o1A z x ∧ x ≠ z + 1 := fun x hx => by
        unfold lq_ at hx
        simp only [List.mem_cons, List.not_mem_nil, or_false, List.mem_append] at hx
        unfold o1A scA
        omega
      have p1' : gI (gsL S1 (z + 65) 0 1) (z + 3) 1 = nI 32 := p1
      have q1' : ∀ j, gI (gsL S1 (z + 65) 0 1) (z + 4) j = if j < 32 then gI S0 (z + 6 + 10 * l + 8) j else gI S0 (z + 4) j := q1
      have g1' : gL (gsL S1 (z + 65) 0 1) (z + 65) 0 = 1 := by rw [sL_s, va_up_s]
      generalize gsL S1 (z + 65) 0 1 = S1' at *
      have y1' := ly_fr y F1 (by simp)
      have M1 := ly_md y1'
      have nA : ∀ o, o < 20 → z + 45 + o ∉ [z + 3, z + 4, z + 65] ++ lq_ (z + 6 + 10 * l) := fun o ho q => by
        unfold lq_ at q
        simp only [List.mem_cons, List.not_mem_nil, or_false, List.mem_append] at q
        omega
      have t : ∀ o k n, (o, k, n) ∈ md_A → k < 16 → 1 ≤ o → o < 20 → gI S1' (z + 45 + o) = gI S (z + 45 + o) := fun o k n hq hk h1 h2 => fr_I F1 (ly_mk y o k n hq) (nA o h2) hk
      have m1 : gI S1' (z + 45) = gI S (z + 45) := fr_I F1 M.1 (fun q => by unfold lq_ at q; simp only [List.mem_cons, List.not_mem_nil, or_false, List.mem_append] at q; omega)
      have H0 : mh_ (gsI S1' (z + 45) 0 0) (z + 45) := ⟨M1, F1.1 (ly_wf y), fun q hq => by rw [sI_n (by omega), t 17 10 64 (by decide) (by decide) (by decide) (by decide)]; exact h.2.2.2.1.2 q hq⟩
      have h17 : gI (gsI S1' (z + 45) 0 0) (z + 45) 17 = nI 0 := by rw [sI_s, va_up_n _ _ _ (by decide), m1]; exact h.2.2.2.1.1
      have g5 : gI (gsI S1' (z + 45) 0 0) (z + 45 + 5) = gI S (z + 45 + 5) := by rw [sI_n (by omega), t 5 10 48000 (by decide) (by decide) (by decide) (by decide)]
      have g6 : gI (gsI S1' (z + 45) 0 0) (z + 45 + 6) = gI S (z + 45 + 6) := by rw [sI_n (by omega), t 6 10 400 (by decide) (by decide) (by decide) (by decide)]
      obtain ⟨S3, e3, s3, i3, -⟩ := p8_root hl 9 0 i 0 (gsI S1' (z + 45) 0 0) (by omega) (by decide) (show 0 + i ≤ N by omega) (by decide) H0 h17 (en_c a3 g5 g6)
      rw [lf_c g5 g6] at i3
      obtain ⟨S4, S5, e4, k4, e5, s5, c5, b5⟩ := m_os H0 s3 i3
      have F2 : fr_S [z + 45, z + 45 + 2, z + 45 + 14, z + 45 + 15, z + 45 + 16, z + 45 + 18] [] S1' S5 := fr_tr (fr_i (by simp)) s5.1
      refine ⟨0, S1', 1, S5, rfl, M1.1, ?_, ?_, fun _ => Or.inr ⟨rfl, ?_⟩, ?_⟩
      · show f_X8_root_ _ _ _ _ = _
        unfold f_X8_root_ f_X8_root__B31
        rw [isl_in hl, e_bi, if_neg (by decide), if_neg (nI_pos (by omega)), e_gR M1.1, e_bs, md_r M1 10 8, e_I (md_k M1 8 10 2) (md_n M1 8 10 2) hl, e_bs, t 8 10 2 (by decide) (by decide) (by decide) (by decide), show gI S (z + 45 + 8) l = nI TS from b2, if_pos (nI_le (by omega) (by omega)), e_gd (by decide), m_th M1.1, if_pos (by decide), e_gd (by rw [rb_n (by omega)]; omega), show f_X8_root 10 (gsI S1' (z + 45) 0 0) (some (z + 45)) (nI l) 0 (nI i) 0 = some S3 from e3, e_bs, e4, e_bs, e_dc k4, show (0 : Int32) = nI 0 from rfl, e5, e_bs]
      · rw [s5.2.1 0 (by decide) (by decide), m0_s]
      · rw [fr_L F2 y1'.2.2.2.2.2.2.2.2.2.1.1 (by (try unfold lq_) <;> (try unfold pq_) <;> (try unfold cq_) <;> (simp only [List.mem_cons, List.not_mem_nil, or_false, false_or, not_false_eq_true, List.cons_append, List.nil_append]) <;> omega), g1']
      · refine in_out2 (n := 32) (V := d_by (s_rt (lf_ S (z + 45) l) 0 i)) h (by decide) F1 (fun x hx => (hA1 x hx).1) (fun q => (hA1 _ q).2 rfl) p1' (fun j => ?_) F2 (fun x hx => by simp only [List.mem_cons, List.not_mem_nil, or_false] at hx; unfold o2A scA; omega) (fun k hk => ?_) c5 (fun j => ?_) (fun j _ => bt_dby _ _)
        · rw [q1' j]
          by_cases q : j < 32
          · rw [if_pos q, if_pos q]; have := v0 j q; rw [Nat.zero_add] at this; exact this
          · rw [if_neg q, if_neg q, fr_I f0 y.2.2.1.2.2.1 (lq_n (by omega))]
        · rcases hk with rfl | rfl
          · rw [s5.2.1 2 (by decide) (by decide), sI_s, va_up_n _ _ _ (by decide)]
          · rw [s5.2.2, m1]; exact h.2.2.2.1.1.symm
        · rw [b5 j, sI_n (by omega)]
theorem T_u {c : Nat → Nat → Bool} {n T T' : Nat} (h1 : ∀ t, t < T → 2 ≤ (ds_ c n t).2) (h2 : (ds_ c n T).2 < 2) (h1' : ∀ t, t < T' → 2 ≤ (ds_ c n t).2) (h2' : (ds_ c n T').2 < 2) : T = T' := by
  rcases Nat.lt_trichotomy T T' with q | q | q
  · have := h1' T q; omega
  · exact q
  · have := h1 T' q; omega
theorem T_v {m n T T' : Nat} {c : Nat → Nat → Bool} (h1 : ∀ t, t < T → m < (ds_ c n t).1 + (ds_ c n t).2) (h2 : (ds_ c n T).1 + (ds_ c n T).2 ≤ m) (h1' : ∀ t, t < T' → m < (ds_ c n t).1 + (ds_ c n t).2) (h2' : (ds_ c n T').1 + (ds_ c n T').2 ≤ m) : T = T' := by
  rcases Nat.lt_trichotomy T T' with q | q | q
  · have := h1' T q; omega
  · exact q
  · have := h1 T' q; omega
/-- both have written digests into OUT -/
theorem wd_fin {z l : Nat} {S S1 S2 : gS} {T e : Nat} {c : Nat → Nat → Bool} {n : Nat} {lf : Nat → Nat → Int32} (h : in_ z S) (hTe : T + e ≤ 9) (hl : l < 2) (F1 : fr_S ([z + 3, z + 4, z + 65] ++ (pq_ (z + 35) ++ lq_ (z + 6 + 10 * l))) [] S S1) (p1 : gI S1 (z + 3) 1 = nI (32 * (T + e))) (q1 : ∀ j, gI S1 (z + 4) j = if j < 32 * (T + e) then sb_ (d_by (wd_ lf c n T e (j / 32)) (j % 32)) else gI S (z + 4) j) (F2 : fr_S [z + 45, z + 45 + 2, z + 45 + 14, z + 45 + 15, z + 45 + 16, z + 45 + 18, z + 45 + 19] [] S1 S2) (k2 : ∀ k, k = 2 ∨ k = 17 → gI S2 (z + 45) k = gI S1 (z + 45) k) (p2 : gI S2 (z + 45) 4 = nI (32 * (T + e))) (q2 : ∀ j, gI S2 (z + 45 + 2) j = if j < 32 * (T + e) then d_by (wd_ lf c n T e (j / 32)) (j % 32) else gI S1 (z + 45 + 2) j) : in_ z S2 := by
  refine in_out2 (n := 32 * (T + e)) (V := fun j => d_by (wd_ lf c n T e (j / 32)) (j % 32)) h (by omega) F1 (fun x hx => ?_) (fun q => ?_) p1 q1 F2 (fun x hx => by simp only [List.mem_cons, List.not_mem_nil, or_false] at hx; unfold o2A scA; omega) k2 p2 q2 (fun j _ => bt_dby _ _)
  · unfold lq_ pq_ at hx
    simp only [List.mem_cons, List.not_mem_nil, or_false, List.mem_append] at hx
    unfold o1A scA
    omega
  · unfold lq_ pq_ at q
    simp only [List.mem_cons, List.not_mem_nil, or_false, List.mem_append] at q
    omega
theorem uq_way {z : Nat} {S : gS} {a u v : Int32} (h : in_ z S) : Tq z (f_L_way S (some z) a u v (some (z + 65))) (fun T => f_X8_way (fun c => 2 ^ (8 - c)) T (z + 45) a u v) := by
  have y := h.1
  have M := ly_md y
  unfold f_L_way f_X7_way
  rw [e_dc y.1.1, e_dc y.1.1]
  rcases lg_cs a with ca | ⟨l, hl, rfl⟩
  · rw [lof_bad ca, e_bxl, e_bxl, if_pos rfl]
    refine ⟨1, gsZ S (gZ S + 1), 0, gsI (gsZ S (gZ S + 1)) (z + 45) 0 1, rfl, M.1, ?_, m0_s, fun q => absurd q (by decide), in_m0 (in_zz h)⟩
    show f_X8_way _ _ _ _ _ _ = _
    unfold f_X8_way f_X8_way_B36
    rw [isl_bad ca, e_bi, if_pos rfl, e_gd (by decide), m_th (T := gsZ S (gZ S + 1)) M.1, if_neg (by decide)]
  · rw [lof_in y hl, e_bxr]
    obtain ⟨N, TS, H, kn, ⟨a1, a2, a3⟩, ⟨b1, b2, b3⟩, ⟨c1, c2, c3⟩, ⟨d1, d2⟩, kb, er, fu, hd, tm⟩ := h.2.2.2.2.1 l hl
    have hN := a3.1
    have L := ly_lg y hl
    by_cases good : ¬ u < 0 ∧ ¬ v ≤ u ∧ v ≤ nI TS
    · obtain ⟨g0, g1, g2⟩ := good
      obtain ⟨i, hi31, rfl⟩ := nI_of g0
      have gv : ¬ v < 0 := fun q => g1 (Int32.le_of_lt (Int32.lt_of_lt_of_le q (Int32.not_lt.mp g0)))
      obtain ⟨n, hn31, rfl⟩ := nI_of gv
      have hin : i < n := by
        rw [nI_leI hn31 hi31] at g1; omega
      have hnTS : n ≤ TS := (nI_leI hn31 (by omega)).mp g2
      obtain ⟨T, S1, e1, f1, hT, hT2, i1⟩ := p_goToLeaf (p := z + 35) (i := i) (n := n) y.2.2.2.2.2.2.1 (by omega) hin
      have y1 := ly_fr y f1 (by simp)
      have L1 := ly_lg y1 hl
      have b3' := (ds_b (c := cl_ i) (e := 8) (by omega) (by omega) T hT).2.2.1
      have fu1 := fu_fr fu L f1 (fun x hx => by unfold pq_ at hx; simp only [List.mem_cons, List.not_mem_nil, or_false] at hx; omega) (by simp) (by simp)
      obtain ⟨S2, e2, f2, p2, q2⟩ := p_wd (e := 0) (T := T) (c := cl_ i) (n := n) (N := N) (l := l) (z := z) hl (by omega) (by omega) hN hT (by decide) L1 y1.2.2.1 y1.2.2.2.2.2.2.1 fu1 i1
      have y2 := ly_fr y1 f2 (by simp)
      rw [if_neg g0, if_neg g1, e_gI L.1, e_bs, b1, if_pos g2, e_gR y.1.1, e_bs, y.1.2.2.2.2.2.1, e_dc y.2.2.2.2.2.2.1.1.1, nI_l hi31, nI_l hn31, e1, e_bs, e_gR y1.1.1, e_bs, y1.1.2.2.2.2.2.1, e_gR y1.1.1, e_bs, y1.1.2.2.1, e_dc L1.1, e2, e_bi, e_bxr, aL_o y2, e_bs]
      have F1 : fr_S ([z + 3, z + 4, z + 65] ++ (pq_ (z + 35) ++ lq_ (z + 6 + 10 * l))) [] S (gsL S2 (z + 65) 0 (nI (T + 0)).toInt64) := fr_tr (fr_mo f1 (fun _ q => List.mem_append_right _ (List.mem_append_left _ q)) (by simp)) (fr_tr (fr_mo f2 (fun x hx => by simp only [List.mem_cons, List.mem_append] at hx ⊢; rcases hx with q | q | q <;> simp [q]) (by simp)) (fr_l (by simp)))
      have p2' : gI (gsL S2 (z + 65) 0 (nI (T + 0)).toInt64) (z + 3) 1 = nI (32 * (T + 0)) := p2
      have q2' : ∀ j, gI (gsL S2 (z + 65) 0 (nI (T + 0)).toInt64) (z + 4) j = if j < 32 * (T + 0) then sb_ (d_by (wd_ (lf_ S (z + 45) l) (cl_ i) n T 0 (j / 32)) (j % 32)) else gI S (z + 4) j := fun j => by
        have := q2 j
        rw [fr_I f1 y.2.2.1.2.2.1 (by (try unfold lq_) <;> (try unfold pq_) <;> (try unfold cq_) <;> (simp only [List.mem_cons, List.not_mem_nil, or_false, false_or, not_false_eq_true, List.cons_append, List.nil_append]) <;> omega)] at this
        exact this
      have g1' : gL (gsL S2 (z + 65) 0 (nI (T + 0)).toInt64) (z + 65) 0 = (nI (T + 0)).toInt64 := by rw [sL_s, va_up_s]
      generalize gsL S2 (z + 65) 0 (nI (T + 0)).toInt64 = S3 at *
      have nA : ∀ o, o < 20 → z + 45 + o ∉ [z + 3, z + 4, z + 65] ++ (pq_ (z + 35) ++ lq_ (z + 6 + 10 * l)) := fun o ho q => by
        unfold lq_ pq_ at q
        simp only [List.mem_cons, List.not_mem_nil, or_false, List.mem_append] at q
        omega
      have y3 := ly_fr y F1 (by simp)
      have M3 := ly_md y3
      have t : ∀ o k n, (o, k, n) ∈ md_A → k < 16 → o < 20 → gI S3 (z + 45 + o) = gI S (z + 45 + o) := fun o k n hq hk h2 => fr_I F1 (ly_mk y o k n hq) (nA o h2) hk
      have m3 : gI S3 (z + 45) = gI S (z + 45) := fr_I F1 M.1 (nA 0 (by decide))
      have L4 : md_L (gsI S3 (z + 45) 0 0) (z + 45) := M3
      obtain ⟨T', S5, e5, f5, k5, hT', hT2', s5⟩ := p8_chainOf (S := gsI S3 (z + 45) 0 0) (m := z + 45) (i := i) (n := n) L4 (by omega) hin
      have hTT : T' = T := T_u hT' hT2' hT hT2
      subst hTT
      have F5 : fr_S [z + 45, z + 45 + 19] [] S3 S5 := fr_tr (fr_i (by simp)) f5
      have o5 : ∀ o k n, (o, k, n) ∈ md_A → k < 16 → o < 19 → 1 ≤ o → gI S5 (z + 45 + o) = gI S (z + 45 + o) := fun o k n hq hk h2 h1 => by rw [fr_I F5 (ly_mk y3 o k n hq) (by (try unfold lq_) <;> (try unfold pq_) <;> (try unfold cq_) <;> (simp only [List.mem_cons, List.not_mem_nil, or_false, false_or, not_false_eq_true, List.cons_append, List.nil_append]) <;> omega) hk]; exact t o k n hq hk (by omega)
      have L5 := md_fr M3 F5 (by simp)
      have H5 : mh_ (gsI S5 (z + 45) 4 (nI 0)) (z + 45) := ⟨L5, F5.1 (F1.1 (ly_wf y)), fun q hq => by rw [sI_n (by omega), o5 17 10 64 (by decide) (by decide) (by decide) (by decide)]; exact h.2.2.2.1.2 q hq⟩
      have g5 : gI (gsI S5 (z + 45) 4 (nI 0)) (z + 45 + 5) = gI S (z + 45 + 5) := by rw [sI_n (by omega), o5 5 10 48000 (by decide) (by decide) (by decide) (by decide)]
      have g6 : gI (gsI S5 (z + 45) 4 (nI 0)) (z + 45 + 6) = gI S (z + 45 + 6) := by rw [sI_n (by omega), o5 6 10 400 (by decide) (by decide) (by decide) (by decide)]
      obtain ⟨fu', hf⟩ := g_fu T'
      obtain ⟨S6, e6, s6, p6, q6⟩ := p8_wayL (lf := lf_ S (z + 45) l) (g := gI S (z + 47)) (m := z + 45) (c := cl_ i) (T := T') hl (by omega) (show n ≤ N by omega) hT b3' fu' T' (Nat.le_refl _) (gsI S5 (z + 45) 4 (nI 0)) 0 H5 (by rw [sI_s, va_up_n _ _ _ (by decide), k5 17 (by decide), sI_s, va_up_n _ _ _ (by decide), m3]; exact h.2.2.2.1.1) (en_c a3 g5 g6) (lf_c g5 g6) (sm_o s5 (by rw [sI_s, va_up_n _ _ _ (by decide)]) (by rw [sI_n (by omega)])) (by have := Nat.two_pow_pos (9 - T'); omega) (by rw [sI_s, va_up_s]; congr 1; omega) (fun j => by rw [if_neg (by omega), sI_n (by omega), o5 2 10 2400 (by decide) (by decide) (by decide) (by decide)])
      have F2 : fr_S [z + 45, z + 45 + 2, z + 45 + 14, z + 45 + 15, z + 45 + 16, z + 45 + 18, z + 45 + 19] [] S3 S6 := fr_tr (fr_mo F5 (fun x hx => by (try unfold lq_ at hx) <;> (try unfold pq_ at hx) <;> (try unfold cq_ at hx) <;> (try unfold lq_) <;> (try unfold pq_) <;> (try unfold cq_) <;> (simp only [List.mem_cons, List.not_mem_nil, or_false, false_or, List.cons_append, List.nil_append] at hx ⊢) <;> omega) (by simp)) (fr_tr (fr_i (by simp)) (fr_mo s6.1 (fun x hx => by (try unfold lq_ at hx) <;> (try unfold pq_ at hx) <;> (try unfold cq_ at hx) <;> (try unfold lq_) <;> (try unfold pq_) <;> (try unfold cq_) <;> (simp only [List.mem_cons, List.not_mem_nil, or_false, false_or, List.cons_append, List.nil_append] at hx ⊢) <;> omega) (by simp)))
      refine ⟨0, S3, nI T', S6, rfl, M3.1, ?_, ?_, fun _ => ?_, wd_fin (T := T') (e := 0) (c := cl_ i) (n := n) (lf := lf_ S (z + 45) l) h (by omega) hl F1 p2' q2' F2 (fun k hk => ?_) p6 (fun j => ?_)⟩
      · show f_X8_way _ _ _ _ _ _ = _
        unfold f_X8_way f_X8_way_B36
        rw [isl_in hl, e_bi, if_neg (by decide), if_neg g0, if_neg g1, e_gR M3.1, e_bs, md_r M3 10 8, e_I (md_k M3 8 10 2) (md_n M3 8 10 2) hl, e_bs, t 8 10 2 (by decide) (by decide) (by decide), show gI S (z + 45 + 8) l = nI TS from b2, if_pos g2, e_gd (by decide), m_th M3.1, if_pos (by decide), e_dc (S := gsI S3 (z + 45) 0 0) M3.1, nI_l hi31, nI_l hn31, e5, e_bs, show fpI S5 8 4 (some (z + 45)) 0 = some (gsI S5 (z + 45) 4 (nI 0)) from e_pI L5.1, e_bs, e_gI (S := gsI S5 (z + 45) 4 (nI 0)) L5.1, e_bs, sI_s, va_up_n _ _ _ (by decide), s5.1, e_let, hf, show T' + fu' + 1 = fu' + T' + 1 by omega]
        exact e6
      · rw [s6.2.1 0 (by decide) (by decide), sI_s, va_up_n _ _ _ (by decide), k5 0 (by decide), m0_s]
      · rw [fr_L F2 y3.2.2.2.2.2.2.2.2.2.1.1 (by (try unfold lq_) <;> (try unfold pq_) <;> (try unfold cq_) <;> (simp only [List.mem_cons, List.not_mem_nil, or_false, false_or, not_false_eq_true, List.cons_append, List.nil_append]) <;> omega), g1']; rfl
      · rcases hk with rfl | rfl
        · rw [s6.2.1 2 (by decide) (by decide), sI_s, va_up_n _ _ _ (by decide), k5 2 (by decide), sI_s, va_up_n _ _ _ (by decide)]
        · rw [s6.2.2, m3]; exact h.2.2.2.1.1.symm
      · rw [q6 j, t 2 10 2400 (by decide) (by decide) (by decide)]; rfl
    · have ex : (if u < 0 then some ((Sum.inl "java/util/NoSuchElementException" : String ⊕ Int32), gsZ S (gZ S + 1)) else if v ≤ u then some (.inl "java/util/NoSuchElementException", gsZ S (gZ S + 1)) else (fgI S 1 6 (some (z + 6 + 10 * l))).bind fun x15 => if v ≤ x15 then (fgR S 7 4 (some z)).bind fun x20 => gDc S 2 x20 fun a22 => (f_X2_goToLeaf S a22 u.toInt64 v.toInt64).bind fun S24 => (fgR S24 7 4 (some z)).bind fun x26 => (fgR S24 7 1 (some z)).bind fun x28 => gDc S24 1 (some (z + 6 + 10 * l)) fun a30 => gBi (f_X1_writeDigests S24 a30 x26 x28) fun x34 S32 => some (.inr x34, S32) else some (.inl "java/util/NoSuchElementException", gsZ S (gZ S + 1))) = some (.inl "java/util/NoSuchElementException", gsZ S (gZ S + 1)) := by
        by_cases c0 : u < 0
        · rw [if_pos c0]
        · rw [if_neg c0]
          by_cases c1 : v ≤ u
          · rw [if_pos c1]
          · rw [if_neg c1, e_gI L.1, e_bs, b1, if_neg (fun q => good ⟨c0, c1, q⟩)]
      rw [ex, e_bxl, if_neg (by decide), if_pos rfl]
      refine ⟨2, gsZ S (gZ S + 1), 0, gsI (gsZ S (gZ S + 1)) (z + 45) 0 2, rfl, M.1, ?_, m0_s, fun q => absurd q (by decide), in_m0 (in_zz h)⟩
      show f_X8_way _ _ _ _ _ _ = _
      unfold f_X8_way f_X8_way_B31 f_X8_way_B36
      rw [isl_in hl, e_bi, if_neg (by decide)]
      by_cases c0 : u < 0
      · rw [if_pos c0, e_gd (by decide), e_gd (by decide), m_th (T := gsZ S (gZ S + 1)) M.1, if_neg (by decide)]
      · rw [if_neg c0]
        by_cases c1 : v ≤ u
        · rw [if_pos c1, e_gd (by decide), e_gd (by decide), m_th (T := gsZ S (gZ S + 1)) M.1, if_neg (by decide)]
        · rw [if_neg c1, e_gR (S := gsZ S (gZ S + 1)) M.1, e_bs, sZ_R, md_r M 10 8, e_I (S := gsZ S (gZ S + 1)) (md_k M 8 10 2) (md_n M 8 10 2) hl, e_bs, sZ_I, show gI S (z + 45 + 8) l = nI TS from b2, if_neg (fun q => good ⟨c0, c1, q⟩), e_gd (by decide), e_gd (by decide), m_th (T := gsZ S (gZ S + 1)) M.1, if_neg (by decide)]
