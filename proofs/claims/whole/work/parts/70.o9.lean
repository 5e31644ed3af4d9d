/-! cut -/
theorem p8_hb {S : gS} {m i : Nat} {t w : Int64} {W D : Nat → Int32} (hL : md_L S m) (hi : i < 80) (hW : sl_at S m 0 W) (hD : sl_at S m 1 D) : f_X8_headByte S m (nI i) t w = some (s_hb t w W D i, S) := by
  unfold f_X8_headByte s_hb s_hd
  by_cases c8 : i < 8
  · rw [if_neg (show ¬ (8 : Int32) ≤ nI i from nI_ge (b := 8) c8 (by decide)), if_pos (by omega), if_pos c8, show (56 : Int32) - 8 * nI i = nI (8 * (7 - i)) from by rw [show (8 : Int32) = nI 8 from rfl, pk_mul, show (56 : Int32) = nI 56 from rfl, pk_sub (by omega)]; congr 1; omega]
    rfl
  · rw [if_pos (show (8 : Int32) ≤ nI i from nI_le (a := 8) (by omega) (by omega))]
    by_cases c16 : i < 16
    · rw [if_neg (show ¬ (16 : Int32) ≤ nI i from nI_ge (b := 16) c16 (by decide)), if_pos (by omega), if_neg c8, if_pos c16, show (56 : Int32) - 8 * (nI i - 8) = nI (8 * (7 - (i - 8))) from by rw [show (8 : Int32) = nI 8 from rfl, pk_sub (by omega), pk_mul, show (56 : Int32) = nI 56 from rfl, pk_sub (by omega)]; congr 1; omega]
      rfl
    · have e0 : nI i - 16 = nI (i - 16) := pk_sub (b := 16) (by omega)
      rw [if_pos (show (16 : Int32) ≤ nI i from nI_le (a := 16) (by omega) (by omega)), e0, e_let, e_gR hL.1, e_bs, md_r hL 21 18, show nI (i - 16) / 4 = nI ((i - 16) / 4) from pk_div (d := 4) (by omega) (by decide) (by decide), e_I (md_k hL 18 10 800) (md_n hL 18 10 800) (by omega), e_bs]
      have e1 : (24 : Int32) - (8 * (nI (i - 16) - nI ((i - 16) / 4) * 4)) = nI (24 - 8 * ((i - 16) % 4)) := by
        have := n24 (i := i - 16) (by omega)
        rw [show nI (i - 16) / 4 = nI ((i - 16) / 4) from pk_div (d := 4) (by omega) (by decide) (by decide)] at this
        exact this
      rw [e1, by_ar _ (by omega)]
      by_cases c48 : i < 48
      · rw [if_pos c48, if_neg c8, if_neg c16]
        have := hW ((i - 16) / 4) (by omega)
        rw [show 8 * 0 + (i - 16) / 4 = (i - 16) / 4 by omega] at this
        rw [this]; rfl
      · rw [if_neg c48]
        have := hD ((i - 48) / 4) (by omega)
        rw [show 8 * 1 + (i - 48) / 4 = (i - 16) / 4 by omega] at this
        rw [this, show (i - 16) % 4 = (i - 48) % 4 by omega]; rfl
theorem p8_cutL {m l N c cu su : Nat} {t : Int64} {W D g : Nat → Int32} (hl : l < 2) (hN : N ≤ 200) (hc : c + 80 ≤ 6400) (hg : cu ≤ 410 ∧ su ≤ 3280) (fu : Nat) : ∀ d i, i + d = 80 → ∀ S, md_L S m → gI S (m + 8) l = nI N → sl_at S m 0 W → sl_at S m 1 D → (∀ j, gI S (m + 9) j = ou_ g c i (s_hb t (lN N) W D) j) → f_X8_cut_L140 (fu + d + 1) S cu su m (nI l) t (nI c) (nI i) = f_X8_cut_L140 (fu + 1) (gsA S (m + 9) (ou_ g c 80 (s_hb t (lN N) W D))) cu su m (nI l) t (nI c) (nI 80)
  | 0, i, hi, S, hL, h8, hW, hD, hd => by
    have : i = 80 := by omega
    subst this
    have : gI S (m + 9) = ou_ g c 80 (s_hb t (lN N) W D) := funext hd
    rw [← this, sA_i]
  | d + 1, i, hi, S, hL, h8, hW, hD, hd => by
    rw [show fu + (d + 1) + 1 = (fu + d + 1) + 1 by omega, f_X8_cut_L140, e_gd hg, if_neg (show ¬ (80 : Int32) ≤ nI i from nI_ge (b := 80) (by omega) (by decide)), e_gR hL.1, e_bs, md_r hL 11 9, e_gR hL.1, e_bs, md_r hL 10 8, e_I (md_k hL 8 10 2) (md_n hL 8 10 2) hl, e_bs, h8, e_dc hL.1, nI_l (by omega), p8_hb hL (by omega) hW hD, e_bi, nI_add, e_aI (md_k hL 9 10 6400) (md_n hL 9 10 6400) (by omega), e_bs, e_let, nI_1]
    have := p8_cutL (m := m) (t := t) (W := W) (D := D) (g := g) hl hN hc hg fu d (i + 1) (by omega) (gsI S (m + 9) (c + i) (s_hb t (lN N) W D i)) hL (by rw [sI_n (by omega)]; exact h8) (fun q hq => by rw [sI_n (by omega)]; exact hW q hq) (fun q hq => by rw [sI_n (by omega)]; exact hD q hq) (fun j => by
      rw [sI_s, va_up_e, hd j]
      unfold ou_
      by_cases e : j = c + i
      · rw [if_pos e, if_pos (by omega), e, show c + i - c = i by omega]
      · rw [if_neg e]
        by_cases e2 : c ≤ j ∧ j < c + i
        · rw [if_pos e2, if_pos (by omega)]
        · rw [if_neg e2, if_neg (by omega)])
    rw [show gsA (gsI S (m + 9) (c + i) (s_hb t (lN N) W D i)) (m + 9) (ou_ g c 80 (s_hb t (lN N) W D)) = gsA S (m + 9) (ou_ g c 80 (s_hb t (lN N) W D)) by rw [sI_A, sA_A]] at this
    exact this
theorem m_cutE {T : gS} {m l H fu cu su : Nat} {t : Int64} {e : Int32} (hT : md_L T m) (hl : l < 2) (hg : cu ≤ 410 ∧ su ≤ 3280) (h11 : gI T (m + 11) l = nI H) : f_X8_cut_L140 (fu + 1) T cu su m (nI l) t e (nI 80) = some (nI H, gsI T (m + 11) l (nI (H + 1))) := by
  have kk := md_k hT 11 10 2
  have kn := md_n hT 11 10 2
  have k8 : gK (gsI T (m + 11) l (nI (H + 1))) m = 8 := hT.1
  have q : fI (gsI T (m + 11) l (nI (H + 1))) 10 (some (m + 11)) (nI l) = some (nI (H + 1)) := by
    rw [e_I (S := gsI T (m + 11) l (nI (H + 1))) (n := 2) kk kn hl, sI_s, va_up_s]
  have q2 : gR (gsI T (m + 11) l (nI (H + 1))) m 13 = some (m + 11) := md_r hT 13 11
  rw [f_X8_cut_L140, e_gd hg, if_pos (show (80 : Int32) ≤ nI 80 from by decide), e_gR hT.1, e_bs, md_r hT 13 11, e_I kk kn hl, e_bs, h11, nI_1, e_aI kk kn hl, e_bs, e_gR k8, e_bs, q2, q, e_bs, nI_pred]
theorem m_cutB {T : gS} {m l N H kn : Nat} {t : Int64} (hT : mh_ T m) (h17 : gI T m 17 = nI 0) (hl : l < 2) (hE : en_I T m l N) (h7 : gI T (m + 7) l = nI N) (h11 : gI T (m + 11) l = nI H) (hH : H < 40) (hk : ky_I T m l kn) : ∃ S', f_X8_cut_B58 T 0 0 m (nI l) t 0 (some m) = some (nI H, S') ∧ fr_S [m, m + 8, m + 9, m + 10, m + 11, m + 14, m + 15, m + 16, m + 18] [] T S' ∧ (∀ k, k ≠ 0 → gI S' m k = gI T m k) ∧ gI S' m 0 = 0 ∧ (∀ j, gI S' (m + 8) j = if j = l then nI N else gI T (m + 8) j) ∧ (∀ j, gI S' (m + 9) j = ou_ (gI T (m + 9)) (80 * (40 * l + H)) 80 (s_hb t (lN N) (s_rt (lf_ T m l) 0 N) (s_sl (kb_ T m l) (s_hd t (lN N) (s_rt (lf_ T m l) 0 N)))) j) ∧ (∀ j, gL S' (m + 10) j = if j = l then t else gL T (m + 10) j) ∧ (∀ j, gI S' (m + 11) j = if j = l then nI (H + 1) else gI T (m + 11) j) := by
  have hN := hE.1
  have M := hT.1
  have hb0 : gRb (nI N) ≤ 400 := by rw [rb_n (by omega)]; omega
  -- the state before the root
  have F1 : fr_S [m, m + 8, m + 10] [] T (gsL (gsI (gsI T m 0 0) (m + 8) l (nI N)) (m + 10) l t) := fr_tr (fr_tr (fr_i (by simp)) (fr_i (by simp))) (fr_l (by simp))
  have M1 : md_L (gsL (gsI (gsI T m 0 0) (m + 8) l (nI N)) (m + 10) l t) m := M
  have e10 : (fpI T 8 0 (some m) 0) = some (gsI T m 0 0) := e_pI M.1
  have g0 : gI (gsI T m 0 0) m 0 = 0 := by rw [sI_s, va_up_s]
  have q7 : fI (gsI T m 0 0) 10 (some (m + 7)) (nI l) = some (nI N) := by rw [e_I (S := gsI T m 0 0) (n := 2) (md_k M 7 10 2) (md_n M 7 10 2) hl, sI_n (by omega), h7]
  have a8 : faI (gsI T m 0 0) (some (m + 8)) (nI l) (nI N) = some (gsI (gsI T m 0 0) (m + 8) l (nI N)) := e_aI (S := gsI T m 0 0) (n := 2) (md_k M 8 10 2) (md_n M 8 10 2) hl
  have a10 : faL (gsI (gsI T m 0 0) (m + 8) l (nI N)) (some (m + 10)) (nI l) t = some (gsL (gsI (gsI T m 0 0) (m + 8) l (nI N)) (m + 10) l t) := e_aL (S := gsI (gsI T m 0 0) (m + 8) l (nI N)) (n := 2) (md_k M 10 11 2) (md_n M 10 11 2) hl
  have k10 : gK (gsI T m 0 0) m = 8 := M.1
  have k8 : gK (gsI (gsI T m 0 0) (m + 8) l (nI N)) m = 8 := M.1
  have r10 : ∀ k o, (k, o) ∈ md_R → gR (gsI T m 0 0) m k = some (m + o) := fun k o hq => md_r M k o hq
  have r8 : ∀ k o, (k, o) ∈ md_R → gR (gsI (gsI T m 0 0) (m + 8) l (nI N)) m k = some (m + o) := fun k o hq => md_r M k o hq
  have x8 : ∀ j, gI (gsL (gsI (gsI T m 0 0) (m + 8) l (nI N)) (m + 10) l t) (m + 8) j = if j = l then nI N else gI T (m + 8) j := fun j => by rw [sL_I, sI_s, va_up_e, sI_n (by omega)]
  have x10 : ∀ j, gL (gsL (gsI (gsI T m 0 0) (m + 8) l (nI N)) (m + 10) l t) (m + 10) j = if j = l then t else gL T (m + 10) j := fun j => by rw [sL_s, va_up_e, sI_L, sI_L]
  have xm : ∀ k, gI (gsL (gsI (gsI T m 0 0) (m + 8) l (nI N)) (m + 10) l t) m k = if k = 0 then 0 else gI T m k := fun k => by rw [sL_I, sI_n (by omega), sI_s, va_up_e]
  have xo : ∀ o, o ≠ 0 → o ≠ 8 → gI (gsL (gsI (gsI T m 0 0) (m + 8) l (nI N)) (m + 10) l t) (m + o) = gI T (m + o) := fun o h1 h2 => by rw [sL_I, sI_n (by omega), sI_n (by omega)]
  generalize gsL (gsI (gsI T m 0 0) (m + 8) l (nI N)) (m + 10) l t = S1 at *
  have H1 : mh_ S1 m := ⟨M1, F1.1 hT.2.1, fun q hq => by rw [xo 17 (by decide) (by decide)]; exact hT.2.2 q hq⟩
  have h17' : gI S1 m 17 = nI 0 := by rw [xm 17]; exact h17
  have g5 := xo 5 (by decide) (by decide)
  have g6 := xo 6 (by decide) (by decide)
  obtain ⟨S2, e2, s2, i2, -⟩ := p8_root hl 9 0 N 4 S1 (by omega) (by decide) (show 0 + N ≤ N by omega) (by decide) H1 h17' (en_c hE g5 g6)
  rw [lf_c g5 g6] at i2
  have H2 := mg_h s2 H1
  have e3 := p8_copy (S := S2) (a := 4) (b := 0) H2.1 (by decide) (by decide) (by decide)
  have s3 := mg_A (S := S2) (m := m) (f := sl_ (gI S2 (m + 18)) 0 (fun q => gI S2 (m + 18) (8 * 4 + q))) s2.2.2
  have i3 : sl_at (gsA S2 (m + 18) (sl_ (gI S2 (m + 18)) 0 (fun q => gI S2 (m + 18) (8 * 4 + q)))) m 0 (s_rt (lf_ T m l) 0 N) := fun q hq => by rw [sA_s, sl_in hq]; exact i2 q hq
  generalize gsA S2 (m + 18) (sl_ (gI S2 (m + 18)) 0 (fun q => gI S2 (m + 18) (8 * 4 + q))) = S3 at *
  have s13 := mg_tr s2 s3
  have H3 := mg_h s13 H1
  have g3 : gI S3 (m + 3) = gI T (m + 3) := (mg_o s13 H1 3 10 200).trans (xo 3 (by decide) (by decide))
  have g4 : gI S3 (m + 4) = gI T (m + 4) := (mg_o s13 H1 4 10 2).trans (xo 4 (by decide) (by decide))
  have hkb : kb_ S3 m l = kb_ T m l := by unfold kb_; rw [g3, g4]
  obtain ⟨S4, e4, s4, i4, j4⟩ := p8_sealOf (t := t) (z := lN N) (W := s_rt (lf_ T m l) 0 N) H3 s3.2.2 hl (show ky_I S3 m l kn by unfold ky_I; rw [g3, g4]; exact hk) i3
  rw [hkb] at i4
  have s14 := mg_tr s13 s4
  have H4 := mg_h s14 H1
  have i4' : sl_at S4 m 0 (s_rt (lf_ T m l) 0 N) := fun q hq => by rw [j4 _ (Or.inl (by omega))]; exact i3 q hq
  have y8 : gI S4 (m + 8) = gI S1 (m + 8) := mg_o s14 H1 8 10 2
  have y3 : gI S3 (m + 8) = gI S1 (m + 8) := mg_o s13 H1 8 10 2
  have y9 : gI S4 (m + 9) = gI T (m + 9) := (mg_o s14 H1 9 10 6400).trans (xo 9 (by decide) (by decide))
  have y11 : gI S4 (m + 11) = gI T (m + 11) := (mg_o s14 H1 11 10 2).trans (xo 11 (by decide) (by decide))
  obtain ⟨fu, hf⟩ := g_fu 80
  have e5 := p8_cutL (m := m) (l := l) (N := N) (c := 80 * (40 * l + H)) (cu := 0 + gRb (nI N) + 3) (su := 0 + 8 * gRb (nI N) + 24) (t := t) (W := s_rt (lf_ T m l) 0 N) (D := s_sl (kb_ T m l) (s_hd t (lN N) (s_rt (lf_ T m l) 0 N))) (g := gI T (m + 9)) hl hN (by omega) (by omega) fu 80 0 (by omega) S4 H4.1 (by rw [y8, x8, if_pos rfl]) i4' i4 (fun j => by rw [y9]; unfold ou_; rw [if_neg (by omega)])
  have M5 : md_L (gsA S4 (m + 9) (ou_ (gI T (m + 9)) (80 * (40 * l + H)) 80 (s_hb t (lN N) (s_rt (lf_ T m l) 0 N) (s_sl (kb_ T m l) (s_hd t (lN N) (s_rt (lf_ T m l) 0 N)))))) m := H4.1
  have e6 := m_cutE (T := gsA S4 (m + 9) (ou_ (gI T (m + 9)) (80 * (40 * l + H)) 80 (s_hb t (lN N) (s_rt (lf_ T m l) 0 N) (s_sl (kb_ T m l) (s_hd t (lN N) (s_rt (lf_ T m l) 0 N)))))) (fu := fu) (cu := 0 + gRb (nI N) + 3) (su := 0 + 8 * gRb (nI N) + 24) (t := t) (e := nI (80 * (40 * l + H))) M5 hl (by omega) (by rw [sA_n (by omega), y11]; exact h11)
  have F5 : fr_S [m, m + 8, m + 9, m + 10, m + 11, m + 14, m + 15, m + 16, m + 18] [] T (gsI (gsA S4 (m + 9) (ou_ (gI T (m + 9)) (80 * (40 * l + H)) 80 (s_hb t (lN N) (s_rt (lf_ T m l) 0 N) (s_sl (kb_ T m l) (s_hd t (lN N) (s_rt (lf_ T m l) 0 N)))))) (m + 11) l (nI (H + 1))) := fr_tr (fr_mo F1 (by simp) (by simp)) (fr_tr (fr_mo s14.1 (by simp) (by simp)) (fr_tr (fr_A (by simp)) (fr_i (by simp))))
  refine ⟨_, ?_, F5, fun k hk => ?_, ?_, fun j => ?_, fun j => ?_, fun j => ?_, fun j => ?_⟩
  · unfold f_X8_cut_B58
    rw [e_gd (by decide), e10, e_bs, e_gI k10, e_bs, g0, if_pos (by decide), e_gR k10, e_bs, r10 10 8 (by decide), e_gR k10, e_bs, r10 9 7 (by decide), q7, e_bs, a8, e_bs, e_gR k8, e_bs, r8 12 10 (by decide), a10, e_bs, e_gR M1.1, e_bs, md_r M1 10 8, e_I (md_k M1 8 10 2) (md_n M1 8 10 2) hl, e_bs, x8, if_pos rfl, e_gd (by omega), show f_X8_root 10 S1 (some m) (nI l) 0 (nI N) 4 = some S2 from e2, e_bs, e_dc H2.1.1, show f_X8_copy S2 m 4 0 = some S3 from e3, e_bs, e_gR H3.1.1, e_bs, md_r H3.1 10 8, e_I (md_k H3.1 8 10 2) (md_n H3.1 8 10 2) hl, e_bs, y3, x8, if_pos rfl, e_dc H3.1.1, e_gd (by omega), nI_l (by omega), e4, e_bs, e_gR H4.1.1, e_bs, md_r H4.1 13 11, e_I (md_k H4.1 11 10 2) (md_n H4.1 11 10 2) hl, e_bs, y11, h11, show (40 : Int32) = nI 40 from rfl, pk_mul, nI_add, show (80 : Int32) = nI 80 from rfl, pk_mul, e_let, hf, show 80 + fu + 1 = fu + 80 + 1 by omega]
    exact e5.trans e6
  · rw [sI_n (by omega), sA_n (by omega)]
    by_cases c : k = 17
    · subst c; rw [s4.2.2, h17]
    · rw [s14.2.1 k c, xm k, if_neg hk]
  · rw [sI_n (by omega), sA_n (by omega), s14.2.1 0 (by decide), xm 0]; rfl
  · rw [sI_n (by omega), sA_n (by omega), y8, x8]
  · rw [sI_n (by omega), sA_s]
  · rw [sI_L, sA_L, fr_L s14.1 (md_k M1 10 11 2) (by (try unfold lq_) <;> (try unfold pq_) <;> (try unfold cq_) <;> (simp only [List.mem_cons, List.not_mem_nil, or_false, false_or, not_false_eq_true, List.cons_append, List.nil_append]) <;> omega), x10]
  · rw [sI_s, va_up_e, sA_n (by omega), y11]
theorem uq_cut {z : Nat} {S : gS} {a : Int32} {t : Int64} (h : in_ z S) : Tq z (f_L_cut S (some z) a t (some (z + 65))) (fun T => f_X8_cut T (z + 45) a t) := by
  have y := h.1
  have M := ly_md y
  unfold f_L_cut f_X7_cut
  rw [e_dc y.1.1, e_dc y.1.1]
  have thr : ∀ w : Int32, ¬ w ≤ 0 → f_X8_cut_B58 (gsZ S (gZ S + 1)) 0 0 (z + 45) a t w (some (z + 45)) = some (0, gsI (gsZ S (gZ S + 1)) (z + 45) 0 w) := by
    intro w hw
    unfold f_X8_cut_B58
    rw [e_gd (by decide), m_th (T := gsZ S (gZ S + 1)) M.1, if_neg hw]
  rcases lg_cs a with ca | ⟨l, hl, rfl⟩
  · rw [lof_bad ca, e_bxl, e_bxl, if_pos rfl]
    refine ⟨1, gsZ S (gZ S + 1), 0, gsI (gsZ S (gZ S + 1)) (z + 45) 0 1, rfl, M.1, ?_, m0_s, fun q => absurd q (by decide), in_m0 (in_zz h)⟩
    show f_X8_cut _ _ _ _ = _
    unfold f_X8_cut
    rw [isl_bad ca, e_bi, if_pos rfl]
    exact thr 1 (by decide)
  · rw [lof_in y hl, e_bxr]
    obtain ⟨N, TS, H, kn, ⟨a1, a2, a3⟩, ⟨b1, b2, b3⟩, ⟨c1, c2, c3⟩, ⟨d1, d2⟩, kb, er, fu, hd, tm⟩ := h.2.2.2.2.1 l hl
    have hN := a3.1
    have L := ly_lg y hl
    by_cases t0 : lg_cmp t 0 < 0
    · rw [if_pos t0, e_bxl, if_neg (by decide), if_pos rfl]
      refine ⟨2, gsZ S (gZ S + 1), 0, gsI (gsZ S (gZ S + 1)) (z + 45) 0 2, rfl, M.1, ?_, m0_s, fun q => absurd q (by decide), in_m0 (in_zz h)⟩
      show f_X8_cut _ _ _ _ = _
      unfold f_X8_cut f_X8_cut_B38
      rw [isl_in hl, e_bi, if_neg (by decide), if_pos t0, e_gd (by decide)]
      exact thr 2 (by decide)
    · rw [if_neg t0, e_dc L.1, p_latest L c1 c3 hd, e_bi]
      have rd : ∀ {T : gS}, md_L T (z + 45) → gI T (z + 56) = gI S (z + 56) → gL T (z + 55) = gL S (z + 55) → f_X8_cut T (z + 45) (nI l) t = if 0 ≤ lg_cmp t (if H = 0 then 0 else s_lg (hf_ S z l (H - 1)) 0) then f_X8_cut_B42 T 0 0 (z + 45) (nI l) t (some (z + 45)) else f_X8_cut_B38 T 0 0 (z + 45) (nI l) t (some (z + 45)) := by
        intro T hT t56 t55
        unfold f_X8_cut
        rw [isl_in hl, e_bi, if_neg (by decide), if_neg t0, e_gR hT.1, e_bs, md_r hT 13 11, e_I (md_k hT 11 10 2) (md_n hT 11 10 2) hl, e_bs, show gI T (z + 45 + 11) l = nI H from by rw [show gI T (z + 45 + 11) = gI S (z + 56) from t56]; exact c2]
        by_cases cH : H = 0
        · subst cH
          rw [if_pos (show nI 0 ≤ (0 : Int32) from by decide), if_pos rfl]
          have : 0 ≤ lg_cmp t 0 := (lg_cmp_ge _ _).mpr (Int64.not_lt.mp (fun q => t0 ((lg_cmp_lt _ _).mpr q)))
          rw [if_pos this]
        · rw [if_neg (show ¬ nI H ≤ (0 : Int32) from nI_nle (by omega) (by omega)), e_gR hT.1, e_bs, md_r hT 12 10, e_L (md_k hT 10 11 2) (md_n hT 10 11 2) hl, e_bs, show gL T (z + 45 + 10) l = s_lg (hf_ S z l (H - 1)) 0 from by rw [show gL T (z + 45 + 10) = gL S (z + 55) from t55]; exact tm (by omega), if_neg cH]
      by_cases t1 : 0 ≤ lg_cmp t (if H = 0 then 0 else s_lg (hf_ S z l (H - 1)) 0)
      · rw [if_pos t1, e_gI L.1, e_bs, c1]
        by_cases cH : H < 40
        · rw [if_pos (show nI H < (40 : Int32) from nI_lt (b := 40) cH (by decide)), e_dc L.1]
          obtain ⟨S1, e1, f1, p6, p8, o1, ⟨rr, r1, rw1⟩, z1⟩ := p_addHead (zz := z + 66) (b := z + 6 + 10 * l) (N := N) (H := H) (t := t) (lf := lf_ S (z + 45) l) (KB := kb_ S (z + 45) l) (by omega) L (ly_wf y) y.2.2.2.2.2.2.2.2.2.1.1 fu a1 hN c1 cH kb
          have hB1 : ∀ x ∈ [z + 6 + 10 * l + 7], lyB z x := fun x hx => by simp only [List.mem_cons, List.not_mem_nil, or_false] at hx; unfold lyB; omega
          have y1 := ly_fr y f1 hB1
          rw [e1, e_bi, e_bxr, aL_o y1, e_bs]
          have F1 : fr_S ([z + 65] ++ (z + 6 + 10 * l) :: (z + 6 + 10 * l + 9) :: lq_ (z + 6 + 10 * l)) [z + 6 + 10 * l + 7] S (gsL S1 (z + 65) 0 (nI H).toInt64) := fr_tr (fr_mo f1 (fun _ q => List.mem_append_right _ q) (fun _ q => q)) (fr_l (by simp))
          have p6' : gI (gsL S1 (z + 65) 0 (nI H).toInt64) (z + 6 + 10 * l) 6 = nI N := p6
          have p8' : gI (gsL S1 (z + 65) 0 (nI H).toInt64) (z + 6 + 10 * l) 8 = nI (H + 1) := p8
          have o1' : ∀ k, k ≠ 6 → k ≠ 8 → gI (gsL S1 (z + 65) 0 (nI H).toInt64) (z + 6 + 10 * l) k = gI S (z + 6 + 10 * l) k := o1
          have r1' : gR (gsL S1 (z + 65) 0 (nI H).toInt64) (z + 6 + 10 * l + 7) = va_up (gR S (z + 6 + 10 * l + 7)) H (some rr) := r1
          have rw1' := rw_fr rw1 (fr_l (S := S1) (a := z + 65) (k := 0) (v := (nI H).toInt64) (A := [z + 65]) (B := []) (by simp)) (fun x hx => by (try unfold lq_ at hx) <;> (try unfold pq_ at hx) <;> (try unfold cq_ at hx) <;> (simp only [List.mem_cons, List.not_mem_nil, or_false, false_or, List.cons_append, List.nil_append] at hx) <;> (try simp only [loA, loB, tpA, ooA, msA, vwA, vwB, lyB, scA]) <;> omega) (by simp)
          have g1' : gL (gsL S1 (z + 65) 0 (nI H).toInt64) (z + 65) 0 = (nI H).toInt64 := by rw [sL_s, va_up_s]
          generalize gsL S1 (z + 65) 0 (nI H).toInt64 = S2 at *
          have nA : ∀ o, o < 20 → z + 45 + o ∉ [z + 65] ++ (z + 6 + 10 * l) :: (z + 6 + 10 * l + 9) :: lq_ (z + 6 + 10 * l) := fun o ho q => by
            unfold lq_ at q
            simp only [List.mem_cons, List.not_mem_nil, or_false, List.mem_append] at q
            omega
          have y2 := ly_fr y F1 hB1
          have M2 := ly_md y2
          have tt : ∀ o k n, (o, k, n) ∈ md_A → k < 16 → o < 20 → gI S2 (z + 45 + o) = gI S (z + 45 + o) := fun o k n hq hk h2 => fr_I F1 (ly_mk y o k n hq) (nA o h2) hk
          have m2 : gI S2 (z + 45) = gI S (z + 45) := fr_I F1 M.1 (nA 0 (by decide))
          have g5 := tt 5 10 48000 (by decide) (by decide) (by decide)
          have g6 := tt 6 10 400 (by decide) (by decide) (by decide)
          have g3 := tt 3 10 200 (by decide) (by decide) (by decide)
          have g4 := tt 4 10 2 (by decide) (by decide) (by decide)
          have hkb : kb_ S2 (z + 45) l = kb_ S (z + 45) l := by unfold kb_; rw [g3, g4]
          obtain ⟨S3, e3, F2, k3, k0, r8, r9, r10, r11⟩ := m_cutB (T := S2) (m := z + 45) (l := l) (N := N) (H := H) (kn := kn) (t := t) ⟨M2, F1.1 (ly_wf y), fun q hq => by rw [tt 17 10 64 (by decide) (by decide) (by decide)]; exact h.2.2.2.1.2 q hq⟩ (by rw [m2]; exact h.2.2.2.1.1) hl (en_c a3 g5 g6) (by rw [tt 7 10 2 (by decide) (by decide) (by decide)]; exact a2) (by rw [tt 11 10 2 (by decide) (by decide) (by decide)]; exact c2) cH (show ky_I S2 (z + 45) l kn by unfold ky_I; rw [g3, g4]; exact d2)
          rw [lf_c g5 g6, hkb, tt 9 10 6400 (by decide) (by decide) (by decide)] at r9
          have F : fr_S ([z + 65] ++ (z + 6 + 10 * l) :: (z + 6 + 10 * l + 9) :: lq_ (z + 6 + 10 * l) ++ [z + 45, z + 45 + 8, z + 45 + 9, z + 45 + 10, z + 45 + 11, z + 45 + 14, z + 45 + 15, z + 45 + 16, z + 45 + 18]) ([z + 6 + 10 * l + 7] ++ []) S S3 := fr_ap F1 F2
          have hAF : ∀ x ∈ [z + 65] ++ (z + 6 + 10 * l) :: (z + 6 + 10 * l + 9) :: lq_ (z + 6 + 10 * l) ++ [z + 45, z + 45 + 8, z + 45 + 9, z + 45 + 10, z + 45 + 11, z + 45 + 14, z + 45 + 15, z + 45 + 16, z + 45 + 18], x = z + 65 ∨ x = z + 6 + 10 * l ∨ (z + 6 + 10 * l + 1 ≤ x ∧ x ≤ z + 6 + 10 * l + 3) ∨ x = z + 6 + 10 * l + 8 ∨ x = z + 6 + 10 * l + 9 ∨ x = z + 45 ∨ (z + 53 ≤ x ∧ x ≤ z + 56) ∨ (z + 59 ≤ x ∧ x ≤ z + 61) ∨ x = z + 63 := fun x hx => by
            unfold lq_ at hx
            simp only [List.mem_cons, List.not_mem_nil, or_false, List.mem_append] at hx
            omega
          have hBF : ∀ x ∈ [z + 6 + 10 * l + 7] ++ ([] : List Nat), x = z + 6 + 10 * l + 7 := fun x hx => by simp only [List.append_nil, List.mem_cons, List.not_mem_nil, or_false] at hx; exact hx
          have kk : ∀ k, k ≠ 0 → gI S3 (z + 45) k = gI S (z + 45) k := fun k hk => by rw [k3 k hk, m2]
          refine ⟨0, S2, nI H, S3, rfl, M2.1, ?_, k0, fun _ => by rw [fr_L F2 y2.2.2.2.2.2.2.2.2.2.1.1 (by (try unfold lq_) <;> (try unfold pq_) <;> (try unfold cq_) <;> (simp only [List.mem_cons, List.not_mem_nil, or_false, false_or, not_false_eq_true, List.cons_append, List.nil_append]) <;> omega), g1'], ly_fr y F (fun x hx => by have := hBF x hx; unfold lyB; omega), tp_fr h.2.1 y F (fun x hx => by have := hAF x hx; unfold tpA; omega) (kk 2 (by decide)), oo_fr h.2.2.1 y F (fun x hx => by have := hAF x hx; unfold ooA; omega) (kk 4 (by decide)), ms_fr h.2.2.2.1 y F (fun x hx => by have := hAF x hx; unfold msA; omega) (kk 17 (by decide)), fun l' hl' => ?_, vw_fr h.2.2.2.2.2 y F (fun x hx => by have := hAF x hx; unfold vwA; omega) (fun x hx => by have := hBF x hx; unfold vwB; omega)⟩
          · show f_X8_cut _ _ _ _ = _
            rw [rd M2 (tt 11 10 2 (by decide) (by decide) (by decide)) (fr_L F1 (ly_mk y 10 11 2) (nA 10 (by decide))), if_pos t1]
            unfold f_X8_cut_B42
            rw [e_gd (by decide), e_gR M2.1, e_bs, md_r M2 13 11, e_I (md_k M2 11 10 2) (md_n M2 11 10 2) hl, e_bs, tt 11 10 2 (by decide) (by decide) (by decide), show gI S (z + 45 + 11) l = nI H from c2, if_neg (show ¬ nI H = (40 : Int32) from by rw [show (40 : Int32) = nI 40 from rfl, nI_eq (by omega) (by decide)]; omega)]
            exact e3
          · have g : ∀ o k n, (o, k, n) ∈ md_A → k < 16 → o < 8 → 1 ≤ o → gI S3 (z + 45 + o) = gI S (z + 45 + o) := fun o k n hq hk h1 h0 => by rw [fr_I F2 (ly_mk y2 o k n hq) (by (try unfold lq_) <;> (try unfold pq_) <;> (try unfold cq_) <;> (simp only [List.mem_cons, List.not_mem_nil, or_false, false_or, not_false_eq_true, List.cons_append, List.nil_append]) <;> omega) hk]; exact tt o k n hq hk (by omega)
            have g54 : ∀ l' i j, l' < 2 → i < 40 → j < 80 → (l' ≠ l ∨ i < H) → gI S3 (z + 54) (80 * (40 * l' + i) + j) = gI S (z + 54) (80 * (40 * l' + i) + j) := fun l' i j h1 h2 h3 h4 => by
              have := r9 (80 * (40 * l' + i) + j)
              unfold ou_ at this
              rw [if_neg (by omega)] at this
              exact this
            have r8' : ∀ j, gI S3 (z + 53) j = if j = l then nI N else gI S (z + 53) j := fun j => by
              have := r8 j
              rw [tt 8 10 2 (by decide) (by decide) (by decide)] at this
              exact this
            have r11' : ∀ j, gI S3 (z + 56) j = if j = l then nI (H + 1) else gI S (z + 56) j := fun j => by
              have := r11 j
              rw [tt 11 10 2 (by decide) (by decide) (by decide)] at this
              exact this
            have r10' : ∀ j, gL S3 (z + 55) j = if j = l then t else gL S (z + 55) j := fun j => by
              have := r10 j
              rw [show gL S2 (z + 45 + 10) = gL S (z + 55) from fr_L F1 (ly_mk y 10 11 2) (nA 10 (by decide))] at this
              exact this
            have e50 : gI S3 (z + 50) = gI S (z + 50) := g 5 10 48000 (by decide) (by decide) (by decide) (by decide)
            have e51 : gI S3 (z + 51) = gI S (z + 51) := g 6 10 400 (by decide) (by decide) (by decide) (by decide)
            have e52 : gI S3 (z + 52) = gI S (z + 52) := g 7 10 2 (by decide) (by decide) (by decide) (by decide)
            have e48 : gI S3 (z + 48) = gI S (z + 48) := g 3 10 200 (by decide) (by decide) (by decide) (by decide)
            have e49 : gI S3 (z + 49) = gI S (z + 49) := g 4 10 2 (by decide) (by decide) (by decide) (by decide)
            by_cases e : l' = l
            · subst e
              obtain ⟨x1, x2⟩ := lo_k hl y F (fun q => by have := hAF _ q; omega) (fun j _ => by rw [e48]) (by rw [e49]) d2 kb
              obtain ⟨x3, x4, x5⟩ := lo_e hl y F (fun x hx => by have := hAF x hx; omega) (fun x hx => by have := hBF x hx; omega) (fun i j _ _ => by rw [e50]) (fun i _ => by rw [e51]) a3 er fu
              have LF := (ly_lg y2 hl).1
              have fb : gI S3 (z + 6 + 10 * l') = gI S2 (z + 6 + 10 * l') := fr_I F2 LF (by (try unfold lq_) <;> (try unfold pq_) <;> (try unfold cq_) <;> (simp only [List.mem_cons, List.not_mem_nil, or_false, false_or, not_false_eq_true, List.cons_append, List.nil_append]) <;> omega)
              have hH' : ∀ j, j < 80 → hf_ S3 z l' H j = s_hb t (lN N) (s_rt (lf_ S (z + 45) l') 0 N) (s_sl (kb_ S (z + 45) l') (s_hd t (lN N) (s_rt (lf_ S (z + 45) l') 0 N))) j := fun j hj => by
                have := r9 (80 * (40 * l' + H) + j)
                unfold ou_ at this
                rw [if_pos (by omega), show 80 * (40 * l' + H) + j - 80 * (40 * l' + H) = j by omega] at this
                exact this
              refine ⟨N, N, H + 1, kn, ⟨by rw [fb, o1' 4 (by decide) (by decide)]; exact a1, by rw [e52]; exact a2, x3⟩, ⟨by rw [fb]; exact p6', by rw [r8', if_pos rfl], Nat.le_refl _⟩, ⟨by rw [fb]; exact p8', by rw [r11', if_pos rfl], by omega⟩, ⟨by rw [fb, o1' 2 (by decide) (by decide)]; exact d1, x1⟩, x2, x4, x5, fun i hi => ?_, fun _ => ?_⟩
              · by_cases ei : i = H
                · subst ei
                  refine ⟨fun j hj => by rw [hH' j hj]; exact bt_hb _ _ _ _ _, rr, ?_, rw_c (rw_fr rw1' F2 (fun x hx => by (try unfold lq_ at hx) <;> (try unfold pq_ at hx) <;> (try unfold cq_ at hx) <;> (simp only [List.mem_cons, List.not_mem_nil, or_false, false_or, List.cons_append, List.nil_append] at hx) <;> (try simp only [loA, loB, tpA, ooA, msA, vwA, vwB, lyB, scA]) <;> omega) (by simp)) fun j hj => by rw [hH' j hj]⟩
                  rw [fr_R F2 (lg_k (ly_lg y2 hl) 7 14 40) (by simp), r1', va_up_s]
                · obtain ⟨q1, r, q3, q4⟩ := hd i (by omega)
                  have hhf : ∀ j, j < 80 → hf_ S3 z l' i j = hf_ S z l' i j := fun j hj => g54 l' i j hl (by omega) hj (Or.inr (by omega))
                  refine ⟨fun j hj => by rw [hhf j hj]; exact q1 j hj, r, ?_, rw_fr (rw_c q4 fun j hj => by rw [hhf j hj]) F (fun x hx => by have := hAF x hx; omega) (fun x hx => by have := hBF x hx; omega)⟩
                  rw [fr_R F2 (lg_k (ly_lg y2 hl) 7 14 40) (by simp), r1', va_up_n _ _ _ ei]; exact q3
              · rw [r10', if_pos rfl, show H + 1 - 1 = H by omega]
                refine (lg_lb (fun j hj => ?_)).symm
                rw [Nat.zero_add, hH' j (by omega)]
                unfold s_hb s_hd
                rw [if_pos (by omega), if_pos hj]
            · obtain ⟨N', TS', H', kn', q⟩ := h.2.2.2.2.1 l' hl'
              exact ⟨N', TS', H', kn', lo_ag q hl' y F (fun x hx => by have := hAF x hx; omega) (fun x hx => by have := hBF x hx; unfold loB; omega) ⟨⟨fun j hj => by rw [e48], by rw [e49]⟩, ⟨fun i j h1 h2 => by rw [e50], fun i hi => by rw [e51], by rw [e52], by rw [r8', if_neg e]⟩, fun i j h1 h2 => g54 l' i j hl' h1 h2 (Or.inl e), by rw [r10', if_neg e], by rw [r11', if_neg e]⟩⟩
        · have hH40 : H = 40 := by omega
          rw [if_neg (show ¬ nI H < (40 : Int32) from nI_nlt (b := 40) (by omega) (by omega)), e_bxl, if_neg (by decide), if_neg (by decide), if_pos rfl]
          refine ⟨3, gsZ S (gZ S + 1), 0, gsI (gsZ S (gZ S + 1)) (z + 45) 0 3, rfl, M.1, ?_, m0_s, fun q => absurd q (by decide), in_m0 (in_zz h)⟩
          show f_X8_cut _ _ _ _ = _
          rw [rd (T := gsZ S (gZ S + 1)) M rfl rfl, if_pos t1]
          unfold f_X8_cut_B42
          rw [e_gd (by decide), e_gR (S := gsZ S (gZ S + 1)) M.1, e_bs, sZ_R, md_r M 13 11, e_I (S := gsZ S (gZ S + 1)) (md_k M 11 10 2) (md_n M 11 10 2) hl, e_bs, sZ_I, show gI S (z + 45 + 11) l = nI H from c2, if_pos (show nI H = (40 : Int32) from by rw [hH40]; rfl)]
          exact thr 3 (by decide)
      · rw [if_neg t1, e_bxl, if_neg (by decide), if_pos rfl]
        refine ⟨2, gsZ S (gZ S + 1), 0, gsI (gsZ S (gZ S + 1)) (z + 45) 0 2, rfl, M.1, ?_, m0_s, fun q => absurd q (by decide), in_m0 (in_zz h)⟩
        show f_X8_cut _ _ _ _ = _
        rw [rd (T := gsZ S (gZ S + 1)) M rfl rfl, if_neg t1]
        unfold f_X8_cut_B38
        rw [e_gd (by decide)]
        exact thr 2 (by decide)
