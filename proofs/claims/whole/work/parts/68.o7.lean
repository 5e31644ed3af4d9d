/-! parts of a log's relation; use; key -/
theorem s_kb_c {key key' : Nat → Int32} {n i : Nat} (h : ∀ j, j < n → key j = key' j) : s_kb key n i = s_kb key' n i := by
  unfold s_kb
  by_cases c : n ≤ 64
  · rw [if_pos c, if_pos c]
    by_cases c2 : i < n
    · rw [if_pos c2, if_pos c2, h i c2]
    · rw [if_neg c2, if_neg c2]
  · rw [if_neg c, if_neg c]
    by_cases c2 : i < 32
    · rw [if_pos c2, if_pos c2, d_by_c (fun i hi => s_dg_c h hi) c2]
    · rw [if_neg c2, if_neg c2]
theorem s_lf_c {E E' : Nat → Int32} {k : Nat} (h : ∀ j, j < k → E j = E' j) {q : Nat} (hq : q < 8) : s_lf E k q = s_lf E' k q := by
  refine s_dg_c (fun j hj => ?_) hq
  unfold s_lm
  by_cases c : j = 0
  · rw [if_pos c, if_pos c]
  · rw [if_neg c, if_neg c, h _ (by omega)]
theorem lo_k {z l kn : Nat} {A B : List Nat} {S S' : gS} (hl : l < 2) (hy : ly_ z S) (F : fr_S A B S S') (h4 : z + 6 + 10 * l + 4 ∉ A) (g3 : ∀ j, j < 100 → gI S' (z + 48) (100 * l + j) = gI S (z + 48) (100 * l + j)) (g4 : gI S' (z + 49) l = gI S (z + 49) l) (k1 : ky_I S (z + 45) l kn) (k2 : ∀ j, j < 64 → gI S (z + 6 + 10 * l + 4) j = sb_ (kb_ S (z + 45) l j)) : ky_I S' (z + 45) l kn ∧ ∀ j, j < 64 → gI S' (z + 6 + 10 * l + 4) j = sb_ (kb_ S' (z + 45) l j) := by
  obtain ⟨q1, q2, q3⟩ := k1
  refine ⟨⟨q1, g4.trans q2, fun j hj => ?_⟩, fun j hj => ?_⟩
  · rw [show gI S' (z + 45 + 3) (100 * l + j) = gI S (z + 45 + 3) (100 * l + j) from g3 j (by omega)]; exact q3 j hj
  · rw [fr_I F (lg_k (ly_lg hy hl) 4 9 64) h4, k2 j hj]
    unfold kb_
    rw [show gI S' (z + 45 + 4) l = gI S (z + 45 + 4) l from g4, q2, nI_clamp (by omega), s_kb_c (fun j hj => (g3 j (by omega)).symm)]
theorem lf_ag {z l N : Nat} {S S' : gS} (hE : en_I S (z + 45) l N) (g5 : ∀ i j, i < 200 → j < 120 → gI S' (z + 50) (120 * (200 * l + i) + j) = gI S (z + 50) (120 * (200 * l + i) + j)) (g6 : ∀ i, i < 200 → gI S' (z + 51) (200 * l + i) = gI S (z + 51) (200 * l + i)) {i : Nat} (hi : i < N) {q : Nat} (hq : q < 8) : lf_ S (z + 45) l i q = lf_ S' (z + 45) l i q := by
  obtain ⟨k, k1, k2, k3⟩ := hE.2 i hi
  have := hE.1
  unfold lf_
  rw [show gI S' (z + 45 + 6) (200 * l + i) = gI S (z + 45 + 6) (200 * l + i) from g6 i (by omega), k2, nI_clamp (by omega)]
  exact s_lf_c (fun j hj => (g5 i j (by omega) (by omega)).symm) hq
theorem lo_e {z l N : Nat} {A B : List Nat} {S S' : gS} (hl : l < 2) (hy : ly_ z S) (F : fr_S A B S S') (hA : ∀ x ∈ A, x < z + 66) (hB : ∀ x ∈ B, x < z + 66 ∧ x ≠ z + 6 + 10 * l + 5 ∧ x ≠ z + 6 + 10 * l + 6) (g5 : ∀ i j, i < 200 → j < 120 → gI S' (z + 50) (120 * (200 * l + i) + j) = gI S (z + 50) (120 * (200 * l + i) + j)) (g6 : ∀ i, i < 200 → gI S' (z + 51) (200 * l + i) = gI S (z + 51) (200 * l + i)) (e1 : en_I S (z + 45) l N) (e2 : er_I (z + 66) S (z + 6 + 10 * l) N (kf_ S z l) (ef_ S z l)) (e3 : fu_I (z + 66) S (z + 6 + 10 * l) (lf_ S (z + 45) l) N) : en_I S' (z + 45) l N ∧ er_I (z + 66) S' (z + 6 + 10 * l) N (kf_ S' z l) (ef_ S' z l) ∧ fu_I (z + 66) S' (z + 6 + 10 * l) (lf_ S' (z + 45) l) N := by
  have hN := e1.1
  have L := ly_lg hy hl
  have hkf : ∀ i, i < N → kf_ S' z l i = kf_ S z l i := fun i hi => by unfold kf_; rw [g6 i (by omega)]
  refine ⟨⟨hN, fun i hi => ?_⟩, fun i hi => ?_, ?_⟩
  · obtain ⟨k, k1, k2, k3⟩ := e1.2 i hi
    exact ⟨k, k1, (g6 i (by omega)).trans k2, fun j hj => by rw [show gI S' (z + 45 + 5) (120 * (200 * l + i) + j) = gI S (z + 45 + 5) (120 * (200 * l + i) + j) from g5 i j (by omega) (by omega)]; exact k3 j hj⟩
  · obtain ⟨q1, q2, r, q3, q4⟩ := e2 i hi
    rw [hkf i hi]
    have hef : ∀ j, j < kf_ S z l i → ef_ S' z l i j = ef_ S z l i j := fun j hj => g5 i j (by omega) (by omega)
    refine ⟨q1, fun j hj => by rw [hef j hj]; exact q2 j hj, r, ?_, rw_fr (rw_c q4 fun j hj => by rw [hef j hj]) F hA (fun x hx => (hB x hx).1)⟩
    rw [fr_R F (lg_k L 5 14 200) (fun q => (hB _ q).2.1 rfl)]; exact q3
  · exact fu_c (N := N) (fu_fr e3 L F hA (fun x hx => (hB x hx).1) (fun q => (hB _ q).2.2 rfl)) (fun k a q => q) (fun i hi q hq => lf_ag e1 g5 g6 hi hq)
theorem lo_h {z l H : Nat} {A B : List Nat} {S S' : gS} (hl : l < 2) (hy : ly_ z S) (F : fr_S A B S S') (hA : ∀ x ∈ A, x < z + 66) (hB : ∀ x ∈ B, x < z + 66 ∧ x ≠ z + 6 + 10 * l + 7) (hH : H ≤ 40) (g9 : ∀ i j, i < 40 → j < 80 → gI S' (z + 54) (80 * (40 * l + i) + j) = gI S (z + 54) (80 * (40 * l + i) + j)) (g10 : gL S' (z + 55) l = gL S (z + 55) l) (e1 : hd_I (z + 66) S (z + 6 + 10 * l) H (hf_ S z l)) (e2 : 0 < H → gL S (z + 55) l = s_lg (hf_ S z l (H - 1)) 0) : hd_I (z + 66) S' (z + 6 + 10 * l) H (hf_ S' z l) ∧ (0 < H → gL S' (z + 55) l = s_lg (hf_ S' z l (H - 1)) 0) := by
  have L := ly_lg hy hl
  have hhf : ∀ i j, i < H → j < 80 → hf_ S' z l i j = hf_ S z l i j := fun i j hi hj => g9 i j (by omega) hj
  refine ⟨fun i hi => ?_, fun h0 => ?_⟩
  · obtain ⟨q1, r, q3, q4⟩ := e1 i hi
    refine ⟨fun j hj => by rw [hhf i j hi hj]; exact q1 j hj, r, ?_, rw_fr (rw_c q4 fun j hj => by rw [hhf i j hi hj]) F hA (fun x hx => (hB x hx).1)⟩
    rw [fr_R F (lg_k L 7 14 40) (fun q => (hB _ q).2 rfl)]; exact q3
  · rw [g10, e2 h0]
    exact lg_c (fun j hj => (hhf (H - 1) (0 + j) (by omega) (by omega)).symm)
def ag_ (z l : Nat) (S S' : gS) : Prop := ((∀ j, j < 100 → gI S' (z + 48) (100 * l + j) = gI S (z + 48) (100 * l + j)) ∧ gI S' (z + 49) l = gI S (z + 49) l) ∧ ((∀ i j, i < 200 → j < 120 → gI S' (z + 50) (120 * (200 * l + i) + j) = gI S (z + 50) (120 * (200 * l + i) + j)) ∧ (∀ i, i < 200 → gI S' (z + 51) (200 * l + i) = gI S (z + 51) (200 * l + i)) ∧ gI S' (z + 52) l = gI S (z + 52) l ∧ gI S' (z + 53) l = gI S (z + 53) l) ∧ (∀ i j, i < 40 → j < 80 → gI S' (z + 54) (80 * (40 * l + i) + j) = gI S (z + 54) (80 * (40 * l + i) + j)) ∧ gL S' (z + 55) l = gL S (z + 55) l ∧ gI S' (z + 56) l = gI S (z + 56) l
theorem lo_ag {z l N TS H kn : Nat} {A B : List Nat} {S S' : gS} (h : lo_ z S l N TS H kn) (hl : l < 2) (hy : ly_ z S) (F : fr_S A B S S') (hA : ∀ x ∈ A, x < z + 66 ∧ x ≠ z + 6 + 10 * l ∧ x ≠ z + 6 + 10 * l + 4) (hB : ∀ x ∈ B, loB z l x) (ag : ag_ z l S S') : lo_ z S' l N TS H kn := by
  obtain ⟨⟨a1, a2, a3⟩, ⟨b1, b2, b3⟩, ⟨c1, c2, c3⟩, ⟨d1, d2⟩, k1, en, fu, hd, tm⟩ := h
  obtain ⟨⟨g3, g4⟩, ⟨g5, g6, g7, g8⟩, g9, g10, g11⟩ := ag
  have eb : gI S' (z + 6 + 10 * l) = gI S (z + 6 + 10 * l) := fr_I F (ly_lg hy hl).1 (fun q => (hA _ q).2.1 rfl)
  have hA6 : ∀ x ∈ A, x < z + 66 := fun x hx => (hA x hx).1
  obtain ⟨x1, x2⟩ := lo_k hl hy F (fun q => (hA _ q).2.2 rfl) g3 g4 d2 k1
  obtain ⟨x3, x4, x5⟩ := lo_e hl hy F hA6 (fun x hx => by have := hB x hx; unfold loB at this; omega) g5 g6 a3 en fu
  obtain ⟨x6, x7⟩ := lo_h hl hy F hA6 (fun x hx => by have := hB x hx; unfold loB at this; omega) c3 g9 g10 hd tm
  exact ⟨⟨by rw [eb]; exact a1, g7.trans a2, x3⟩, ⟨by rw [eb]; exact b1, g8.trans b2, b3⟩, ⟨by rw [eb]; exact c1, g11.trans c2, c3⟩, ⟨by rw [eb]; exact d1, x1⟩, x2, x4, x5, x6, x7⟩
/-! use -/
theorem m_use {m n : Nat} {T : gS} (h : gK T m = 8) (h2 : gI T m 2 = nI n) : f_X8_use T m = some (nI n, gsI T m 2 (nI 0)) := by
  unfold f_X8_use
  rw [e_gI h, e_bs, h2, e_pI h, e_bs]
  rfl
def u1A (z x : Nat) : Prop := (scA z x ∧ x ≠ z + 45) ∨ x = z + 1
theorem in_us {z : Nat} {A1 A2 : List Nat} {S S1 S2 : gS} (h : in_ z S) (F1 : fr_S A1 [] S S1) (hA1 : ∀ x ∈ A1, u1A z x) (c1 : gI S1 (z + 1) 1 = nI 0) (F2 : fr_S A2 [] S1 S2) (hA2 : ∀ x ∈ A2, scA z x) (k2 : gI S2 (z + 45) 2 = nI 0) (k4 : gI S2 (z + 45) 4 = gI S1 (z + 45) 4) (k17 : gI S2 (z + 45) 17 = nI 0) : in_ z S2 := by
  have y := h.1
  have F : fr_S (A1 ++ A2) [] S S2 := fr_ap F1 F2
  have y1 := ly_fr y F1 (by simp)
  have hA : ∀ x ∈ A1 ++ A2, scA z x ∨ x = z + 1 := fun x hx => by
    rcases List.mem_append.mp hx with q | q
    · rcases hA1 x q with c | c
      · exact Or.inl c.1
      · exact Or.inr c
    · exact Or.inl (hA2 x q)
  have m1 : gI S1 (z + 45) = gI S (z + 45) := fr_I F1 (ly_md y).1 (fun q => by have := hA1 _ q; unfold u1A scA at this; omega)
  refine in_mk h F (fun x hx => by have := hA x hx; unfold scA at this; unfold otA scA; omega) (tp_0 h.2.1 y F (fun x hx => by have := hA x hx; unfold scA at this; omega) ?_ k2) (oo_fr h.2.2.1 y F (fun x hx => by have := hA x hx; unfold scA at this; unfold ooA; omega) (by rw [k4, m1])) k17
  rw [fr_I F2 y1.2.1.1 (fun q => by have := hA2 _ q; unfold scA at this; omega)]; exact c1
theorem su_ {z : Nat} {S : gS} (h : in_ z S) : ∃ n, n ≤ 2200 ∧ gI S (z + 45) 2 = nI n ∧ rb_ S (z + 2) 2200 (gI S (z + 46)) ∧ f_X5_useUp S (z + 1) = some (nI n, gsI S (z + 1) 1 (nI 0)) ∧ fr_S [z + 1] [] S (gsI S (z + 1) 1 (nI 0)) ∧ ly_ z (gsI S (z + 1) 1 (nI 0)) ∧ gI (gsI S (z + 1) 1 (nI 0)) (z + 1) 1 = nI 0 := by
  obtain ⟨n, n1, n2, n3, n4⟩ := h.2.1
  have F : fr_S [z + 1] [] S (gsI S (z + 1) 1 (nI 0)) := fr_i (by simp)
  exact ⟨n, n1, n3, n4, p_use h.1.2.1 n2, F, ly_fr h.1 F (by simp), by rw [sI_s, va_up_s]⟩
/-- a call that used the tape and threw -/
theorem in_thr {z : Nat} {A : List Nat} {S S1 : gS} {w : Int32} (h : in_ z S) (F : fr_S A [] S S1) (hA : ∀ x ∈ A, u1A z x) (c1 : gI S1 (z + 1) 1 = nI 0) : in_ z (gsI (gsI (gsZ S1 (gZ S1 + 1)) (z + 45) 2 (nI 0)) (z + 45) 0 w) := by
  have m1 : gI S1 (z + 45) = gI S (z + 45) := fr_I F (ly_md h.1).1 (fun q => by have := hA _ q; unfold u1A scA at this; omega)
  refine in_us (A1 := A) (A2 := [z + 45]) h (S1 := gsZ S1 (gZ S1 + 1)) (fr_tr F fr_z) hA c1 (fr_tr (fr_i (by simp)) (fr_i (by simp))) (fun x hx => by simp only [List.mem_cons, List.not_mem_nil, or_false] at hx; unfold scA; omega) ?_ ?_ ?_
  · rw [sI_s, va_up_n _ _ _ (by decide), sI_s, va_up_s]
  · rw [sI_s, va_up_n _ _ _ (by decide), sI_s, va_up_n _ _ _ (by decide)]
  · rw [sI_s, va_up_n _ _ _ (by decide), sI_s, va_up_n _ _ _ (by decide), sZ_I, m1]; exact h.2.2.2.1.1
theorem uq_key {z : Nat} {S : gS} {a : Int32} (h : in_ z S) : Tq z (f_L_key S (some z) a (some (z + 65))) (fun T => f_X8_key T (z + 45) a) := by
  have y := h.1
  have M := ly_md y
  obtain ⟨n, n1, n3, n4, eu, Fu, yu, cu⟩ := su_ h
  have hu1 : ∀ x ∈ [z + 1], u1A z x := fun x hx => by simp only [List.mem_cons, List.not_mem_nil, or_false] at hx; unfold u1A; omega
  have mu : gI (gsI S (z + 1) 1 (nI 0)) (z + 45) = gI S (z + 45) := sI_n (by omega)
  unfold f_L_key f_X7_key
  rw [e_dc y.1.1, e_gR y.1.1, e_bs, y.1.2.1, e_dc y.2.1.1, eu, e_bi, e_dc yu.1.1]
  generalize hSu : gsI S (z + 1) 1 (nI 0) = Su at *
  have Mu := ly_md yu
  have thr : ∀ w : Int32, ¬ w ≤ 0 → ∀ F : gS → Option (Int32 × gS), f_X8_key_B41 (gsI (gsZ Su (gZ Su + 1)) (z + 45) 2 (nI 0)) (z + 45) a (nI n) w (some (z + 45)) = some (0, gsI (gsI (gsZ Su (gZ Su + 1)) (z + 45) 2 (nI 0)) (z + 45) 0 w) := by
    intro w hw F
    unfold f_X8_key_B41
    rw [m_th (T := gsI (gsZ Su (gZ Su + 1)) (z + 45) 2 (nI 0)) Mu.1, if_neg hw]
  have us : f_X8_use (gsZ Su (gZ Su + 1)) (z + 45) = some (nI n, gsI (gsZ Su (gZ Su + 1)) (z + 45) 2 (nI 0)) := m_use (T := gsZ Su (gZ Su + 1)) Mu.1 (by rw [sZ_I, mu]; exact n3)
  rcases lg_cs a with ca | ⟨l, hl, rfl⟩
  · rw [lof_bad ca, e_bxl, e_bxl, if_pos rfl]
    refine ⟨1, gsZ Su (gZ Su + 1), 0, _, rfl, Mu.1, ?_, m0_s, fun q => absurd q (by decide), in_thr (w := 1) h Fu hu1 cu⟩
    show f_X8_key _ _ _ = _
    unfold f_X8_key
    rw [e_dc (S := gsZ Su (gZ Su + 1)) Mu.1, us, e_bi, isl_bad ca, e_bi, if_pos rfl]
    exact thr 1 (by decide) (fun _ => none)
  · rw [lof_in yu hl, e_bxr]
    obtain ⟨N, TS, H, kn, hlo⟩ := h.2.2.2.2.1 l hl
    have hlo0 := hlo
    obtain ⟨⟨a1, a2, a3⟩, ⟨b1, b2, b3⟩, ⟨c1, c2, c3⟩, ⟨d1, d2⟩, kb, er, fu, hd, tm⟩ := hlo
    have L := ly_lg y hl
    have Lu := ly_lg yu hl
    have rdH : ∀ {T : gS} {A : List Nat}, fr_S A [] S T → (z + 56 ∉ A) → md_L T (z + 45) → ∀ (f : Int32 → Option (Int32 × gS)), ((fgR T 8 13 (some (z + 45))).bind fun x15 => (fI T 10 x15 (nI l)).bind f) = f (nI H) := by
      intro T A F hA hT f
      rw [e_gR hT.1, e_bs, md_r hT 13 11, e_I (md_k hT 11 10 2) (md_n hT 11 10 2) hl, e_bs, show gI T (z + 45 + 11) = gI S (z + 56) from fr_I F (ly_mk y 11 10 2) hA, c2]
    by_cases cn : n ≤ 100
    · have c1u : gI Su (z + 6 + 10 * l) 8 = nI H := by rw [fr_I Fu L.1 (by (try unfold lq_) <;> (try unfold pq_) <;> (try unfold cq_) <;> (simp only [List.mem_cons, List.not_mem_nil, or_false, false_or, not_false_eq_true, List.cons_append, List.nil_append]) <;> omega)]; exact c1
      rw [if_pos (show nI n ≤ (100 : Int32) from nI_le (b := 100) cn (by decide)), e_gI Lu.1, e_bs, c1u]
      by_cases cH : H = 0
      · subst cH
        rw [if_pos (by decide), e_gR yu.1.1, e_bs, yu.1.2.1, e_gR yu.2.1.1, e_bs, yu.2.1.2.1, e_dc Lu.1]
        obtain ⟨S1, e1, f1, k1, m1, o1⟩ := p_takeKey (r := z + 2) (n := n) (key := gI S (z + 46)) Lu yu.2.1.2.2.1 cn (by rw [yu.2.1.2.2.2]; decide) (by rw [yu.2.1.2.2.2]; decide) (by omega) (fun j hj => by
          rw [fr_I Fu y.2.1.2.2.1 (by (try unfold lq_) <;> (try unfold pq_) <;> (try unfold cq_) <;> (simp only [List.mem_cons, List.not_mem_nil, or_false, false_or, not_false_eq_true, List.cons_append, List.nil_append]) <;> omega)]; exact n4 j (by omega))
        have y1 := ly_fr yu f1 (by simp)
        rw [e1, e_bs, e_bxr, aL_o y1, e_bs]
        have F1 : fr_S [z + 1, z + 6 + 10 * l, z + 6 + 10 * l + 1, z + 6 + 10 * l + 2, z + 6 + 10 * l + 3, z + 6 + 10 * l + 4, z + 65] [] S (gsL S1 (z + 65) 0 (nI n).toInt64) := fr_tr (fr_mo Fu (by simp) (by simp)) (fr_tr (fr_mo f1 (by simp) (by simp)) (fr_l (by simp)))
        have k1' : ∀ j, j < 64 → gI (gsL S1 (z + 65) 0 (nI n).toInt64) (z + 6 + 10 * l + 4) j = sb_ (s_kb (gI S (z + 46)) n j) := k1
        have m1' : gI (gsL S1 (z + 65) 0 (nI n).toInt64) (z + 6 + 10 * l) 2 = nI n := m1
        have o1' : ∀ k, k ≠ 2 → gI (gsL S1 (z + 65) 0 (nI n).toInt64) (z + 6 + 10 * l) k = gI S (z + 6 + 10 * l) k := fun k hk => by
          have := o1 k hk
          rw [fr_I Fu L.1 (by (try unfold lq_) <;> (try unfold pq_) <;> (try unfold cq_) <;> (simp only [List.mem_cons, List.not_mem_nil, or_false, false_or, not_false_eq_true, List.cons_append, List.nil_append]) <;> omega)] at this
          exact this
        have cu' : gI (gsL S1 (z + 65) 0 (nI n).toInt64) (z + 1) 1 = nI 0 := by rw [sL_I, fr_I f1 yu.2.1.1 (by (try unfold lq_) <;> (try unfold pq_) <;> (try unfold cq_) <;> (simp only [List.mem_cons, List.not_mem_nil, or_false, false_or, not_false_eq_true, List.cons_append, List.nil_append]) <;> omega)]; exact cu
        have g1' : gL (gsL S1 (z + 65) 0 (nI n).toInt64) (z + 65) 0 = (nI n).toInt64 := by rw [sL_s, va_up_s]
        generalize gsL S1 (z + 65) 0 (nI n).toInt64 = S2 at *
        have y2 := ly_fr y F1 (by simp)
        have M2 := ly_md y2
        have nA : ∀ o, o < 20 → z + 45 + o ∉ [z + 1, z + 6 + 10 * l, z + 6 + 10 * l + 1, z + 6 + 10 * l + 2, z + 6 + 10 * l + 3, z + 6 + 10 * l + 4, z + 65] := fun o ho => (by (try unfold lq_) <;> (try unfold pq_) <;> (try unfold cq_) <;> (simp only [List.mem_cons, List.not_mem_nil, or_false, false_or, not_false_eq_true, List.cons_append, List.nil_append]) <;> omega)
        have t : ∀ o k n, (o, k, n) ∈ md_A → k < 16 → o < 20 → gI S2 (z + 45 + o) = gI S (z + 45 + o) := fun o k n hq hk h2 => fr_I F1 (ly_mk y o k n hq) (nA o h2) hk
        have m2 : gI S2 (z + 45) = gI S (z + 45) := fr_I F1 M.1 (nA 0 (by decide))
        have us2 : f_X8_use S2 (z + 45) = some (nI n, gsI S2 (z + 45) 2 (nI 0)) := m_use M2.1 (by rw [m2]; exact n3)
        have M3 : md_L (gsI (gsI S2 (z + 45) 2 (nI 0)) (z + 45) 0 0) (z + 45) := M2
        obtain ⟨fu', hf⟩ := g_fu n
        have e3 := cp_key (m := z + 45) (c := l) (n := n) (f := gI S (z + 46)) (g := gI S (z + 48)) ⟨cn, hl⟩ fu' n 0 (by omega) (gsI (gsI S2 (z + 45) 2 (nI 0)) (z + 45) 0 0) M3 (fun j => by
          rw [sI_n (by omega), sI_n (by omega), t 3 10 200 (by decide) (by decide) (by decide)]
          unfold ou_; rw [if_neg (by omega)]) (fun q hq => by rw [sI_n (by omega), sI_n (by omega), t 1 10 2220 (by decide) (by decide) (by decide)])
        have M4 : md_L (gsA (gsI (gsI S2 (z + 45) 2 (nI 0)) (z + 45) 0 0) (z + 45 + 3) (ou_ (gI S (z + 48)) (100 * l) n (gI S (z + 46)))) (z + 45) := M2
        have F2 : fr_S [z + 45, z + 48, z + 49] [] S2 (gsI (gsA (gsI (gsI S2 (z + 45) 2 (nI 0)) (z + 45) 0 0) (z + 45 + 3) (ou_ (gI S (z + 48)) (100 * l) n (gI S (z + 46)))) (z + 45 + 4) l (nI n)) := fr_tr (fr_tr (fr_tr (fr_i (by simp)) (fr_i (by simp))) (fr_A (by simp))) (fr_i (by simp))
        have e4 : f_X8_key S2 (z + 45) (nI l) = some (nI n, gsI (gsA (gsI (gsI S2 (z + 45) 2 (nI 0)) (z + 45) 0 0) (z + 45 + 3) (ou_ (gI S (z + 48)) (100 * l) n (gI S (z + 46)))) (z + 45 + 4) l (nI n)) := by
          unfold f_X8_key
          rw [e_dc M2.1, us2, e_bi, isl_in hl, e_bi, if_neg (by decide), if_pos (show nI n ≤ (100 : Int32) from nI_le (b := 100) cn (by decide)), rdH (fr_tr (fr_mo F1 (A' := [z + 1, z + 6 + 10 * l, z + 6 + 10 * l + 1, z + 6 + 10 * l + 2, z + 6 + 10 * l + 3, z + 6 + 10 * l + 4, z + 65, z + 45]) (fun x hx => by (try unfold lq_ at hx) <;> (try unfold pq_ at hx) <;> (try unfold cq_ at hx) <;> (try unfold lq_) <;> (try unfold pq_) <;> (try unfold cq_) <;> (simp only [List.mem_cons, List.not_mem_nil, or_false, false_or, List.cons_append, List.nil_append] at hx ⊢) <;> omega) (by simp)) (fr_i (by simp))) (by (try unfold lq_) <;> (try unfold pq_) <;> (try unfold cq_) <;> (simp only [List.mem_cons, List.not_mem_nil, or_false, false_or, not_false_eq_true, List.cons_append, List.nil_append]) <;> omega) M2, if_pos (by decide)]
          unfold f_X8_key_B41
          rw [m_th (T := gsI S2 (z + 45) 2 (nI 0)) M2.1, if_pos (by decide), hf, show n + fu' + 1 = fu' + n + 1 by omega]
          refine Eq.trans e3 ?_
          rw [f_X8_key_L55, if_pos (nI_le (Nat.le_refl _) (by omega)), e_gR M4.1, e_bs, md_r M4 6 4, e_aI (md_k M4 4 10 2) (md_n M4 4 10 2) hl, e_bs]
        have r48 : ∀ j, gI (gsI (gsA (gsI (gsI S2 (z + 45) 2 (nI 0)) (z + 45) 0 0) (z + 45 + 3) (ou_ (gI S (z + 48)) (100 * l) n (gI S (z + 46)))) (z + 45 + 4) l (nI n)) (z + 48) j = ou_ (gI S (z + 48)) (100 * l) n (gI S (z + 46)) j := fun j => by
          rw [sI_n (by omega)]
          show gI (gsA _ (z + 45 + 3) _) (z + 45 + 3) j = _
          rw [sA_s]
        have r49 : ∀ j, gI (gsI (gsA (gsI (gsI S2 (z + 45) 2 (nI 0)) (z + 45) 0 0) (z + 45 + 3) (ou_ (gI S (z + 48)) (100 * l) n (gI S (z + 46)))) (z + 45 + 4) l (nI n)) (z + 49) j = if j = l then nI n else gI S (z + 49) j := fun j => by
          show gI (gsI _ (z + 45 + 4) l (nI n)) (z + 45 + 4) j = _
          rw [sI_s, va_up_e, sA_n (by omega), sI_n (by omega), sI_n (by omega), t 4 10 2 (by decide) (by decide) (by decide)]
        have mk : ∀ k, gI (gsI (gsA (gsI (gsI S2 (z + 45) 2 (nI 0)) (z + 45) 0 0) (z + 45 + 3) (ou_ (gI S (z + 48)) (100 * l) n (gI S (z + 46)))) (z + 45 + 4) l (nI n)) (z + 45) k = if k = 0 then 0 else if k = 2 then nI 0 else gI S (z + 45) k := fun k => by
          rw [sI_n (by omega), sA_n (by omega), sI_s, va_up_e, sI_s, va_up_e, m2]
        generalize gsI (gsA (gsI (gsI S2 (z + 45) 2 (nI 0)) (z + 45) 0 0) (z + 45 + 3) (ou_ (gI S (z + 48)) (100 * l) n (gI S (z + 46)))) (z + 45 + 4) l (nI n) = S3 at *
        have F : fr_S [z + 1, z + 6 + 10 * l, z + 6 + 10 * l + 1, z + 6 + 10 * l + 2, z + 6 + 10 * l + 3, z + 6 + 10 * l + 4, z + 65, z + 45, z + 48, z + 49] [] S S3 := fr_tr (fr_mo F1 (by simp) (by simp)) (fr_mo F2 (by simp) (by simp))
        refine ⟨0, S2, nI n, S3, rfl, M2.1, e4, by rw [mk 0]; rfl, fun _ => by rw [fr_L F2 y2.2.2.2.2.2.2.2.2.2.1.1 (by (try unfold lq_) <;> (try unfold pq_) <;> (try unfold cq_) <;> (simp only [List.mem_cons, List.not_mem_nil, or_false, false_or, not_false_eq_true, List.cons_append, List.nil_append]) <;> omega), g1'], ly_fr y F (by simp), tp_0 h.2.1 y F (fun x hx => by (try unfold lq_ at hx) <;> (try unfold pq_ at hx) <;> (try unfold cq_ at hx) <;> (simp only [List.mem_cons, List.not_mem_nil, or_false, false_or, List.cons_append, List.nil_append] at hx) <;> (try simp only [loA, loB, tpA, ooA, msA, vwA, vwB, lyB, scA]) <;> omega) ?_ (by rw [mk 2]; rfl), oo_fr h.2.2.1 y F (fun x hx => by (try unfold lq_ at hx) <;> (try unfold pq_ at hx) <;> (try unfold cq_ at hx) <;> (simp only [List.mem_cons, List.not_mem_nil, or_false, false_or, List.cons_append, List.nil_append] at hx) <;> (try simp only [loA, loB, tpA, ooA, msA, vwA, vwB, lyB, scA]) <;> omega) (by rw [mk 4]; rfl), ms_fr h.2.2.2.1 y F (fun x hx => by (try unfold lq_ at hx) <;> (try unfold pq_ at hx) <;> (try unfold cq_ at hx) <;> (simp only [List.mem_cons, List.not_mem_nil, or_false, false_or, List.cons_append, List.nil_append] at hx) <;> (try simp only [loA, loB, tpA, ooA, msA, vwA, vwB, lyB, scA]) <;> omega) (by rw [mk 17]; rfl), fun l' hl' => ?_, vw_fr h.2.2.2.2.2 y F (fun x hx => by (try unfold lq_ at hx) <;> (try unfold pq_ at hx) <;> (try unfold cq_ at hx) <;> (simp only [List.mem_cons, List.not_mem_nil, or_false, false_or, List.cons_append, List.nil_append] at hx) <;> (try simp only [loA, loB, tpA, ooA, msA, vwA, vwB, lyB, scA]) <;> omega) (fun x hx => by (try unfold lq_ at hx) <;> (try unfold pq_ at hx) <;> (try unfold cq_ at hx) <;> (simp only [List.mem_cons, List.not_mem_nil, or_false, false_or, List.cons_append, List.nil_append] at hx) <;> (try simp only [loA, loB, tpA, ooA, msA, vwA, vwB, lyB, scA]) <;> omega)⟩
        · rw [fr_I F2 y2.2.1.1 (by (try unfold lq_) <;> (try unfold pq_) <;> (try unfold cq_) <;> (simp only [List.mem_cons, List.not_mem_nil, or_false, false_or, not_false_eq_true, List.cons_append, List.nil_append]) <;> omega)]; exact cu'
        · by_cases e : l' = l
          · subst e
            have ob : ∀ k, k ≠ 2 → gI S3 (z + 6 + 10 * l') k = gI S (z + 6 + 10 * l') k := fun k hk => by rw [fr_I F2 (ly_lg y2 hl).1 (by (try unfold lq_) <;> (try unfold pq_) <;> (try unfold cq_) <;> (simp only [List.mem_cons, List.not_mem_nil, or_false, false_or, not_false_eq_true, List.cons_append, List.nil_append]) <;> omega)]; exact o1' k hk
            have g : ∀ o k n, (o, k, n) ∈ md_A → k < 16 → 5 ≤ o → o < 20 → gI S3 (z + 45 + o) = gI S (z + 45 + o) := fun o k n hq hk h1 h2 => by rw [fr_I F2 (ly_mk y2 o k n hq) (by (try unfold lq_) <;> (try unfold pq_) <;> (try unfold cq_) <;> (simp only [List.mem_cons, List.not_mem_nil, or_false, false_or, not_false_eq_true, List.cons_append, List.nil_append]) <;> omega) hk]; exact t o k n hq hk h2
            have gl : gL S3 (z + 55) = gL S (z + 55) := fr_L F (ly_mk y 10 11 2) (by (try unfold lq_) <;> (try unfold pq_) <;> (try unfold cq_) <;> (simp only [List.mem_cons, List.not_mem_nil, or_false, false_or, not_false_eq_true, List.cons_append, List.nil_append]) <;> omega)
            obtain ⟨x3, x4, x5⟩ := lo_e hl y F (fun x hx => by (try unfold lq_ at hx) <;> (try unfold pq_ at hx) <;> (try unfold cq_ at hx) <;> (simp only [List.mem_cons, List.not_mem_nil, or_false, false_or, List.cons_append, List.nil_append] at hx) <;> (try simp only [loA, loB, tpA, ooA, msA, vwA, vwB, lyB, scA]) <;> omega) (fun x hx => by (try unfold lq_ at hx) <;> (try unfold pq_ at hx) <;> (try unfold cq_ at hx) <;> (simp only [List.mem_cons, List.not_mem_nil, or_false, false_or, List.cons_append, List.nil_append] at hx) <;> (try simp only [loA, loB, tpA, ooA, msA, vwA, vwB, lyB, scA]) <;> omega) (fun i j _ _ => by rw [show gI S3 (z + 50) = gI S (z + 50) from g 5 10 48000 (by decide) (by decide) (by decide) (by decide)]) (fun i _ => by rw [show gI S3 (z + 51) = gI S (z + 51) from g 6 10 400 (by decide) (by decide) (by decide) (by decide)]) a3 er fu
            obtain ⟨x6, x7⟩ := lo_h hl y F (fun x hx => by (try unfold lq_ at hx) <;> (try unfold pq_ at hx) <;> (try unfold cq_ at hx) <;> (simp only [List.mem_cons, List.not_mem_nil, or_false, false_or, List.cons_append, List.nil_append] at hx) <;> (try simp only [loA, loB, tpA, ooA, msA, vwA, vwB, lyB, scA]) <;> omega) (fun x hx => by (try unfold lq_ at hx) <;> (try unfold pq_ at hx) <;> (try unfold cq_ at hx) <;> (simp only [List.mem_cons, List.not_mem_nil, or_false, false_or, List.cons_append, List.nil_append] at hx) <;> (try simp only [loA, loB, tpA, ooA, msA, vwA, vwB, lyB, scA]) <;> omega) c3 (fun i j _ _ => by rw [show gI S3 (z + 54) = gI S (z + 54) from g 9 10 6400 (by decide) (by decide) (by decide) (by decide)]) (by rw [gl]) hd tm
            refine ⟨N, TS, 0, n, ⟨by rw [ob 4 (by decide)]; exact a1, by rw [show gI S3 (z + 52) = gI S (z + 52) from g 7 10 2 (by decide) (by decide) (by decide) (by decide)]; exact a2, x3⟩, ⟨by rw [ob 6 (by decide)]; exact b1, by rw [show gI S3 (z + 53) = gI S (z + 53) from g 8 10 2 (by decide) (by decide) (by decide) (by decide)]; exact b2, b3⟩, ⟨by rw [ob 8 (by decide)]; exact c1, by rw [show gI S3 (z + 56) = gI S (z + 56) from g 11 10 2 (by decide) (by decide) (by decide) (by decide)]; exact c2, c3⟩, ⟨?_, cn, ?_, fun j hj => ?_⟩, fun j hj => ?_, x4, x5, x6, x7⟩
            · rw [fr_I F2 (ly_lg y2 hl).1 (by (try unfold lq_) <;> (try unfold pq_) <;> (try unfold cq_) <;> (simp only [List.mem_cons, List.not_mem_nil, or_false, false_or, not_false_eq_true, List.cons_append, List.nil_append]) <;> omega)]; exact m1'
            · show gI S3 (z + 49) l' = _
              rw [r49, if_pos rfl]
            · show bt_ (gI S3 (z + 48) (100 * l' + j))
              rw [r48]
              unfold ou_
              rw [if_pos (by omega), show 100 * l' + j - 100 * l' = j by omega]
              exact (n4 j (by omega)).2
            · rw [fr_I F2 (lg_k (ly_lg y2 hl) 4 9 64) (by (try unfold lq_) <;> (try unfold pq_) <;> (try unfold cq_) <;> (simp only [List.mem_cons, List.not_mem_nil, or_false, false_or, not_false_eq_true, List.cons_append, List.nil_append]) <;> omega), k1' j hj]
              unfold kb_
              rw [show gI S3 (z + 45 + 4) l' = nI n from by show gI S3 (z + 49) l' = _; rw [r49, if_pos rfl], nI_clamp (by omega)]
              rw [s_kb_c (key' := fun j => gI S3 (z + 45 + 3) (100 * l' + j)) (fun j hj => by
                show _ = gI S3 (z + 48) (100 * l' + j)
                rw [r48]
                unfold ou_
                rw [if_pos (by omega), show 100 * l' + j - 100 * l' = j by omega])]
          · obtain ⟨N', TS', H', kn', q⟩ := h.2.2.2.2.1 l' hl'
            have g : ∀ o k n, (o, k, n) ∈ md_A → k < 16 → 5 ≤ o → o < 20 → gI S3 (z + 45 + o) = gI S (z + 45 + o) := fun o k n hq hk h1 h2 => by rw [fr_I F2 (ly_mk y2 o k n hq) (by (try unfold lq_) <;> (try unfold pq_) <;> (try unfold cq_) <;> (simp only [List.mem_cons, List.not_mem_nil, or_false, false_or, not_false_eq_true, List.cons_append, List.nil_append]) <;> omega) hk]; exact t o k n hq hk h2
            have gl : gL S3 (z + 55) = gL S (z + 55) := fr_L F (ly_mk y 10 11 2) (by (try unfold lq_) <;> (try unfold pq_) <;> (try unfold cq_) <;> (simp only [List.mem_cons, List.not_mem_nil, or_false, false_or, not_false_eq_true, List.cons_append, List.nil_append]) <;> omega)
            refine ⟨N', TS', H', kn', lo_ag q hl' y F (fun x hx => by (try unfold lq_ at hx) <;> (try unfold pq_ at hx) <;> (try unfold cq_ at hx) <;> (simp only [List.mem_cons, List.not_mem_nil, or_false, false_or, List.cons_append, List.nil_append] at hx) <;> (try simp only [loA, loB, tpA, ooA, msA, vwA, vwB, lyB, scA]) <;> omega) (fun x hx => by (try unfold lq_ at hx) <;> (try unfold pq_ at hx) <;> (try unfold cq_ at hx) <;> (simp only [List.mem_cons, List.not_mem_nil, or_false, false_or, List.cons_append, List.nil_append] at hx) <;> (try simp only [loA, loB, tpA, ooA, msA, vwA, vwB, lyB, scA]) <;> omega) ⟨⟨fun j hj => ?_, ?_⟩, ⟨fun i j _ _ => by rw [show gI S3 (z + 50) = gI S (z + 50) from g 5 10 48000 (by decide) (by decide) (by decide) (by decide)], fun i _ => by rw [show gI S3 (z + 51) = gI S (z + 51) from g 6 10 400 (by decide) (by decide) (by decide) (by decide)], by rw [show gI S3 (z + 52) = gI S (z + 52) from g 7 10 2 (by decide) (by decide) (by decide) (by decide)], by rw [show gI S3 (z + 53) = gI S (z + 53) from g 8 10 2 (by decide) (by decide) (by decide) (by decide)]⟩, fun i j _ _ => by rw [show gI S3 (z + 54) = gI S (z + 54) from g 9 10 6400 (by decide) (by decide) (by decide) (by decide)], by rw [gl], by rw [show gI S3 (z + 56) = gI S (z + 56) from g 11 10 2 (by decide) (by decide) (by decide) (by decide)]⟩⟩
            · rw [r48]
              unfold ou_
              rw [if_neg (by omega)]
            · rw [r49, if_neg e]
      · rw [if_neg (show ¬ nI H ≤ (0 : Int32) from nI_nle (by omega) (by omega)), e_bxl, if_neg (by decide), if_neg (by decide), if_pos rfl]
        refine ⟨3, gsZ Su (gZ Su + 1), 0, _, rfl, Mu.1, ?_, m0_s, fun q => absurd q (by decide), in_thr (w := 3) h Fu hu1 cu⟩
        show f_X8_key _ _ _ = _
        unfold f_X8_key
        rw [e_dc (S := gsZ Su (gZ Su + 1)) Mu.1, us, e_bi, isl_in hl, e_bi, if_neg (by decide), if_pos (show nI n ≤ (100 : Int32) from nI_le (b := 100) cn (by decide)), rdH (T := gsI (gsZ Su (gZ Su + 1)) (z + 45) 2 (nI 0)) (A := [z + 1, z + 45]) (fr_tr (fr_mo Fu (by simp) (by simp)) (fr_tr fr_z (fr_i (by simp)))) (by (try unfold lq_) <;> (try unfold pq_) <;> (try unfold cq_) <;> (simp only [List.mem_cons, List.not_mem_nil, or_false, false_or, not_false_eq_true, List.cons_append, List.nil_append]) <;> omega) Mu, if_neg (show ¬ nI H ≤ (0 : Int32) from nI_nle (by omega) (by omega))]
        exact thr 3 (by decide) (fun _ => none)
    · rw [if_neg (show ¬ nI n ≤ (100 : Int32) from nI_ge (a := 100) (by omega) (by omega)), e_bxl, if_neg (by decide), if_pos rfl]
      refine ⟨2, gsZ Su (gZ Su + 1), 0, _, rfl, Mu.1, ?_, m0_s, fun q => absurd q (by decide), in_thr (w := 2) h Fu hu1 cu⟩
      show f_X8_key _ _ _ = _
      unfold f_X8_key
      rw [e_dc (S := gsZ Su (gZ Su + 1)) Mu.1, us, e_bi, isl_in hl, e_bi, if_neg (by decide), if_neg (show ¬ nI n ≤ (100 : Int32) from nI_ge (a := 100) (by omega) (by omega))]
      exact thr 2 (by decide) (fun _ => none)
