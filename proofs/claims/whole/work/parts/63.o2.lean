/-! again, size, head, entry, leaf, root -/
def otA (z x : Nat) : Prop := scA z x ∨ x = z + 1 ∨ x = z + 3 ∨ x = z + 4 ∨ x = z + 47
theorem in_mk {z : Nat} {A : List Nat} {S S' : gS} (h : in_ z S) (F : fr_S A [] S S') (hA : ∀ x ∈ A, otA z x) (tp : tp_ z S') (oo : oo_ z S') (h17 : gI S' (z + 45) 17 = nI 0) : in_ z S' := by
  obtain ⟨y, -, -, ms, lo, vw⟩ := h
  refine ⟨ly_fr y F (by simp), tp, oo, ms_fr ms y F (fun x hx => by have := hA x hx; unfold otA scA at this; unfold msA; omega) (by rw [h17, ms.1]), fun l hl => ?_, vw_fr vw y F (fun x hx => by have := hA x hx; unfold otA scA at this; unfold vwA; omega) (by simp)⟩
  obtain ⟨N, TS, H, kn, q⟩ := lo l hl
  exact ⟨N, TS, H, kn, lo_fr q hl y F (fun x hx => by have := hA x hx; unfold otA scA at this; unfold loA; omega) (by simp)⟩
theorem tp_0 {z : Nat} {A B : List Nat} {S S' : gS} (h : tp_ z S) (hy : ly_ z S) (F : fr_S A B S S') (hA : ∀ x ∈ A, x ≠ z + 2 ∧ x ≠ z + 46) (h1 : gI S' (z + 1) 1 = nI 0) (h2 : gI S' (z + 45) 2 = nI 0) : tp_ z S' := by
  obtain ⟨n, -, -, -, h4⟩ := h
  refine ⟨0, by omega, h1, h2, ?_⟩
  rw [fr_I F (ly_mk hy 1 10 2220) (fun q => (hA _ q).2 rfl)]
  exact rb_fr h4 F hy.2.1.2.2.1 (fun q => (hA _ q).1 rfl)
theorem p_bec {z r n : Nat} {S : gS} (hy : ly_ z S) (hn : n ≤ 288) (k1 : gK S r = 9) (h1 : n ≤ gN S r) (m1 : gN S r < 2 ^ 31) : ∃ S', f_X5_become S (z + 3) (some r) (nI n) = some S' ∧ fr_S [z + 3, z + 4] [] S S' ∧ gI S' (z + 3) 1 = nI n ∧ ∀ j, gI S' (z + 4) j = if j < n then gI S r j else gI S (z + 4) j := by
  refine ⟨_, p_sBec hy.2.2.1 (by decide) hn k1 h1 m1, fr_tr (fr_tr (fr_i (by simp)) (fr_A (by simp))) (fr_i (by simp)), by rw [sI_s, va_up_s], fun j => ?_⟩
  rw [sI_n (by omega), sA_s, va_cpy_e]
  by_cases c : j < n
  · rw [if_pos (by omega), if_pos c, Nat.zero_add, Nat.sub_zero]
  · rw [if_neg (by omega), if_neg c]
theorem lof_in {z l : Nat} {S : gS} (hy : ly_ z S) (hl : l < 2) : f_X7_logOf S z (nI l) = some (.inr (some (z + 6 + 10 * l)), S) := by
  unfold f_X7_logOf
  rw [if_neg (nI_pos (by omega)), if_pos (show nI l < (2 : Int32) from nI_lt (b := 2) hl (by decide)), e_gR hy.1.1, e_bs, hy.1.2.2.2.1, e_R hy.2.2.2.1.1 hy.2.2.2.1.2.1 hl, e_bs, hy.2.2.2.1.2.2 l hl]
theorem lof_bad {z : Nat} {S : gS} {v : Int32} (h : v < 0 ∨ nI 2 ≤ v) : f_X7_logOf S z v = some (.inl "java/lang/IndexOutOfBoundsException", gsZ S (gZ S + 1)) := by
  unfold f_X7_logOf
  by_cases c : v < 0
  · rw [if_pos c]
  · rw [if_neg c, if_neg (show ¬ v < (2 : Int32) from fun q => absurd (h.resolve_left c) (Int32.not_le.mpr q))]
theorem isl_in {l : Nat} {S : gS} (hl : l < 2) : f_X8_isLog S (nI l) = some (1, S) := by
  unfold f_X8_isLog
  obtain rfl | rfl : l = 0 ∨ l = 1 := by omega
  · rw [if_pos (by decide)]
  · rw [if_neg (by decide), if_pos (by decide)]
theorem isl_bad {S : gS} {v : Int32} (h : v < 0 ∨ nI 2 ≤ v) : f_X8_isLog S v = some (0, S) := by
  unfold f_X8_isLog
  have h0 : ¬ v = 0 := fun e => by subst e; exact absurd h (by decide)
  have h1 : ¬ v = 1 := fun e => by subst e; exact absurd h (by decide)
  rw [if_neg h0, if_neg h1]
theorem lg_cs (v : Int32) : (v < 0 ∨ nI 2 ≤ v) ∨ ∃ l, l < 2 ∧ v = nI l := by
  rcases pk_ix v (n := 2) (by decide) with h | h | h
  · exact Or.inl (Or.inl h)
  · exact Or.inl (Or.inr h)
  · exact Or.inr h
theorem in_zz {z : Nat} {S : gS} (h : in_ z S) : in_ z (gsZ S (gZ S + 1)) := in_sc (A := []) h fr_z (by simp) rfl rfl rfl
theorem in_l {z : Nat} {S : gS} {w : Int64} (h : in_ z S) : in_ z (gsL S (z + 65) 0 w) := in_sc (A := [z + 65]) h (fr_l (by simp)) (fun x hx => by (try unfold lq_ at hx) <;> (try unfold pq_ at hx) <;> (try unfold cq_ at hx) <;> (simp only [List.mem_cons, List.not_mem_nil, or_false, false_or, List.cons_append, List.nil_append] at hx) <;> (try simp only [loA, loB, tpA, ooA, msA, vwA, vwB, lyB, scA]) <;> omega) rfl rfl rfl
/-- a call that may throw: what the law sees of it -/
def Tq (z : Nat) (fc : Option (Int32 × gS)) (fm : gS → Option (Int32 × gS)) : Prop := ∃ k S1 w S2, fc = some (k, S1) ∧ gK S1 (z + 45) = 8 ∧ fm S1 = some (w, S2) ∧ gI S2 (z + 45) 0 = k ∧ (k = 0 → gL S2 (z + 65) 0 = w.toInt64) ∧ in_ z S2
def Tb (z : Nat) (fc : Option (Int32 × gS)) (fm : gS → Option (Int32 × gS)) : Prop := ∃ k S1 w S2, fc = some (k, S1) ∧ gK S1 (z + 45) = 8 ∧ fm S1 = some (w, S2) ∧ gI S2 (z + 45) 0 = k ∧ (k = 0 → (w = 0 ∧ gL S2 (z + 65) 0 = 0) ∨ (w = 1 ∧ gL S2 (z + 65) 0 = 1)) ∧ in_ z S2
theorem aL_o {z : Nat} {S : gS} {w : Int64} (h : ly_ z S) : faL S (some (z + 65)) 0 w = some (gsL S (z + 65) 0 w) := e_aL (i := 0) h.2.2.2.2.2.2.2.2.2.1.1 h.2.2.2.2.2.2.2.2.2.1.2 (by decide)
theorem m0_s {z : Nat} {S : gS} {w : Int32} : gI (gsI S (z + 45) 0 w) (z + 45) 0 = w := by rw [sI_s, va_up_s]
theorem m_th {α : Type} {T : gS} {m : Nat} {w : Int32} {F : Int32 → gS → Option α} (h : gK T m = 8) : ((fpI T 8 0 (some m) w).bind fun S10 => (fgI S10 8 0 (some m)).bind fun x => F x S10) = F w (gsI T m 0 w) := by
  rw [e_pI h, e_bs, e_gI (S := gsI T m 0 w) h, e_bs, sI_s, va_up_s]
theorem o_again {z : Nat} {S : gS} (h : in_ z S) : ∃ r S1 S2, f_X7_again S z = some (r, S1) ∧ gK S1 (z + 45) = 8 ∧ f_X8_again S1 (z + 45) = some (r, S2) ∧ in_ z S2 := by
  have h0 := h
  obtain ⟨y, tp, oo, ms, lo, vw⟩ := h
  obtain ⟨n, n1, n2, n3, n4⟩ := tp
  obtain ⟨o, o1, o2, o3, o4⟩ := oo
  have M := ly_md y
  have x1 := y.1.2.1
  have x2 := y.1.2.2.1
  unfold f_X7_again
  rw [e_gR y.1.1, e_bs, x1, e_dc y.2.1.1, p_free y.2.1 n2 n1, e_bi, e_gR y.1.1, e_bs, x2, e_gI y.2.2.1.1, e_bs, o2]
  by_cases c : n + o ≤ 2200
  · have e1 := p_sAdd (S := S) (a := z + 1) (bs := z + 2) (N := 2200) (c := n) (r := z + 4) (p := 0) (n := o) y.2.1 (by decide) n2 c y.2.2.1.2.2.1 (by rw [y.2.2.1.2.2.2]; omega) (by rw [y.2.2.1.2.2.2]; decide)
    have F1 : fr_S [z + 1, z + 2] [] S (gsI (gsA S (z + 2) (va_cpy (gI S (z + 4)) (gI S (z + 2)) 0 n o)) (z + 1) 1 (nI (n + o))) := fr_tr (fr_A (by simp)) (fr_i (by simp))
    have c1 : gI (gsI (gsA S (z + 2) (va_cpy (gI S (z + 4)) (gI S (z + 2)) 0 n o)) (z + 1) 1 (nI (n + o))) (z + 1) 1 = nI (n + o) := by rw [sI_s, va_up_s]
    have b1 : ∀ j, gI (gsI (gsA S (z + 2) (va_cpy (gI S (z + 4)) (gI S (z + 2)) 0 n o)) (z + 1) 1 (nI (n + o))) (z + 2) j = if n ≤ j ∧ j < n + o then gI S (z + 4) (j - n) else gI S (z + 2) j := fun j => by rw [sI_n (by omega), sA_s, va_cpy_e, Nat.zero_add]
    generalize gsI (gsA S (z + 2) (va_cpy (gI S (z + 4)) (gI S (z + 2)) 0 n o)) (z + 1) 1 (nI (n + o)) = S1 at *
    have y1 := ly_fr y F1 (by simp)
    have M1 := ly_md y1
    have m1 : gI S1 (z + 45) = gI S (z + 45) := fr_I F1 M.1 (by (try unfold lq_) <;> (try unfold pq_) <;> (try unfold cq_) <;> (simp only [List.mem_cons, List.not_mem_nil, or_false, false_or, not_false_eq_true, List.cons_append, List.nil_append]) <;> omega)
    have t1 : gI S1 (z + 45 + 1) = gI S (z + 46) := fr_I F1 (ly_mk y 1 10 2220) (by (try unfold lq_) <;> (try unfold pq_) <;> (try unfold cq_) <;> (simp only [List.mem_cons, List.not_mem_nil, or_false, false_or, not_false_eq_true, List.cons_append, List.nil_append]) <;> omega)
    have t2 : gI S1 (z + 45 + 2) = gI S (z + 47) := fr_I F1 (ly_mk y 2 10 2400) (by (try unfold lq_) <;> (try unfold pq_) <;> (try unfold cq_) <;> (simp only [List.mem_cons, List.not_mem_nil, or_false, false_or, not_false_eq_true, List.cons_append, List.nil_append]) <;> omega)
    have L0 : md_L (gsI S1 (z + 45) 0 0) (z + 45) := M1
    obtain ⟨fu, hf⟩ := g_fu o
    have e2 := cp_again (m := z + 45) (c := n) (n := o) (f := gI S (z + 47)) (g := gI S (z + 46)) ⟨c, o1⟩ fu o 0 (by omega) (gsI S1 (z + 45) 0 0) L0 (by rw [sI_s, va_up_n _ _ _ (by decide), m1]; exact o3) (by rw [sI_s, va_up_n _ _ _ (by decide), m1]; exact n3) (fun j => by rw [sI_n (by omega), t1]; unfold ou_; rw [if_neg (by omega)]) (fun q hq => by rw [sI_n (by omega), t2])
    refine ⟨nI (n + o), S1, gsI (gsA (gsI S1 (z + 45) 0 0) (z + 45 + 1) (ou_ (gI S (z + 46)) n o (gI S (z + 47)))) (z + 45) 2 (nI (n + o)), ?_, M1.1, ?_, ?_⟩
    · rw [if_pos (nI_le (by omega) (by omega)), e_gR y.1.1, e_bs, x1, e_bs, e_gR y.2.2.1.1, e_bs, y.2.2.1.2.1, e_bs, e_gI y.2.2.1.1, e_bs, o2, e_dc y.2.1.1, show (0 : Int32) = nI 0 from rfl, e1, e_bs, e_gR y1.1.1, e_bs, y1.1.2.1, e_gI y1.2.1.1, e_bs, c1]
    · unfold f_X8_again
      have LE : md_L (gsA (gsI S1 (z + 45) 0 0) (z + 45 + 1) (ou_ (gI S (z + 46)) n o (gI S (z + 47)))) (z + 45) := M1
      have iE : ∀ k, k ≠ 0 → gI (gsA (gsI S1 (z + 45) 0 0) (z + 45 + 1) (ou_ (gI S (z + 46)) n o (gI S (z + 47)))) (z + 45) k = gI S (z + 45) k := fun k hk => by rw [sA_n (by omega), sI_s, va_up_n _ _ _ hk, m1]
      rw [e_pI M1.1, e_bs, e_gI L0.1, e_bs, e_gI L0.1, e_bs, sI_s, va_up_n _ _ _ (show 2 ≠ 0 by decide), va_up_n _ _ _ (show 4 ≠ 0 by decide), m1, n3, o3, nI_add, if_pos (show nI (n + o) ≤ (2200 : Int32) from nI_le (b := 2200) c (by decide)), hf, show o + fu + 1 = fu + o + 1 by omega, show (0 : Int32) = nI 0 from rfl]
      rw [show (0 : Int32) = nI 0 from rfl] at e2
      rw [e2, f_X8_again_L24]
      have LE' : md_L (gsA (gsI S1 (z + 45) 0 (nI 0)) (z + 45 + 1) (ou_ (gI S (z + 46)) n o (gI S (z + 47)))) (z + 45) := M1
      have iE' : ∀ k, k ≠ 0 → gI (gsA (gsI S1 (z + 45) 0 (nI 0)) (z + 45 + 1) (ou_ (gI S (z + 46)) n o (gI S (z + 47)))) (z + 45) k = gI S (z + 45) k := iE
      rw [e_gI LE'.1, e_bs, iE' 4 (by decide), o3, if_pos (nI_le (Nat.le_refl _) (by omega)), e_gI LE'.1, e_bs, e_bs, iE' 2 (by decide), n3, nI_add, e_pI LE'.1, e_bs, e_gI (S := gsI (gsA (gsI S1 (z + 45) 0 (nI 0)) (z + 45 + 1) (ou_ (gI S (z + 46)) n o (gI S (z + 47)))) (z + 45) 2 (nI (n + o))) M1.1, e_bs, sI_s, va_up_s]
    · have F : fr_S [z + 1, z + 2, z + 45, z + 46] [] S (gsI (gsA (gsI S1 (z + 45) 0 0) (z + 45 + 1) (ou_ (gI S (z + 46)) n o (gI S (z + 47)))) (z + 45) 2 (nI (n + o))) := fr_tr (fr_mo F1 (fun x hx => by (try unfold lq_ at hx) <;> (try unfold pq_ at hx) <;> (try unfold cq_ at hx) <;> (try unfold lq_) <;> (try unfold pq_) <;> (try unfold cq_) <;> (simp only [List.mem_cons, List.not_mem_nil, or_false, false_or, List.cons_append, List.nil_append] at hx ⊢) <;> omega) (by simp)) (fr_tr (fr_tr (fr_i (by simp)) (fr_A (by simp))) (fr_i (by simp)))
      refine ⟨ly_fr y F (by simp), ⟨n + o, c, ?_, by rw [sI_s, va_up_s], ?_⟩, oo_fr ⟨o, o1, o2, o3, o4⟩ y F (fun x hx => by (try unfold lq_ at hx) <;> (try unfold pq_ at hx) <;> (try unfold cq_ at hx) <;> (simp only [List.mem_cons, List.not_mem_nil, or_false, false_or, List.cons_append, List.nil_append] at hx) <;> (try simp only [loA, loB, tpA, ooA, msA, vwA, vwB, lyB, scA]) <;> omega) ?_, ms_fr ms y F (fun x hx => by (try unfold lq_ at hx) <;> (try unfold pq_ at hx) <;> (try unfold cq_ at hx) <;> (simp only [List.mem_cons, List.not_mem_nil, or_false, false_or, List.cons_append, List.nil_append] at hx) <;> (try simp only [loA, loB, tpA, ooA, msA, vwA, vwB, lyB, scA]) <;> omega) ?_, fun l hl => ?_, vw_fr vw y F (fun x hx => by (try unfold lq_ at hx) <;> (try unfold pq_ at hx) <;> (try unfold cq_ at hx) <;> (simp only [List.mem_cons, List.not_mem_nil, or_false, false_or, List.cons_append, List.nil_append] at hx) <;> (try simp only [loA, loB, tpA, ooA, msA, vwA, vwB, lyB, scA]) <;> omega) (fun x hx => by (try unfold lq_ at hx) <;> (try unfold pq_ at hx) <;> (try unfold cq_ at hx) <;> (simp only [List.mem_cons, List.not_mem_nil, or_false, false_or, List.cons_append, List.nil_append] at hx) <;> (try simp only [loA, loB, tpA, ooA, msA, vwA, vwB, lyB, scA]) <;> omega)⟩
      · rw [sI_n (by omega), sA_n (by omega), sI_n (by omega)]; exact c1
      · intro j hj
        rw [sI_n (show z + 2 ≠ z + 45 by omega), sA_n (by omega), sI_n (by omega), b1 j, sI_n (show z + 46 ≠ z + 45 by omega)]
        show _ = sb_ (gI (gsA (gsI S1 (z + 45) 0 0) (z + 45 + 1) _) (z + 45 + 1) j) ∧ bt_ (gI (gsA (gsI S1 (z + 45) 0 0) (z + 45 + 1) _) (z + 45 + 1) j)
        rw [sA_s]
        unfold ou_
        by_cases q : n ≤ j ∧ j < n + o
        · rw [if_pos q, if_pos q]; exact o4 _ (by omega)
        · rw [if_neg q, if_neg q]; exact n4 j hj
      · rw [sI_s, va_up_n _ _ _ (by decide), sA_n (by omega), sI_s, va_up_n _ _ _ (by decide), m1]
      · rw [sI_s, va_up_n _ _ _ (by decide), sA_n (by omega), sI_s, va_up_n _ _ _ (by decide), m1]
      · obtain ⟨N, TS, H, kn, q⟩ := lo l hl
        exact ⟨N, TS, H, kn, lo_fr q hl y F (fun x hx => by (try unfold lq_ at hx) <;> (try unfold pq_ at hx) <;> (try unfold cq_ at hx) <;> (simp only [List.mem_cons, List.not_mem_nil, or_false, false_or, List.cons_append, List.nil_append] at hx) <;> (try simp only [loA, loB, tpA, ooA, msA, vwA, vwB, lyB, scA]) <;> omega) (fun x hx => by (try unfold lq_ at hx) <;> (try unfold pq_ at hx) <;> (try unfold cq_ at hx) <;> (simp only [List.mem_cons, List.not_mem_nil, or_false, false_or, List.cons_append, List.nil_append] at hx) <;> (try simp only [loA, loB, tpA, ooA, msA, vwA, vwB, lyB, scA]) <;> omega)⟩
  · refine ⟨-1, S, gsI S (z + 45) 0 0, by rw [if_neg (nI_ge (by omega) (by omega))], M.1, ?_, in_m0 h0⟩
    unfold f_X8_again
    rw [e_pI M.1, e_bs, e_gI (S := gsI S (z + 45) 0 0) M.1, e_bs, e_gI (S := gsI S (z + 45) 0 0) M.1, e_bs, sI_s, va_up_n _ _ _ (show 2 ≠ 0 by decide), va_up_n _ _ _ (show 4 ≠ 0 by decide), n3, o3, nI_add, if_neg (show ¬ nI (n + o) ≤ (2200 : Int32) from nI_ge (a := 2200) (by omega) (by omega))]
theorem uq_size {z : Nat} {S : gS} {a b : Int32} (h : in_ z S) : Tq z (f_L_size S (some z) a b (some (z + 65))) (fun T => f_X8_size T (z + 45) a b) := by
  have y := h.1
  have M := ly_md y
  unfold f_L_size f_X7_size
  rw [e_dc y.1.1, e_dc y.1.1]
  rcases lg_cs a with ca | ⟨l, hl, rfl⟩
  · rw [lof_bad ca, e_bxl, e_bxl, if_pos rfl]
    refine ⟨1, gsZ S (gZ S + 1), 0, gsI (gsZ S (gZ S + 1)) (z + 45) 0 1, rfl, M.1, ?_, m0_s, fun q => absurd q (by decide), in_m0 (in_zz h)⟩
    show f_X8_size _ _ _ _ = _
    unfold f_X8_size f_X8_size_B26
    rw [isl_bad ca, e_bi, if_pos rfl, m_th (T := gsZ S (gZ S + 1)) M.1, if_neg (by decide)]
  · rw [lof_in y hl, e_bxr, e_let]
    obtain ⟨N, TS, H, kn, ⟨a1, a2, a3⟩, ⟨b1, b2, b3⟩, ⟨c1, c2, c3⟩, ⟨d1, d2⟩, -⟩ := h.2.2.2.2.1 l hl
    have L := ly_lg y hl
    have good : ∀ (x : Int32) (o : Nat), (o, 10, 2) ∈ md_A → gI S (z + 45 + o) l = x → ∀ b : Int32, ¬ b < 0 → b ≤ 3 → (∀ (T : gS), md_L T (z + 45) → gI T (z + 45 + o) l = x → (if b = 0 then (fgR T 8 9 (some (z + 45))).bind fun x38 => (fI T 10 x38 (nI l)).bind fun x40 => some (x40, T) else if b = 1 then (fgR T 8 10 (some (z + 45))).bind fun x34 => (fI T 10 x34 (nI l)).bind fun x36 => some (x36, T) else if b = 2 then (fgR T 8 13 (some (z + 45))).bind fun x30 => (fI T 10 x30 (nI l)).bind fun x32 => some (x32, T) else (fgR T 8 6 (some (z + 45))).bind fun x26 => (fI T 10 x26 (nI l)).bind fun x28 => some (x28, T)) = some (x, T)) → Tq z (some (0, gsL S (z + 65) 0 x.toInt64)) (fun T => f_X8_size T (z + 45) (nI l) b) := by
      intro x o ho hx b hb0 hb3 hq
      refine ⟨0, gsL S (z + 65) 0 x.toInt64, x, gsI (gsL S (z + 65) 0 x.toInt64) (z + 45) 0 0, rfl, M.1, ?_, m0_s, fun _ => by rw [sI_L, sL_s, va_up_s], in_m0 (in_l h)⟩
      show f_X8_size _ _ _ _ = _
      unfold f_X8_size f_X8_size_B26
      rw [isl_in hl, e_bi, if_neg (by decide), if_neg hb0, if_pos hb3, e_pI (S := gsL S _ _ _) M.1, e_bs, e_gI (S := gsI (gsL S _ _ _) (z + 45) 0 0) M.1, e_bs, m0_s, if_pos (by decide)]
      refine hq _ M ?_
      have : o ≠ 0 := by have : ∀ q ∈ md_A, q.1 ≠ 0 := by decide
                         exact this _ ho
      rw [sI_n (by omega)]; exact hx
    have M0 := @md_r
    by_cases q0 : b = 0
    · subst q0
      rw [if_pos rfl, e_gI L.1, e_bs, e_bxr, a1, aL_o y, e_bs]
      exact good (nI N) 7 (by decide) a2 0 (by decide) (by decide) (fun T hT hx => by rw [if_pos rfl, e_gR hT.1, e_bs, md_r hT 9 7, e_I (md_k hT 7 10 2) (md_n hT 7 10 2) hl, e_bs, hx])
    · rw [if_neg q0]
      by_cases q1 : b = 1
      · subst q1
        rw [if_pos rfl, e_gI L.1, e_bs, e_bxr, b1, aL_o y, e_bs]
        exact good (nI TS) 8 (by decide) b2 1 (by decide) (by decide) (fun T hT hx => by rw [if_neg (by decide), if_pos rfl, e_gR hT.1, e_bs, md_r hT 10 8, e_I (md_k hT 8 10 2) (md_n hT 8 10 2) hl, e_bs, hx])
      · rw [if_neg q1]
        by_cases q2 : b = 2
        · subst q2
          rw [if_pos rfl, e_gI L.1, e_bs, e_bxr, c1, aL_o y, e_bs]
          exact good (nI H) 11 (by decide) c2 2 (by decide) (by decide) (fun T hT hx => by rw [if_neg (by decide), if_neg (by decide), if_pos rfl, e_gR hT.1, e_bs, md_r hT 13 11, e_I (md_k hT 11 10 2) (md_n hT 11 10 2) hl, e_bs, hx])
        · rw [if_neg q2]
          by_cases q3 : b = 3
          · subst q3
            rw [if_pos rfl, e_gI L.1, e_bs, e_bxr, d1, aL_o y, e_bs]
            exact good (nI kn) 4 (by decide) d2.2.1 3 (by decide) (by decide) (fun T hT hx => by rw [if_neg (by decide), if_neg (by decide), if_neg (by decide), e_gR hT.1, e_bs, md_r hT 6 4, e_I (md_k hT 4 10 2) (md_n hT 4 10 2) hl, e_bs, hx])
          · rw [if_neg q3]
            have hb : b < 0 ∨ nI 4 ≤ b := by
              rcases pk_ix b (n := 4) (by decide) with c | c | ⟨j, c, rfl⟩
              · exact Or.inl c
              · exact Or.inr c
              · obtain rfl | rfl | rfl | rfl : j = 0 ∨ j = 1 ∨ j = 2 ∨ j = 3 := by omega
                · exact (q0 rfl).elim
                · exact (q1 rfl).elim
                · exact (q2 rfl).elim
                · exact (q3 rfl).elim
            have hb' : b.toInt < 0 ∨ 3 < b.toInt := by
              rcases hb with c | c
              · exact Or.inl (Int32.lt_iff_toInt_lt.mp c)
              · have : (4 : Int) ≤ b.toInt := Int32.le_iff_toInt_le.mp c
                omega
            rw [if_pos hb', e_bxl, if_neg (by decide), if_pos rfl]
            refine ⟨2, gsZ S (gZ S + 1), 0, gsI (gsZ S (gZ S + 1)) (z + 45) 0 2, rfl, M.1, ?_, m0_s, fun q => absurd q (by decide), in_m0 (in_zz h)⟩
            show f_X8_size _ _ _ _ = _
            unfold f_X8_size f_X8_size_B21 f_X8_size_B26
            rw [isl_in hl, e_bi, if_neg (by decide)]
            have fin : ((fpI (gsZ S (gZ S + 1)) 8 0 (some (z + 45)) 2).bind fun S10 => (fgI S10 8 0 (some (z + 45))).bind fun x12 => if x12 ≤ 0 then if b = 0 then (fgR S10 8 9 (some (z + 45))).bind fun x38 => (fI S10 10 x38 (nI l)).bind fun x40 => some (x40, S10) else if b = 1 then (fgR S10 8 10 (some (z + 45))).bind fun x34 => (fI S10 10 x34 (nI l)).bind fun x36 => some (x36, S10) else if b = 2 then (fgR S10 8 13 (some (z + 45))).bind fun x30 => (fI S10 10 x30 (nI l)).bind fun x32 => some (x32, S10) else (fgR S10 8 6 (some (z + 45))).bind fun x26 => (fI S10 10 x26 (nI l)).bind fun x28 => some (x28, S10) else some (0, S10)) = some (0, gsI (gsZ S (gZ S + 1)) (z + 45) 0 2) := by
              rw [m_th (T := gsZ S (gZ S + 1)) M.1, if_neg (by decide)]
            by_cases cb : b < 0
            · rw [if_pos cb]; exact fin
            · rw [if_neg cb, if_neg (fun q => by have c4 := Int32.le_iff_toInt_le.mp (hb.resolve_left cb); have c3 := Int32.le_iff_toInt_le.mp q; have e4 : (nI 4).toInt = 4 := rfl; have e3 : (3 : Int32).toInt = 3 := rfl; omega)]; exact fin
