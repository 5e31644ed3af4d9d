/-! follow -/
theorem m_follow {m w l n kn : Nat} {T : gS} {p e o : Bool} {fl : Int32} {V TR KB : Nat → Int32} (hH : mh_ T m) (h17 : gI T m 17 = nI 0) (hw : w < 4) (hl : l < 2) (h80 : 80 ≤ n) (hn : n ≤ 2200) (hmod : n % 32 = 16) (h2 : gI T m 2 = nI n) (hk : ky_I T m l kn) (hTR : gI T (m + 1) = TR) (hb : ∀ j, j < 48 → bt_ (TR j)) (hV : rr_ T (m + 12) (3 * (2 * w + l)) = V) (hfl : gI T (m + 13) (3 * (2 * w + l)) = fl) (h01 : fl = 0 ∨ (fl = 1 ∧ ¬ s_lg V 8 < 0)) (hKB : kb_ T m l = KB) (hp : p = true ↔ ∀ i, i < 8 → s_sl KB TR i = w_at TR 48 i) (he : e = true ↔ ∀ i, i < 8 → w_at V 16 i = w_at TR 16 i) (ho : o = true ↔ onP (s_lg V 8).toInt.toNat (s_lg TR 8).toInt.toNat 80 n (w_at V 16) (w_at TR 16) TR) : ∃ S1, fr_S [m, m + 14, m + 15, m + 16, m + 18, m + 19] [] T S1 ∧ gI S1 m 0 = 0 ∧ gI S1 m 2 = nI 0 ∧ gI S1 m 4 = gI T m 4 ∧ gI S1 m 17 = nI 0 ∧ f_X8_follow T m (nI w) (nI l) = fe_ m (3 * (2 * w + l)) (jc_ p e o (s_lg TR 0) (s_lg TR 8) (s_lg V 0) (s_lg V 8) n fl) S1 := by
  obtain ⟨H0, k17, k2, k0, k4, ko, F0⟩ := mu_ hH h17
  have us := m_use hH.1.1 h2
  have g3 := ko 3 (by decide)
  have g4 := ko 4 (by decide)
  have hkb : kb_ (gsI (gsI T m 2 (nI 0)) m 0 0) m l = KB := by rw [← hKB]; unfold kb_; rw [g3, g4]
  obtain ⟨S1, f1, e1⟩ := m_f44 (m := m) (w := w) (l := l) (n := n) (kn := kn) (S := gsI (gsI T m 2 (nI 0)) m 0 0) (p := p) (e := e) (o := o) (fl := fl) (V := V) (TR := TR) H0 k17 hw hl h80 hn (show ky_I (gsI (gsI T m 2 (nI 0)) m 0 0) m l kn by unfold ky_I; rw [g3, g4]; exact hk) ((ko 1 (by decide)).trans hTR) hb (by rw [← hV]; funext j; unfold rr_; rw [ko 12 (by decide)]) (by rw [ko 13 (by decide)]; exact hfl) h01 (by rw [hkb]; exact hp) he ho
  refine ⟨S1, fr_tr (fr_mo F0 (by simp) (by simp)) f1.1, by rw [f1.2.1 0 (by decide) (by decide) (by decide), k0], by rw [f1.2.1 2 (by decide) (by decide) (by decide), k2], by rw [f1.2.1 4 (by decide) (by decide) (by decide), k4], f1.2.2, ?_⟩
  unfold f_X8_follow f_X8_follow_B44
  rw [e_dc hH.1.1, us, e_bi, isw_in hw, e_bi, if_neg (by decide), isl_in hl, e_bi, if_neg (by decide), if_neg (show ¬ nI n < (80 : Int32) from nI_nlt (b := 80) h80 (by omega)), if_pos (show nI n - nI n / 32 * 32 = (16 : Int32) from by rw [show (32 : Int32) = nI 32 from rfl, pk_rem (by omega) (by decide) (by decide), hmod]; rfl), m_th (T := gsI T m 2 (nI 0)) hH.1.1, if_pos (by decide), e_dc (S := gsI (gsI T m 2 (nI 0)) m 0 0) hH.1.1]
  exact e1
theorem uq_follow {z : Nat} {S : gS} {a b : Int32} (h : in_ z S) : Tq z (f_L_follow S (some z) a b (some (z + 65))) (fun T => f_X8_follow T (z + 45) a b) := by
  have y := h.1
  have M := ly_md y
  obtain ⟨n, n1, n3, n4, eu, Fu, yu, cu⟩ := su_ h
  have hu1 : ∀ x ∈ [z + 1], u1A z x := fun x hx => by simp only [List.mem_cons, List.not_mem_nil, or_false] at hx; unfold u1A; omega
  have mu : gI (gsI S (z + 1) 1 (nI 0)) (z + 45) = gI S (z + 45) := sI_n (by omega)
  have mo : ∀ o, 2 ≤ o → gI (gsI S (z + 1) 1 (nI 0)) (z + o) = gI S (z + o) := fun o ho => sI_n (by omega)
  unfold f_L_follow f_X7_follow
  rw [e_dc y.1.1, e_gR y.1.1, e_bs, y.1.2.1, e_dc y.2.1.1, eu, e_bi, e_dc yu.1.1]
  generalize hSu : gsI S (z + 1) 1 (nI 0) = Su at *
  have Mu := ly_md yu
  have us : f_X8_use (gsZ Su (gZ Su + 1)) (z + 45) = some (nI n, gsI (gsZ Su (gZ Su + 1)) (z + 45) 2 (nI 0)) := m_use (T := gsZ Su (gZ Su + 1)) Mu.1 (by rw [sZ_I, mu]; exact n3)
  have thr : ∀ w : Int32, ¬ w ≤ 0 → f_X8_follow_B44 (gsI (gsZ Su (gZ Su + 1)) (z + 45) 2 (nI 0)) (z + 45) a b (nI n) w (some (z + 45)) = some (0, gsI (gsI (gsZ Su (gZ Su + 1)) (z + 45) 2 (nI 0)) (z + 45) 0 w) := by
    intro w hw
    unfold f_X8_follow_B44
    rw [m_th (T := gsI (gsZ Su (gZ Su + 1)) (z + 45) 2 (nI 0)) Mu.1, if_neg hw]
  have bad : ∀ w : Int32, ¬ w ≤ 0 → f_X8_follow (gsZ Su (gZ Su + 1)) (z + 45) a b = f_X8_follow_B44 (gsI (gsZ Su (gZ Su + 1)) (z + 45) 2 (nI 0)) (z + 45) a b (nI n) w (some (z + 45)) → Tq z (some (w, gsZ Su (gZ Su + 1))) (fun T => f_X8_follow T (z + 45) a b) := fun w hw e => ⟨w, gsZ Su (gZ Su + 1), 0, _, rfl, Mu.1, e.trans (thr w hw), m0_s, fun q => absurd q (fun c => hw (by rw [c]; decide)), in_thr (w := w) h Fu hu1 cu⟩
  rcases iv_cs a (n := 4) (by decide) with ca | ⟨w, hw, rfl⟩
  · rw [vof_bad (Or.inl ca), e_bxl, e_bxl, if_pos rfl]
    refine bad 1 (by decide) ?_
    unfold f_X8_follow f_X8_follow_B20
    rw [e_dc (S := gsZ Su (gZ Su + 1)) Mu.1, us, e_bi, isw_bad ca, e_bi, if_pos rfl]
  rcases lg_cs b with cb | ⟨l, hl, rfl⟩
  · rw [vof_bad (Or.inr cb), e_bxl, e_bxl, if_pos rfl]
    refine bad 1 (by decide) ?_
    unfold f_X8_follow f_X8_follow_B20
    rw [e_dc (S := gsZ Su (gZ Su + 1)) Mu.1, us, e_bi, isw_in hw, e_bi, if_neg (by decide), isl_bad cb, e_bi, if_pos rfl]
  rw [vof_in yu hw hl, e_bxr]
  by_cases c80 : n < 80
  · rw [if_pos (show nI n < (80 : Int32) from nI_lt (b := 80) c80 (by decide)), e_bxl, if_neg (by decide), if_pos rfl]
    refine bad 2 (by decide) ?_
    unfold f_X8_follow f_X8_follow_B39
    rw [e_dc (S := gsZ Su (gZ Su + 1)) Mu.1, us, e_bi, isw_in hw, e_bi, if_neg (by decide), isl_in hl, e_bi, if_neg (by decide), if_pos (show nI n < (80 : Int32) from nI_lt (b := 80) c80 (by decide))]
  have h80 : 80 ≤ n := by omega
  rw [if_neg (show ¬ nI n < (80 : Int32) from nI_nlt (b := 80) h80 (by omega)), show nI n - 80 = nI (n - 80) from pk_sub (b := 80) h80, show nI (n - 80) - nI (n - 80) / 32 * 32 = nI ((n - 80) % 32) from pk_rem (d := 32) (by omega) (by decide) (by decide)]
  by_cases cm : n % 32 = 16
  rotate_left
  · rw [if_neg (show ¬ nI ((n - 80) % 32) = (0 : Int32) from by rw [show (0 : Int32) = nI 0 from rfl, nI_eq (by omega) (by decide)]; omega), e_bxl, if_neg (by decide), if_pos rfl]
    refine bad 2 (by decide) ?_
    unfold f_X8_follow f_X8_follow_B39
    rw [e_dc (S := gsZ Su (gZ Su + 1)) Mu.1, us, e_bi, isw_in hw, e_bi, if_neg (by decide), isl_in hl, e_bi, if_neg (by decide), if_neg (show ¬ nI n < (80 : Int32) from nI_nlt (b := 80) h80 (by omega)), if_neg (show ¬ nI n - nI n / 32 * 32 = (16 : Int32) from by rw [show (32 : Int32) = nI 32 from rfl, pk_rem (by omega) (by decide) (by decide), show (16 : Int32) = nI 16 from rfl, nI_eq (by omega) (by decide)]; exact cm)]
  have hv : 2 * w + l < 8 := by omega
  have kV := (yu.2.2.2.2.2.1.2.2 (2 * w + l) hv).2
  obtain ⟨N, TS, H, kn, hlo⟩ := h.2.2.2.2.1 l hl
  have hlou := lo_fr hlo hl y Fu (fun x hx => by (try unfold lq_ at hx) <;> (try unfold pq_ at hx) <;> (try unfold cq_ at hx) <;> (simp only [List.mem_cons, List.not_mem_nil, or_false, false_or, List.cons_append, List.nil_append] at hx) <;> (try simp only [loA, loB, tpA, ooA, msA, vwA, vwB, lyB, scA]) <;> omega) (fun x hx => by (try unfold lq_ at hx) <;> (try unfold pq_ at hx) <;> (try unfold cq_ at hx) <;> (simp only [List.mem_cons, List.not_mem_nil, or_false, false_or, List.cons_append, List.nil_append] at hx) <;> (try simp only [loA, loB, tpA, ooA, msA, vwA, vwB, lyB, scA]) <;> omega)
  obtain ⟨-, -, -, ⟨d1u, d2u⟩, kbu, -, -, -, -⟩ := hlou
  have T46 : gI Su (z + 46) = gI S (z + 46) := mo 46 (by decide)
  have n4u : rb_ Su (z + 2) 2200 (gI Su (z + 46)) := by rw [T46]; exact rb_fr n4 Fu y.2.1.2.2.1 (by (try unfold lq_) <;> (try unfold pq_) <;> (try unfold cq_) <;> (simp only [List.mem_cons, List.not_mem_nil, or_false, false_or, not_false_eq_true, List.cons_append, List.nil_append]) <;> omega)
  have h0 := vw_vs (vw_fr h.2.2.2.2.2 y Fu (fun x hx => by (try unfold lq_ at hx) <;> (try unfold pq_ at hx) <;> (try unfold cq_ at hx) <;> (simp only [List.mem_cons, List.not_mem_nil, or_false, false_or, List.cons_append, List.nil_append] at hx) <;> (try simp only [loA, loB, tpA, ooA, msA, vwA, vwB, lyB, scA]) <;> omega) (fun x hx => by (try unfold lq_ at hx) <;> (try unfold pq_ at hx) <;> (try unfold cq_ at hx) <;> (simp only [List.mem_cons, List.not_mem_nil, or_false, false_or, List.cons_append, List.nil_append] at hx) <;> (try simp only [loA, loB, tpA, ooA, msA, vwA, vwB, lyB, scA]) <;> omega))
  have G := vs_get h0 hv (show 0 < 3 by decide)
  simp only [Nat.add_zero] at G
  obtain ⟨p, hp⟩ := bx_ (∀ i, i < 8 → s_sl (kb_ Su (z + 45) l) (gI Su (z + 46)) i = w_at (gI Su (z + 46)) 48 i)
  obtain ⟨e, he⟩ := bx_ (∀ i, i < 8 → w_at (rr_ Su (z + 57) (3 * (2 * w + l))) 16 i = w_at (gI Su (z + 46)) 16 i)
  obtain ⟨o, ho⟩ := bx_ (onP (s_lg (rr_ Su (z + 57) (3 * (2 * w + l))) 8).toInt.toNat (s_lg (gI Su (z + 46)) 8).toInt.toNat 80 n (w_at (rr_ Su (z + 57) (3 * (2 * w + l))) 16) (w_at (gI Su (z + 46)) 16) (gI Su (z + 46)))
  obtain ⟨Sj, ej, fj⟩ := c_judge (z := z) (l := l) (n := n) (R := gR Su (z + 27 + (2 * w + l)) 0) (S := Su) (TR := gI Su (z + 46)) (KB := kb_ Su (z + 45) l) (V := rr_ Su (z + 57) (3 * (2 * w + l))) (p := p) (e := e) (o := o) (fl := gI Su (z + 58) (3 * (2 * w + l))) yu hl h80 n1 n4u kbu (by
    rcases G with ⟨q1, q2⟩ | ⟨q1, q2, q3⟩
    · exact Or.inl ⟨q1, q2⟩
    · exact Or.inr ⟨q1, q2 trivial, q3⟩) hp he ho
  rw [if_pos (show nI ((n - 80) % 32) = (0 : Int32) from by rw [show (0 : Int32) = nI 0 from rfl, nI_eq (by omega) (by decide)]; omega), e_gR kV, e_bs, e_dc yu.1.1, lof_in yu hl, e_bxr, e_dc yu.1.1, ej, e_bi]
  have hj0 := @jc_0 p e o (s_lg (gI Su (z + 46)) 0) (s_lg (gI Su (z + 46)) 8) (s_lg (rr_ Su (z + 57) (3 * (2 * w + l))) 0) (s_lg (rr_ Su (z + 57) (3 * (2 * w + l))) 8) n (gI Su (z + 58) (3 * (2 * w + l)))
  have hj3 := @jc_3 p e o (s_lg (gI Su (z + 46)) 0) (s_lg (gI Su (z + 46)) 8) (s_lg (rr_ Su (z + 57) (3 * (2 * w + l))) 0) (s_lg (rr_ Su (z + 57) (3 * (2 * w + l))) 8) n (gI Su (z + 58) (3 * (2 * w + l)))
  have hAj : ∀ x ∈ lq_ (z + 6 + 10 * l) ++ (pq_ (z + 35) ++ cq_ (z + 39)), scA z x ∧ x ≠ z + 45 := fun x hx => by
    unfold lq_ pq_ cq_ at hx
    simp only [List.mem_cons, List.not_mem_nil, or_false, List.mem_append] at hx
    unfold scA
    omega
  have yj := ly_fr yu fj (by simp)
  have kVj := (yj.2.2.2.2.2.1.2.2 (2 * w + l) hv).2
  -- the reference, over any state that the class may leave
  have ref : ∀ {A B : List Nat} {T : gS}, fr_S A B Su T → (∀ x ∈ A, scA z x ∧ x ≠ z + 45) → (∀ x ∈ B, lyB z x) → ∃ S1, fr_S [z + 45, z + 45 + 14, z + 45 + 15, z + 45 + 16, z + 45 + 18, z + 45 + 19] [] T S1 ∧ gI S1 (z + 45) 0 = 0 ∧ gI S1 (z + 45) 2 = nI 0 ∧ gI S1 (z + 45) 4 = gI T (z + 45) 4 ∧ gI S1 (z + 45) 17 = nI 0 ∧ f_X8_follow T (z + 45) (nI w) (nI l) = fe_ (z + 45) (3 * (2 * w + l)) (jc_ p e o (s_lg (gI Su (z + 46)) 0) (s_lg (gI Su (z + 46)) 8) (s_lg (rr_ Su (z + 57) (3 * (2 * w + l))) 0) (s_lg (rr_ Su (z + 57) (3 * (2 * w + l))) 8) n (gI Su (z + 58) (3 * (2 * w + l)))) S1 := by
    intro A B T F hA hB
    have yT := ly_fr yu F hB
    have MT := ly_md yT
    have mT : gI T (z + 45) = gI Su (z + 45) := fr_I F Mu.1 (fun q => (hA _ q).2 rfl)
    have t : ∀ o k n, (o, k, n) ∈ md_A → k < 16 → o < 14 → 1 ≤ o → gI T (z + 45 + o) = gI Su (z + 45 + o) := fun o k n hq hk h2 h1 => fr_I F (ly_mk yu o k n hq) (fun q => by have := (hA _ q).1; unfold scA at this; omega) hk
    have t17 : gI T (z + 45 + 17) = gI Su (z + 45 + 17) := fr_I F (ly_mk yu 17 10 64) (fun q => by have := (hA _ q).1; unfold scA at this; omega)
    have g3 := t 3 10 200 (by decide) (by decide) (by decide) (by decide)
    have g4 := t 4 10 2 (by decide) (by decide) (by decide) (by decide)
    exact m_follow (m := z + 45) (w := w) (l := l) (n := n) (kn := kn) (T := T) (p := p) (e := e) (o := o) (KB := kb_ Su (z + 45) l) ⟨MT, ly_wf yT, fun q hq => by rw [t17]; show gI Su (z + 62) q = _; rw [mo 62 (by decide)]; exact h.2.2.2.1.2 q hq⟩ (by rw [mT, mu]; exact h.2.2.2.1.1) hw hl h80 n1 cm (by rw [mT, mu]; exact n3) (show ky_I T (z + 45) l kn by unfold ky_I; rw [g3, g4]; exact d2u) (t 1 10 2220 (by decide) (by decide) (by decide) (by decide)) (fun j hj => (n4u j (by omega)).2) (by funext j; unfold rr_; rw [t 12 10 1920 (by decide) (by decide) (by decide) (by decide)]) (by rw [t 13 12 24 (by decide) (by decide) (by decide) (by decide)]) (by
      rcases G with ⟨q1, -⟩ | ⟨q1, q2, -⟩
      · exact Or.inl q1
      · exact Or.inr ⟨q1, q2 trivial⟩) (by unfold kb_; rw [g3, g4]) hp he ho
  -- the end
  have fin : ∀ {A B : List Nat} {T S1 S2 : gS} {x : Int32}, fr_S A B Su T → (∀ x ∈ A, scA z x ∧ x ≠ z + 45) → (∀ x ∈ B, z + 27 ≤ x ∧ x ≤ z + 34) → fr_S [z + 45, z + 45 + 14, z + 45 + 15, z + 45 + 16, z + 45 + 18, z + 45 + 19] [] T S1 → gI S1 (z + 45) 0 = 0 → gI S1 (z + 45) 2 = nI 0 → gI S1 (z + 45) 4 = gI T (z + 45) 4 → gI S1 (z + 45) 17 = nI 0 → fr_S [z + 45 + 12, z + 45 + 13] [] S1 S2 → vw_ z S2 → gL T (z + 65) 0 = x.toInt64 → f_X8_follow T (z + 45) (nI w) (nI l) = some (x, S2) → Tq z (some (0, T)) (fun T => f_X8_follow T (z + 45) (nI w) (nI l)) := by
    intro A B T S1 S2 x F hA hB F1 k0 k2 k4 k17 F2 vw gl ef
    have hBl : ∀ x ∈ B, lyB z x := fun x hx => by have := hB x hx; unfold lyB; omega
    have yT := ly_fr yu F hBl
    have y1 := ly_fr yT F1 (by simp)
    have M1 := (ly_md y1).1
    have m2 : gI S2 (z + 45) = gI S1 (z + 45) := fr_I F2 M1 (by (try unfold lq_) <;> (try unfold pq_) <;> (try unfold cq_) <;> (simp only [List.mem_cons, List.not_mem_nil, or_false, false_or, not_false_eq_true, List.cons_append, List.nil_append]) <;> omega)
    have mT : gI T (z + 45) = gI S (z + 45) := (fr_I F Mu.1 (fun q => (hA _ q).2 rfl)).trans mu
    have F12 : fr_S ([z + 45, z + 45 + 14, z + 45 + 15, z + 45 + 16, z + 45 + 18, z + 45 + 19] ++ [z + 45 + 12, z + 45 + 13]) [] T S2 := fr_ap F1 F2
    have FF : fr_S (([z + 1] ++ A) ++ ([z + 45, z + 45 + 14, z + 45 + 15, z + 45 + 16, z + 45 + 18, z + 45 + 19] ++ [z + 45 + 12, z + 45 + 13])) (([] ++ B) ++ []) S S2 := fr_ap (fr_ap Fu F) F12
    have hAF : ∀ x ∈ ([z + 1] ++ A) ++ ([z + 45, z + 45 + 14, z + 45 + 15, z + 45 + 16, z + 45 + 18, z + 45 + 19] ++ [z + 45 + 12, z + 45 + 13]), scA z x ∨ x = z + 1 ∨ x = z + 57 ∨ x = z + 58 := fun x hx => by
      rcases List.mem_append.mp hx with q | q
      · rcases List.mem_append.mp q with q | q
        · simp only [List.mem_cons, List.not_mem_nil, or_false] at q; exact Or.inr (Or.inl q)
        · exact Or.inl (hA x q).1
      · simp only [List.mem_cons, List.not_mem_nil, or_false, List.mem_append] at q
        unfold scA
        omega
    refine ⟨0, T, x, S2, rfl, (ly_md yT).1, ef, by rw [m2]; exact k0, fun _ => ?_, in_vw h FF hAF (fun x hx => by rw [List.append_nil, List.nil_append] at hx; exact hB x hx) (tp_0 h.2.1 y FF (fun x hx => by have := hAF x hx; unfold scA at this; omega) ?_ (by rw [m2]; exact k2)) (by rw [m2, k4, mT]) (by rw [m2]; exact k17) vw⟩
    · rw [fr_L F12 yT.2.2.2.2.2.2.2.2.2.1.1 (by (try unfold lq_) <;> (try unfold pq_) <;> (try unfold cq_) <;> (simp only [List.mem_cons, List.not_mem_nil, or_false, false_or, not_false_eq_true, List.cons_append, List.nil_append]) <;> omega), gl]
    · rw [fr_I F12 yT.2.1.1 (by (try unfold lq_) <;> (try unfold pq_) <;> (try unfold cq_) <;> (simp only [List.mem_cons, List.not_mem_nil, or_false, false_or, not_false_eq_true, List.cons_append, List.nil_append]) <;> omega), fr_I F yu.2.1.1 (fun q => by have := (hA _ q).1; unfold scA at this; omega)]; exact cu
  generalize hj : jc_ p e o (s_lg (gI Su (z + 46)) 0) (s_lg (gI Su (z + 46)) 8) (s_lg (rr_ Su (z + 57) (3 * (2 * w + l))) 0) (s_lg (rr_ Su (z + 57) (3 * (2 * w + l))) 8) n (gI Su (z + 58) (3 * (2 * w + l))) = jc at *
  have zj := ly_z yj
  have wj := ly_wf yj
  have rbj : rb_ Sj (z + 2) 2200 (gI Su (z + 46)) := rb_fr n4u fj yu.2.1.2.2.1 (fun q => by have := (hAj _ q).1; unfold scA at this; omega)
  have A6 : ∀ {A : List Nat}, (∀ x ∈ A, scA z x ∧ x ≠ z + 45) → ∀ x ∈ A, x < z + 66 := fun hA x hx => by have := (hA x hx).1; unfold scA at this; omega
  have hA65 : ∀ {A : List Nat}, (∀ x ∈ A, scA z x ∧ x ≠ z + 45) → ∀ x ∈ A ++ [z + 65], scA z x ∧ x ≠ z + 45 := fun hA x hx => by
    rcases List.mem_append.mp hx with q | q
    · exact hA x q
    · simp only [List.mem_cons, List.not_mem_nil, or_false] at q; unfold scA; omega
  have m6 : ∀ x ∈ [z + 45, z + 45 + 14, z + 45 + 15, z + 45 + 16, z + 45 + 18, z + 45 + 19], x < z + 66 := fun x hx => by simp only [List.mem_cons, List.not_mem_nil, or_false] at hx; omega
  have m7 : ∀ x ∈ [z + 45 + 12, z + 45 + 13], x < z + 66 := fun x hx => by simp only [List.mem_cons, List.not_mem_nil, or_false] at hx; omega
  have tr : ∀ {A B : List Nat} {T S1 : gS}, fr_S A B Su T → (∀ x ∈ A, scA z x ∧ x ≠ z + 45) → (∀ x ∈ B, lyB z x) → fr_S [z + 45, z + 45 + 14, z + 45 + 15, z + 45 + 16, z + 45 + 18, z + 45 + 19] [] T S1 → gI S1 (z + 45 + 12) = gI Su (z + 57) ∧ gI S1 (z + 45 + 13) = gI Su (z + 58) ∧ gI S1 (z + 45 + 1) = gI Su (z + 46) ∧ md_L S1 (z + 45) := by
    intro A B T S1 F hA hB F1
    have yT := ly_fr yu F hB
    have nA : ∀ o, 1 ≤ o → o < 14 → z + 45 + o ∉ A := fun o h1 h2 q => by have := (hA _ q).1; unfold scA at this; omega
    refine ⟨?_, ?_, ?_, md_fr (ly_md yT) F1 (by simp)⟩
    · rw [fr_I F1 (ly_mk yT 12 10 1920) (by (try unfold lq_) <;> (try unfold pq_) <;> (try unfold cq_) <;> (simp only [List.mem_cons, List.not_mem_nil, or_false, false_or, not_false_eq_true, List.cons_append, List.nil_append]) <;> omega), fr_I F (ly_mk yu 12 10 1920) (nA 12 (by decide) (by decide))]
    · rw [fr_I F1 (ly_mk yT 13 12 24) (by (try unfold lq_) <;> (try unfold pq_) <;> (try unfold cq_) <;> (simp only [List.mem_cons, List.not_mem_nil, or_false, false_or, not_false_eq_true, List.cons_append, List.nil_append]) <;> omega), fr_I F (ly_mk yu 13 12 24) (nA 13 (by decide) (by decide))]
    · rw [fr_I F1 (ly_mk yT 1 10 2220) (by (try unfold lq_) <;> (try unfold pq_) <;> (try unfold cq_) <;> (simp only [List.mem_cons, List.not_mem_nil, or_false, false_or, not_false_eq_true, List.cons_append, List.nil_append]) <;> omega), fr_I F (ly_mk yu 1 10 2220) (nA 1 (by decide) (by decide))]
  -- nothing is kept
  have plain : ∀ T, T = gsL Sj (z + 65) 0 jc.toInt64 → (∀ S1, gI S1 (z + 45 + 12) = gI Su (z + 57) ∧ gI S1 (z + 45 + 13) = gI Su (z + 58) ∧ gI S1 (z + 45 + 1) = gI Su (z + 46) ∧ md_L S1 (z + 45) → fe_ (z + 45) (3 * (2 * w + l)) jc S1 = some (jc, S1)) → Tq z (some (0, T)) (fun T => f_X8_follow T (z + 45) (nI w) (nI l)) := by
    intro T hT hfe
    have F : fr_S ((lq_ (z + 6 + 10 * l) ++ (pq_ (z + 35) ++ cq_ (z + 39))) ++ [z + 65]) ([] ++ []) Su T := by rw [hT]; exact fr_ap fj (fr_l (by simp))
    rw [List.append_nil] at F
    obtain ⟨S1, F1, k0, k2, k4, k17, e1⟩ := ref F (hA65 hAj) (by simp)
    obtain ⟨t12, t13, t1, M1⟩ := tr F (hA65 hAj) (by simp) F1
    have yT := ly_fr yu F (by simp)
    refine fin F (hA65 hAj) (by simp) F1 k0 k2 k4 k17 (fr_refl _ _ _) (vs_vw (vs_c (vs_fr (vs_fr h0 F (A6 (hA65 hAj)) (by simp)) F1 m6 (by simp)) (fun v q hv hq => ?_) (fun c hc => ?_) (fun c j hc hj => ?_))) (by rw [hT, sL_s, va_up_s]) (e1.trans (hfe S1 ⟨t12, t13, t1, M1⟩))
    · show gR S1 (z + 27 + v) q = gR Su (z + 27 + v) q
      rw [fr_R F1 (yT.2.2.2.2.2.1.2.2 v hv).2 (by simp), fr_R F (yu.2.2.2.2.2.1.2.2 v hv).2 (by simp)]
    · show gI S1 (z + 45 + 13) c = _
      rw [t13]
    · show gI S1 (z + 45 + 12) _ = _
      rw [t12]; rfl
  have hBV : ∀ x ∈ [z + 27 + (2 * w + l)], z + 27 ≤ x ∧ x ≤ z + 34 := fun x hx => by simp only [List.mem_cons, List.not_mem_nil, or_false] at hx; omega
  have hBVl : ∀ x ∈ [z + 27 + (2 * w + l)], lyB z x := fun x hx => by have := hBV x hx; unfold lyB; omega
  have hBV6 : ∀ x ∈ [z + 27 + (2 * w + l)], x < z + 66 := fun x hx => by have := hBV x hx; omega
  -- a new row
  have yn := ly_fr yj (fr_n (kd := 3) (n := 1) (A := []) (B := []) wj) (by simp)
  obtain ⟨S7, e7, f7, r7, z7⟩ := p_new (zz := z + 66) (S := Sj) (src := z + 2) (n := 80) wj zj yj.2.1.2.2.1 (by rw [yj.2.1.2.2.2]; decide) (by rw [yj.2.1.2.2.2]; decide) (by decide)
  have y7 := ly_fr yj f7 (by simp)
  have kV7 := (y7.2.2.2.2.2.1.2.2 (2 * w + l) hv).2
  have q7 : vq_ z S7 (gZ Sj) (gI Su (z + 46)) := ⟨fun j hj => (n4u j (by omega)).2, rw_c r7 fun j hj => (rbj j (by omega)).1⟩
  by_cases j0 : jc = 0
  · subst j0
    rw [if_pos rfl, e_let, e_let, e_gR yn.1.1, e_bs, yn.1.2.1, e_gR yn.2.1.1, e_bs, yn.2.1.2.1, show f_X3_init (gnw Sj 3 1) (gZ Sj) (some (z + 2)) 80 = _ from e7, e_bs, e_pR kV7, e_bs]
    unfold f_X7_follow_B88
    rw [if_neg (by decide), e_bxr, aL_o (ly_fr y7 (fr_r (A := []) (B := [z + 27 + (2 * w + l)]) (by simp)) hBVl), e_bs]
    have F : fr_S ((lq_ (z + 6 + 10 * l) ++ (pq_ (z + 35) ++ cq_ (z + 39))) ++ [z + 65]) [z + 27 + (2 * w + l)] Su (gsL (gsR S7 (z + 27 + (2 * w + l)) 0 (some (gZ Sj))) (z + 65) 0 (0 : Int32).toInt64) := fr_tr (fr_mo fj (fun _ q => List.mem_append_left _ q) (by simp)) (fr_tr (fr_mo f7 (by simp) (by simp)) (fr_tr (fr_r (by simp)) (fr_l (by simp))))
    have F7 : fr_S [z + 65] [z + 27 + (2 * w + l)] S7 (gsL (gsR S7 (z + 27 + (2 * w + l)) 0 (some (gZ Sj))) (z + 65) 0 (0 : Int32).toInt64) := fr_tr (fr_r (by simp)) (fr_l (by simp))
    have RT : ∀ v q, v < 8 → gR (gsL (gsR S7 (z + 27 + (2 * w + l)) 0 (some (gZ Sj))) (z + 65) 0 (0 : Int32).toInt64) (z + 27 + v) q = if v = 2 * w + l ∧ q = 0 then some (gZ Sj) else gR Su (z + 27 + v) q := fun v q hv' => by
      have e1 : gR S7 (z + 27 + v) = gR Su (z + 27 + v) := by rw [fr_R f7 (yj.2.2.2.2.2.1.2.2 v hv').2 (by simp), fr_R fj (yu.2.2.2.2.2.1.2.2 v hv').2 (by simp)]
      rw [sL_R]
      by_cases c : v = 2 * w + l
      · subst c
        rw [sR_s, va_up_e, e1]
        by_cases c2 : q = 0
        · rw [if_pos c2]; exact (if_pos ⟨rfl, c2⟩).symm
        · rw [if_neg c2]; exact (if_neg (fun w => c2 w.2)).symm
      · rw [sR_n (by omega), e1, if_neg (fun w => c w.1)]
    have gl : gL (gsL (gsR S7 (z + 27 + (2 * w + l)) 0 (some (gZ Sj))) (z + 65) 0 (0 : Int32).toInt64) (z + 65) 0 = (0 : Int32).toInt64 := by rw [sL_s, va_up_s]
    generalize gsL (gsR S7 (z + 27 + (2 * w + l)) 0 (some (gZ Sj))) (z + 65) 0 (0 : Int32).toInt64 = T at *
    obtain ⟨S1, F1, k0, k2, k4, k17, e1⟩ := ref F (hA65 hAj) hBVl
    obtain ⟨t12, t13, t1, M1⟩ := tr F (hA65 hAj) hBVl F1
    obtain ⟨S2, e2, F2, x2, w2⟩ := p8_keep (S := S1) (m := z + 45) (c := 3 * (2 * w + l)) M1 (by omega)
    have yT := ly_fr yu F hBVl
    have y1 := ly_fr yT F1 (by simp)
    have Qn : vq_ z S2 (gZ Sj) (gI Su (z + 46)) := vq_fr (vq_fr (vq_fr q7 F7 (fun x hx => by simp only [List.mem_cons, List.not_mem_nil, or_false] at hx; omega) hBV6) F1 m6 (by simp)) F2 m7 (by simp)
    have v0 := vs_fr (vs_fr (vs_fr h0 F (A6 (hA65 hAj)) hBV6) F1 m6 (by simp)) F2 m7 (by simp)
    have v1 := vs_put (v := 2 * w + l) (q := 0) v0 (by decide) Qn (fun _ => hj0 rfl)
    refine fin F (hA65 hAj) hBV F1 k0 k2 k4 k17 F2 (vs_vw (vs_c v1 (fun v q hv' hq => ?_) (fun c hc => ?_) (fun c j hc hj => ?_))) gl (e1.trans ?_)
    · show gR S2 (z + 27 + v) q = if v = 2 * w + l ∧ q = 0 then some (gZ Sj) else gR Su (z + 27 + v) q
      rw [fr_R F2 (y1.2.2.2.2.2.1.2.2 v hv').2 (by simp), fr_R F1 (yT.2.2.2.2.2.1.2.2 v hv').2 (by simp), RT v q hv']
    · show gI S2 (z + 45 + 13) c = if c = 3 * (2 * w + l) then 1 else gI Su (z + 58) c
      rw [x2 c, t13]
    · show rr_ S2 (z + 45 + 12) c j = (if c = 3 * (2 * w + l) then gI Su (z + 46) else rr_ Su (z + 57) c) j
      rw [w2 c j hj, t1]
      by_cases c' : c = 3 * (2 * w + l)
      · rw [if_pos c', if_pos c']
      · rw [if_neg c', if_neg c']; unfold rr_; rw [t12]
    · unfold fe_
      rw [if_pos rfl, e2, e_bs]
  rw [if_neg j0]
  unfold f_X7_follow_B88
  by_cases j3 : jc = 3
  rotate_left
  · rw [if_neg j3, e_bxr, aL_o yj, e_bs]
    refine plain _ rfl fun S1 _ => ?_
    unfold fe_
    rw [if_neg j0, if_neg j3]
  subst j3
  have RVj : gR Sj (z + 27 + (2 * w + l)) = gR Su (z + 27 + (2 * w + l)) := fr_R fj kV (by simp)
  rw [if_pos rfl, e_dc kVj, c_lacks kVj, e_bi, RVj]
  have G1 := vs_get h0 hv (show 1 < 3 by decide)
  rcases G1 with ⟨fl1, rn⟩ | ⟨fl1, -, r1, rn, -⟩
  rotate_left
  · rw [show gR Su (z + 27 + (2 * w + l)) 1 = some r1 from rn, if_neg (show ¬ some r1 = none from fun e => nomatch e), if_pos rfl, e_bxr, aL_o yj, e_bs]
    refine plain _ rfl fun S1 hS1 => ?_
    obtain ⟨t12, t13, t1, M1⟩ := hS1
    unfold fe_
    rw [if_neg (by decide), if_pos rfl, e_gR M1.1, e_bs, md_r M1 15 13, nI_1, e_I (md_k M1 13 12 24) (md_n M1 13 12 24) (by omega), e_bs, t13, fl1, if_neg (by decide)]
  -- what shows two stories
  rcases G with ⟨g0, -⟩ | ⟨g0, -, r0, g0', Q0⟩
  · exact (hj3 rfl g0).elim
  rw [show gR Su (z + 27 + (2 * w + l)) 1 = none from rn, if_pos rfl, if_neg (by decide), e_gR kVj, e_bs, RVj, show gR Su (z + 27 + (2 * w + l)) 0 = some r0 from g0', e_let, e_let, e_gR yn.1.1, e_bs, yn.1.2.1, e_gR yn.2.1.1, e_bs, yn.2.1.2.1, show f_X3_init (gnw Sj 3 1) (gZ Sj) (some (z + 2)) 80 = _ from e7, e_bs, e_dc kV7]
  obtain ⟨S8, e8, f8, x8⟩ := c_keepEv (S := S7) (v := z + 27 + (2 * w + l)) (x := some r0) (y := some (gZ Sj)) kV7
  have y8 := ly_fr y7 f8 hBVl
  rw [e8, e_bs, e_bxr, aL_o y8, e_bs]
  have F : fr_S ((lq_ (z + 6 + 10 * l) ++ (pq_ (z + 35) ++ cq_ (z + 39))) ++ [z + 65]) [z + 27 + (2 * w + l)] Su (gsL S8 (z + 65) 0 (3 : Int32).toInt64) := fr_tr (fr_mo fj (fun _ q => List.mem_append_left _ q) (by simp)) (fr_tr (fr_mo f7 (by simp) (by simp)) (fr_tr (fr_mo f8 (by simp) (fun _ q => q)) (fr_l (by simp))))
  have F7 : fr_S [z + 65] [z + 27 + (2 * w + l)] S7 (gsL S8 (z + 65) 0 (3 : Int32).toInt64) := fr_tr (fr_mo f8 (by simp) (fun _ q => q)) (fr_l (by simp))
  have RT : ∀ v q, v < 8 → gR (gsL S8 (z + 65) 0 (3 : Int32).toInt64) (z + 27 + v) q = if v = 2 * w + l ∧ q = 2 then some (gZ Sj) else if v = 2 * w + l ∧ q = 1 then some r0 else gR Su (z + 27 + v) q := fun v q hv' => by
    have e1 : gR S7 (z + 27 + v) = gR Su (z + 27 + v) := by rw [fr_R f7 (yj.2.2.2.2.2.1.2.2 v hv').2 (by simp), fr_R fj (yu.2.2.2.2.2.1.2.2 v hv').2 (by simp)]
    rw [sL_R]
    by_cases c : v = 2 * w + l
    · subst c
      rw [x8 q, e1, show gR Su (z + 27 + (2 * w + l)) 1 = none from rn]
      by_cases c2 : q = 2
      · rw [if_pos ⟨rfl, Or.inr c2⟩, if_neg (by omega)]; exact (if_pos ⟨rfl, c2⟩).symm
      · by_cases c1 : q = 1
        · rw [if_pos ⟨rfl, Or.inl c1⟩, if_pos c1, if_neg (show ¬ (2 * w + l = 2 * w + l ∧ q = 2) from fun w => c2 w.2)]; exact (if_pos ⟨rfl, c1⟩).symm
        · rw [if_neg (fun w => w.2.elim c1 c2), if_neg (show ¬ (2 * w + l = 2 * w + l ∧ q = 2) from fun w => c2 w.2), if_neg (show ¬ (2 * w + l = 2 * w + l ∧ q = 1) from fun w => c1 w.2)]
    · rw [fr_R f8 (y7.2.2.2.2.2.1.2.2 v hv').2 (by simp only [List.mem_cons, List.not_mem_nil, or_false]; omega), e1, if_neg (fun w => c w.1), if_neg (fun w => c w.1)]
  have gl : gL (gsL S8 (z + 65) 0 (3 : Int32).toInt64) (z + 65) 0 = (3 : Int32).toInt64 := by rw [sL_s, va_up_s]
  generalize gsL S8 (z + 65) 0 (3 : Int32).toInt64 = T at *
  obtain ⟨S1, F1, k0, k2, k4, k17, e1⟩ := ref F (hA65 hAj) hBVl
  obtain ⟨t12, t13, t1, M1⟩ := tr F (hA65 hAj) hBVl F1
  obtain ⟨S2, e2, F2, x2, w2⟩ := p8_cseen (S := S1) (m := z + 45) (a := 3 * (2 * w + l)) (b := 3 * (2 * w + l) + 1) M1 (by omega) (by omega) (by omega)
  have M2 := md_fr M1 F2 (by simp)
  obtain ⟨S3, e3, F3, x3, w3⟩ := p8_keep (S := S2) (m := z + 45) (c := 3 * (2 * w + l) + 2) M2 (by omega)
  have F23 := fr_tr F2 F3
  have t1' : gI S2 (z + 45 + 1) = gI Su (z + 46) := by rw [fr_I F2 (md_k M1 1 10 2220) (by (try unfold lq_) <;> (try unfold pq_) <;> (try unfold cq_) <;> (simp only [List.mem_cons, List.not_mem_nil, or_false, false_or, not_false_eq_true, List.cons_append, List.nil_append]) <;> omega), t1]
  have yT := ly_fr yu F hBVl
  have y1 := ly_fr yT F1 (by simp)
  have Qn : vq_ z S3 (gZ Sj) (gI Su (z + 46)) := vq_fr (vq_fr (vq_fr q7 F7 (fun x hx => by simp only [List.mem_cons, List.not_mem_nil, or_false] at hx; omega) hBV6) F1 m6 (by simp)) F23 m7 (by simp)
  have Q0' : vq_ z S3 r0 (rr_ Su (z + 57) (3 * (2 * w + l))) := vq_fr (vq_fr (vq_fr Q0 F (A6 (hA65 hAj)) hBV6) F1 m6 (by simp)) F23 m7 (by simp)
  have v0 := vs_fr (vs_fr (vs_fr h0 F (A6 (hA65 hAj)) hBV6) F1 m6 (by simp)) F23 m7 (by simp)
  have v1 := vs_put (v := 2 * w + l) (q := 1) v0 (by decide) Q0' (fun e => absurd e (by decide))
  have v2 := vs_put (v := 2 * w + l) (q := 2) v1 (by decide) Qn (fun e => absurd e (by decide))
  refine fin F (hA65 hAj) hBV F1 k0 k2 k4 k17 F23 (vs_vw (vs_c v2 (fun v q hv' hq => ?_) (fun c hc => ?_) (fun c j hc hj => ?_))) gl (e1.trans ?_)
  · show gR S3 (z + 27 + v) q = if v = 2 * w + l ∧ q = 2 then some (gZ Sj) else if v = 2 * w + l ∧ q = 1 then some r0 else gR Su (z + 27 + v) q
    rw [fr_R F23 (y1.2.2.2.2.2.1.2.2 v hv').2 (by simp), fr_R F1 (yT.2.2.2.2.2.1.2.2 v hv').2 (by simp), RT v q hv']
  · show gI S3 (z + 45 + 13) c = if c = 3 * (2 * w + l) + 2 then 1 else if c = 3 * (2 * w + l) + 1 then 1 else gI Su (z + 58) c
    rw [x3 c, x2 c, t13]
  · show rr_ S3 (z + 45 + 12) c j = (if c = 3 * (2 * w + l) + 2 then gI Su (z + 46) else if c = 3 * (2 * w + l) + 1 then rr_ Su (z + 57) (3 * (2 * w + l)) else rr_ Su (z + 57) c) j
    rw [w3 c j hj, w2 c j hj, t1']
    have rrE : rr_ S1 (z + 45 + 12) = rr_ Su (z + 57) := by funext c j; unfold rr_; rw [t12]
    rw [rrE]
    by_cases c1 : c = 3 * (2 * w + l) + 2
    · rw [if_pos c1, if_pos c1]
    · rw [if_neg c1, if_neg c1]
      by_cases c2 : c = 3 * (2 * w + l) + 1
      · rw [if_pos c2, if_pos c2]
      · rw [if_neg c2, if_neg c2]
  · unfold fe_
    rw [if_neg (by decide), if_pos rfl, e_gR M1.1, e_bs, md_r M1 15 13, nI_1, show nI (3 * (2 * w + l)) + 2 = nI (3 * (2 * w + l) + 2) from nI_add _ 2, e_I (md_k M1 13 12 24) (md_n M1 13 12 24) (by omega), e_bs, t13, fl1, if_pos rfl, e_dc M1.1, e2, e_bs, e_dc M2.1, e3, e_bs]
