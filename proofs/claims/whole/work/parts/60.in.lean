/-! what holds between calls -/
def ly_ (z : Nat) (S : gS) : Prop := (gK S z = 7 ∧ gR S z 0 = some (z + 1) ∧ gR S z 1 = some (z + 3) ∧ gR S z 2 = some (z + 5) ∧ gR S z 3 = some (z + 26) ∧ gR S z 4 = some (z + 35) ∧ gR S z 5 = some (z + 39)) ∧ st_L S (z + 1) (z + 2) 2200 ∧ st_L S (z + 3) (z + 4) 288 ∧ (gK S (z + 5) = 13 ∧ gN S (z + 5) = 2 ∧ ∀ l, l < 2 → gR S (z + 5) l = some (z + 6 + 10 * l)) ∧ (∀ l, l < 2 → lg_L S (z + 6 + 10 * l)) ∧ (gK S (z + 26) = 15 ∧ gN S (z + 26) = 8 ∧ ∀ v, v < 8 → gR S (z + 26) v = some (z + 27 + v) ∧ gK S (z + 27 + v) = 6) ∧ pt_L S (z + 35) ∧ cb_L S (z + 39) ∧ md_L S (z + 45) ∧ (gK S (z + 65) = 11 ∧ gN S (z + 65) = 1) ∧ wf_S S
def lyB (z x : Nat) : Prop := (z + 11 ≤ x ∧ x ≤ z + 13) ∨ (z + 21 ≤ x ∧ x ≤ z + 23) ∨ (z + 27 ≤ x ∧ x ≤ z + 34)
def loA (z l x : Nat) : Prop := x < z + 66 ∧ x ≠ z + 6 + 10 * l ∧ x ≠ z + 6 + 10 * l + 4 ∧ ¬ (z + 48 ≤ x ∧ x ≤ z + 56)
def loB (z l x : Nat) : Prop := x < z + 66 ∧ ¬ (z + 6 + 10 * l + 5 ≤ x ∧ x ≤ z + 6 + 10 * l + 7)
def tpA (z x : Nat) : Prop := x ≠ z + 1 ∧ x ≠ z + 2 ∧ x ≠ z + 46
def ooA (z x : Nat) : Prop := x ≠ z + 3 ∧ x ≠ z + 4 ∧ x ≠ z + 47
def msA (z x : Nat) : Prop := x ≠ z + 62
def vwA (z x : Nat) : Prop := x < z + 66 ∧ x ≠ z + 57 ∧ x ≠ z + 58
def vwB (z x : Nat) : Prop := x < z + 66 ∧ ¬ (z + 27 ≤ x ∧ x ≤ z + 34)
def scA (z x : Nat) : Prop := (z + 7 ≤ x ∧ x ≤ z + 9) ∨ (z + 14 ≤ x ∧ x ≤ z + 15) ∨ (z + 17 ≤ x ∧ x ≤ z + 19) ∨ (z + 24 ≤ x ∧ x ≤ z + 25) ∨ (z + 35 ≤ x ∧ x ≤ z + 45) ∨ (z + 59 ≤ x ∧ x ≤ z + 61) ∨ (z + 63 ≤ x ∧ x ≤ z + 65)
def tp_ (z : Nat) (S : gS) : Prop := ∃ n, n ≤ 2200 ∧ gI S (z + 1) 1 = nI n ∧ gI S (z + 45) 2 = nI n ∧ rb_ S (z + 2) 2200 (gI S (z + 46))
def oo_ (z : Nat) (S : gS) : Prop := ∃ n, n ≤ 288 ∧ gI S (z + 3) 1 = nI n ∧ gI S (z + 45) 4 = nI n ∧ rb_ S (z + 4) 288 (gI S (z + 47))
def ms_ (z : Nat) (S : gS) : Prop := gI S (z + 45) 17 = nI 0 ∧ ∀ t, t < 64 → gI S (z + 62) t = g_round.getD t 0
def kf_ (S : gS) (z l i : Nat) : Nat := (gI S (z + 51) (200 * l + i)).toNatClampNeg
def ef_ (S : gS) (z l i j : Nat) : Int32 := gI S (z + 50) (120 * (200 * l + i) + j)
def hf_ (S : gS) (z l i j : Nat) : Int32 := gI S (z + 54) (80 * (40 * l + i) + j)
def lo_ (z : Nat) (S : gS) (l N TS H kn : Nat) : Prop := (gI S (z + 6 + 10 * l) 4 = nI N ∧ gI S (z + 52) l = nI N ∧ en_I S (z + 45) l N) ∧ (gI S (z + 6 + 10 * l) 6 = nI TS ∧ gI S (z + 53) l = nI TS ∧ TS ≤ N) ∧ (gI S (z + 6 + 10 * l) 8 = nI H ∧ gI S (z + 56) l = nI H ∧ H ≤ 40) ∧ (gI S (z + 6 + 10 * l) 2 = nI kn ∧ ky_I S (z + 45) l kn) ∧ (∀ j, j < 64 → gI S (z + 6 + 10 * l + 4) j = sb_ (kb_ S (z + 45) l j)) ∧ er_I (z + 66) S (z + 6 + 10 * l) N (kf_ S z l) (ef_ S z l) ∧ fu_I (z + 66) S (z + 6 + 10 * l) (lf_ S (z + 45) l) N ∧ hd_I (z + 66) S (z + 6 + 10 * l) H (hf_ S z l) ∧ (0 < H → gL S (z + 55) l = s_lg (hf_ S z l (H - 1)) 0)
def vw_ (z : Nat) (S : gS) : Prop := ∀ v q, v < 8 → q < 3 → (gI S (z + 58) (3 * v + q) = 0 ∧ gR S (z + 27 + v) q = none) ∨ (gI S (z + 58) (3 * v + q) = 1 ∧ (∀ j, j < 80 → bt_ (gI S (z + 57) (80 * (3 * v + q) + j))) ∧ (q = 0 → ¬ s_lg (fun j => gI S (z + 57) (80 * (3 * v + q) + j)) 8 < 0) ∧ ∃ r, gR S (z + 27 + v) q = some r ∧ rw_at (z + 66) S r 80 (fun j => sb_ (gI S (z + 57) (80 * (3 * v + q) + j))))
def in_ (z : Nat) (S : gS) : Prop := ly_ z S ∧ tp_ z S ∧ oo_ z S ∧ ms_ z S ∧ (∀ l, l < 2 → ∃ N TS H kn, lo_ z S l N TS H kn) ∧ vw_ z S
theorem ly_fr {z : Nat} {A B : List Nat} {S S' : gS} (h : ly_ z S) (F : fr_S A B S S') (hB : ∀ x ∈ B, lyB z x) : ly_ z S' := by
  have nB : ∀ x, ¬ lyB z x → x ∉ B := fun x hx q => hx (hB x q)
  obtain ⟨⟨a0, a1, a2, a3, a4, a5, a6⟩, h1, h2, ⟨b1, b2, b3⟩, h3, ⟨c1, c2, c3⟩, h4, h5, h6, ⟨d1, d2⟩, w⟩ := h
  have n0 : z ∉ B := nB z (by unfold lyB; omega)
  refine ⟨⟨fr_K F a0, ?_, ?_, ?_, ?_, ?_, ?_⟩, st_fr h1 F (nB _ (by unfold lyB; omega)), st_fr h2 F (nB _ (by unfold lyB; omega)), ⟨fr_K F b1, ?_, fun l hl => ?_⟩, fun l hl => lg_fr (h3 l hl) F (nB _ (by unfold lyB; omega)) (nB _ (by unfold lyB; omega)), ⟨fr_K F c1, ?_, fun v hv => ⟨?_, fr_K F (c3 v hv).2⟩⟩, pt_fr h4 F (nB _ (by unfold lyB; omega)), cb_fr h5 F (nB _ (by unfold lyB; omega)) (nB _ (by unfold lyB; omega)), md_fr h6 F (nB _ (by unfold lyB; omega)), ⟨fr_K F d1, ?_⟩, F.1 w⟩
  · rw [fr_R F a0 n0]; exact a1
  · rw [fr_R F a0 n0]; exact a2
  · rw [fr_R F a0 n0]; exact a3
  · rw [fr_R F a0 n0]; exact a4
  · rw [fr_R F a0 n0]; exact a5
  · rw [fr_R F a0 n0]; exact a6
  · rw [fr_N F b1]; exact b2
  · rw [fr_R F b1 (nB _ (by unfold lyB; omega))]; exact b3 l hl
  · rw [fr_N F c1]; exact c2
  · rw [fr_R F c1 (nB _ (by unfold lyB; omega))]; exact (c3 v hv).1
  · rw [fr_N F d1]; exact d2
theorem ly_mk {z : Nat} {S : gS} (h : ly_ z S) (o k n : Nat) (hq : (o, k, n) ∈ md_A := by decide) : gK S (z + 45 + o) = k := md_k h.2.2.2.2.2.2.2.2.1 o k n hq
theorem ly_md {z : Nat} {S : gS} (h : ly_ z S) : md_L S (z + 45) := h.2.2.2.2.2.2.2.2.1
theorem ly_wf {z : Nat} {S : gS} (h : ly_ z S) : wf_S S := h.2.2.2.2.2.2.2.2.2.2
theorem ly_lg {z l : Nat} {S : gS} (h : ly_ z S) (hl : l < 2) : lg_L S (z + 6 + 10 * l) := h.2.2.2.2.1 l hl
theorem ly_z {z : Nat} {S : gS} (h : ly_ z S) : z + 66 ≤ gZ S := by
  have := ly_wf h (z + 65) (by rw [h.2.2.2.2.2.2.2.2.2.1.1]; decide)
  omega
theorem tp_fr {z : Nat} {A B : List Nat} {S S' : gS} (h : tp_ z S) (hy : ly_ z S) (F : fr_S A B S S') (hA : ∀ x ∈ A, tpA z x) (hm : gI S' (z + 45) 2 = gI S (z + 45) 2) : tp_ z S' := by
  obtain ⟨n, h1, h2, h3, h4⟩ := h
  have nA : ∀ x, ¬ tpA z x → x ∉ A := fun x hx q => hx (hA x q)
  have e : gI S' (z + 46) = gI S (z + 46) := fr_I F (ly_mk hy 1 10 2220) (nA _ (by unfold tpA; omega))
  refine ⟨n, h1, ?_, by rw [hm]; exact h3, ?_⟩
  · rw [fr_I F hy.2.1.1 (nA _ (by unfold tpA; omega))]; exact h2
  · rw [e]; exact rb_fr h4 F hy.2.1.2.2.1 (nA _ (by unfold tpA; omega))
theorem oo_fr {z : Nat} {A B : List Nat} {S S' : gS} (h : oo_ z S) (hy : ly_ z S) (F : fr_S A B S S') (hA : ∀ x ∈ A, ooA z x) (hm : gI S' (z + 45) 4 = gI S (z + 45) 4) : oo_ z S' := by
  obtain ⟨n, h1, h2, h3, h4⟩ := h
  have nA : ∀ x, ¬ ooA z x → x ∉ A := fun x hx q => hx (hA x q)
  have e : gI S' (z + 47) = gI S (z + 47) := fr_I F (ly_mk hy 2 10 2400) (nA _ (by unfold ooA; omega))
  refine ⟨n, h1, ?_, by rw [hm]; exact h3, ?_⟩
  · rw [fr_I F hy.2.2.1.1 (nA _ (by unfold ooA; omega))]; exact h2
  · rw [e]; exact rb_fr h4 F hy.2.2.1.2.2.1 (nA _ (by unfold ooA; omega))
theorem ms_fr {z : Nat} {A B : List Nat} {S S' : gS} (h : ms_ z S) (hy : ly_ z S) (F : fr_S A B S S') (hA : ∀ x ∈ A, msA z x) (hm : gI S' (z + 45) 17 = gI S (z + 45) 17) : ms_ z S' := by
  have nA : ∀ x, ¬ msA z x → x ∉ A := fun x hx q => hx (hA x q)
  refine ⟨by rw [hm]; exact h.1, fun t ht => ?_⟩
  rw [fr_I F (ly_mk hy 17 10 64) (nA _ (by unfold msA; omega))]; exact h.2 t ht
theorem lo_fr {z l N TS H kn : Nat} {A B : List Nat} {S S' : gS} (h : lo_ z S l N TS H kn) (hl : l < 2) (hy : ly_ z S) (F : fr_S A B S S') (hA : ∀ x ∈ A, loA z l x) (hB : ∀ x ∈ B, loB z l x) : lo_ z S' l N TS H kn := by
  have nA : ∀ x, ¬ loA z l x → x ∉ A := fun x hx q => hx (hA x q)
  have nB : ∀ x, ¬ loB z l x → x ∉ B := fun x hx q => hx (hB x q)
  have hA6 : ∀ x ∈ A, x < z + 66 := fun x hx => (hA x hx).1
  have hB6 : ∀ x ∈ B, x < z + 66 := fun x hx => (hB x hx).1
  have L := ly_lg hy hl
  have eb : gI S' (z + 6 + 10 * l) = gI S (z + 6 + 10 * l) := fr_I F L.1 (nA _ (by unfold loA; omega))
  have e4 : gI S' (z + 6 + 10 * l + 4) = gI S (z + 6 + 10 * l + 4) := fr_I F (lg_k L 4 9 64) (nA _ (by unfold loA; omega))
  have g : ∀ o k n, 3 ≤ o → o ≤ 11 → (o, k, n) ∈ md_A → k < 16 → gI S' (z + 45 + o) = gI S (z + 45 + o) := fun o k n h1 h2 hq hk => fr_I F (ly_mk hy o k n hq) (nA _ (by unfold loA; omega)) hk
  have g3 := g 3 10 200 (by decide) (by decide) (by decide) (by decide)
  have g4 := g 4 10 2 (by decide) (by decide) (by decide) (by decide)
  have g5 := g 5 10 48000 (by decide) (by decide) (by decide) (by decide)
  have g6 := g 6 10 400 (by decide) (by decide) (by decide) (by decide)
  have g7 := g 7 10 2 (by decide) (by decide) (by decide) (by decide)
  have g8 := g 8 10 2 (by decide) (by decide) (by decide) (by decide)
  have g9 := g 9 10 6400 (by decide) (by decide) (by decide) (by decide)
  have g11 := g 11 10 2 (by decide) (by decide) (by decide) (by decide)
  have gl : gL S' (z + 55) = gL S (z + 55) := fr_L F (ly_mk hy 10 11 2) (nA _ (by unfold loA; omega))
  have hkf : kf_ S' z l = kf_ S z l := by funext i; unfold kf_; rw [show z + 51 = z + 45 + 6 from rfl, g6]
  have hef : ef_ S' z l = ef_ S z l := by funext i j; unfold ef_; rw [show z + 50 = z + 45 + 5 from rfl, g5]
  have hhf : hf_ S' z l = hf_ S z l := by funext i j; unfold hf_; rw [show z + 54 = z + 45 + 9 from rfl, g9]
  have hlf : lf_ S' (z + 45) l = lf_ S (z + 45) l := lf_c g5 g6
  have hkb : kb_ S' (z + 45) l = kb_ S (z + 45) l := by unfold kb_; rw [g3, g4]
  obtain ⟨⟨a1, a2, a3⟩, ⟨b1, b2, b3⟩, ⟨c1, c2, c3⟩, ⟨d1, d2⟩, k1, en, fu, hd, tm⟩ := h
  refine ⟨⟨by rw [eb]; exact a1, by rw [show z + 52 = z + 45 + 7 from rfl, g7]; exact a2, en_c a3 g5 g6⟩, ⟨by rw [eb]; exact b1, by rw [show z + 53 = z + 45 + 8 from rfl, g8]; exact b2, b3⟩, ⟨by rw [eb]; exact c1, by rw [show z + 56 = z + 45 + 11 from rfl, g11]; exact c2, c3⟩, ⟨by rw [eb]; exact d1, ?_⟩, ?_, ?_, ?_, ?_, ?_⟩
  · unfold ky_I
    rw [g3, g4]; exact d2
  · rw [e4, hkb]; exact k1
  · rw [hkf, hef]
    intro i hi
    obtain ⟨q1, q2, r, q3, q4⟩ := en i hi
    exact ⟨q1, q2, r, by rw [fr_R F (lg_k L 5 14 200) (nB _ (by unfold loB; omega))]; exact q3, rw_fr q4 F hA6 hB6⟩
  · rw [hlf]; exact fu_fr fu L F hA6 hB6 (nB _ (by unfold loB; omega))
  · rw [hhf]
    intro i hi
    obtain ⟨q1, r, q3, q4⟩ := hd i hi
    exact ⟨q1, r, by rw [fr_R F (lg_k L 7 14 40) (nB _ (by unfold loB; omega))]; exact q3, rw_fr q4 F hA6 hB6⟩
  · rw [gl, hhf]; exact tm
theorem vw_fr {z : Nat} {A B : List Nat} {S S' : gS} (h : vw_ z S) (hy : ly_ z S) (F : fr_S A B S S') (hA : ∀ x ∈ A, vwA z x) (hB : ∀ x ∈ B, vwB z x) : vw_ z S' := by
  have nA : ∀ x, ¬ vwA z x → x ∉ A := fun x hx q => hx (hA x q)
  have nB : ∀ x, ¬ vwB z x → x ∉ B := fun x hx q => hx (hB x q)
  have hA6 : ∀ x ∈ A, x < z + 66 := fun x hx => (hA x hx).1
  have hB6 : ∀ x ∈ B, x < z + 66 := fun x hx => (hB x hx).1
  have e1 : gI S' (z + 57) = gI S (z + 57) := fr_I F (ly_mk hy 12 10 1920) (nA _ (by unfold vwA; omega))
  have e2 : gI S' (z + 58) = gI S (z + 58) := fr_I F (ly_mk hy 13 12 24) (nA _ (by unfold vwA; omega))
  intro v q hv hq
  have e3 : gR S' (z + 27 + v) = gR S (z + 27 + v) := fr_R F (hy.2.2.2.2.2.1.2.2 v hv).2 (nB _ (by unfold vwB; omega))
  rw [e1, e2, e3]
  rcases h v q hv hq with c | ⟨c1, c2, cn, r, c3, c4⟩
  · exact Or.inl c
  · exact Or.inr ⟨c1, c2, cn, r, c3, rw_fr c4 F hA6 hB6⟩
/-- nothing but scratch has changed -/
theorem in_sc {z : Nat} {A : List Nat} {S S' : gS} (h : in_ z S) (F : fr_S A [] S S') (hA : ∀ x ∈ A, scA z x) (h2 : gI S' (z + 45) 2 = gI S (z + 45) 2) (h4 : gI S' (z + 45) 4 = gI S (z + 45) 4) (h17 : gI S' (z + 45) 17 = gI S (z + 45) 17) : in_ z S' := by
  obtain ⟨y, tp, oo, ms, lo, vw⟩ := h
  refine ⟨ly_fr y F (by simp), tp_fr tp y F (fun x hx => by have := hA x hx; unfold scA at this; unfold tpA; omega) h2, oo_fr oo y F (fun x hx => by have := hA x hx; unfold scA at this; unfold ooA; omega) h4, ms_fr ms y F (fun x hx => by have := hA x hx; unfold scA at this; unfold msA; omega) h17, fun l hl => ?_, vw_fr vw y F (fun x hx => by have := hA x hx; unfold scA at this; unfold vwA; omega) (by simp)⟩
  obtain ⟨N, TS, H, kn, q⟩ := lo l hl
  exact ⟨N, TS, H, kn, lo_fr q hl y F (fun x hx => by have := hA x hx; unfold scA at this; unfold loA; omega) (by simp)⟩
