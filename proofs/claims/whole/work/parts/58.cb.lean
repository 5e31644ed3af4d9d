/-! the climber, and the same in the reference -/
def cb_L (S : gS) (k : Nat) : Prop := (gK S k = 0 ∧ gR S k 0 = some (k + 1) ∧ gR S k 1 = some (k + 4) ∧ gR S k 2 = some (k + 5)) ∧ sh_L S (k + 1) (k + 2) (k + 3) ∧ (gK S (k + 4) = 9 ∧ gN S (k + 4) = 32) ∧ gK S (k + 5) = 9 ∧ gN S (k + 5) = 32
theorem cb_fr {A B : List Nat} {S S' : gS} {k : Nat} (h : cb_L S k) (F : fr_S A B S S') (hB : k ∉ B) (hB1 : k + 1 ∉ B) : cb_L S' k := by
  obtain ⟨⟨h1, h2, h3, h4⟩, h5, ⟨h6, h7⟩, h8, h9⟩ := h
  exact ⟨⟨fr_K F h1, by rw [fr_R F h1 hB]; exact h2, by rw [fr_R F h1 hB]; exact h3, by rw [fr_R F h1 hB]; exact h4⟩, sh_fr h5 F hB1, ⟨fr_K F h6, by rw [fr_N F h6]; exact h7⟩, fr_K F h8, by rw [fr_N F h8]; exact h9⟩
def cq_ (k : Nat) : List Nat := [k + 1, k + 2, k + 3, k + 4, k + 5]
theorem cq_n {k x : Nat} (h : x < k + 1 ∨ k + 5 < x) : x ∉ cq_ k := by
  unfold cq_; simp only [List.mem_cons, List.not_mem_nil, or_false]; omega
def cn_ (sd : Nat → Nat) (D : Nat → Nat → Int32) (T : Nat) (X : Nat → Int32) : Nat → Nat → Int32
  | 0 => X
  | u + 1 => if sd (T - 1 - u) = 0 then s_nd (cn_ sd D T X u) (D u) else s_nd (D u) (cn_ sd D T X u)
def co_ (sd : Nat → Nat) (D : Nat → Nat → Int32) (T : Nat) (X : Nat → Int32) : Nat → Nat → Int32
  | 0 => X
  | u + 1 => if sd (T - 1 - u) = 0 then co_ sd D T X u else s_nd (D u) (co_ sd D T X u)
theorem p_start {S : gS} {k r p : Nat} {W : Nat → Int32} (hL : cb_L S k) (hr : gK S r = 9) (hN : p + 32 ≤ gN S r) (hN2 : gN S r < 2 ^ 31) (hr4 : r ≠ k + 4) (hr5 : r ≠ k + 5) (hW : dg_at S r p W) : ∃ S', f_X0_start S k (some r) (nI p) = some S' ∧ fr_S (cq_ k) [] S S' ∧ dg_at S' (k + 4) 0 W ∧ dg_at S' (k + 5) 0 W := by
  obtain ⟨⟨h1, h2, h3, h4⟩, h5, ⟨h6, h7⟩, h8, h9⟩ := hL
  have e1 := p_copy (S := S) (r1 := r) (r2 := k + 4) (p1 := p) (p2 := 0) (n := 32) hr h6 hN (by omega) hN2 (by omega)
  have e2 := p_copy (S := gsA S (k + 4) (va_cpy (gI S r) (gI S (k + 4)) p 0 32)) (r1 := r) (r2 := k + 5) (p1 := p) (p2 := 0) (n := 32) hr h8 hN (by rw [sA_N]; omega) hN2 (by rw [sA_N]; omega)
  refine ⟨gsA (gsA S (k + 4) (va_cpy (gI S r) (gI S (k + 4)) p 0 32)) (k + 5) (va_cpy (gI (gsA S (k + 4) (va_cpy (gI S r) (gI S (k + 4)) p 0 32)) r) (gI (gsA S (k + 4) (va_cpy (gI S r) (gI S (k + 4)) p 0 32)) (k + 5)) p 0 32), ?_, fr_tr (fr_A (a := k + 4) (by unfold cq_; simp)) (fr_A (a := k + 5) (by unfold cq_; simp)), fun j hj => ?_, fun j hj => ?_⟩
  · unfold f_X0_start
    rw [e_gR h1, e_bs, h3, show (0 : Int32) = nI 0 from rfl, show (32 : Int32) = nI 32 from rfl, e1, e_bs, e_gR (S := gsA S (k + 4) _) h1, e_bs, sA_R, h4, e2, e_bs]
  · rw [sA_n (by omega), sA_s, va_cpy_e, if_pos (by omega), show p + (0 + j - 0) = p + j by omega]
    exact hW j hj
  · rw [sA_s, va_cpy_e, if_pos (by omega), show p + (0 + j - 0) = p + j by omega, sA_n hr4]
    exact hW j hj
theorem p_climbL {z n T e q1 : Nat} {c : Nat → Nat → Bool} {D : Nat → Nat → Int32} {X : Nat → Int32} (hT63 : T ≤ 63) (hq : q1 + 32 * T ≤ 2200) (fu : Nat) : ∀ r, r ≤ T → ∀ S, cb_L S (z + 39) → pt_L S (z + 35) → pt_I S (z + 35) c n T e → gK S (z + 2) = 9 → gN S (z + 2) = 2200 → (∀ u, u < T → dg_at S (z + 2) (q1 + 32 * u) (D u)) → dg_at S (z + 43) 0 (co_ (sd_ c n) D T X (T - r)) → dg_at S (z + 44) 0 (cn_ (sd_ c n) D T X (T - r)) → ∃ S', f_X0_climb_L28 (fu + r + 1) S (z + 39) (some (z + 35)) (some (z + 2)) (nI (q1 + 32 * (T - r))) (nI r - 1) = some S' ∧ fr_S (cq_ (z + 39)) [] S S' ∧ dg_at S' (z + 43) 0 (co_ (sd_ c n) D T X T) ∧ dg_at S' (z + 44) 0 (cn_ (sd_ c n) D T X T)
  | 0, hr, S, hL, hpl, hp, hk, hN, hD, h1, h2 => ⟨S, by rw [f_X0_climb_L28, if_pos m1_neg], fr_refl _ _ _, h1, h2⟩
  | r + 1, hr, S, hL, hpl, hp, hk, hN, hD, h1, h2 => by
    have hL0 := hL
    obtain ⟨⟨l1, l2, l3, l4⟩, l5, ⟨l6, l7⟩, l8, l9⟩ := hL
    have l7 : gN S (z + 43) = 32 := l7
    have l9 : gN S (z + 44) = 32 := l9
    have hDr := hD (T - (r + 1)) (by omega)
    have n2 : z + 2 ∉ cq_ (z + 39) := cq_n (by omega)
    have np : ∀ o, o < 5 → z + 35 + o ∉ cq_ (z + 39) := fun o ho => cq_n (by omega)
    have hsd := (hp.2.2.2.2 r (by omega)).2.2
    have hu : T - r = T - (r + 1) + 1 := by omega
    have hlev : T - 1 - (T - (r + 1)) = r := by omega
    rw [show fu + (r + 1) + 1 = (fu + r + 1) + 1 by omega, nI_pred, f_X0_climb_L28, if_neg (nI_pos (by omega)), if_neg (show ¬ (64 : Int32) ≤ nI r from nI_ge (b := 64) (by omega) (by decide)), e_gR hpl.1.1, e_bs, hpl.1.2.2.2, e_I hpl.2.2.2.1 hpl.2.2.2.2 (by omega), e_bs, hsd]
    by_cases c0 : sd_ c n r = 0
    · rw [c0, if_pos (by decide), e_gR l1, e_bs, l2, e_gR l1, e_bs, l4, e_bs, e_dc l5.1.1, show (0 : Int32) = nI 0 from rfl]
      obtain ⟨S1, e1, f1, i1⟩ := p_node (S := S) (a := z + 40) (st := z + 41) (wd := z + 42) (r1 := z + 44) (p1 := 0) (r2 := z + 2) (p2 := q1 + 32 * (T - (r + 1))) (r3 := z + 44) l5 l8 (by omega) (by omega) hk (by omega) (by omega) l8 (by omega) (by omega) h2 hDr
      have F1 : fr_S (cq_ (z + 39)) [] S S1 := fr_mo f1 (by unfold cq_; simp) (by simp)
      obtain ⟨S2, e2, f2, r2⟩ := p_climbL (D := D) (X := X) hT63 hq fu r (by omega) S1 (cb_fr hL0 F1 (by simp) (by simp)) (pt_fr hpl F1 (by simp)) (ptI_fr hp hpl F1 (np 0 (by decide)) (np 1 (by decide)) (np 2 (by decide)) (np 3 (by decide))) (fr_K F1 hk) (by rw [fr_N F1 hk]; exact hN) (fun u hu => dg_fr (hD u hu) F1 hk n2) (by
        rw [hu]
        show dg_at S1 (z + 43) 0 (if sd_ c n (T - 1 - (T - (r + 1))) = 0 then _ else _)
        rw [hlev, if_pos c0]
        exact dg_fr h1 f1 l6 (by simp)) (by
        rw [hu]
        show dg_at S1 (z + 44) 0 (if sd_ c n (T - 1 - (T - (r + 1))) = 0 then _ else _)
        rw [hlev, if_pos c0]
        intro j hj
        rw [i1, if_pos (by omega), Nat.zero_add])
      refine ⟨S2, ?_, fr_tr F1 f2, r2⟩
      rw [e1, e_bs, e_let, e_let, sub_1, show nI (q1 + 32 * (T - (r + 1))) + 32 = nI (q1 + 32 * (T - r)) from by rw [show (32 : Int32) = nI 32 from rfl, nI_add]; congr 1; omega]
      exact e2
    · have c1 : sd_ c n r = 1 := by
        unfold sd_ at c0 ⊢
        by_cases q : c (ds_ c n r).1 (ds_ c n r).2 = true
        · rw [if_pos q] at c0; omega
        · rw [if_neg q]
      rw [c1, if_neg (by decide), e_gR l1, e_bs, l2, e_gR l1, e_bs, l3, e_bs, e_dc l5.1.1, show (0 : Int32) = nI 0 from rfl]
      obtain ⟨S1, e1, f1, i1⟩ := p_node (S := S) (a := z + 40) (st := z + 41) (wd := z + 42) (r1 := z + 2) (p1 := q1 + 32 * (T - (r + 1))) (r2 := z + 43) (p2 := 0) (r3 := z + 43) l5 hk (by omega) (by omega) l6 (by omega) (by omega) l6 (by omega) (by omega) hDr h1
      have F1 : fr_S (cq_ (z + 39)) [] S S1 := fr_mo f1 (by unfold cq_; simp) (by simp)
      have L1 := cb_fr hL0 F1 (by simp) (by simp)
      obtain ⟨⟨m1, m2, m3, m4⟩, m5, ⟨m6, m7⟩, m8, m9⟩ := L1
      have m7 : gN S1 (z + 43) = 32 := m7
      have m9 : gN S1 (z + 44) = 32 := m9
      have hk1 := fr_K F1 hk
      have hN1 := fr_N F1 hk
      obtain ⟨S3, e3, f3, i3⟩ := p_node (S := S1) (a := z + 40) (st := z + 41) (wd := z + 42) (r1 := z + 2) (p1 := q1 + 32 * (T - (r + 1))) (r2 := z + 44) (p2 := 0) (r3 := z + 44) m5 hk1 (by omega) (by omega) m8 (by omega) (by omega) m8 (by omega) (by omega) (dg_fr hDr F1 hk n2) (dg_fr h2 f1 l8 (by simp))
      have F3 : fr_S (cq_ (z + 39)) [] S S3 := fr_tr F1 (fr_mo f3 (by unfold cq_; simp) (by simp))
      obtain ⟨S2, e2, f2, r2⟩ := p_climbL (D := D) (X := X) hT63 hq fu r (by omega) S3 (cb_fr hL0 F3 (by simp) (by simp)) (pt_fr hpl F3 (by simp)) (ptI_fr hp hpl F3 (np 0 (by decide)) (np 1 (by decide)) (np 2 (by decide)) (np 3 (by decide))) (fr_K F3 hk) (by rw [fr_N F3 hk]; exact hN) (fun u hu => dg_fr (hD u hu) F3 hk n2) (by
        rw [hu]
        show dg_at S3 (z + 43) 0 (if sd_ c n (T - 1 - (T - (r + 1))) = 0 then _ else _)
        rw [hlev, if_neg c0]
        refine dg_fr (fun j hj => ?_) f3 m6 (by simp)
        rw [i1, if_pos (by omega), Nat.zero_add]) (by
        rw [hu]
        show dg_at S3 (z + 44) 0 (if sd_ c n (T - 1 - (T - (r + 1))) = 0 then _ else _)
        rw [hlev, if_neg c0]
        intro j hj
        rw [i3, if_pos (by omega), Nat.zero_add])
      refine ⟨S2, ?_, fr_tr F3 f2, r2⟩
      rw [e1, e_bs, e_gR m1, e_bs, m2, e_gR m1, e_bs, m4, e_bs, e_dc m5.1.1, e3, e_bs, e_let, e_let, sub_1, show nI (q1 + 32 * (T - (r + 1))) + 32 = nI (q1 + 32 * (T - r)) from by rw [show (32 : Int32) = nI 32 from rfl, nI_add]; congr 1; omega]
      exact e2
theorem p_climb {z n T e q0 : Nat} {c : Nat → Nat → Bool} {D : Nat → Nat → Int32} {X : Nat → Int32} (hT63 : T ≤ 63) (he : e ≤ 1) (hq : q0 + 32 * (T + e) ≤ 2200) {S : gS} (hL : cb_L S (z + 39)) (hpl : pt_L S (z + 35)) (hp : pt_I S (z + 35) c n T e) (hk : gK S (z + 2) = 9) (hN : gN S (z + 2) = 2200) (hD : ∀ u, u < T → dg_at S (z + 2) (q0 + 32 * e + 32 * u) (D u)) (hX1 : e = 1 → dg_at S (z + 2) q0 X) (hX0 : e = 0 → dg_at S (z + 43) 0 X ∧ dg_at S (z + 44) 0 X) : ∃ S', f_X0_climb S (z + 39) (some (z + 35)) (some (z + 2)) (nI q0) = some S' ∧ fr_S (cq_ (z + 39)) [] S S' ∧ dg_at S' (z + 43) 0 (co_ (sd_ c n) D T X T) ∧ dg_at S' (z + 44) 0 (cn_ (sd_ c n) D T X T) := by
  obtain ⟨fu, hf⟩ := g_fu T
  have n2 : z + 2 ∉ cq_ (z + 39) := cq_n (by omega)
  have np : ∀ o, o < 5 → z + 35 + o ∉ cq_ (z + 39) := fun o ho => cq_n (by omega)
  unfold f_X0_climb f_X0_climb_B20
  rw [e_gI hpl.1.1, e_bs, hp.2.2.2.1]
  obtain rfl | rfl : e = 0 ∨ e = 1 := by omega
  · obtain ⟨x1, x2⟩ := hX0 rfl
    obtain ⟨S2, e2, r2⟩ := p_climbL (D := D) (X := X) (q1 := q0) hT63 (by omega) fu T (Nat.le_refl _) S hL hpl hp hk hN (fun u hu => by have := hD u hu; rw [show q0 + 32 * 0 + 32 * u = q0 + 32 * u by omega] at this; exact this) (by rw [Nat.sub_self]; exact x1) (by rw [Nat.sub_self]; exact x2)
    refine ⟨S2, ?_, r2⟩
    rw [if_pos (by decide), e_gI hpl.1.1, e_bs, hp.1, e_let, hf, show T + fu + 1 = fu + T + 1 by omega]
    rw [show q0 + 32 * (T - T) = q0 by omega] at e2
    exact e2
  · obtain ⟨S1, e1, f1, x1, x2⟩ := p_start (W := X) hL hk (by omega) (by omega) (by omega) (by omega) (hX1 rfl)
    have pl1 := pt_fr hpl f1 (by simp)
    have p1 := ptI_fr hp hpl f1 (np 0 (by decide)) (np 1 (by decide)) (np 2 (by decide)) (np 3 (by decide))
    obtain ⟨S2, e2, f2, r2⟩ := p_climbL (D := D) (X := X) (q1 := q0 + 32) hT63 (by omega) fu T (Nat.le_refl _) S1 (cb_fr hL f1 (by simp) (by simp)) pl1 p1 (fr_K f1 hk) (by rw [fr_N f1 hk]; exact hN) (fun u hu => dg_fr (hD u hu) f1 hk n2) (by rw [Nat.sub_self]; exact x1) (by rw [Nat.sub_self]; exact x2)
    refine ⟨S2, ?_, fr_tr f1 f2, r2⟩
    rw [if_neg (by decide), e_dc hL.1.1, e1, e_bs, show nI q0 + 32 = nI (q0 + 32) from nI_add _ 32, e_let, e_gI pl1.1.1, e_bs, p1.1, e_let, hf, show T + fu + 1 = fu + T + 1 by omega]
    rw [show q0 + 32 + 32 * (T - T) = q0 + 32 by omega] at e2
    exact e2
theorem p_left {S : gS} {k r p : Nat} {A W : Nat → Int32} (hL : cb_L S k) (hr : gK S r = 9) (hN : p + 32 ≤ gN S r) (hN2 : gN S r < 2 ^ 31) (hA : dg_at S (k + 4) 0 A) (hW : dg_at S r p W) : ∃ x, f_X0_leftFrom S k (some r) (nI p) = some (x, S) ∧ ((x = 1 ∧ ∀ i, i < 8 → A i = W i) ∨ (x = 0 ∧ ¬ ∀ i, i < 8 → A i = W i)) := by
  obtain ⟨⟨h1, h2, h3, h4⟩, h5, ⟨h6, h7⟩, h8, h9⟩ := hL
  obtain ⟨x, e1, hx⟩ := p_same (S := S) (r1 := k + 4) (r2 := r) (p1 := 0) (p2 := p) (n := 32) h6 hr (by omega) hN (by omega) hN2 (by decide)
  rw [same_dg hA hW] at hx
  refine ⟨x, ?_, hx⟩
  unfold f_X0_leftFrom
  rw [e_gR h1, e_bs, h3, show (0 : Int32) = nI 0 from rfl, show (32 : Int32) = nI 32 from rfl, e1, e_bi, if_pos]
  rcases hx with ⟨rfl, -⟩ | ⟨rfl, -⟩
  · exact Or.inr rfl
  · exact Or.inl rfl
theorem p_came {S : gS} {k r p : Nat} {A W : Nat → Int32} (hL : cb_L S k) (hr : gK S r = 9) (hN : p + 32 ≤ gN S r) (hN2 : gN S r < 2 ^ 31) (hA : dg_at S (k + 5) 0 A) (hW : dg_at S r p W) : ∃ x, f_X0_cameTo S k (some r) (nI p) = some (x, S) ∧ ((x = 1 ∧ ∀ i, i < 8 → A i = W i) ∨ (x = 0 ∧ ¬ ∀ i, i < 8 → A i = W i)) := by
  obtain ⟨⟨h1, h2, h3, h4⟩, h5, ⟨h6, h7⟩, h8, h9⟩ := hL
  obtain ⟨x, e1, hx⟩ := p_same (S := S) (r1 := k + 5) (r2 := r) (p1 := 0) (p2 := p) (n := 32) h8 hr (by omega) hN (by omega) hN2 (by decide)
  rw [same_dg hA hW] at hx
  refine ⟨x, ?_, hx⟩
  unfold f_X0_cameTo
  rw [e_gR h1, e_bs, h4, show (0 : Int32) = nI 0 from rfl, show (32 : Int32) = nI 32 from rfl, e1, e_bi, if_pos]
  rcases hx with ⟨rfl, -⟩ | ⟨rfl, -⟩
  · exact Or.inr rfl
  · exact Or.inl rfl
/-! the reference climbs -/
theorem mg_A {S : gS} {m : Nat} {f : Nat → Int32} (h17 : gI S m 17 = nI 0) : mg_S m S (gsA S (m + 18) f) := ⟨fr_A (by simp), fun k hk => by rw [sA_n (by omega)], by rw [sA_n (by omega)]; exact h17⟩
theorem p8_isInL {m n T : Nat} {c : Nat → Nat → Bool} {W X : Nat → Int32} (hT63 : T ≤ 63) (fu : Nat) : ∀ r, r ≤ T → ∀ S, mh_ S m → gI S m 17 = nI 0 → sm_I S m c n T → sl_at S m 0 W → sl_at S m 1 (cn_ (sd_ c n) (fun u => w_at (gI S (m + 1)) (64 + 32 * u)) T X (T - r)) → ∃ x S', f_X8_isIn_L76 (fu + r + 1) S (T - r) (8 * (T - r)) m (nI r - 1) = some (x, S') ∧ mg_S m S S' ∧ ((x = 1 ∧ ∀ i, i < 8 → W i = cn_ (sd_ c n) (fun u => w_at (gI S (m + 1)) (64 + 32 * u)) T X T i) ∨ (x = 0 ∧ ¬ ∀ i, i < 8 → W i = cn_ (sd_ c n) (fun u => w_at (gI S (m + 1)) (64 + 32 * u)) T X T i))
  | 0, hr, S, hL, h17, hs, h0, h1 => by
    obtain ⟨x, e1, hx⟩ := p8_isSame (S := S) (a := 0) (b := 1) hL.1 (by decide) (by decide)
    rw [Nat.sub_zero] at h1
    have eq : (∀ j, j < 8 → gI S (m + 18) (8 * 0 + j) = gI S (m + 18) (8 * 1 + j)) ↔ ∀ i, i < 8 → W i = cn_ (sd_ c n) (fun u => w_at (gI S (m + 1)) (64 + 32 * u)) T X T i := by
      constructor
      · intro h i hi; rw [← h0 i hi, ← h1 i hi]; exact h i hi
      · intro h i hi; rw [h0 i hi, h1 i hi]; exact h i hi
    rw [eq] at hx
    refine ⟨x, S, ?_, ⟨fr_refl _ _ _, fun _ _ => rfl, h17⟩, hx⟩
    rw [f_X8_isIn_L76, e_gd (by omega), if_pos m1_neg, e_dc hL.1.1, show (0 : Int32) = nI 0 from rfl, show (1 : Int32) = nI 1 from rfl, e1, e_bi, if_pos]
    rcases hx with ⟨rfl, -⟩ | ⟨rfl, -⟩
    · exact Or.inr rfl
    · exact Or.inl rfl
  | r + 1, hr, S, hL, h17, hs, h0, h1 => by
    have e0 : (64 : Int32) + (32 * ((nI T - 1) - nI r)) = nI (64 + 32 * (T - (r + 1))) := by
      rw [show nI T - 1 = nI (T - 1) from pk_sub (b := 1) (by omega), pk_sub (by omega), show (32 : Int32) = nI 32 from rfl, pk_mul, show (64 : Int32) = nI 64 from rfl, nI_add, show T - 1 - r = T - (r + 1) by omega]
    have e1 := p8_fromTape (S := S) (p := 64 + 32 * (T - (r + 1))) (s := 2) hL.1 (by omega) (by decide)
    have s1 := mg_A (f := sl_ (gI S (m + 18)) 2 (w_at (gI S (m + 1)) (64 + 32 * (T - (r + 1))))) h17
    have I1 : gI (gsA S (m + 18) (sl_ (gI S (m + 18)) 2 (w_at (gI S (m + 1)) (64 + 32 * (T - (r + 1)))))) (m + 18) = sl_ (gI S (m + 18)) 2 (w_at (gI S (m + 1)) (64 + 32 * (T - (r + 1)))) := sA_s
    generalize gsA S (m + 18) (sl_ (gI S (m + 18)) 2 (w_at (gI S (m + 1)) (64 + 32 * (T - (r + 1))))) = S1 at *
    have L1 := mg_h s1 hL
    have hsd := hs.2 r (by omega)
    have hu : T - r = T - (r + 1) + 1 := by omega
    have hlev : T - 1 - (T - (r + 1)) = r := by omega
    have a1 : sl_at S1 m 1 (cn_ (sd_ c n) (fun u => w_at (gI S (m + 1)) (64 + 32 * u)) T X (T - (r + 1))) := fun q hq => by rw [I1, sl_out hq (by decide)]; exact h1 q hq
    have a2 : sl_at S1 m 2 (w_at (gI S (m + 1)) (64 + 32 * (T - (r + 1)))) := fun q hq => by rw [I1, sl_in hq]
    have a0 : sl_at S1 m 0 W := fun q hq => by rw [I1, sl_out hq (by decide)]; exact h0 q hq
    rw [show fu + (r + 1) + 1 = (fu + r + 1) + 1 by omega, nI_pred, f_X8_isIn_L76, e_gd (by omega), if_neg (nI_pos (by omega)), e_gI hL.1.1, e_bs, hs.1, e_dc hL.1.1, e0, show (2 : Int32) = nI 2 from rfl, e1, e_bs, e_gR L1.1.1, e_bs, md_r L1.1 22 19, e_I (md_k L1.1 19 10 70) (md_n L1.1 19 10 70) (by omega), e_bs, mg_o s1 hL 19 10 70, hsd]
    have fin : ∀ {S2 : gS}, mg_S m S1 S2 → (∀ j, gI S2 (m + 18) j = sl_ (gI S1 (m + 18)) 1 (cn_ (sd_ c n) (fun u => w_at (gI S (m + 1)) (64 + 32 * u)) T X (T - r)) j) → ∃ x S', f_X8_isIn_L76 (fu + r + 1) S2 (T - r) (8 * (T - r)) m (nI r - 1) = some (x, S') ∧ mg_S m S S' ∧ ((x = 1 ∧ ∀ i, i < 8 → W i = cn_ (sd_ c n) (fun u => w_at (gI S (m + 1)) (64 + 32 * u)) T X T i) ∨ (x = 0 ∧ ¬ ∀ i, i < 8 → W i = cn_ (sd_ c n) (fun u => w_at (gI S (m + 1)) (64 + 32 * u)) T X T i)) := by
      intro S2 s2 i2
      have s12 := mg_tr s1 s2
      have t1 := mg_o s12 hL 1 10 2220
      have := p8_isInL (c := c) (n := n) (W := W) (X := X) hT63 fu r (by omega) S2 (mg_h s12 hL) s12.2.2 (sm_o hs (s12.2.1 23 (by decide)) (mg_o s12 hL 19 10 70)) (fun q hq => by rw [i2, sl_out hq (by decide)]; exact a0 q hq) (fun q hq => by rw [i2, sl_in hq, t1])
      rw [t1] at this
      obtain ⟨x, S3, e3, s3, hx⟩ := this
      exact ⟨x, S3, e3, mg_tr s12 s3, hx⟩
    by_cases c0 : sd_ c n r = 0
    · obtain ⟨S2, e2, s2, i2⟩ := p8_node (a := 1) (b := 2) (s := 1) L1 s1.2.2 (by decide) (by decide) (by decide) a1 a2
      obtain ⟨x, S3, e3, r3⟩ := fin s2 (fun j => by
        rw [i2, hu]
        show _ = sl_ _ 1 (if sd_ c n (T - 1 - (T - (r + 1))) = 0 then _ else _) j
        rw [hlev, if_pos c0])
      refine ⟨x, S3, ?_, r3⟩
      rw [c0, if_pos (by decide), e_dc L1.1.1, e_gd (by omega), show f_X8_node S1 m 1 (nI 2) 1 = some S2 from e2, e_bs, e_let, sub_1, show T - (r + 1) + 1 = T - r by omega, show 8 * (T - (r + 1)) + 8 = 8 * (T - r) by omega]
      exact e3
    · have c1 : sd_ c n r = 1 := by
        unfold sd_ at c0 ⊢
        by_cases q : c (ds_ c n r).1 (ds_ c n r).2 = true
        · rw [if_pos q] at c0; omega
        · rw [if_neg q]
      obtain ⟨S2, e2, s2, i2⟩ := p8_node (a := 2) (b := 1) (s := 1) L1 s1.2.2 (by decide) (by decide) (by decide) a2 a1
      obtain ⟨x, S3, e3, r3⟩ := fin s2 (fun j => by
        rw [i2, hu]
        show _ = sl_ _ 1 (if sd_ c n (T - 1 - (T - (r + 1))) = 0 then _ else _) j
        rw [hlev, if_neg c0])
      refine ⟨x, S3, ?_, r3⟩
      rw [c1, if_neg (by decide), e_dc L1.1.1, e_gd (by omega), show f_X8_node S1 m (nI 2) 1 1 = some S2 from e2, e_bs, e_let, sub_1, show T - (r + 1) + 1 = T - r by omega, show 8 * (T - (r + 1)) + 8 = 8 * (T - r) by omega]
      exact e3
theorem p8_onL {m n T q1 : Nat} {c : Nat → Nat → Bool} {A B X : Nat → Int32} (hT63 : T ≤ 63) (hq : q1 + 32 * T ≤ 2220) (fu : Nat) : ∀ r, r ≤ T → ∀ S cu, cu ≤ 2 * (T - r) → mh_ S m → gI S m 17 = nI 0 → sm_I S m c n T → sl_at S m 10 A → sl_at S m 11 B → sl_at S m 12 (co_ (sd_ c n) (fun u => w_at (gI S (m + 1)) (q1 + 32 * u)) T X (T - r)) → sl_at S m 13 (cn_ (sd_ c n) (fun u => w_at (gI S (m + 1)) (q1 + 32 * u)) T X (T - r)) → ∃ x S', f_X8_goesOn_L86 (fu + r + 1) S cu (8 * cu) m (nI (q1 + 32 * (T - r))) (nI r - 1) = some (x, S') ∧ mg_S m S S' ∧ ((x = 1 ∧ (∀ i, i < 8 → A i = co_ (sd_ c n) (fun u => w_at (gI S (m + 1)) (q1 + 32 * u)) T X T i) ∧ ∀ i, i < 8 → B i = cn_ (sd_ c n) (fun u => w_at (gI S (m + 1)) (q1 + 32 * u)) T X T i) ∨ (x = 0 ∧ ¬ ((∀ i, i < 8 → A i = co_ (sd_ c n) (fun u => w_at (gI S (m + 1)) (q1 + 32 * u)) T X T i) ∧ ∀ i, i < 8 → B i = cn_ (sd_ c n) (fun u => w_at (gI S (m + 1)) (q1 + 32 * u)) T X T i)))
  | 0, hr, S, cu, hcu, hL, h17, hs, hA, hB, h12, h13 => by
    rw [Nat.sub_zero] at h12 h13
    obtain ⟨x, e1, hx⟩ := p8_isSame (S := S) (a := 10) (b := 12) hL.1 (by decide) (by decide)
    obtain ⟨y, e2, hy⟩ := p8_isSame (S := S) (a := 11) (b := 13) hL.1 (by decide) (by decide)
    have eq1 : (∀ j, j < 8 → gI S (m + 18) (8 * 10 + j) = gI S (m + 18) (8 * 12 + j)) ↔ ∀ i, i < 8 → A i = co_ (sd_ c n) (fun u => w_at (gI S (m + 1)) (q1 + 32 * u)) T X T i := by
      constructor
      · intro h i hi; rw [← hA i hi, ← h12 i hi]; exact h i hi
      · intro h i hi; rw [hA i hi, h12 i hi]; exact h i hi
    have eq2 : (∀ j, j < 8 → gI S (m + 18) (8 * 11 + j) = gI S (m + 18) (8 * 13 + j)) ↔ ∀ i, i < 8 → B i = cn_ (sd_ c n) (fun u => w_at (gI S (m + 1)) (q1 + 32 * u)) T X T i := by
      constructor
      · intro h i hi; rw [← hB i hi, ← h13 i hi]; exact h i hi
      · intro h i hi; rw [hB i hi, h13 i hi]; exact h i hi
    rw [eq1] at hx
    rw [eq2] at hy
    rw [f_X8_goesOn_L86, e_gd (by omega), if_pos m1_neg, e_dc hL.1.1, show (10 : Int32) = nI 10 from rfl, show (12 : Int32) = nI 12 from rfl, e1, e_bi]
    rcases hx with ⟨rfl, hx⟩ | ⟨rfl, hx⟩
    · rw [if_neg (by decide), e_dc hL.1.1, show (11 : Int32) = nI 11 from rfl, show (13 : Int32) = nI 13 from rfl, e2, e_bi]
      rcases hy with ⟨rfl, hy⟩ | ⟨rfl, hy⟩
      · exact ⟨1, S, by rw [if_neg (by decide)], ⟨fr_refl _ _ _, fun _ _ => rfl, h17⟩, Or.inl ⟨rfl, hx, hy⟩⟩
      · exact ⟨0, S, by rw [if_pos (by decide)], ⟨fr_refl _ _ _, fun _ _ => rfl, h17⟩, Or.inr ⟨rfl, fun q => hy q.2⟩⟩
    · exact ⟨0, S, by rw [if_pos (by decide)], ⟨fr_refl _ _ _, fun _ _ => rfl, h17⟩, Or.inr ⟨rfl, fun q => hx q.1⟩⟩
  | r + 1, hr, S, cu, hcu, hL, h17, hs, hA, hB, h12, h13 => by
    have e1 := p8_fromTape (S := S) (p := q1 + 32 * (T - (r + 1))) (s := 14) hL.1 (by omega) (by decide)
    have s1 := mg_A (f := sl_ (gI S (m + 18)) 14 (w_at (gI S (m + 1)) (q1 + 32 * (T - (r + 1))))) h17
    have I1 : gI (gsA S (m + 18) (sl_ (gI S (m + 18)) 14 (w_at (gI S (m + 1)) (q1 + 32 * (T - (r + 1)))))) (m + 18) = sl_ (gI S (m + 18)) 14 (w_at (gI S (m + 1)) (q1 + 32 * (T - (r + 1)))) := sA_s
    generalize gsA S (m + 18) (sl_ (gI S (m + 18)) 14 (w_at (gI S (m + 1)) (q1 + 32 * (T - (r + 1))))) = S1 at *
    have L1 := mg_h s1 hL
    have hsd := hs.2 r (by omega)
    have hu : T - r = T - (r + 1) + 1 := by omega
    have hlev : T - 1 - (T - (r + 1)) = r := by omega
    have a12 : sl_at S1 m 12 (co_ (sd_ c n) (fun u => w_at (gI S (m + 1)) (q1 + 32 * u)) T X (T - (r + 1))) := fun q hq => by rw [I1, sl_out hq (by decide)]; exact h12 q hq
    have a13 : sl_at S1 m 13 (cn_ (sd_ c n) (fun u => w_at (gI S (m + 1)) (q1 + 32 * u)) T X (T - (r + 1))) := fun q hq => by rw [I1, sl_out hq (by decide)]; exact h13 q hq
    have a14 : sl_at S1 m 14 (w_at (gI S (m + 1)) (q1 + 32 * (T - (r + 1)))) := fun q hq => by rw [I1, sl_in hq]
    have a10 : sl_at S1 m 10 A := fun q hq => by rw [I1, sl_out hq (by decide)]; exact hA q hq
    have a11 : sl_at S1 m 11 B := fun q hq => by rw [I1, sl_out hq (by decide)]; exact hB q hq
    rw [show fu + (r + 1) + 1 = (fu + r + 1) + 1 by omega, nI_pred, f_X8_goesOn_L86, e_gd (by omega), if_neg (nI_pos (by omega)), e_dc hL.1.1, show (14 : Int32) = nI 14 from rfl, e1, e_bs, e_let, e_gR L1.1.1, e_bs, md_r L1.1 22 19, e_I (md_k L1.1 19 10 70) (md_n L1.1 19 10 70) (by omega), e_bs, mg_o s1 hL 19 10 70, hsd, show nI (q1 + 32 * (T - (r + 1))) + 32 = nI (q1 + 32 * (T - r)) from by rw [show (32 : Int32) = nI 32 from rfl, nI_add]; congr 1; omega]
    have fin : ∀ {S2 : gS} (cu' : Nat), cu' ≤ 2 * (T - r) → mg_S m S1 S2 → sl_at S2 m 10 A → sl_at S2 m 11 B → sl_at S2 m 12 (co_ (sd_ c n) (fun u => w_at (gI S (m + 1)) (q1 + 32 * u)) T X (T - r)) → sl_at S2 m 13 (cn_ (sd_ c n) (fun u => w_at (gI S (m + 1)) (q1 + 32 * u)) T X (T - r)) → ∃ x S', f_X8_goesOn_L86 (fu + r + 1) S2 cu' (8 * cu') m (nI (q1 + 32 * (T - r))) (nI r - 1) = some (x, S') ∧ mg_S m S S' ∧ ((x = 1 ∧ (∀ i, i < 8 → A i = co_ (sd_ c n) (fun u => w_at (gI S (m + 1)) (q1 + 32 * u)) T X T i) ∧ ∀ i, i < 8 → B i = cn_ (sd_ c n) (fun u => w_at (gI S (m + 1)) (q1 + 32 * u)) T X T i) ∨ (x = 0 ∧ ¬ ((∀ i, i < 8 → A i = co_ (sd_ c n) (fun u => w_at (gI S (m + 1)) (q1 + 32 * u)) T X T i) ∧ ∀ i, i < 8 → B i = cn_ (sd_ c n) (fun u => w_at (gI S (m + 1)) (q1 + 32 * u)) T X T i))) := by
      intro S2 cu' hcu' s2 b10 b11 b12 b13
      have s12 := mg_tr s1 s2
      have t1 := mg_o s12 hL 1 10 2220
      have := p8_onL (c := c) (n := n) (A := A) (B := B) (X := X) (q1 := q1) hT63 hq fu r (by omega) S2 cu' hcu' (mg_h s12 hL) s12.2.2 (sm_o hs (s12.2.1 23 (by decide)) (mg_o s12 hL 19 10 70)) b10 b11 (by rw [t1]; exact b12) (by rw [t1]; exact b13)
      rw [t1] at this
      obtain ⟨x, S3, e3, s3, hx⟩ := this
      exact ⟨x, S3, e3, mg_tr s12 s3, hx⟩
    by_cases c0 : sd_ c n r = 0
    · obtain ⟨S2, e2, s2, i2⟩ := p8_node (a := 13) (b := 14) (s := 13) L1 s1.2.2 (by decide) (by decide) (by decide) a13 a14
      obtain ⟨x, S3, e3, r3⟩ := fin (cu + 1) (by omega) s2 (fun q hq => by rw [i2, sl_out hq (by decide)]; exact a10 q hq) (fun q hq => by rw [i2, sl_out hq (by decide)]; exact a11 q hq) (fun q hq => by
        rw [i2, sl_out hq (by decide), hu]
        show _ = (if sd_ c n (T - 1 - (T - (r + 1))) = 0 then _ else _ : Nat → Int32) q
        rw [hlev, if_pos c0]
        exact a12 q hq) (fun q hq => by
        rw [i2, sl_in hq, hu]
        show _ = (if sd_ c n (T - 1 - (T - (r + 1))) = 0 then _ else _ : Nat → Int32) q
        rw [hlev, if_pos c0])
      refine ⟨x, S3, ?_, r3⟩
      rw [c0, if_pos (by decide), e_dc L1.1.1, e_gd (by omega), show f_X8_node S1 m 13 (nI 14) 13 = some S2 from e2, e_bs, e_let, sub_1, show 8 * cu + 8 = 8 * (cu + 1) by omega]
      exact e3
    · have c1 : sd_ c n r = 1 := by
        unfold sd_ at c0 ⊢
        by_cases q : c (ds_ c n r).1 (ds_ c n r).2 = true
        · rw [if_pos q] at c0; omega
        · rw [if_neg q]
      obtain ⟨S2, e2, s2, i2⟩ := p8_node (a := 14) (b := 12) (s := 12) L1 s1.2.2 (by decide) (by decide) (by decide) a14 a12
      have L2 := mg_h s2 L1
      obtain ⟨S4, e4, s4, i4⟩ := p8_node (a := 14) (b := 13) (s := 13) (A := w_at (gI S (m + 1)) (q1 + 32 * (T - (r + 1)))) (B := cn_ (sd_ c n) (fun u => w_at (gI S (m + 1)) (q1 + 32 * u)) T X (T - (r + 1))) L2 s2.2.2 (by decide) (by decide) (by decide) (fun q hq => by rw [i2, sl_out hq (by decide)]; exact a14 q hq) (fun q hq => by rw [i2, sl_out hq (by decide)]; exact a13 q hq)
      obtain ⟨x, S3, e3, r3⟩ := fin (cu + 1 + 1) (by omega) (mg_tr s2 s4) (fun q hq => by rw [i4, sl_out hq (by decide), i2, sl_out hq (by decide)]; exact a10 q hq) (fun q hq => by rw [i4, sl_out hq (by decide), i2, sl_out hq (by decide)]; exact a11 q hq) (fun q hq => by
        rw [i4, sl_out hq (by decide), i2, sl_in hq, hu]
        show _ = (if sd_ c n (T - 1 - (T - (r + 1))) = 0 then _ else _ : Nat → Int32) q
        rw [hlev, if_neg c0]) (fun q hq => by
        rw [i4, sl_in hq, hu]
        show _ = (if sd_ c n (T - 1 - (T - (r + 1))) = 0 then _ else _ : Nat → Int32) q
        rw [hlev, if_neg c0])
      refine ⟨x, S3, ?_, r3⟩
      rw [c1, if_neg (by decide), e_dc L1.1.1, e_gd (by omega), show f_X8_node S1 m (nI 14) 12 12 = some S2 from e2, e_bs, e_dc L2.1.1, e_gd (by omega), show f_X8_node S2 m (nI 14) 13 13 = some S4 from e4, e_bs, e_let, sub_1, show 8 * cu + 8 + 8 = 8 * (cu + 1 + 1) by omega]
      exact e3
