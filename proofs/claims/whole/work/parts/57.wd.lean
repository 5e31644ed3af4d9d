/-! ways and proofs are written -/
def wd_ (lf : Nat → Nat → Int32) (c : Nat → Nat → Bool) (n T e u : Nat) : Nat → Int32 := if u < e then s_rt lf (ds_ c n T).1 (ds_ c n T).2 else s_rt lf (pp_ c n (T - 1 - (u - e))).1 (pp_ c n (T - 1 - (u - e))).2
theorem ptI_fr {A B : List Nat} {S S' : gS} {p n T e : Nat} {c : Nat → Nat → Bool} (h : pt_I S p c n T e) (hL : pt_L S p) (F : fr_S A B S S') (h0 : p ∉ A) (h1 : p + 1 ∉ A) (h2 : p + 2 ∉ A) (h3 : p + 3 ∉ A) : pt_I S' p c n T e := by
  obtain ⟨a1, a2, a3, a4, a5⟩ := h
  obtain ⟨⟨k1, -⟩, ⟨k2, -⟩, ⟨k3, -⟩, k4, -⟩ := hL
  refine ⟨by rw [fr_I F k1 h0]; exact a1, by rw [fr_L F k1 h0]; exact a2, by rw [fr_L F k1 h0]; exact a3, by rw [fr_I F k1 h0]; exact a4, fun t ht => ?_⟩
  rw [fr_L F k2 h1, fr_L F k3 h2, fr_I F k4 h3]
  exact a5 t ht
theorem sub_1 (r : Nat) : nI r + (-1) = nI r - 1 := (Int32.sub_eq_add_neg _ _).symm
theorem m1_neg : nI 0 - 1 < (0 : Int32) := by decide
/-- one digest more in OUT -/
theorem p_wd1 {z l a n N o : Nat} {lf : Nat → Nat → Int32} {g : Nat → Int32} (hl : l < 2) (hN : a + n ≤ N) (hN2 : N ≤ 200) (hal : al_ a n) (ho : o + 32 ≤ 288) {S : gS} (hL : lg_L S (z + 6 + 10 * l)) (hst : st_L S (z + 3) (z + 4) 288) (h : fu_I (z + 66) S (z + 6 + 10 * l) lf N) (hc : gI S (z + 3) 1 = nI o) : ∃ S1 S', f_X1_rootOf S (z + 6 + 10 * l) (nI a) (nI (a + n)) = some (some (z + 6 + 10 * l + 8), S1) ∧ gK S1 (z + 3) = 5 ∧ f_X5_addRow S1 (z + 3) (some (z + 6 + 10 * l + 8)) (nI 0) (nI 32) = some S' ∧ fr_S ((z + 3) :: (z + 4) :: lq_ (z + 6 + 10 * l)) [] S S' ∧ gI S' (z + 3) 1 = nI (o + 32) ∧ ∀ j, gI S' (z + 4) j = if o ≤ j ∧ j < o + 32 then sb_ (d_by (s_rt lf a n) (j - o)) else gI S (z + 4) j := by
  obtain ⟨S1, e1, f1, d1⟩ := p_rootOf (b := z + 6 + 10 * l) (zz := z + 66) (by omega) hN hN2 hal hL h
  have L1 := lq_L hL f1
  have st1 := st_fr hst f1 (by simp)
  have n3 : z + 3 ∉ lq_ (z + 6 + 10 * l) := lq_n (by omega)
  have n4 : z + 4 ∉ lq_ (z + 6 + 10 * l) := lq_n (by omega)
  have e2 := p_sAdd (S := S1) (r := z + 6 + 10 * l + 8) (p := 0) (n := 32) (c := o) st1 (by decide) (by rw [fr_I f1 hst.1 n3]; exact hc) (by omega) (lg_k L1 8 9 32) (by rw [lg_n L1 8 9 32]; decide) (by rw [lg_n L1 8 9 32]; decide)
  refine ⟨S1, _, e1, st1.1, e2, fr_tr (fr_mo f1 (fun x hx => List.mem_cons_of_mem _ (List.mem_cons_of_mem _ hx)) (by simp)) (fr_tr (fr_A (by simp)) (fr_i (by simp))), by rw [sI_s, va_up_s], fun j => ?_⟩
  rw [sI_n (by omega), sA_s, va_cpy_e]
  by_cases c : o ≤ j ∧ j < o + 32
  · rw [if_pos c, if_pos c, d1 (j - o) (by omega)]
  · rw [if_neg c, if_neg c, fr_I f1 hst.2.2.1 n4]
theorem p_wdL {z l n N T e : Nat} {c : Nat → Nat → Bool} {lf : Nat → Nat → Int32} {g : Nat → Int32} (hl : l < 2) (hn : 1 ≤ n) (hnN : n ≤ N) (hN2 : N ≤ 200) (hT : ∀ t', t' < T → 2 ≤ (ds_ c n t').2) (hT8 : T ≤ 8) (he : e ≤ 1) (fu : Nat) : ∀ r, r ≤ T → ∀ S, lg_L S (z + 6 + 10 * l) → st_L S (z + 3) (z + 4) 288 → pt_L S (z + 35) → fu_I (z + 66) S (z + 6 + 10 * l) lf N → pt_I S (z + 35) c n T e → gI S (z + 3) 1 = nI (32 * (e + (T - r))) → (∀ j, gI S (z + 4) j = if j < 32 * (e + (T - r)) then sb_ (d_by (wd_ lf c n T e (j / 32)) (j % 32)) else g j) → ∃ S', f_X1_writeDigests_L40 (fu + r + 1) S (z + 6 + 10 * l) (some (z + 35)) (some (z + 3)) (nI r - 1) = some (nI (T + e), S') ∧ fr_S ((z + 3) :: (z + 4) :: lq_ (z + 6 + 10 * l)) [] S S' ∧ gI S' (z + 3) 1 = nI (32 * (T + e)) ∧ ∀ j, gI S' (z + 4) j = if j < 32 * (T + e) then sb_ (d_by (wd_ lf c n T e (j / 32)) (j % 32)) else g j
  | 0, hr, S, hL, hst, hpl, h, hp, hc, ho => by
    rw [show e + (T - 0) = T + e by omega] at hc ho
    refine ⟨S, ?_, fr_refl _ _ _, hc, ho⟩
    rw [f_X1_writeDigests_L40, if_pos m1_neg, e_dc hpl.1.1]
    unfold f_X2_digests
    rw [e_gI hpl.1.1, e_bs, e_gI hpl.1.1, e_bs, hp.1, hp.2.2.2.1]
    obtain rfl | rfl : e = 0 ∨ e = 1 := by omega
    · rw [if_pos (by decide), e_bi]; rw [show nI T + 0 = nI (T + 0) from Int32.add_zero _]
    · rw [if_neg (by decide), e_bi, nI_1]
  | r + 1, hr, S, hL, hst, hpl, h, hp, hc, ho => by
    obtain ⟨p1, p2, p3, p4, p5⟩ := pp_b (c := c) (e := 8) (t := r) hn (by omega) (fun t' h => hT t' (by omega))
    obtain ⟨S1, S2, e1, k1, e2, f2, i2, j2⟩ := p_wd1 (g := g) (a := (pp_ c n r).1) (n := (pp_ c n r).2) (N := N) (o := 32 * (e + (T - (r + 1)))) hl (by omega) hN2 p5 (by omega) hL hst h hc
    have nA : ∀ x, z + 35 ≤ x → x ∉ (z + 3) :: (z + 4) :: lq_ (z + 6 + 10 * l) := fun x hx => by
      unfold lq_; simp only [List.mem_cons, List.not_mem_nil, or_false]; omega
    have hA : ∀ x ∈ (z + 3) :: (z + 4) :: lq_ (z + 6 + 10 * l), x < z + 66 := fun x hx => by
      unfold lq_ at hx; simp only [List.mem_cons, List.not_mem_nil, or_false] at hx; omega
    obtain ⟨S3, e3, f3, i3, j3⟩ := p_wdL (g := g) hl hn hnN hN2 hT hT8 he fu r (by omega) S2 (lq_L hL f2) (st_fr hst f2 (by simp)) (pt_fr hpl f2 (by simp)) (fu_fr h hL f2 hA (by simp) (by simp)) (ptI_fr hp hpl f2 (nA _ (by omega)) (nA _ (by omega)) (nA _ (by omega)) (nA _ (by omega))) (by rw [i2]; congr 1; omega) (fun j => by
      rw [j2 j, ho j]
      by_cases q : j < 32 * (e + (T - (r + 1)))
      · rw [if_neg (by omega), if_pos q, if_pos (by omega)]
      · by_cases q2 : j < 32 * (e + (T - r))
        · rw [if_pos (by omega), if_pos q2]
          unfold wd_
          rw [if_neg (by omega), show T - 1 - (j / 32 - e) = r by omega, show j - 32 * (e + (T - (r + 1))) = j % 32 by omega]
        · rw [if_neg (by omega), if_neg q, if_neg q2])
    refine ⟨S3, ?_, fr_tr f2 f3, i3, j3⟩
    obtain ⟨q1, q2, q3, q4, q5⟩ := hp
    obtain ⟨t1, t2, t3⟩ := q5 r (by omega)
    rw [show fu + (r + 1) + 1 = (fu + r + 1) + 1 by omega, nI_pred, f_X1_writeDigests_L40, if_neg (nI_pos (by omega)), if_neg (show ¬ (64 : Int32) ≤ nI r from nI_ge (b := 64) (by omega) (by decide)), e_gR hpl.1.1, e_bs, hpl.1.2.1, e_L hpl.2.1.1 hpl.2.1.2 (by omega), e_bs, e_gR hpl.1.1, e_bs, hpl.1.2.2.1, e_L hpl.2.2.1.1 hpl.2.2.1.2 (by omega), e_bs, t1, t2, lN_i, lN_i, e_dc hL.1, e1, e_bi, e_dc k1, show (0 : Int32) = nI 0 from rfl, show (32 : Int32) = nI 32 from rfl, e2, e_bs, e_let, sub_1]
    exact e3
theorem p_wd {z l n N T e : Nat} {c : Nat → Nat → Bool} {lf : Nat → Nat → Int32} (hl : l < 2) (hn : 1 ≤ n) (hnN : n ≤ N) (hN2 : N ≤ 200) (hT : ∀ t', t' < T → 2 ≤ (ds_ c n t').2) (he : e ≤ 1) {S : gS} (hL : lg_L S (z + 6 + 10 * l)) (hst : st_L S (z + 3) (z + 4) 288) (hpl : pt_L S (z + 35)) (h : fu_I (z + 66) S (z + 6 + 10 * l) lf N) (hp : pt_I S (z + 35) c n T e) : ∃ S', f_X1_writeDigests S (z + 6 + 10 * l) (some (z + 35)) (some (z + 3)) = some (nI (T + e), S') ∧ fr_S ((z + 3) :: (z + 4) :: lq_ (z + 6 + 10 * l)) [] S S' ∧ gI S' (z + 3) 1 = nI (32 * (T + e)) ∧ ∀ j, gI S' (z + 4) j = if j < 32 * (T + e) then sb_ (d_by (wd_ lf c n T e (j / 32)) (j % 32)) else gI S (z + 4) j := by
  obtain ⟨b1, b2, b3, b4, b5⟩ := ds_b (c := c) (e := 8) hn (by omega) T hT
  obtain ⟨fu, hf⟩ := g_fu T
  have F0 : fr_S ((z + 3) :: (z + 4) :: lq_ (z + 6 + 10 * l)) [] S (gsI S (z + 3) 1 (nI 0)) := fr_i (by simp)
  have I0 : gI (gsI S (z + 3) 1 (nI 0)) (z + 3) 1 = nI 0 := by rw [sI_s, va_up_s]
  have J0 : gI (gsI S (z + 3) 1 (nI 0)) (z + 4) = gI S (z + 4) := sI_n (by omega)
  have q0 : fpI S 5 1 (some (z + 3)) 0 = some (gsI S (z + 3) 1 (nI 0)) := e_pI hst.1
  generalize gsI S (z + 3) 1 (nI 0) = S0 at *
  have nA : ∀ x, z + 35 ≤ x → x ∉ (z + 3) :: (z + 4) :: lq_ (z + 6 + 10 * l) := fun x hx => by
    unfold lq_; simp only [List.mem_cons, List.not_mem_nil, or_false]; omega
  have hA : ∀ x ∈ (z + 3) :: (z + 4) :: lq_ (z + 6 + 10 * l), x < z + 66 := fun x hx => by
    unfold lq_ at hx; simp only [List.mem_cons, List.not_mem_nil, or_false] at hx; omega
  have L0 := lq_L hL F0
  have st0 := st_fr hst F0 (by simp)
  have pl0 := pt_fr hpl F0 (by simp)
  have h0 := fu_fr h hL F0 hA (by simp) (by simp)
  have p0 := ptI_fr hp hpl F0 (nA _ (by omega)) (nA _ (by omega)) (nA _ (by omega)) (nA _ (by omega))
  unfold f_X1_writeDigests f_X1_writeDigests_B33
  rw [q0, e_bs, e_gI pl0.1.1, e_bs, p0.2.2.2.1]
  obtain rfl | rfl : e = 0 ∨ e = 1 := by omega
  · obtain ⟨S3, e3, f3, i3, j3⟩ := p_wdL (g := gI S (z + 4)) hl hn hnN hN2 hT b3 (by decide) fu T (Nat.le_refl _) S0 L0 st0 pl0 h0 p0 (by rw [I0]; congr 1; omega) (fun j => by rw [if_neg (by omega), J0])
    refine ⟨S3, ?_, fr_tr F0 f3, i3, j3⟩
    rw [if_pos (by decide), e_gI pl0.1.1, e_bs, p0.1, e_let, hf, show T + fu + 1 = fu + T + 1 by omega]
    exact e3
  · obtain ⟨S1, S2, e1, k1, e2, f2, i2, j2⟩ := p_wd1 (g := gI S (z + 4)) (a := (ds_ c n T).1) (n := (ds_ c n T).2) (N := N) (o := 0) hl (by omega) hN2 b5 (by decide) L0 st0 h0 I0
    have F2 := fr_tr F0 f2
    have L2 := lq_L hL F2
    have pl2 := pt_fr hpl F2 (by simp)
    have p2 := ptI_fr hp hpl F2 (nA _ (by omega)) (nA _ (by omega)) (nA _ (by omega)) (nA _ (by omega))
    obtain ⟨S3, e3, f3, i3, j3⟩ := p_wdL (g := gI S (z + 4)) hl hn hnN hN2 hT b3 (by decide) fu T (Nat.le_refl _) S2 L2 (st_fr hst F2 (by simp)) pl2 (fu_fr h hL F2 hA (by simp) (by simp)) p2 (by rw [i2]; congr 1; omega) (fun j => by
      rw [j2 j, J0]
      by_cases q : j < 32
      · rw [if_pos (by omega), if_pos (by omega)]
        unfold wd_
        rw [if_pos (by omega), show j - 0 = j % 32 by omega]
      · rw [if_neg (by omega), if_neg (by omega)])
    refine ⟨S3, ?_, fr_tr F2 f3, i3, j3⟩
    rw [if_neg (by decide), e_gL pl0.1.1, e_bs, e_gL pl0.1.1, e_bs, p0.2.1, p0.2.2.1, lN_i, lN_i, e_dc L0.1, e1, e_bi, e_dc k1, show (0 : Int32) = nI 0 from rfl, show (32 : Int32) = nI 32 from rfl, e2, e_bs, e_gI pl2.1.1, e_bs, p2.1, e_let, hf, show T + fu + 1 = fu + T + 1 by omega]
    exact e3
/-! the same in the reference -/
def mw_S (m : Nat) (S S' : gS) : Prop := fr_S [m, m + 2, m + 14, m + 15, m + 16, m + 18] [] S S' ∧ (∀ k, k ≠ 17 → k ≠ 4 → gI S' m k = gI S m k) ∧ gI S' m 17 = nI 0
theorem mw_tr {m : Nat} {S S' S'' : gS} (h : mw_S m S S') (g : mw_S m S' S'') : mw_S m S S'' := ⟨fr_tr h.1 g.1, fun k h1 h2 => (g.2.1 k h1 h2).trans (h.2.1 k h1 h2), g.2.2⟩
theorem mw_h {m : Nat} {S S' : gS} (h : mw_S m S S') (hL : mh_ S m) : mh_ S' m := mh_fr hL h.1 (by simp only [List.mem_cons, List.not_mem_nil, or_false]; omega) (by simp)
theorem mw_o {m : Nat} {S S' : gS} (h : mw_S m S S') (hL : mh_ S m) (o k n : Nat) (ho : o ≠ 2 ∧ o ≠ 14 ∧ o ≠ 15 ∧ o ≠ 16 ∧ o ≠ 18 := by decide) (hq : (o, k, n) ∈ md_A := by decide) : gI S' (m + o) = gI S (m + o) := by
  have hk : k < 16 ∧ o ≠ 0 := by
    have : ∀ q ∈ md_A, q.2.1 < 16 ∧ q.1 ≠ 0 := by decide
    exact this (o, k, n) hq
  refine fr_I h.1 (md_k hL.1 o k n hq) ?_ hk.1
  simp only [List.mem_cons, List.not_mem_nil, or_false]
  omega
theorem sm_o {m n T : Nat} {c : Nat → Nat → Bool} {S S' : gS} (h : sm_I S m c n T) (h1 : gI S' m 23 = gI S m 23) (h2 : gI S' (m + 19) = gI S (m + 19)) : sm_I S' m c n T := ⟨by rw [h1]; exact h.1, fun t ht => by rw [h2]; exact h.2 t ht⟩
theorem mw_1 {m o : Nat} {W : Nat → Int32} {S S1 : gS} (hL : mh_ S m) (h1 : mg_S m S S1) (hW : sl_at S1 m 0 W) (h4 : gI S m 4 = nI o) (ho : o + 32 ≤ 2400) : ∃ S', f_X8_outSlot S1 m (nI 0) = some S' ∧ mw_S m S S' ∧ gI S' m 4 = nI (o + 32) ∧ ∀ j, gI S' (m + 2) j = if o ≤ j ∧ j < o + 32 then d_by W (j - o) else gI S (m + 2) j := by
  have L1 := mg_h h1 hL
  have e := p8_outSlot (s := 0) (o := o) (W := W) L1.1 (by decide) ho (by rw [h1.2.1 4 (by decide)]; exact h4) hW
  refine ⟨_, e, ⟨fr_tr (fr_mo h1.1 (fun x hx => by simp only [List.mem_cons, List.not_mem_nil, or_false] at hx ⊢; omega) (by simp)) (fr_tr (fr_A (by simp)) (fr_i (by simp))), fun k k1 k2 => ?_, ?_⟩, by rw [sI_s, va_up_s], fun j => ?_⟩
  · rw [sI_s, va_up_n _ _ _ k2, sA_n (by omega), h1.2.1 k k1]
  · rw [sI_s, va_up_n _ _ _ (by decide), sA_n (by omega)]; exact h1.2.2
  · rw [sI_n (by omega), sA_s]
    unfold ou_
    rw [mg_o h1 hL 2 10 2400]
theorem p8_wayL {m l n N T : Nat} {c : Nat → Nat → Bool} {lf : Nat → Nat → Int32} {g : Nat → Int32} (hl : l < 2) (hn : 1 ≤ n) (hnN : n ≤ N) (hT : ∀ t', t' < T → 2 ≤ (ds_ c n t').2) (hT8 : T ≤ 8) (fu : Nat) : ∀ r, r ≤ T → ∀ S cu, mh_ S m → gI S m 17 = nI 0 → en_I S m l N → lf_ S m l = lf → sm_I S m c n T → cu + (512 - 2 ^ (9 - r)) ≤ 1000 → gI S m 4 = nI (32 * (T - r)) → (∀ j, gI S (m + 2) j = if j < 32 * (T - r) then d_by (wd_ lf c n T 0 (j / 32)) (j % 32) else g j) → ∃ S', f_X8_way_L69 (fun c => 2 ^ (8 - c)) (fu + r + 1) S cu (8 * cu) m (nI l) (nI n) (nI r - 1) = some (nI T, S') ∧ mw_S m S S' ∧ gI S' m 4 = nI (32 * T) ∧ ∀ j, gI S' (m + 2) j = if j < 32 * T then d_by (wd_ lf c n T 0 (j / 32)) (j % 32) else g j
  | 0, hr, S, cu, hL, h17, hE, hlf, hs, hcu, h4, ho => by
    refine ⟨S, ?_, ⟨fr_refl _ _ _, fun _ _ _ => rfl, h17⟩, h4, ho⟩
    rw [f_X8_way_L69, e_gd (by omega), if_pos m1_neg, e_gI hL.1.1, e_bs, hs.1]
  | r + 1, hr, S, cu, hL, h17, hE, hlf, hs, hcu, h4, ho => by
    have hpr : 2 ^ (9 - r) = 2 * 2 ^ (9 - (r + 1)) := by rw [show 9 - r = 9 - (r + 1) + 1 by omega, Nat.pow_succ, Nat.mul_comm]
    have hpr2 : 2 ^ (8 - r) = 2 ^ (9 - (r + 1)) := by congr 1; omega
    have hp9 : 2 ^ (9 - r) ≤ 2 ^ 9 := Nat.pow_le_pow_right (by decide) (by omega)
    have hN := hE.1
    obtain ⟨p1, p2, p3, p4, p5⟩ := pp_b (c := c) (e := 8) (t := r) hn (by omega) (fun t' h => hT t' (by omega))
    have hpp : 2 ^ (8 - r) = 2 * 2 ^ (8 - (r + 1)) := by rw [show 8 - r = 8 - (r + 1) + 1 by omega, Nat.pow_succ, Nat.mul_comm]
    obtain ⟨S1, e1, s1, i1⟩ := p8_other (t0 := r) (bo := 2 ^ (8 - r)) (T := T) (c := c) hl hn hnN hT (by omega) (by omega) (by omega) hL h17 hE hs
    rw [hlf] at i1
    obtain ⟨S2, e2, s2, i2, j2⟩ := mw_1 (o := 32 * (T - (r + 1))) hL s1 i1 h4 (by omega)
    have L1 := mg_h s1 hL
    have L2 := mw_h s2 hL
    have q5 := mw_o s2 hL 5 10 48000
    have q6 := mw_o s2 hL 6 10 400
    obtain ⟨S3, e3, s3, i3, j3⟩ := p8_wayL (lf := lf) (g := g) hl hn hnN hT hT8 fu r (by omega) S2 (cu + 2 ^ (8 - r)) L2 s2.2.2 (en_c hE q5 q6) (by rw [lf_c q5 q6, hlf]) (sm_o hs (s2.2.1 23 (by decide) (by decide)) (mw_o s2 hL 19 10 70)) (by omega) (by rw [i2]; congr 1; omega) (fun j => by
      rw [j2 j, ho j]
      by_cases q : j < 32 * (T - (r + 1))
      · rw [if_neg (by omega), if_pos q, if_pos (by omega)]
      · by_cases q2 : j < 32 * (T - r)
        · rw [if_pos (by omega), if_pos q2]
          unfold wd_
          rw [if_neg (by omega), show T - 1 - (j / 32 - 0) = r by omega, show j - 32 * (T - (r + 1)) = j % 32 by omega]
        · rw [if_neg (by omega), if_neg q, if_neg q2])
    refine ⟨S3, ?_, mw_tr s2 s3, i3, j3⟩
    rw [show fu + (r + 1) + 1 = (fu + r + 1) + 1 by omega, nI_pred, f_X8_way_L69, e_gd (by omega), if_neg (nI_pos (by omega)), e_dc hL.1.1, nI_clamp (by omega), e_gd (by omega), e1, e_bs, e_dc L1.1.1, show (0 : Int32) = nI 0 from rfl, e2, e_bs, e_let, sub_1, show 8 * cu + 8 * 2 ^ (8 - r) = 8 * (cu + 2 ^ (8 - r)) by omega]
    exact e3
theorem p8_proofL {m l n N T e gi : Nat} {c : Nat → Nat → Bool} {lf : Nat → Nat → Int32} {g : Nat → Int32} (hl : l < 2) (hn : 1 ≤ n) (hnN : n ≤ N) (hT : ∀ t', t' < T → 2 ≤ (ds_ c n t').2) (hT8 : T ≤ 8) (he : e ≤ 1) (fu : Nat) : ∀ r, r ≤ T → ∀ S cu, mh_ S m → gI S m 17 = nI 0 → en_I S m l N → lf_ S m l = lf → sm_I S m c n T → cu + (512 - 2 ^ (9 - r)) ≤ 1000 → gI S m 4 = nI (32 * (e + (T - r))) → (∀ j, gI S (m + 2) j = if j < 32 * (e + (T - r)) then d_by (wd_ lf c n T e (j / 32)) (j % 32) else g j) → ∃ S', f_X8_proof_L87 gi (fun c => 2 ^ (8 - c)) (fu + r + 1) S cu (8 * cu) m (nI l) (nI n) (nI r - 1) = some (nI (T + e), S') ∧ mw_S m S S' ∧ gI S' m 4 = nI (32 * (T + e)) ∧ ∀ j, gI S' (m + 2) j = if j < 32 * (T + e) then d_by (wd_ lf c n T e (j / 32)) (j % 32) else g j
  | 0, hr, S, cu, hL, h17, hE, hlf, hs, hcu, h4, ho => by
    rw [show e + (T - 0) = T + e by omega] at h4 ho
    refine ⟨S, ?_, ⟨fr_refl _ _ _, fun _ _ _ => rfl, h17⟩, h4, ho⟩
    rw [f_X8_proof_L87, e_gd (by omega), if_pos m1_neg, e_gI hL.1.1, e_bs, h4, show (32 : Int32) = nI 32 from rfl, pk_div (by omega) (by decide) (by decide), show 32 * (T + e) / 32 = T + e by omega]
  | r + 1, hr, S, cu, hL, h17, hE, hlf, hs, hcu, h4, ho => by
    have hpr : 2 ^ (9 - r) = 2 * 2 ^ (9 - (r + 1)) := by rw [show 9 - r = 9 - (r + 1) + 1 by omega, Nat.pow_succ, Nat.mul_comm]
    have hpr2 : 2 ^ (8 - r) = 2 ^ (9 - (r + 1)) := by congr 1; omega
    have hp9 : 2 ^ (9 - r) ≤ 2 ^ 9 := Nat.pow_le_pow_right (by decide) (by omega)
    have hN := hE.1
    obtain ⟨p1, p2, p3, p4, p5⟩ := pp_b (c := c) (e := 8) (t := r) hn (by omega) (fun t' h => hT t' (by omega))
    have hpp : 2 ^ (8 - r) = 2 * 2 ^ (8 - (r + 1)) := by rw [show 8 - r = 8 - (r + 1) + 1 by omega, Nat.pow_succ, Nat.mul_comm]
    obtain ⟨S1, e1, s1, i1⟩ := p8_other (t0 := r) (bo := 2 ^ (8 - r)) (T := T) (c := c) hl hn hnN hT (by omega) (by omega) (by omega) hL h17 hE hs
    rw [hlf] at i1
    obtain ⟨S2, e2, s2, i2, j2⟩ := mw_1 (o := 32 * (e + (T - (r + 1)))) hL s1 i1 h4 (by omega)
    have L1 := mg_h s1 hL
    have L2 := mw_h s2 hL
    have q5 := mw_o s2 hL 5 10 48000
    have q6 := mw_o s2 hL 6 10 400
    obtain ⟨S3, e3, s3, i3, j3⟩ := p8_proofL (gi := gi) (lf := lf) (g := g) hl hn hnN hT hT8 he fu r (by omega) S2 (cu + 2 ^ (8 - r)) L2 s2.2.2 (en_c hE q5 q6) (by rw [lf_c q5 q6, hlf]) (sm_o hs (s2.2.1 23 (by decide) (by decide)) (mw_o s2 hL 19 10 70)) (by omega) (by rw [i2]; congr 1; omega) (fun j => by
      rw [j2 j, ho j]
      by_cases q : j < 32 * (e + (T - (r + 1)))
      · rw [if_neg (by omega), if_pos q, if_pos (by omega)]
      · by_cases q2 : j < 32 * (e + (T - r))
        · rw [if_pos (by omega), if_pos q2]
          unfold wd_
          rw [if_neg (by omega), show T - 1 - (j / 32 - e) = r by omega, show j - 32 * (e + (T - (r + 1))) = j % 32 by omega]
        · rw [if_neg (by omega), if_neg q, if_neg q2])
    refine ⟨S3, ?_, mw_tr s2 s3, i3, j3⟩
    rw [show fu + (r + 1) + 1 = (fu + r + 1) + 1 by omega, nI_pred, f_X8_proof_L87, e_gd (by omega), if_neg (nI_pos (by omega)), e_dc hL.1.1, nI_clamp (by omega), e_gd (by omega), e1, e_bs, e_dc L1.1.1, show (0 : Int32) = nI 0 from rfl, e2, e_bs, e_let, sub_1, show 8 * cu + 8 * 2 ^ (8 - r) = 8 * (cu + 2 ^ (8 - r)) by omega]
    exact e3
