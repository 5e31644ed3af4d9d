/-! the law's loop -/
theorem tl_f {z : Nat} {S : gS} (h : in_ z S) : fL S (some (z + 65)) 0 = some (gL S (z + 65) 0) := e_L (i := 0) h.1.2.2.2.2.2.2.2.2.2.1.1 h.1.2.2.2.2.2.2.2.2.2.1.2 (by decide)
theorem tl_t {z : Nat} {S : gS} (h : in_ z S) : f_X8_thrown S (z + 45) = some (gI S (z + 45) 0, S) := by
  unfold f_X8_thrown
  rw [e_gI (ly_md h.1).1, e_bs]
theorem tl_B {z : Nat} {S2 r : gS} {k w v4 : Int32} {K : gS → Int32 → Option gS} (i2 : in_ z S2) (t2 : gI S2 (z + 45) 0 = k) (v2 : k = 0 → gL S2 (z + 65) 0 = w.toInt64) (hK : K S2 (v4 + 6) = some r) : (gDc S2 8 (some (z + 45)) fun a => gBi (f_X8_thrown S2 a) fun xt St => if xt = k then if k = 0 then (fL St (some (z + 65)) 0).bind fun xl => if (lg_cmp xl w.toInt64) = 0 then gLet (v4 + 6) fun x => K St x else none else gLet (v4 + 6) fun x => K St x else none) = some r := by
  rw [e_dc (ly_md i2.1).1, tl_t i2, e_bi, if_pos t2]
  by_cases c : k = 0
  · rw [if_pos c, tl_f i2, e_bs, if_pos ((lg_cmp_eq _ _).mpr (v2 c)), e_let]; exact hK
  · rw [if_neg c, e_let]; exact hK
theorem tl_C {z : Nat} {S2 r : gS} {k w v4 : Int32} {K : gS → Int32 → Option gS} (i2 : in_ z S2) (t2 : gI S2 (z + 45) 0 = k) (v2 : k = 0 → (w = 0 ∧ gL S2 (z + 65) 0 = 0) ∨ (w = 1 ∧ gL S2 (z + 65) 0 = 1)) (hK : K S2 (v4 + 6) = some r) : (gDc S2 8 (some (z + 45)) fun a => gBi (f_X8_thrown S2 a) fun xt St => if xt = k then if k = 0 then (fL St (some (z + 65)) 0).bind fun xl => if w = 0 then if (lg_cmp xl 0) = 0 then gLet (v4 + 6) fun x => K St x else none else if (lg_cmp xl 1) = 0 then gLet (v4 + 6) fun x => K St x else none else gLet (v4 + 6) fun x => K St x else none) = some r := by
  rw [e_dc (ly_md i2.1).1, tl_t i2, e_bi, if_pos t2]
  by_cases c : k = 0
  · rw [if_pos c, tl_f i2, e_bs]
    rcases v2 c with ⟨h1, h2⟩ | ⟨h1, h2⟩
    · rw [if_pos h1, if_pos ((lg_cmp_eq _ _).mpr h2), e_let]; exact hK
    · rw [if_neg (by rw [h1]; decide), if_pos ((lg_cmp_eq _ _).mpr h2), e_let]; exact hK
  · rw [if_neg c, e_let]; exact hK
theorem fX_ {L i : Nat} {xs : Nat → Int32} (hi : i < L) (hL : L ≤ 3072) : fX L xs (nI i) = some (xs i) := by
  unfold fX
  rw [nI_clamp (by omega), if_pos (fun q => q.elim (nI_pos (by omega)) (by omega))]
theorem lw_c {L k : Nat} (hk : 6 * k ≤ L) (hL : L ≤ 3072) : nI L - 6 < nI (6 * k) ↔ L < 6 * k + 6 := by
  by_cases c : 6 ≤ L
  · rw [show nI L - 6 = nI (L - 6) from pk_sub (b := 6) c]
    constructor
    · intro h
      rcases Nat.lt_or_ge (L - 6) (6 * k) with q | q
      · omega
      · exact absurd h (nI_nlt q (by omega))
    · intro h
      exact nI_lt (by omega) (by omega)
  · have : k = 0 := by omega
    subst this
    exact ⟨fun _ => by omega, fun _ => pk_sneg (a := L) (b := 6) (by decide) (by omega)⟩
theorem lw_a {k d : Nat} (h : k + (d + 1) = 512) : k + 1 + d = 512 := by omega
theorem lw_b {L k : Nat} (h : ¬ L < 6 * k + 6) : 6 * (k + 1) ≤ L := by omega
theorem lw_d {cu cu' k : Nat} (h : cu ≤ 82 + 1002 * k) (h' : cu' ≤ cu + 1002) : cu' ≤ 82 + 1002 * (k + 1) := by rw [Nat.mul_succ, ← Nat.add_assoc]; exact Nat.le_trans h' (Nat.add_le_add_right h 1002)
theorem lw_e {su su' k : Nat} (h : su ≤ 74932 + 8012 * k) (h' : su' ≤ su + 8012) : su' ≤ 74932 + 8012 * (k + 1) := by rw [Nat.mul_succ, ← Nat.add_assoc]; exact Nat.le_trans h' (Nat.add_le_add_right h 8012)
theorem room_c : 600000 ≤ room_1.cells := by decide
theorem room_s : 7000000 ≤ room_1.slots := by decide
set_option maxHeartbeats 4000000 in
theorem lawL {z L : Nat} {xs : Nat → Int32} {gw : Int32 → Int32 → Nat → Nat} {gp : Int32 → Int32 → Nat} {gq : Int32 → Int32 → Nat → Nat} (hgw : ∀ a b, gw a b = fun c => 2 ^ (8 - c)) (hgp : ∀ a b, gp a b = 400) (hgq : ∀ a b, gq a b = fun c => 2 ^ (8 - c)) (hL : L ≤ 3072) (fu : Nat) : ∀ d k, k + d = 512 → 6 * k ≤ L → ∀ S cu su, in_ z S → cu ≤ 82 + 1002 * k → su ≤ 74932 + 8012 * k → ∃ S9, f_L_law_L23 gw gp gq L xs (fu + d + 1) S cu su (some z) (some (z + 45)) (some (z + 65)) (nI (6 * k)) = some S9
  | 0, k, hd, hk, S, cu, su, h, hcu, hsu => by
    have rc := room_c
    have rs := room_s
    refine ⟨S, ?_⟩
    rw [f_L_law_L23, e_gd (by omega), if_pos ((lw_c hk hL).mpr (by omega))]
  | d + 1, k, hd, hk, S, cu, su, h, hcu, hsu => by
    have rc := room_c
    have rs := room_s
    by_cases hend : L < 6 * k + 6
    · refine ⟨S, ?_⟩
      rw [f_L_law_L23, e_gd (by omega), if_pos ((lw_c hk hL).mpr hend)]
    have IH : ∀ S' cu' su', in_ z S' → cu' ≤ cu + 1002 → su' ≤ su + 8012 → ∃ S9, f_L_law_L23 gw gp gq L xs (fu + d + 1) S' cu' su' (some z) (some (z + 45)) (some (z + 65)) (nI (6 * k) + 6) = some S9 := by
      intro S' cu' su' h' h1 h2
      have := lawL (gw := gw) (gp := gp) (gq := gq) (xs := xs) hgw hgp hgq hL fu d (k + 1) (lw_a hd) (lw_b hend) S' cu' su' h' (lw_d hcu h1) (lw_e hsu h2)
      rw [show nI (6 * (k + 1)) = nI (6 * k) + 6 from by rw [show (6 : Int32) = nI 6 from rfl, nI_add]; rfl] at this
      exact this
    have X0 : fX L xs (nI (6 * k)) = some (xs (6 * k)) := fX_ (by omega) hL
    have X1 : fX L xs (nI (6 * k) + 1) = some (xs (6 * k + 1)) := by rw [show nI (6 * k) + 1 = nI (6 * k + 1) from nI_add _ 1]; exact fX_ (by omega) hL
    have X2 : fX L xs (nI (6 * k) + 2) = some (xs (6 * k + 2)) := by rw [show nI (6 * k) + 2 = nI (6 * k + 2) from nI_add _ 2]; exact fX_ (by omega) hL
    have X3 : fX L xs (nI (6 * k) + 3) = some (xs (6 * k + 3)) := by rw [show nI (6 * k) + 3 = nI (6 * k + 3) from nI_add _ 3]; exact fX_ (by omega) hL
    have X4 : fX L xs (nI (6 * k) + 4) = some (xs (6 * k + 4)) := by rw [show nI (6 * k) + 4 = nI (6 * k + 4) from nI_add _ 4]; exact fX_ (by omega) hL
    have X5 : fX L xs (nI (6 * k) + 5) = some (xs (6 * k + 5)) := by rw [show nI (6 * k) + 5 = nI (6 * k + 5) from nI_add _ 5]; exact fX_ (by omega) hL
    have y := h.1
    have e0 := y.1.1
    rw [show fu + (d + 1) + 1 = (fu + d + 1) + 1 by omega, f_L_law_L23, e_gd (by omega), if_neg (fun q => hend ((lw_c hk hL).mp q)), X0, e_bs, e_let, X1, X2, X3, X4, X5]
    generalize hx : xs (6 * k) &&& 31 = x24
    by_cases c0 : x24 = 0
    · rw [if_pos c0]
      obtain ⟨r, S1, S2, e1, k1, e2, i2⟩ := o_feed (a := (xs (6 * k + 1))) (b := (xs (6 * k + 2))) (c := (xs (6 * k + 3))) (d := (xs (6 * k + 4))) (e := (xs (6 * k + 5))) h
      obtain ⟨S9, hK⟩ := IH S2 cu su i2 (by omega) (by omega)
      refine ⟨S9, ?_⟩
      rw [e_bs, e_bs, e_bs, e_bs, e_bs, e_dc e0, e1, e_bi, e_bs, e_bs, e_bs, e_bs, e_bs, e_dc k1, e2, e_bi, if_pos rfl, e_let]
      exact hK
    rw [if_neg c0]
    by_cases c1 : x24 = 1
    · rw [if_pos c1]
      obtain ⟨r, S1, S2, e1, k1, e2, i2⟩ := o_end (v := (xs (6 * k + 1))) h
      obtain ⟨S9, hK⟩ := IH S2 cu su i2 (by omega) (by omega)
      refine ⟨S9, ?_⟩
      rw [e_bs, e_dc e0, e1, e_bi, e_bs, e_dc k1, e2, e_bi, if_pos rfl, e_let]
      exact hK
    rw [if_neg c1]
    by_cases c2 : x24 = 2
    · rw [if_pos c2]
      obtain ⟨r, S1, S2, e1, k1, e2, i2⟩ := o_again  h
      obtain ⟨S9, hK⟩ := IH S2 cu su i2 (by omega) (by omega)
      refine ⟨S9, ?_⟩
      rw [e_dc e0, e1, e_bi, e_dc k1, e2, e_bi, if_pos rfl, e_let]
      exact hK
    rw [if_neg c2]
    by_cases c3 : x24 = 3
    · rw [if_pos c3]
      obtain ⟨r, S1, S2, e1, k1, e2, i2⟩ := o_out (v := (xs (6 * k + 1))) h
      obtain ⟨S9, hK⟩ := IH S2 cu su i2 (by omega) (by omega)
      refine ⟨S9, ?_⟩
      rw [e_bs, e_dc e0, e1, e_bi, e_bs, e_dc k1, e2, e_bi, if_pos rfl, e_let]
      exact hK
    rw [if_neg c3]
    by_cases c4 : x24 = 4
    · rw [if_pos c4]
      obtain ⟨r, S1, S2, e1, k1, e2, i2⟩ := o_outs  h
      obtain ⟨S9, hK⟩ := IH S2 cu su i2 (by omega) (by omega)
      refine ⟨S9, ?_⟩
      rw [e_dc e0, e1, e_bi, e_dc k1, e2, e_bi, if_pos rfl, e_let]
      exact hK
    rw [if_neg c4]
    by_cases c5 : x24 = 5
    · rw [if_pos c5]
      obtain ⟨kk, S1, w, S2, e1, k1, e2, t2, v2, i2⟩ := uq_key (a := (xs (6 * k + 1))) h
      obtain ⟨S9, hK⟩ := IH S2 (cu + 2) (su + 12) i2 (by omega) (by omega)
      refine ⟨S9, ?_⟩
      rw [e_bs, e_gd (by omega), e1, e_bi, e_bs, e_dc k1, show f_X8_key S1 (z + 45) (xs (6 * k + 1)) = some (w, S2) from e2, e_bi]
      exact tl_B i2 t2 v2 hK
    rw [if_neg c5]
    by_cases c6 : x24 = 6
    · rw [if_pos c6]
      obtain ⟨kk, S1, w, S2, e1, k1, e2, t2, v2, i2⟩ := uq_submit (a := (xs (6 * k + 1))) h
      obtain ⟨S9, hK⟩ := IH S2 (cu + 21) (su + 1216) i2 (by omega) (by omega)
      refine ⟨S9, ?_⟩
      rw [e_bs, e_gd (by omega), e1, e_bi, e_bs, e_dc k1, show f_X8_submit S1 (z + 45) (xs (6 * k + 1)) = some (w, S2) from e2, e_bi]
      exact tl_B i2 t2 v2 hK
    rw [if_neg c6]
    by_cases c7 : x24 = 7
    · rw [if_pos c7]
      obtain ⟨kk, S1, w, S2, e1, k1, e2, t2, v2, i2⟩ := uq_cut (a := (xs (6 * k + 1))) (t := ((xs (6 * k + 2)).toInt64 <<< ((32 : Int32).toInt64 &&& 63) ||| ((xs (6 * k + 3)).toInt64 &&& 4294967295))) h
      obtain ⟨S9, hK⟩ := IH S2 (cu + 3 + 410) (su + 127 + 3280) i2 (by omega) (by omega)
      refine ⟨S9, ?_⟩
      rw [e_bs, e_bs, e_bs, e_gd (by omega), e1, e_bi, e_bs, e_bs, e_bs, e_dc k1, e_gd (by omega), show f_X8_cut S1 (z + 45) (xs (6 * k + 1)) ((xs (6 * k + 2)).toInt64 <<< ((32 : Int32).toInt64 &&& 63) ||| ((xs (6 * k + 3)).toInt64 &&& 4294967295)) = some (w, S2) from e2, e_bi]
      exact tl_B i2 t2 v2 hK
    rw [if_neg c7]
    by_cases c8 : x24 = 8
    · rw [if_pos c8]
      obtain ⟨kk, S1, w, S2, e1, k1, e2, t2, v2, i2⟩ := uq_size (a := (xs (6 * k + 1))) (b := (xs (6 * k + 2))) h
      obtain ⟨S9, hK⟩ := IH S2 (cu + 2) (su + 12) i2 (by omega) (by omega)
      refine ⟨S9, ?_⟩
      rw [e_bs, e_bs, e_gd (by omega), e1, e_bi, e_bs, e_bs, e_dc k1, show f_X8_size S1 (z + 45) (xs (6 * k + 1)) (xs (6 * k + 2)) = some (w, S2) from e2, e_bi]
      exact tl_B i2 t2 v2 hK
    rw [if_neg c8]
    by_cases c9 : x24 = 9
    · rw [if_pos c9]
      obtain ⟨kk, S1, w, S2, e1, k1, e2, t2, v2, i2⟩ := uq_head (a := (xs (6 * k + 1))) (v := (xs (6 * k + 2))) h
      obtain ⟨S9, hK⟩ := IH S2 (cu + 2) (su + 12) i2 (by omega) (by omega)
      refine ⟨S9, ?_⟩
      rw [e_bs, e_bs, e_gd (by omega), e1, e_bi, e_bs, e_bs, e_dc k1, show f_X8_head S1 (z + 45) (xs (6 * k + 1)) (xs (6 * k + 2)) = some (w, S2) from e2, e_bi]
      exact tl_B i2 t2 v2 hK
    rw [if_neg c9]
    by_cases c10 : x24 = 10
    · rw [if_pos c10]
      obtain ⟨kk, S1, w, S2, e1, k1, e2, t2, v2, i2⟩ := uq_entry (a := (xs (6 * k + 1))) (v := (xs (6 * k + 2))) h
      obtain ⟨S9, hK⟩ := IH S2 (cu + 2) (su + 12) i2 (by omega) (by omega)
      refine ⟨S9, ?_⟩
      rw [e_bs, e_bs, e_gd (by omega), e1, e_bi, e_bs, e_bs, e_dc k1, show f_X8_entry S1 (z + 45) (xs (6 * k + 1)) (xs (6 * k + 2)) = some (w, S2) from e2, e_bi]
      exact tl_B i2 t2 v2 hK
    rw [if_neg c10]
    by_cases c11 : x24 = 11
    · rw [if_pos c11]
      obtain ⟨kk, S1, w, S2, e1, k1, e2, t2, v2, i2⟩ := ub_leaf (a := (xs (6 * k + 1))) (v := (xs (6 * k + 2))) h
      obtain ⟨S9, hK⟩ := IH S2 (cu + 2 + 1) (su + 12 + 8) i2 (by omega) (by omega)
      refine ⟨S9, ?_⟩
      rw [e_bs, e_bs, e_gd (by omega), e1, e_bi, e_bs, e_bs, e_dc k1, e_gd (by omega), show f_X8_leaf S1 (z + 45) (xs (6 * k + 1)) (xs (6 * k + 2)) = some (w, S2) from e2, e_bi]
      exact tl_C i2 t2 v2 hK
    rw [if_neg c11]
    by_cases c12 : x24 = 12
    · rw [if_pos c12]
      obtain ⟨kk, S1, w, S2, e1, k1, e2, t2, v2, i2⟩ := uq_find (a := (xs (6 * k + 1))) h
      obtain ⟨S9, hK⟩ := IH S2 (cu + 2 + 200) (su + 12 + 1600) i2 (by omega) (by omega)
      refine ⟨S9, ?_⟩
      rw [e_bs, e_gd (by omega), e1, e_bi, e_bs, e_dc k1, e_gd (by omega), show f_X8_find S1 (z + 45) (xs (6 * k + 1)) = some (w, S2) from e2, e_bi]
      exact tl_B i2 t2 v2 hK
    rw [if_neg c12]
    by_cases c13 : x24 = 13
    · rw [if_pos c13]
      obtain ⟨kk, S1, w, S2, e1, k1, e2, t2, v2, i2⟩ := ub_root (a := (xs (6 * k + 1))) (v := (xs (6 * k + 2))) h
      obtain ⟨S9, hK⟩ := IH S2 (cu + 2 + 400) (su + 12 + 3200) i2 (by omega) (by omega)
      refine ⟨S9, ?_⟩
      rw [e_bs, e_bs, e_gd (by omega), e1, e_bi, e_bs, e_bs, e_dc k1, e_gd (by omega), show f_X8_root_ S1 (z + 45) (xs (6 * k + 1)) (xs (6 * k + 2)) = some (w, S2) from e2, e_bi]
      exact tl_C i2 t2 v2 hK
    rw [if_neg c13]
    by_cases c14 : x24 = 14
    · rw [if_pos c14]
      obtain ⟨kk, S1, w, S2, e1, k1, e2, t2, v2, i2⟩ := uq_way (a := (xs (6 * k + 1))) (u := (xs (6 * k + 2))) (v := (xs (6 * k + 3))) h
      obtain ⟨S9, hK⟩ := IH S2 (cu + 2 + 1000) (su + 12 + 8000) i2 (by omega) (by omega)
      refine ⟨S9, ?_⟩
      rw [e_bs, e_bs, e_bs, e_gd (by omega), e1, e_bi, e_bs, e_bs, e_bs, e_dc k1, e_gd (by omega), hgw, show f_X8_way (fun c => 2 ^ (8 - c)) S1 (z + 45) (xs (6 * k + 1)) (xs (6 * k + 2)) (xs (6 * k + 3)) = some (w, S2) from e2, e_bi]
      exact tl_B i2 t2 v2 hK
    rw [if_neg c14]
    by_cases c15 : x24 = 15
    · rw [if_pos c15]
      obtain ⟨kk, S1, w, S2, e1, k1, e2, t2, v2, i2⟩ := uq_proof (a := (xs (6 * k + 1))) (u := (xs (6 * k + 2))) (v := (xs (6 * k + 3))) h
      obtain ⟨S9, hK⟩ := IH S2 (cu + 2 + 1000) (su + 12 + 8000) i2 (by omega) (by omega)
      refine ⟨S9, ?_⟩
      rw [e_bs, e_bs, e_bs, e_gd (by omega), e1, e_bi, e_bs, e_bs, e_bs, e_dc k1, e_gd (by omega), hgp, hgq, show f_X8_proof 400 (fun c => 2 ^ (8 - c)) S1 (z + 45) (xs (6 * k + 1)) (xs (6 * k + 2)) (xs (6 * k + 3)) = some (w, S2) from e2, e_bi]
      exact tl_B i2 t2 v2 hK
    rw [if_neg c15]
    by_cases c16 : x24 = 16
    · rw [if_pos c16]
      obtain ⟨r, S1, S2, e1, k1, e2, i2⟩ := o_isIn (v1 := ((xs (6 * k + 1)).toInt64 <<< ((32 : Int32).toInt64 &&& 63) ||| ((xs (6 * k + 2)).toInt64 &&& 4294967295))) (v3 := ((xs (6 * k + 3)).toInt64 <<< ((32 : Int32).toInt64 &&& 63) ||| ((xs (6 * k + 4)).toInt64 &&& 4294967295))) h
      obtain ⟨S9, hK⟩ := IH S2 (cu + 70) (su + 560) i2 (by omega) (by omega)
      refine ⟨S9, ?_⟩
      rw [e_bs, e_bs, e_bs, e_bs, e_dc e0, e1, e_bi, e_bs, e_bs, e_bs, e_bs, e_dc k1, e_gd (by omega), e2, e_bi, if_pos rfl, e_let]
      exact hK
    rw [if_neg c16]
    by_cases c17 : x24 = 17
    · rw [if_pos c17]
      obtain ⟨r, S1, S2, e1, k1, e2, i2⟩ := o_isOn (v1 := ((xs (6 * k + 1)).toInt64 <<< ((32 : Int32).toInt64 &&& 63) ||| ((xs (6 * k + 2)).toInt64 &&& 4294967295))) (v3 := ((xs (6 * k + 3)).toInt64 <<< ((32 : Int32).toInt64 &&& 63) ||| ((xs (6 * k + 4)).toInt64 &&& 4294967295))) h
      obtain ⟨S9, hK⟩ := IH S2 (cu + 140) (su + 1120) i2 (by omega) (by omega)
      refine ⟨S9, ?_⟩
      rw [e_bs, e_bs, e_bs, e_bs, e_dc e0, e1, e_bi, e_bs, e_bs, e_bs, e_bs, e_dc k1, e_gd (by omega), e2, e_bi, if_pos rfl, e_let]
      exact hK
    rw [if_neg c17]
    by_cases c18 : x24 = 18
    · rw [if_pos c18]
      obtain ⟨kk, S1, w, S2, e1, k1, e2, t2, v2, i2⟩ := ub_isSealed (a := (xs (6 * k + 1))) h
      obtain ⟨S9, hK⟩ := IH S2 (cu + 2 + 3) (su + 12 + 24) i2 (by omega) (by omega)
      refine ⟨S9, ?_⟩
      rw [e_bs, e_gd (by omega), e1, e_bi, e_bs, e_dc k1, e_gd (by omega), show f_X8_isSealed S1 (z + 45) (xs (6 * k + 1)) = some (w, S2) from e2, e_bi]
      exact tl_C i2 t2 v2 hK
    rw [if_neg c18]
    by_cases c19 : x24 = 19
    · rw [if_pos c19]
      obtain ⟨kk, S1, w, S2, e1, k1, e2, t2, v2, i2⟩ := ub_seal (a := (xs (6 * k + 1))) h
      obtain ⟨S9, hK⟩ := IH S2 (cu + 2 + 3) (su + 12 + 24) i2 (by omega) (by omega)
      refine ⟨S9, ?_⟩
      rw [e_bs, e_gd (by omega), e1, e_bi, e_bs, e_dc k1, e_gd (by omega), show f_X8_seal S1 (z + 45) (xs (6 * k + 1)) = some (w, S2) from e2, e_bi]
      exact tl_C i2 t2 v2 hK
    rw [if_neg c19]
    by_cases c20 : x24 = 20
    · rw [if_pos c20]
      obtain ⟨kk, S1, w, S2, e1, k1, e2, t2, v2, i2⟩ := uq_follow (a := (xs (6 * k + 1))) (b := (xs (6 * k + 2))) h
      obtain ⟨S9, hK⟩ := IH S2 (cu + 6 + 143) (su + 254 + 1144) i2 (by omega) (by omega)
      refine ⟨S9, ?_⟩
      rw [e_bs, e_bs, e_gd (by omega), e1, e_bi, e_bs, e_bs, e_dc k1, e_gd (by omega), show f_X8_follow S1 (z + 45) (xs (6 * k + 1)) (xs (6 * k + 2)) = some (w, S2) from e2, e_bi]
      exact tl_B i2 t2 v2 hK
    rw [if_neg c20]
    by_cases c21 : x24 = 21
    · rw [if_pos c21]
      obtain ⟨kk, S1, w, S2, e1, k1, e2, t2, v2, i2⟩ := uq_gossip (a := (xs (6 * k + 1))) (b := (xs (6 * k + 2))) (c := (xs (6 * k + 3))) h
      obtain ⟨S9, hK⟩ := IH S2 (cu + 2) (su + 12) i2 (by omega) (by omega)
      refine ⟨S9, ?_⟩
      rw [e_bs, e_bs, e_bs, e_gd (by omega), e1, e_bi, e_bs, e_bs, e_bs, e_dc k1, show f_X8_gossip S1 (z + 45) (xs (6 * k + 1)) (xs (6 * k + 2)) (xs (6 * k + 3)) = some (w, S2) from e2, e_bi]
      exact tl_B i2 t2 v2 hK
    rw [if_neg c21]
    by_cases c22 : x24 = 22
    · rw [if_pos c22]
      obtain ⟨kk, S1, w, S2, e1, k1, e2, t2, v2, i2⟩ := ub_has (a := (xs (6 * k + 1))) (b := (xs (6 * k + 2))) (c := (xs (6 * k + 3))) h
      obtain ⟨S9, hK⟩ := IH S2 (cu + 2) (su + 12) i2 (by omega) (by omega)
      refine ⟨S9, ?_⟩
      rw [e_bs, e_bs, e_bs, e_gd (by omega), e1, e_bi, e_bs, e_bs, e_bs, e_dc k1, show f_X8_has S1 (z + 45) (xs (6 * k + 1)) (xs (6 * k + 2)) (xs (6 * k + 3)) = some (w, S2) from e2, e_bi]
      exact tl_C i2 t2 v2 hK
    rw [if_neg c22]
    obtain ⟨S9, hK⟩ := IH S cu su h (by omega) (by omega)
    refine ⟨S9, ?_⟩
    obtain ⟨j, hj, ej⟩ := pk_andE (xs (6 * k)) (m := 31) 5 (by decide)
    rw [hx] at ej
    have d0 : j ≠ 0 := fun q => c0 (by rw [ej, q]; rfl)
    have d1 : j ≠ 1 := fun q => c1 (by rw [ej, q]; rfl)
    have d2 : j ≠ 2 := fun q => c2 (by rw [ej, q]; rfl)
    have d3 : j ≠ 3 := fun q => c3 (by rw [ej, q]; rfl)
    have d4 : j ≠ 4 := fun q => c4 (by rw [ej, q]; rfl)
    have d5 : j ≠ 5 := fun q => c5 (by rw [ej, q]; rfl)
    have d6 : j ≠ 6 := fun q => c6 (by rw [ej, q]; rfl)
    have d7 : j ≠ 7 := fun q => c7 (by rw [ej, q]; rfl)
    have d8 : j ≠ 8 := fun q => c8 (by rw [ej, q]; rfl)
    have d9 : j ≠ 9 := fun q => c9 (by rw [ej, q]; rfl)
    have d10 : j ≠ 10 := fun q => c10 (by rw [ej, q]; rfl)
    have d11 : j ≠ 11 := fun q => c11 (by rw [ej, q]; rfl)
    have d12 : j ≠ 12 := fun q => c12 (by rw [ej, q]; rfl)
    have d13 : j ≠ 13 := fun q => c13 (by rw [ej, q]; rfl)
    have d14 : j ≠ 14 := fun q => c14 (by rw [ej, q]; rfl)
    have d15 : j ≠ 15 := fun q => c15 (by rw [ej, q]; rfl)
    have d16 : j ≠ 16 := fun q => c16 (by rw [ej, q]; rfl)
    have d17 : j ≠ 17 := fun q => c17 (by rw [ej, q]; rfl)
    have d18 : j ≠ 18 := fun q => c18 (by rw [ej, q]; rfl)
    have d19 : j ≠ 19 := fun q => c19 (by rw [ej, q]; rfl)
    have d20 : j ≠ 20 := fun q => c20 (by rw [ej, q]; rfl)
    have d21 : j ≠ 21 := fun q => c21 (by rw [ej, q]; rfl)
    have d22 : j ≠ 22 := fun q => c22 (by rw [ej, q]; rfl)
    rw [if_pos (show x24.toInt < 0 ∨ 22 < x24.toInt from Or.inr (by rw [ej, nI_toInt (by omega)]; omega)), e_let]
    exact hK
theorem pure_main {L : Nat} (hL : L ≤ 3072) {xs : Nat → Int32} (z : Nat) : ∃ gw gp gq S9, f_L_law gw gp gq L xs (gS00 z) = some S9 := by
  obtain ⟨S, e, h⟩ := i_all (z := z) (L := L) (gw := fun _ _ c => 2 ^ (8 - c)) (gp := fun _ _ => 400) (gq := fun _ _ c => 2 ^ (8 - c)) (xs := xs)
  obtain ⟨fu, hf⟩ := g_fu 512
  obtain ⟨S9, e9⟩ := lawL (z := z) (L := L) (xs := xs) (gw := fun _ _ c => 2 ^ (8 - c)) (gp := fun _ _ => 400) (gq := fun _ _ c => 2 ^ (8 - c)) (fun _ _ => rfl) (fun _ _ => rfl) (fun _ _ => rfl) hL fu 512 0 (by omega) (by omega) S 82 74932 h (by omega) (by omega)
  refine ⟨_, _, _, S9, e.trans ?_⟩
  rw [hf, show 512 + fu + 1 = fu + 512 + 1 by omega]
  exact e9
