/-! the class's heads -/
def s_hb (t z : Int64) (W D : Nat → Int32) (j : Nat) : Int32 := if j < 48 then s_hd t z W j else d_by D (j - 48)
theorem bt_hd (t z : Int64) (W : Nat → Int32) (j : Nat) : bt_ (s_hd t z W j) := by
  unfold s_hd
  by_cases c : j < 8
  · rw [if_pos c]; exact bt_lb _ _
  · rw [if_neg c]
    by_cases c2 : j < 16
    · rw [if_pos c2]; exact bt_lb _ _
    · rw [if_neg c2]; exact bt_dby _ _
theorem bt_hb (t z : Int64) (W D : Nat → Int32) (j : Nat) : bt_ (s_hb t z W D j) := by
  unfold s_hb
  by_cases c : j < 48
  · rw [if_pos c]; exact bt_hd _ _ _ _
  · rw [if_neg c]; exact bt_dby _ _
theorem p_addHead {zz : Nat} {S : gS} {b N H : Nat} {t : Int64} {lf : Nat → Nat → Int32} {KB : Nat → Int32} (hb : b + 9 < zz) (hL : lg_L S b) (wf : wf_S S) (hc : gK S (zz - 1) = 11) (hfu : fu_I zz S b lf N) (h4 : gI S b 4 = nI N) (hN : N ≤ 200) (h8 : gI S b 8 = nI H) (hH : H < 40) (hk : ∀ j, j < 64 → gI S (b + 4) j = sb_ (KB j)) : ∃ S', f_X1_addHead S b t = some (nI H, S') ∧ fr_S (b :: (b + 9) :: lq_ b) [b + 7] S S' ∧ gI S' b 6 = nI N ∧ gI S' b 8 = nI (H + 1) ∧ (∀ k, k ≠ 6 → k ≠ 8 → gI S' b k = gI S b k) ∧ (∃ rr, gR S' (b + 7) = va_up (gR S (b + 7)) H (some rr) ∧ rw_at zz S' rr 80 (fun j => sb_ (s_hb t (lN N) (s_rt lf 0 N) (s_sl KB (s_hd t (lN N) (s_rt lf 0 N))) j))) ∧ zz ≤ gZ S' := by
  have hlq : ∀ x ∈ lq_ b, x < zz := fun x hx => by unfold lq_ at hx; simp only [List.mem_cons, List.not_mem_nil, or_false] at hx; omega
  have moq : ∀ x ∈ lq_ b, x ∈ b :: (b + 9) :: lq_ b := fun x hx => List.mem_cons_of_mem _ (List.mem_cons_of_mem _ hx)
  have n9 : b + 9 ∉ lq_ b := lq_n (by omega)
  have nb : b ∉ lq_ b := lq_n (by omega)
  have n4 : b + 4 ∉ b :: (b + 9) :: lq_ b := by unfold lq_; simp
  -- the two numbers
  have F1 : fr_S (b :: (b + 9) :: lq_ b) [] S (gsI S b 6 (nI N)) := fr_i (by simp)
  have L1 : lg_L (gsI S b 6 (nI N)) b := hL
  have q1 : fpI S 1 6 (some b) (nI N) = some (gsI S b 6 (nI N)) := e_pI hL.1
  have w1 := p_writeLong (S := gsI S b 6 (nI N)) (r := b + 9) (p := 0) (v := t) (lg_k L1 9 9 80) (by rw [lg_n L1 9 9 80]; decide) (by rw [lg_n L1 9 9 80]; decide)
  have I1 : gI (gsI S b 6 (nI N)) b = va_up (gI S b) 6 (nI N) := sI_s
  generalize gsI S b 6 (nI N) = S1 at *
  have F2 : fr_S (b :: (b + 9) :: lq_ b) [] S1 (gsA S1 (b + 9) fun j => if 0 ≤ j ∧ j < 0 + 8 then sb_ (lb_ t (j - 0)) else gI S1 (b + 9) j) := fr_A (by simp)
  have L2 : lg_L (gsA S1 (b + 9) fun j => if 0 ≤ j ∧ j < 0 + 8 then sb_ (lb_ t (j - 0)) else gI S1 (b + 9) j) b := L1
  have I2 : gI (gsA S1 (b + 9) fun j => if 0 ≤ j ∧ j < 0 + 8 then sb_ (lb_ t (j - 0)) else gI S1 (b + 9) j) b = va_up (gI S b) 6 (nI N) := by rw [sA_n (by omega), I1]
  have M2 : ∀ j, j < 8 → gI (gsA S1 (b + 9) fun j => if 0 ≤ j ∧ j < 0 + 8 then sb_ (lb_ t (j - 0)) else gI S1 (b + 9) j) (b + 9) j = sb_ (lb_ t j) := fun j hj => by rw [sA_s]; exact if_pos ⟨by omega, by omega⟩
  generalize (gsA S1 (b + 9) fun j => if 0 ≤ j ∧ j < 0 + 8 then sb_ (lb_ t (j - 0)) else gI S1 (b + 9) j) = S2 at *
  have w2 := p_writeLong (S := S2) (r := b + 9) (p := 8) (v := lN N) (lg_k L2 9 9 80) (by rw [lg_n L2 9 9 80]; decide) (by rw [lg_n L2 9 9 80]; decide)
  have F3 : fr_S (b :: (b + 9) :: lq_ b) [] S2 (gsA S2 (b + 9) fun j => if 8 ≤ j ∧ j < 8 + 8 then sb_ (lb_ (lN N) (j - 8)) else gI S2 (b + 9) j) := fr_A (by simp)
  have L3 : lg_L (gsA S2 (b + 9) fun j => if 8 ≤ j ∧ j < 8 + 8 then sb_ (lb_ (lN N) (j - 8)) else gI S2 (b + 9) j) b := L2
  have I3 : gI (gsA S2 (b + 9) fun j => if 8 ≤ j ∧ j < 8 + 8 then sb_ (lb_ (lN N) (j - 8)) else gI S2 (b + 9) j) b = va_up (gI S b) 6 (nI N) := by rw [sA_n (by omega), I2]
  have M3 : ∀ j, j < 16 → gI (gsA S2 (b + 9) fun j => if 8 ≤ j ∧ j < 8 + 8 then sb_ (lb_ (lN N) (j - 8)) else gI S2 (b + 9) j) (b + 9) j = sb_ (s_hd t (lN N) (s_rt lf 0 N) j) := fun j hj => by
    rw [sA_s]
    unfold s_hd
    by_cases c : j < 8
    · rw [if_pos c]
      exact (if_neg (by omega)).trans (M2 j c)
    · rw [if_neg c, if_pos hj]
      exact if_pos ⟨by omega, by omega⟩
  generalize (gsA S2 (b + 9) fun j => if 8 ≤ j ∧ j < 8 + 8 then sb_ (lb_ (lN N) (j - 8)) else gI S2 (b + 9) j) = S3 at *
  have F13 := fr_tr F1 (fr_tr F2 F3)
  have hbA : ∀ x ∈ b :: (b + 9) :: lq_ b, x < zz := fun x hx => by unfold lq_ at hx; simp only [List.mem_cons, List.not_mem_nil, or_false] at hx; omega
  have hfu3 := fu_fr hfu hL F13 hbA (by simp) (by simp)
  obtain ⟨S4, e4, f4, d4⟩ := p_rootOf (a := 0) (n := N) (N := N) hb (by omega) hN (al_0 N) L3 hfu3
  rw [Nat.zero_add] at e4
  have L4 := lq_L L3 f4
  have w5 := p_copy (S := S4) (r1 := b + 8) (r2 := b + 9) (p1 := 0) (p2 := 16) (n := 32) (lg_k L4 8 9 32) (lg_k L4 9 9 80) (by rw [lg_n L4 8 9 32]; decide) (by rw [lg_n L4 9 9 80]; decide) (by rw [lg_n L4 8 9 32]; decide) (by rw [lg_n L4 9 9 80]; decide)
  have F5 : fr_S (b :: (b + 9) :: lq_ b) [] S4 (gsA S4 (b + 9) (va_cpy (gI S4 (b + 8)) (gI S4 (b + 9)) 0 16 32)) := fr_A (by simp)
  have L5 : lg_L (gsA S4 (b + 9) (va_cpy (gI S4 (b + 8)) (gI S4 (b + 9)) 0 16 32)) b := L4
  have I5 : gI (gsA S4 (b + 9) (va_cpy (gI S4 (b + 8)) (gI S4 (b + 9)) 0 16 32)) b = va_up (gI S b) 6 (nI N) := by rw [sA_n (by omega), fr_I f4 L3.1 nb, I3]
  have M5 : ∀ j, j < 48 → gI (gsA S4 (b + 9) (va_cpy (gI S4 (b + 8)) (gI S4 (b + 9)) 0 16 32)) (b + 9) j = sb_ (s_hd t (lN N) (s_rt lf 0 N) j) := fun j hj => by
    rw [sA_s, va_cpy_e]
    by_cases c : j < 16
    · rw [if_neg (by omega), fr_I f4 (lg_k L3 9 9 80) n9, M3 j c]
    · have := d4 (j - 16) (by omega)
      rw [if_pos (by omega), this]
      unfold s_hd
      rw [if_neg (by omega), if_neg c]
  generalize gsA S4 (b + 9) (va_cpy (gI S4 (b + 8)) (gI S4 (b + 9)) 0 16 32) = S5 at *
  have F15 := fr_tr F13 (fr_tr (fr_mo f4 moq (by simp)) F5)
  obtain ⟨S6, e6, f6, d6⟩ := p_seal (S := S5) (b := b) (r := b + 9) (KB := KB) (H := s_hd t (lN N) (s_rt lf 0 N)) L5 (fun j hj => by rw [fr_I F15 (lg_k hL 4 9 64) n4]; exact hk j hj) (lg_k L5 9 9 80) (by rw [lg_n L5 9 9 80]; decide) (by rw [lg_n L5 9 9 80]; decide) (fun j hj => by rw [M5 j hj, sb_and]; exact bt_hd _ _ _ _)
  have L6 := lq_L L5 f6
  have w7 := p_copy (S := S6) (r1 := b + 8) (r2 := b + 9) (p1 := 0) (p2 := 48) (n := 32) (lg_k L6 8 9 32) (lg_k L6 9 9 80) (by rw [lg_n L6 8 9 32]; decide) (by rw [lg_n L6 9 9 80]; decide) (by rw [lg_n L6 8 9 32]; decide) (by rw [lg_n L6 9 9 80]; decide)
  have F7 : fr_S (b :: (b + 9) :: lq_ b) [] S6 (gsA S6 (b + 9) (va_cpy (gI S6 (b + 8)) (gI S6 (b + 9)) 0 48 32)) := fr_A (by simp)
  have L7 : lg_L (gsA S6 (b + 9) (va_cpy (gI S6 (b + 8)) (gI S6 (b + 9)) 0 48 32)) b := L6
  have I7 : gI (gsA S6 (b + 9) (va_cpy (gI S6 (b + 8)) (gI S6 (b + 9)) 0 48 32)) b = va_up (gI S b) 6 (nI N) := by rw [sA_n (by omega), fr_I f6 L5.1 nb, I5]
  have M7 : ∀ j, j < 80 → gI (gsA S6 (b + 9) (va_cpy (gI S6 (b + 8)) (gI S6 (b + 9)) 0 48 32)) (b + 9) j = sb_ (s_hb t (lN N) (s_rt lf 0 N) (s_sl KB (s_hd t (lN N) (s_rt lf 0 N))) j) := fun j hj => by
    rw [sA_s, va_cpy_e]
    unfold s_hb
    by_cases c : j < 48
    · rw [if_neg (by omega), if_pos c, fr_I f6 (lg_k L5 9 9 80) n9, M5 j c]
    · have := d6 (j - 48) (by omega)
      rw [if_pos (by omega), if_neg c, this]
  generalize gsA S6 (b + 9) (va_cpy (gI S6 (b + 8)) (gI S6 (b + 9)) 0 48 32) = S7 at *
  have F17 := fr_tr F15 (fr_tr (fr_mo f6 moq (by simp)) F7)
  have wf7 := F17.1 wf
  have hz7 : zz ≤ gZ S7 := by
    have := wf7 (zz - 1) (by rw [fr_K F17 hc]; decide)
    omega
  obtain ⟨S8, e8, f8, r8, z8⟩ := p_new (zz := zz) (S := S7) (src := b + 9) (n := 80) wf7 hz7 (lg_k L7 9 9 80) (by rw [lg_n L7 9 9 80]; decide) (by rw [lg_n L7 9 9 80]; decide) (by decide)
  have L8 := lq_L L7 f8
  have kb8 := fr_K (fr_n (A := []) (B := []) (kd := 3) (n := 1) wf7) L7.1
  have rb8 : gR (gnw S7 3 1) b = gR S7 b := fr_R (A := []) (B := []) (fr_n wf7) L7.1 (by simp)
  have I8 : gI S8 b = va_up (gI S b) 6 (nI N) := by rw [fr_I f8 L7.1 (by simp), I7]
  refine ⟨gsI (gsR S8 (b + 7) H (some (gZ S7))) b 8 (nI (H + 1)), ?_, ?_, ?_, ?_, fun k h6 h8' => ?_, ⟨gZ S7, ?_, ?_⟩, z8⟩
  · unfold f_X1_addHead
    have q8 : fpI (gsR S8 (b + 7) H (some (gZ S7))) 1 8 (some b) (nI (H + 1)) = some (gsI (gsR S8 (b + 7) H (some (gZ S7))) b 8 (nI (H + 1))) := e_pI (S := gsR S8 (b + 7) H (some (gZ S7))) L8.1
    rw [e_gI hL.1, e_bs, h8, if_pos (show nI H < (40 : Int32) from nI_lt (b := 40) hH (by decide)), e_gI hL.1, e_bs, h4, q1, e_bs, e_gR L1.1, e_bs, lg_r L1 10 9, show (0 : Int32) = nI 0 from rfl, w1, e_bs, e_gR L2.1, e_bs, lg_r L2 10 9, e_gI L2.1, e_bs, I2, va_up_s, nI_l (by omega), show (8 : Int32) = nI 8 from rfl, w2, e_bs, e_gI L3.1, e_bs, I3, va_up_s, e_dc L3.1, e4, e_bi, e_gR L4.1, e_bs, lg_r L4 10 9, show (16 : Int32) = nI 16 from rfl, show (32 : Int32) = nI 32 from rfl, w5, e_bs, e_gR L5.1, e_bs, lg_r L5 10 9, e_dc L5.1, e6, e_bi, e_gR L6.1, e_bs, lg_r L6 10 9, show (48 : Int32) = nI 48 from rfl, w7, e_bs, e_gR L7.1, e_bs, lg_r L7 7 7, e_gI L7.1, e_bs, I7, va_up_n _ _ _ (show 8 ≠ 6 by decide), h8, e_let, e_let, e_gR kb8, e_bs, rb8, lg_r L7 10 9, show (80 : Int32) = nI 80 from rfl, e8, e_bs, e_aR (lg_k L8 7 14 40) (lg_n L8 7 14 40) hH r8.1, e_bs, e_gI (S := gsR S8 (b + 7) H (some (gZ S7))) L8.1, e_bs, sR_I, I8, va_up_n _ _ _ (show 8 ≠ 6 by decide), h8, nI_1, q8, e_bs, e_gI (S := gsI (gsR S8 (b + 7) H (some (gZ S7))) b 8 (nI (H + 1))) L8.1, e_bs, sI_s, va_up_s, nI_pred]
  · exact fr_tr (fr_mo F17 (fun _ q => q) (by simp)) (fr_tr (fr_mo f8 (by simp) (by simp)) (fr_tr (fr_r (by simp)) (fr_i (by simp))))
  · rw [sI_s, va_up_n _ _ _ (by decide), sR_I, I8, va_up_s]
  · rw [sI_s, va_up_s]
  · rw [sI_s, va_up_n _ _ _ h8', sR_I, I8, va_up_n _ _ _ h6]
  · rw [sI_R, sR_s, fr_R f8 (lg_k L7 7 14 40) (by simp), fr_R F17 (lg_k hL 7 14 40) (by simp)]
  · exact rw_c (rw_fr r8 (fr_tr (fr_r (A := [b]) (B := [b + 7]) (by simp)) (fr_i (by simp))) (fun x hx => by simp at hx; omega) (fun x hx => by simp at hx; omega)) (fun j hj => M7 j hj)
def hd_I (zz : Nat) (S : gS) (b H : Nat) (hf : Nat → Nat → Int32) : Prop := ∀ i, i < H → (∀ j, j < 80 → bt_ (hf i j)) ∧ ∃ r, gR S (b + 7) i = some r ∧ rw_at zz S r 80 (fun j => sb_ (hf i j))
theorem p_headAt_in {S : gS} {b H i : Nat} (hL : lg_L S b) (h8 : gI S b 8 = nI H) (hH : H ≤ 40) (hi : i < H) : f_X1_headAt S b (nI i) = some (gR S (b + 7) i, S) := by
  unfold f_X1_headAt
  rw [if_neg (nI_pos (by omega)), e_gI hL.1, e_bs, h8, if_neg (nI_ge (by omega) (by omega)), if_pos (show nI i < (40 : Int32) from nI_lt (b := 40) (by omega) (by decide)), e_gR hL.1, e_bs, lg_r hL 7 7, e_R (lg_k hL 7 14 40) (lg_n hL 7 14 40) (by omega), e_bs]
theorem p_headAt_out {S : gS} {b H : Nat} {v : Int32} (hL : lg_L S b) (h8 : gI S b 8 = nI H) (h : v < 0 ∨ nI H ≤ v) : f_X1_headAt S b v = some (none, S) := by
  unfold f_X1_headAt
  by_cases c : v < 0
  · rw [if_pos c]
  · rw [if_neg c, e_gI hL.1, e_bs, h8, if_pos (h.resolve_left c)]
theorem p_entryAt_in {S : gS} {b N i : Nat} (hL : lg_L S b) (h4 : gI S b 4 = nI N) (hN : N ≤ 200) (hi : i < N) : f_X1_entryAt S b (nI i) = some (gR S (b + 5) i, S) := by
  unfold f_X1_entryAt
  rw [if_neg (nI_pos (by omega)), e_gI hL.1, e_bs, h4, if_neg (nI_ge (by omega) (by omega)), if_pos (show nI i < (200 : Int32) from nI_lt (b := 200) (by omega) (by decide)), e_gR hL.1, e_bs, lg_r hL 3 5, e_R (lg_k hL 5 14 200) (lg_n hL 5 14 200) (by omega), e_bs]
theorem p_entryAt_out {S : gS} {b N : Nat} {v : Int32} (hL : lg_L S b) (h4 : gI S b 4 = nI N) (h : v < 0 ∨ nI N ≤ v) : f_X1_entryAt S b v = some (none, S) := by
  unfold f_X1_entryAt
  by_cases c : v < 0
  · rw [if_pos c]
  · rw [if_neg c, e_gI hL.1, e_bs, h4, if_pos (h.resolve_left c)]
theorem p_latest {zz : Nat} {S : gS} {b H : Nat} {hf : Nat → Nat → Int32} (hL : lg_L S b) (h8 : gI S b 8 = nI H) (hH : H ≤ 40) (h : hd_I zz S b H hf) : f_X1_latestTime S b = some (if H = 0 then 0 else s_lg (hf (H - 1)) 0, S) := by
  unfold f_X1_latestTime
  rw [e_gI hL.1, e_bs, h8, e_dc hL.1]
  by_cases c : H = 0
  · subst c
    rw [p_headAt_out hL h8 (Or.inl (by decide)), e_bi, e_nn, if_pos rfl]
  · obtain ⟨g0, r, g1, g2⟩ := h (H - 1) (by omega)
    rw [show nI H - 1 = nI (H - 1) from pk_sub (b := 1) (by omega), p_headAt_in hL h8 hH (by omega), e_bi, g1, e_nl, e_dc g2.1, show (0 : Int32) = nI 0 from rfl, p_longAt g2 (by decide) (by decide), e_bi, if_neg c]
    rw [lg_c (M' := hf (H - 1)) (p' := 0) (fun j hj => by rw [Nat.zero_add, sb_and]; exact g0 j (by omega))]
