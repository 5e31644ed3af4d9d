/-! the class's roots, seals and keys -/
def al_ (a n : Nat) : Prop := ∃ j, n ≤ 2 ^ j ∧ 2 ^ j ∣ a
theorem al_0 (n : Nat) : al_ 0 n := ⟨n, Nat.le_of_lt Nat.lt_two_pow_self, Nat.dvd_zero _⟩
theorem al_l {a n : Nat} (h : al_ a n) (hn : 2 ≤ n) : al_ a (s_fr n) := by
  obtain ⟨j, h1, h2⟩ := h
  obtain ⟨b1, b2, b3⟩ := s_fr_b hn
  exact ⟨j, by omega, h2⟩
theorem fr_dvd {a n : Nat} (h : al_ a n) (hn : 2 ≤ n) : s_fr n ∣ a := by
  obtain ⟨j, h1, h2⟩ := h
  obtain ⟨b1, b2, b3⟩ := s_fr_b hn
  unfold s_fr at b2 ⊢
  refine Nat.dvd_trans (Nat.pow_dvd_pow 2 ?_) h2
  exact Nat.le_of_lt ((Nat.pow_lt_pow_iff_right (by decide)).mp (show 2 ^ (n - 1).log2 < 2 ^ j by omega))
theorem al_r {a n : Nat} (h : al_ a n) (hn : 2 ≤ n) : al_ (a + s_fr n) (n - s_fr n) := by
  obtain ⟨b1, b2, b3⟩ := s_fr_b hn
  have hd := fr_dvd h hn
  exact ⟨(n - 1).log2, by unfold s_fr at b3 ⊢; omega, by have : 2 ^ (n - 1).log2 ∣ s_fr n := Nat.dvd_refl _; exact Nat.dvd_add hd this⟩
theorem p_rootL {zz : Nat} {b a n N : Nat} {lf : Nat → Nat → Int32} (hb : b + 9 < zz) (hn0 : 0 < n) (hN : a + n ≤ N) (hN2 : N ≤ 200) (hal : al_ a n) (fu : Nat) : ∀ d i, i + d = 8 → ∀ S, lg_L S b → fu_I zz S b lf N → (0 < n % 2 ^ i → dg_at S (b + 8) 0 (s_rt lf (a + n - n % 2 ^ i) (n % 2 ^ i))) → ∃ S', f_X1_rootOf_L33 (fu + d + 1) S b (nI a) (nI (a + n)) (nI (a + n - n % 2 ^ i)) (nI (2 ^ i)) = some (some (b + 8), S') ∧ fr_S (lq_ b) [] S S' ∧ dg_at S' (b + 8) 0 (s_rt lf a n) := by
  intro d
  induction d with
  | zero =>
    intro i hi S hL h hd
    have : i = 8 := by omega
    subst this
    have hm : n % 2 ^ 8 = n := Nat.mod_eq_of_lt (by omega)
    refine ⟨S, ?_, fr_refl _ _ _, ?_⟩
    · rw [f_X1_rootOf_L33, if_pos (by decide), e_gR hL.1, e_bs, lg_r hL 9 8]
    · have := hd (by omega)
      rw [hm, show a + n - n = a by omega] at this
      exact this
  | succ d ih =>
    intro i hi S hL h hd
    have hp := Nat.two_pow_pos i
    have hpi : 2 ^ i ≤ 2 ^ 7 := Nat.pow_le_pow_right (by decide) (by omega)
    have hml := Nat.mod_lt n hp
    have hmn := Nat.mod_le n (2 ^ i)
    have hps : 2 ^ (i + 1) = 2 * 2 ^ i := by rw [Nat.pow_succ, Nat.mul_comm]
    rw [show fu + (d + 1) + 1 = (fu + d + 1) + 1 by omega, f_X1_rootOf_L33, if_neg (show ¬ (200 : Int32) < nI (2 ^ i) from nI_nlt (a := 200) (by omega) (by decide))]
    by_cases c0 : n % 2 ^ i = n
    · refine ⟨S, ?_, fr_refl _ _ _, ?_⟩
      · rw [c0, if_pos (nI_le (by omega) (by omega)), e_gR hL.1, e_bs, lg_r hL 9 8]
      · have := hd (by omega)
        rw [c0, show a + n - n = a by omega] at this
        exact this
    · rw [if_neg (nI_ge (by omega) (by omega))]
      have hin : 2 ^ i ≤ n := by
        by_cases q : 2 ^ i ≤ n
        · exact q
        · exact (c0 (Nat.mod_eq_of_lt (by omega))).elim
      have e1 : nI (a + n) - nI a = nI n := by rw [pk_sub (by omega)]; congr 1; omega
      have hnd : n = 2 ^ i * (n / 2 ^ i) + n % 2 ^ i := (Nat.div_add_mod n (2 ^ i)).symm
      have hmm : n % 2 ^ (i + 1) = n % 2 ^ i + 2 ^ i * (n / 2 ^ i % 2) := by rw [Nat.pow_succ, Nat.mod_mul]
      have e2 : (nI n &&& nI (2 ^ i) = 0) ↔ n / 2 ^ i % 2 = 0 := by
        have e3 : nI n &&& nI (2 ^ i) = nI (2 ^ i * (n / 2 ^ i % 2)) := by
          apply i32_bv
          show BitVec.ofNat 32 n &&& BitVec.ofNat 32 (2 ^ i) = BitVec.ofNat 32 _
          rw [← BitVec.ofNat_and]
          congr 1
          apply Nat.eq_of_testBit_eq
          intro q
          rw [Nat.testBit_and, Nat.testBit_two_pow, Nat.testBit_two_pow_mul]
          by_cases cq : i = q
          · subst cq
            rcases Nat.mod_two_eq_zero_or_one (n / 2 ^ i) with z | z <;> simp [Nat.testBit_eq_decide_div_mod_eq, z]
          · rcases Nat.mod_two_eq_zero_or_one (n / 2 ^ i) with z | z
            · simp [cq, z]
            · rw [z]
              simp only [cq, decide_false, Bool.and_false]
              by_cases cg : i ≤ q
              · have : (1 : Nat).testBit (q - i) = false := by
                  rw [show (1 : Nat) = 2 ^ 0 from rfl, Nat.testBit_two_pow]
                  exact decide_eq_false (by omega)
                simp [this, cg]
              · simp [cg]
        rw [e3, show (0 : Int32) = nI 0 from rfl, nI_eq (by have := Nat.mod_lt (n / 2 ^ i) (show 0 < 2 by decide); have : 2 ^ i * (n / 2 ^ i % 2) ≤ 2 ^ i * 1 := Nat.mul_le_mul_left _ (by omega); omega) (by decide)]
        constructor
        · intro q
          rcases Nat.mul_eq_zero.mp q with q | q
          · omega
          · exact q
        · intro q; rw [q]; rfl
      rw [e1]
      by_cases c1 : n / 2 ^ i % 2 = 0
      · rw [if_pos (e2.mpr c1), e_let, show nI (2 ^ i) * 2 = nI (2 ^ (i + 1)) from pk_mul _ 2]
        rw [c1, Nat.mul_zero, Nat.add_zero] at hmm
        obtain ⟨S', r1, r2, r3⟩ := ih (i + 1) (by omega) S hL h (by rw [hmm]; exact hd)
        rw [hmm] at r1
        exact ⟨S', r1, r2, r3⟩
      · rw [if_neg (fun q => c1 (e2.mp q))]
        have c1' : n / 2 ^ i % 2 = 1 := by omega
        rw [c1', Nat.mul_one] at hmm
        have hge : n % 2 ^ i + 2 ^ i ≤ n := by
          rw [← hmm]; exact Nat.mod_le _ _
        -- the full part
        have hda : 2 ^ i ∣ a := by
          obtain ⟨j, j1, j2⟩ := hal
          refine Nat.dvd_trans (Nat.pow_dvd_pow 2 ?_) j2
          exact (Nat.pow_le_pow_iff_right (by decide)).mp (show 2 ^ i ≤ 2 ^ j by omega)
        have hdx : 2 ^ i ∣ a + n - n % 2 ^ i - 2 ^ i := by
          have h1 : 2 ^ i ∣ n - n % 2 ^ i := ⟨n / 2 ^ i, by omega⟩
          have h2 : 2 ^ i ∣ n - n % 2 ^ i - 2 ^ i := Nat.dvd_sub h1 (Nat.dvd_refl _)
          rw [show a + n - n % 2 ^ i - 2 ^ i = a + (n - n % 2 ^ i - 2 ^ i) by omega]
          exact Nat.dvd_add hda h2
        obtain ⟨bb, f1, k1, n1, z1, g1⟩ := p_fullOf (k := i) (a := a + n - n % 2 ^ i - 2 ^ i) (N := N) hL h hdx (by omega) (by omega) hN2
        rw [show a + n - n % 2 ^ i - 2 ^ i + 2 ^ i = a + n - n % 2 ^ i by omega] at f1
        have ex : a + n - n % 2 ^ (i + 1) = a + n - n % 2 ^ i - 2 ^ i := by omega
        have hbA : ∀ x ∈ lq_ b, x < zz := fun x hx => by unfold lq_ at hx; simp only [List.mem_cons, List.not_mem_nil, or_false] at hx; omega
        rw [e_dc hL.1, pk_sub (by omega), f1, e_bi]
        by_cases cr : n % 2 ^ i = 0
        · rw [cr, show a + n - 0 = a + n by omega, if_pos rfl, e_gR hL.1, e_bs, lg_r hL 9 8, show (0 : Int32) = nI 0 from rfl, show (32 : Int32) = nI 32 from rfl, p_copy k1 (lg_k hL 8 9 32) (by omega) (by rw [lg_n hL 8 9 32]; decide) (by omega) (by rw [lg_n hL 8 9 32]; decide), e_bs, e_let, e_let, show nI (2 ^ i) * 2 = nI (2 ^ (i + 1)) from pk_mul _ 2]
          have F1 : fr_S (lq_ b) [] S (gsA S (b + 8) (va_cpy (gI S bb) (gI S (b + 8)) 0 0 32)) := fr_A (by unfold lq_; simp)
          obtain ⟨S', r1, r2, r3⟩ := ih (i + 1) (by omega) _ (lq_L hL F1) (fu_fr h hL F1 hbA (by simp) (by simp)) (fun _ j hj => by
            have g1' := g1 j hj
            rw [Nat.zero_add] at g1'
            rw [ex, hmm, cr, Nat.zero_add, Nat.zero_add, sA_s, va_cpy_e, if_pos (by omega), Nat.zero_add, Nat.sub_zero, g1', cr])
          rw [ex, cr, show a + n - 0 - 2 ^ i = a + n - 2 ^ i by omega] at r1
          exact ⟨S', r1, fr_tr F1 r2, r3⟩
        · rw [if_neg (by rw [nI_eq (by omega) (by omega)]; omega), e_gR hL.1, e_bs, lg_r hL 0 1, e_gR hL.1, e_bs, lg_r hL 9 8, e_bs, e_dc (lg_k hL 1 4 4), show (0 : Int32) = nI 0 from rfl]
          have hdg := hd (by omega)
          obtain ⟨S1, m1, F1, i1⟩ := p_node (r3 := b + 8) (lg_sh hL) k1 (by omega) (by omega) (lg_k hL 8 9 32) (p2 := 0) (by rw [lg_n hL 8 9 32]; decide) (by rw [lg_n hL 8 9 32]; decide) (lg_k hL 8 9 32) (by rw [lg_n hL 8 9 32]; decide) (by rw [lg_n hL 8 9 32]; decide) g1 hdg
          have F1' : fr_S (lq_ b) [] S S1 := F1
          obtain ⟨S', r1, r2, r3⟩ := ih (i + 1) (by omega) S1 (lq_L hL F1) (fu_fr h hL F1' hbA (by simp) (by simp)) (fun _ j hj => by
            rw [Nat.zero_add, i1 j, if_pos hj, ex, hmm]
            have hfr : s_fr (n % 2 ^ i + 2 ^ i) = 2 ^ i := s_fr_u (by omega) (by omega)
            rw [s_rt2 lf _ (n := n % 2 ^ i + 2 ^ i) (by omega), hfr, show a + n - n % 2 ^ i - 2 ^ i + 2 ^ i = a + n - n % 2 ^ i by omega, show n % 2 ^ i + 2 ^ i - 2 ^ i = n % 2 ^ i by omega])
          rw [ex] at r1
          rw [m1, e_bs, e_let, e_let, show nI (2 ^ i) * 2 = nI (2 ^ (i + 1)) from pk_mul _ 2]
          exact ⟨S', r1, fr_tr F1' r2, r3⟩
theorem p_rootOf {zz : Nat} {S : gS} {b a n N : Nat} {lf : Nat → Nat → Int32} (hb : b + 9 < zz) (hN : a + n ≤ N) (hN2 : N ≤ 200) (hal : al_ a n) (hL : lg_L S b) (h : fu_I zz S b lf N) : ∃ S', f_X1_rootOf S b (nI a) (nI (a + n)) = some (some (b + 8), S') ∧ fr_S (lq_ b) [] S S' ∧ dg_at S' (b + 8) 0 (s_rt lf a n) := by
  unfold f_X1_rootOf
  by_cases c : 0 < n
  · rw [if_pos (nI_lt (by omega) (by omega))]
    obtain ⟨fu, hf⟩ := g_fu 8
    obtain ⟨S', r1, r2, r3⟩ := p_rootL (lf := lf) hb c hN hN2 hal fu 8 0 (by omega) S hL h (fun q => by rw [Nat.pow_zero, Nat.mod_one] at q; omega)
    refine ⟨S', ?_, r2, r3⟩
    rw [hf, show 8 + fu + 1 = fu + 8 + 1 by omega]
    rw [Nat.pow_zero, Nat.mod_one, Nat.sub_zero] at r1
    exact r1
  · have : n = 0 := by omega
    subst this
    obtain ⟨S1, e1, f1, i1⟩ := p_begin (fun _ => 0) (lg_sh hL)
    have L1 := lq_L hL f1
    obtain ⟨S2, e2, f2, i2⟩ := p_finish (r := b + 8) (lg_sh L1) (lg_k L1 8 9 32) (by rw [lg_n L1 8 9 32]; decide) (by rw [lg_n L1 8 9 32]; decide) (by decide) i1
    have L2 := lq_L L1 f2
    refine ⟨S2, ?_, fr_tr (fr_mo f1 (by unfold lq_; simp) (by simp)) f2, fun j hj => by rw [Nat.zero_add, i2 j, if_pos hj, s_rt0]⟩
    rw [if_neg (nI_nlt (by omega) (by omega)), e_gR hL.1, e_bs, lg_r hL 0 1, e_dc (lg_k hL 1 4 4), e1, e_bs, e_gR L1.1, e_bs, lg_r L1 0 1, e_gR L1.1, e_bs, lg_r L1 9 8, e_dc (lg_k L1 1 4 4), e2, e_bs, e_gR L2.1, e_bs, lg_r L2 9 8]
theorem xor_m (x w : Int32) : (x ^^^ w) &&& 255 = ((x &&& 255) ^^^ w) &&& 255 := by
  apply i32_bv
  show (x.toBitVec ^^^ w.toBitVec) &&& 255#32 = ((x.toBitVec &&& 255#32) ^^^ w.toBitVec) &&& 255#32
  apply BitVec.eq_of_getLsbD_eq
  intro i hi
  simp only [BitVec.getLsbD_and, BitVec.getLsbD_xor, b255 hi]
  by_cases c : i < 8 <;> simp [c]
theorem p_padL {b : Nat} {w : Int32} {KB M : Nat → Int32} (hM : ∀ i, i < 64 → M i = (KB i ^^^ w) &&& 255) (fu : Nat) : ∀ d i, i + d = 64 → ∀ S, lg_L S b → (∀ j, j < 64 → gI S (b + 4) j = sb_ (KB j)) → sh_I S (b + 1) (b + 2) (b + 3) M i → ∃ S', f_X1_beginPadded_L9 (fu + d + 1) S b w (nI i) = some S' ∧ fr_S [b + 1, b + 2, b + 3] [] S S' ∧ sh_I S' (b + 1) (b + 2) (b + 3) M 64
  | 0, i, hi, S, hL, hk, h => by
    have : i = 64 := by omega
    subst this
    exact ⟨S, by rw [f_X1_beginPadded_L9, if_pos (show (64 : Int32) ≤ nI 64 from by decide)], fr_refl _ _ _, h⟩
  | d + 1, i, hi, S, hL, hk, h => by
    obtain ⟨S1, e1, f1, i1⟩ := p_add (b := gI S (b + 4) i ^^^ w) (lg_sh hL) h (by rw [hk i (by omega), hM i (by omega), xor_m, sb_and, ← xor_m])
    obtain ⟨S2, e2, f2, i2⟩ := p_padL (KB := KB) hM fu d (i + 1) (by omega) S1 (lq_L hL f1) (fun j hj => by rw [fr_I f1 (lg_k hL 4 9 64) (by simp)]; exact hk j hj) i1
    refine ⟨S2, ?_, fr_tr f1 f2, i2⟩
    rw [show fu + (d + 1) + 1 = (fu + d + 1) + 1 by omega, f_X1_beginPadded_L9, if_neg (show ¬ (64 : Int32) ≤ nI i from nI_ge (b := 64) (by omega) (by decide)), e_gR hL.1, e_bs, lg_r hL 0 1, e_gR hL.1, e_bs, lg_r hL 1 4, e_I (lg_k hL 4 9 64) (lg_n hL 4 9 64) (by omega), e_bs, e_dc (lg_k hL 1 4 4), e1, e_bs, e_let, nI_1]
    exact e2
theorem p_pad {S : gS} {b : Nat} {w : Int32} {KB M : Nat → Int32} (hM : ∀ i, i < 64 → M i = (KB i ^^^ w) &&& 255) (hL : lg_L S b) (hk : ∀ j, j < 64 → gI S (b + 4) j = sb_ (KB j)) : ∃ S', f_X1_beginPadded S b w = some S' ∧ fr_S [b + 1, b + 2, b + 3] [] S S' ∧ sh_I S' (b + 1) (b + 2) (b + 3) M 64 := by
  obtain ⟨S1, e1, f1, i1⟩ := p_begin M (lg_sh hL)
  obtain ⟨fu, hf⟩ := g_fu 64
  obtain ⟨S2, e2, f2, i2⟩ := p_padL (KB := KB) hM fu 64 0 (by omega) S1 (lq_L hL f1) (fun j hj => by rw [fr_I f1 (lg_k hL 4 9 64) (by simp)]; exact hk j hj) i1
  refine ⟨S2, ?_, fr_tr f1 f2, i2⟩
  unfold f_X1_beginPadded
  rw [e_gR hL.1, e_bs, lg_r hL 0 1, e_dc (lg_k hL 1 4 4), e1, e_bs, hf, show 64 + fu + 1 = fu + 64 + 1 by omega]
  exact e2
theorem p_seal {S : gS} {b r : Nat} {KB H : Nat → Int32} (hL : lg_L S b) (hk : ∀ j, j < 64 → gI S (b + 4) j = sb_ (KB j)) (hr : gK S r = 9) (hN : 48 ≤ gN S r) (hN2 : gN S r < 2 ^ 31) (hH : ∀ j, j < 48 → gI S r j &&& 255 = H j) : ∃ S', f_X1_sealOf S b (some r) = some (some (b + 8), S') ∧ fr_S (lq_ b) [] S S' ∧ dg_at S' (b + 8) 0 (s_sl KB H) := by
  have mo : ∀ x ∈ [b + 1, b + 2, b + 3], x ∈ lq_ b := by unfold lq_; simp
  have hrA : ∀ {S : gS}, lg_L S b → gK S r = 9 → r ∉ [b + 1, b + 2, b + 3] := by
    intro S hL hr
    have h1 := k_ne hr (lg_k hL 1 4 4)
    have h2 := k_ne hr (lg_k hL 2 10 8)
    have h3 := k_ne hr (lg_k hL 3 10 64)
    simp [h1, h2, h3]
  obtain ⟨S1, e1, f1, i1⟩ := p_pad (w := 54) (KB := KB) (M := s_im KB H) (fun i hi => by unfold s_im; rw [if_pos hi]) hL hk
  have L1 := lq_L hL f1
  obtain ⟨S2, e2, f2', i2⟩ := p_add (b := 0) (lg_sh L1) i1 (by rfl)
  have f2 := fr_tr f1 f2'
  have L2 := lq_L hL f2
  obtain ⟨S3, e3, f3', i3⟩ := p_add (b := 1) (lg_sh L2) i2 (by rfl)
  have f3 := fr_tr f2 f3'
  have L3 := lq_L hL f3
  obtain ⟨S4, e4, f4', i4⟩ := p_addRow (k := 48) (p := 0) (n := 64 + 1 + 1) (lg_sh L3) (fr_K f3 hr) (by rw [fr_N f3 hr]; omega) (by rw [fr_N f3 hr]; exact hN2) (by decide) (fun j hj => by
    rw [fr_I f3 hr (hrA hL hr), Nat.zero_add, hH j hj]
    unfold s_im
    rw [if_neg (by omega), if_neg (by omega), if_neg (by omega), show 64 + 1 + 1 + j - 66 = j by omega]) i3
  have f4 := fr_tr f3 f4'
  have L4 := lq_L hL f4
  obtain ⟨S5, e5, f5', i5⟩ := p_finish (r := b + 8) (lg_sh L4) (lg_k L4 8 9 32) (by rw [lg_n L4 8 9 32]; decide) (by rw [lg_n L4 8 9 32]; decide) (by decide) i4
  have f5 : fr_S (lq_ b) [] S S5 := fr_tr (fr_mo f4 mo (by simp)) f5'
  have L5 := lq_L hL f5
  obtain ⟨S6, e6, f6', i6⟩ := p_pad (w := 92) (KB := KB) (M := s_om KB (s_dg (s_im KB H) 114)) (fun i hi => by unfold s_om; rw [if_pos hi]) L5 (fun j hj => by rw [fr_I f5 (lg_k hL 4 9 64) (lq_n (by omega))]; exact hk j hj)
  have f6 := fr_tr f5 (fr_mo f6' mo (by simp))
  have L6 := lq_L hL f6
  obtain ⟨S7, e7, f7', i7⟩ := p_addRow (k := 32) (p := 0) (n := 64) (r := b + 8) (lg_sh L6) (lg_k L6 8 9 32) (by rw [lg_n L6 8 9 32]; decide) (by rw [lg_n L6 8 9 32]; decide) (by decide) (fun j hj => by
    rw [fr_I f6' (lg_k L5 8 9 32) (by simp), i5, if_pos (by omega), Nat.zero_add, sb_dby]
    unfold s_om
    rw [if_neg (by omega), show 64 + j - 64 = j by omega]) i6
  have f7 := fr_tr f6 (fr_mo f7' mo (by simp))
  have L7 := lq_L hL f7
  obtain ⟨S8, e8, f8', i8⟩ := p_finish (r := b + 8) (lg_sh L7) (lg_k L7 8 9 32) (by rw [lg_n L7 8 9 32]; decide) (by rw [lg_n L7 8 9 32]; decide) (by decide) i7
  have f8 : fr_S (lq_ b) [] S S8 := fr_tr f7 f8'
  have L8 := lq_L hL f8
  refine ⟨S8, ?_, f8, fun j hj => by rw [Nat.zero_add, i8, if_pos hj]; rfl⟩
  unfold f_X1_sealOf
  rw [e_dc hL.1, e1, e_bs, e_gR L1.1, e_bs, lg_r L1 0 1, e_dc (lg_k L1 1 4 4), e2, e_bs, e_gR L2.1, e_bs, lg_r L2 0 1, e_dc (lg_k L2 1 4 4), e3, e_bs, e_gR L3.1, e_bs, lg_r L3 0 1, e_dc (lg_k L3 1 4 4), show (0 : Int32) = nI 0 from rfl, show (48 : Int32) = nI 48 from rfl, e4, e_bs, e_gR L4.1, e_bs, lg_r L4 0 1, e_gR L4.1, e_bs, lg_r L4 9 8, e_dc (lg_k L4 1 4 4), e5, e_bs, e_dc L5.1, e6, e_bs, e_gR L6.1, e_bs, lg_r L6 0 1, e_gR L6.1, e_bs, lg_r L6 9 8, e_dc (lg_k L6 1 4 4), show (32 : Int32) = nI 32 from rfl, e7, e_bs, e_gR L7.1, e_bs, lg_r L7 0 1, e_gR L7.1, e_bs, lg_r L7 9 8, e_dc (lg_k L7 1 4 4), e8, e_bs, e_gR L8.1, e_bs, lg_r L8 9 8]
theorem p_hasSealed {S : gS} {b r : Nat} {KB H W : Nat → Int32} (hL : lg_L S b) (hk : ∀ j, j < 64 → gI S (b + 4) j = sb_ (KB j)) (hr : gK S r = 9) (hN : 80 ≤ gN S r) (hN2 : gN S r < 2 ^ 31) (hr8 : r ≠ b + 8) (hH : ∀ j, j < 48 → gI S r j &&& 255 = H j) (hW : dg_at S r 48 W) : ∃ x S', f_X1_hasSealed S b (some r) = some (x, S') ∧ fr_S (lq_ b) [] S S' ∧ ((x = 1 ∧ ∀ i, i < 8 → s_sl KB H i = W i) ∨ (x = 0 ∧ ¬ ∀ i, i < 8 → s_sl KB H i = W i)) := by
  obtain ⟨S1, e1, f1, i1⟩ := p_seal hL hk hr (by omega) hN2 hH
  have L1 := lq_L hL f1
  have hrq : r ∉ lq_ b := lq_n ⟨k_ne hr (lg_k hL 1 4 4), k_ne hr (lg_k hL 2 10 8), k_ne hr (lg_k hL 3 10 64), hr8⟩
  obtain ⟨x, e2, hx⟩ := p_same (S := S1) (r1 := b + 8) (r2 := r) (p1 := 0) (p2 := 48) (n := 32) (lg_k L1 8 9 32) (fr_K f1 hr) (by rw [lg_n L1 8 9 32]; decide) (by rw [fr_N f1 hr]; exact hN) (by rw [lg_n L1 8 9 32]; decide) (by rw [fr_N f1 hr]; exact hN2) (by decide)
  rw [same_dg i1 (dg_fr hW f1 hr hrq)] at hx
  refine ⟨x, S1, ?_, f1, hx⟩
  unfold f_X1_hasSealed
  rw [e_dc hL.1, e1, e_bi, show (0 : Int32) = nI 0 from rfl, show (48 : Int32) = nI 48 from rfl, show (32 : Int32) = nI 32 from rfl, e2, e_bi, if_pos]
  rcases hx with ⟨rfl, -⟩ | ⟨rfl, -⟩
  · exact Or.inr rfl
  · exact Or.inl rfl
