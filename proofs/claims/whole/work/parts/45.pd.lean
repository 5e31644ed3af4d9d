/-! the reference's digest -/
def mh_ (S : gS) (m : Nat) : Prop := md_L S m ∧ wf_S S ∧ ∀ t, t < 64 → gI S (m + 17) t = g_round.getD t 0
theorem mh_fr {A B : List Nat} {S S' : gS} {m : Nat} (h : mh_ S m) (f : fr_S A B S S') (hA : m + 17 ∉ A) (hB : m ∉ B) : mh_ S' m := ⟨md_fr h.1 f hB, f.1 h.2.1, fun t ht => by rw [fr_I f (md_k h.1 17 10 64) hA]; exact h.2.2 t ht⟩
def sl_ (g : Nat → Int32) (s : Nat) (W : Nat → Int32) (j : Nat) : Int32 := if 8 * s ≤ j ∧ j < 8 * s + 8 then W (j - 8 * s) else g j
def sl_at (S : gS) (m s : Nat) (W : Nat → Int32) : Prop := ∀ q, q < 8 → gI S (m + 18) (8 * s + q) = W q
theorem sl_in {g W : Nat → Int32} {s q : Nat} (h : q < 8) : sl_ g s W (8 * s + q) = W q := by
  unfold sl_
  rw [if_pos (by omega), show 8 * s + q - 8 * s = q by omega]
theorem sl_out {g W : Nat → Int32} {s t q : Nat} (h : q < 8) (ht : t ≠ s) : sl_ g s W (8 * t + q) = g (8 * t + q) := by
  unfold sl_
  rw [if_neg (by omega)]
def mg_S (m : Nat) (S S' : gS) : Prop := fr_S [m, m + 14, m + 15, m + 16, m + 18] [] S S' ∧ (∀ k, k ≠ 17 → gI S' m k = gI S m k) ∧ gI S' m 17 = nI 0
theorem mg_tr {m : Nat} {S S' S'' : gS} (h : mg_S m S S') (g : mg_S m S' S'') : mg_S m S S'' := ⟨fr_tr h.1 g.1, fun k hk => (g.2.1 k hk).trans (h.2.1 k hk), g.2.2⟩
theorem mg_h {m : Nat} {S S' : gS} (h : mg_S m S S') (hL : mh_ S m) : mh_ S' m := mh_fr hL h.1 (by simp only [List.mem_cons, List.not_mem_nil, or_false]; omega) (by simp)
theorem mg_o {m : Nat} {S S' : gS} (h : mg_S m S S') (hL : mh_ S m) (o k n : Nat) (ho : o ≠ 14 ∧ o ≠ 15 ∧ o ≠ 16 ∧ o ≠ 18 := by decide) (hq : (o, k, n) ∈ md_A := by decide) : gI S' (m + o) = gI S (m + o) := by
  have hk : k < 16 ∧ o ≠ 0 := by
    have : ∀ q ∈ md_A, q.2.1 < 16 ∧ q.1 ≠ 0 := by decide
    exact this (o, k, n) hq
  refine fr_I h.1 (md_k hL.1 o k n hq) ?_ hk.1
  simp only [List.mem_cons, List.not_mem_nil, or_false]
  omega
theorem ms_h {m : Nat} {S S' : gS} (h : ms_S m S S') (hL : mh_ S m) : mh_ S' m := mh_fr hL h.1 (by simp only [List.mem_cons, List.not_mem_nil, or_false]; omega) (by simp)
theorem ms_c {S : gS} {m n : Nat} {M M' : Nat → Int32} (h : ms_I S m M n) (hM : ∀ j, j < n → M j = M' j) : ms_I S m M' n := ⟨h.1, fun j hj => by rw [h.2 j hj]; exact hM j hj⟩
theorem ms_mg {m : Nat} {S S' S'' : gS} (h : ms_S m S S') (g : mg_S m S' S'') : mg_S m S S'' := ⟨fr_tr (fr_mo h.1 (fun x hx => by simp only [List.mem_cons, List.not_mem_nil, or_false] at hx ⊢; omega) (by simp)) g.1, fun k hk => (g.2.1 k hk).trans (h.2 k hk), g.2.2⟩
theorem fr_nA {S : gS} {kd n : Nat} {f : Nat → Int32} {A B : List Nat} (w : wf_S S) : fr_S A B S (gsA (gnw S kd n) (gZ S) f) := by
  have h := fr_n (S := S) (kd := kd) (n := n) (A := A) (B := B) w
  refine ⟨h.1, fun b hb => ?_⟩
  have hl := w b hb
  obtain ⟨h1, h2, h3, h4⟩ := h.2 b hb
  exact ⟨h1, h2, fun q => ⟨by rw [sA_n (show b ≠ gZ S by omega)]; exact (h3 q).1, (h3 q).2⟩, h4⟩
theorem lng_by {a k : Nat} (ha : a < 2 ^ 31) (hk : k < 8) : ((lN a >>> ((nI (8 * k)).toInt64 &&& 63)).toInt32) &&& 255 = nI (a / 2 ^ (8 * k) % 256) := by
  have key : ∀ c : Nat, ((BitVec.ofNat 64 a).sshiftRight c).setWidth 32 &&& 255#32 = BitVec.ofNat 32 (a / 2 ^ c % 256) := by
    intro c
    rw [BitVec.sshiftRight_eq_of_msb_false (by rw [BitVec.msb_eq_false_iff_two_mul_lt, BitVec.toNat_ofNat]; omega)]
    apply BitVec.eq_of_toNat_eq
    rw [BitVec.toNat_and, BitVec.toNat_setWidth, BitVec.toNat_ushiftRight, BitVec.toNat_ofNat, BitVec.toNat_ofNat, BitVec.toNat_ofNat, Nat.shiftRight_eq_div_pow, Nat.mod_eq_of_lt (show a < 2 ^ 64 by omega), show 255 % 2 ^ 32 = 2 ^ 8 - 1 by decide, Nat.and_two_pow_sub_one_eq_mod]
    omega
  apply i32_bv
  have k2 : ∀ c : Nat, ((BitVec.ofNat 64 a).sshiftRight c).signExtend 32 &&& 255#32 = BitVec.ofNat 32 (a / 2 ^ c % 256) := by
    intro c
    rw [← key c]
    congr 1
    apply BitVec.eq_of_getLsbD_eq
    intro i hi
    simp only [BitVec.getLsbD_signExtend, BitVec.getLsbD_setWidth, hi, decide_true, Bool.true_and, show i < 64 by omega, if_true]
  obtain rfl | rfl | rfl | rfl | rfl | rfl | rfl | rfl : k = 0 ∨ k = 1 ∨ k = 2 ∨ k = 3 ∨ k = 4 ∨ k = 5 ∨ k = 6 ∨ k = 7 := by omega
  · exact k2 0
  · exact k2 8
  · exact k2 16
  · exact k2 24
  · exact k2 32
  · exact k2 40
  · exact k2 48
  · exact k2 56
theorem dg_fill {m n : Nat} {M : Nat → Int32} {s bits : Int32} (hn : n ≤ 247) (fu : Nat) : ∀ d c, c + d = 64 * s_nb n - 8 → n < c → ∀ S, mh_ S m → ms_I S m (s_pad M n) c → ∃ S', f_X8_digest_L15 (fu + d + 1) S m s bits = f_X8_digest_L15 (fu + 1) S' m s bits ∧ ms_S m S S' ∧ ms_I S' m (s_pad M n) (64 * s_nb n - 8)
  | 0, c, hc, hnc, S, hL, h => by
    have : c = 64 * s_nb n - 8 := by omega
    subst this
    exact ⟨S, rfl, ⟨fr_refl _ _ _, fun _ _ => rfl⟩, h⟩
  | d + 1, c, hc, hnc, S, hL, h => by
    have hnb := s_nb_n n
    obtain ⟨S1, e1, s1, i1⟩ := p8_say (b := 0) hL.1 h (by omega) (by rw [pad_0 (by omega) hnc (by omega)]; rfl)
    obtain ⟨S2, e2, s2, i2⟩ := dg_fill (M := M) (s := s) (bits := bits) hn fu d (c + 1) (by omega) (by omega) S1 (ms_h s1 hL) i1
    refine ⟨S2, ?_, ms_tr s1 s2, i2⟩
    rw [show fu + (d + 1) + 1 = (fu + d + 1) + 1 by omega, f_X8_digest_L15, e_gI hL.1.1, e_bs, h.1, show (64 : Int32) = nI 64 from rfl, pk_rem (by omega) (by decide) (by decide), if_neg (by rw [show (56 : Int32) = nI 56 from rfl, nI_eq (by omega) (by decide)]; omega), e_dc hL.1.1, e1, e_bs]
    exact e2
theorem dg_first {m z : Nat} {s : Int32} (fu : Nat) : ∀ d i, i + d = 8 → ∀ S, md_L S m → gK S z = 10 → gN S z = 8 → z ≠ m + 15 → (∀ j, j < 8 → gI S z j = g_start.getD j 0) → (∀ j, j < i → gI S (m + 15) j = g_start.getD j 0) → ∃ S', f_X8_digest_L91 (fu + d + 1) S m s (some z) (nI i) = f_X8_digest_L118 gFuel S' m s 0 ∧ fr_S [m + 15] [] S S' ∧ ∀ j, j < 8 → gI S' (m + 15) j = g_start.getD j 0
  | 0, i, hi, S, hL, hz, hz2, hz3, h1, h2 => by
    have : i = 8 := by omega
    subst this
    exact ⟨S, by rw [f_X8_digest_L91, if_pos (show (8 : Int32) ≤ nI 8 from by decide)], fr_refl _ _ _, h2⟩
  | d + 1, i, hi, S, hL, hz, hz2, hz3, h1, h2 => by
    rw [show fu + (d + 1) + 1 = (fu + d + 1) + 1 by omega, f_X8_digest_L91, if_neg (show ¬ (8 : Int32) ≤ nI i from nI_ge (b := 8) (by omega) (by decide)), e_gR hL.1, e_bs, md_r hL 18 15, e_I hz hz2 (by omega), e_bs, e_aI (md_k hL 15 10 8) (md_n hL 15 10 8) (by omega), e_bs, e_let, nI_1]
    obtain ⟨S', r1, r2, r3⟩ := dg_first (m := m) (z := z) (s := s) fu d (i + 1) (by omega) (gsI S (m + 15) i (gI S z i)) hL hz hz2 hz3 (fun j hj => by rw [sI_n hz3]; exact h1 j hj) (fun j hj => by
      rw [sI_s, va_up_e]
      by_cases e : j = i
      · rw [if_pos e, e]; exact h1 i (by omega)
      · rw [if_neg e]; exact h2 j (by omega))
    exact ⟨S', r1, fr_tr (fr_i (by simp)) r2, r3⟩
theorem dg_blk {m nb : Nat} {P : Nat → Int32} {s : Int32} (hnb : 64 * nb ≤ 320) (fu : Nat) : ∀ d b, b + d = nb → ∀ S, mh_ S m → gI S m 17 = nI (64 * nb) → (∀ j, j < 64 * nb → gI S (m + 14) j = P j) → (∀ i, i < 8 → gI S (m + 15) i = s_bst P b i) → ∃ S', f_X8_digest_L118 (fu + d + 1) S m s (nI (64 * b)) = f_X8_digest_L142 gFuel S' m s 0 ∧ fr_S [m + 15, m + 16] [] S S' ∧ ∀ i, i < 8 → gI S' (m + 15) i = s_bst P nb i
  | 0, b, hb, S, hL, h1, h2, h3 => by
    have : b = nb := by omega
    subst this
    exact ⟨S, by rw [f_X8_digest_L118, e_gI hL.1.1, e_bs, h1, if_pos (nI_le (Nat.le_refl _) (by omega))], fr_refl _ _ _, h3⟩
  | d + 1, b, hb, S, hL, h1, h2, h3 => by
    obtain ⟨S1, e1, f1, i1⟩ := p8_block (p := 64 * b) hL.1 (by omega) hL.2.2
    have hm : m ∉ [m + 15, m + 16] := by simp only [List.mem_cons, List.not_mem_nil, or_false]; omega
    obtain ⟨S2, e2, f2, i2⟩ := dg_blk (P := P) (s := s) hnb fu d (b + 1) (by omega) S1 (mh_fr hL f1 (by simp only [List.mem_cons, List.not_mem_nil, or_false]; omega) (by simp)) (by rw [fr_I f1 hL.1.1 hm]; exact h1) (fun j hj => by rw [fr_I f1 (md_k hL.1 14 10 320) (by simp only [List.mem_cons, List.not_mem_nil, or_false]; omega)]; exact h2 j hj) (fun i hi => by
      rw [i1 i hi]
      exact s_blk_c h3 (fun t ht => s_w4_c fun j g1 g2 => h2 j (by omega)) hi)
    refine ⟨S2, ?_, fr_tr f1 f2, i2⟩
    rw [show fu + (d + 1) + 1 = (fu + d + 1) + 1 by omega, f_X8_digest_L118, e_gI hL.1.1, e_bs, h1, if_neg (nI_ge (by omega) (by omega)), e_dc hL.1.1, e1, e_bs, e_let, show nI (64 * b) + 64 = nI (64 * (b + 1)) from nI_add _ 64]
    exact e2
theorem dg_slot {m s : Nat} {W g : Nat → Int32} (hs : s < 100) (fu : Nat) : ∀ d i, i + d = 8 → ∀ S, md_L S m → (∀ q, q < 8 → gI S (m + 15) q = W q) → (∀ j, gI S (m + 18) j = if 8 * s ≤ j ∧ j < 8 * s + i then W (j - 8 * s) else g j) → ∃ S', f_X8_digest_L142 (fu + d + 1) S m (nI s) (nI i) = some S' ∧ fr_S [m, m + 18] [] S S' ∧ (∀ k, k ≠ 17 → gI S' m k = gI S m k) ∧ gI S' m 17 = nI 0 ∧ ∀ j, gI S' (m + 18) j = sl_ g s W j
  | 0, i, hi, S, hL, hW, h => by
    have : i = 8 := by omega
    subst this
    refine ⟨gsI S m 17 (nI 0), by rw [f_X8_digest_L142, if_pos (show (8 : Int32) ≤ nI 8 from by decide), e_pI hL.1, e_bs]; rfl, fr_i (by simp), fun k hk => by rw [sI_s, va_up_n _ _ _ hk], by rw [sI_s, va_up_s], fun j => by rw [sI_n (by omega)]; exact h j⟩
  | d + 1, i, hi, S, hL, hW, h => by
    have e0 : (8 : Int32) * nI s + nI i = nI (8 * s + i) := by rw [show (8 : Int32) = nI 8 from rfl, pk_mul, nI_add]
    rw [show fu + (d + 1) + 1 = (fu + d + 1) + 1 by omega, f_X8_digest_L142, if_neg (show ¬ (8 : Int32) ≤ nI i from nI_ge (b := 8) (by omega) (by decide)), e_gR hL.1, e_bs, md_r hL 21 18, e_gR hL.1, e_bs, md_r hL 18 15, e_I (md_k hL 15 10 8) (md_n hL 15 10 8) (by omega), e_bs, e0, e_aI (md_k hL 18 10 800) (md_n hL 18 10 800) (by omega), e_bs, e_let, nI_1]
    obtain ⟨S', r1, r2, r3, r4, r5⟩ := dg_slot (W := W) (g := g) hs fu d (i + 1) (by omega) (gsI S (m + 18) (8 * s + i) (gI S (m + 15) i)) hL (fun q hq => by rw [sI_n (by omega)]; exact hW q hq) (fun j => by
      rw [sI_s, va_up_e, h j, hW i (by omega)]
      by_cases e : j = 8 * s + i
      · subst e; rw [if_pos rfl, if_pos (by omega), show 8 * s + i - 8 * s = i by omega]
      · rw [if_neg e]
        by_cases e2 : 8 * s ≤ j ∧ j < 8 * s + i
        · rw [if_pos e2, if_pos (by omega)]
        · rw [if_neg e2, if_neg (by omega)])
    exact ⟨S', r1, fr_tr (fr_i (by simp)) r2, fun k hk => by rw [r3 k hk, sI_n (by omega)], r4, r5⟩
theorem p8_digest {S : gS} {m n s : Nat} {M : Nat → Int32} (hL : mh_ S m) (h : ms_I S m M n) (hn : n ≤ 247) (hs : s < 100) : ∃ S', f_X8_digest S m (nI s) = some S' ∧ mg_S m S S' ∧ ∀ j, gI S' (m + 18) j = sl_ (gI S (m + 18)) s (s_dg M n) j := by
  have hnb := s_nb_n n
  have hnb4 : s_nb n ≤ 4 := by unfold s_nb; omega
  obtain ⟨S1, e1, s1, i1⟩ := p8_say (b := 128) (M := s_pad M n) hL.1 (ms_c h (fun j hj => by unfold s_pad; rw [if_pos hj])) (by omega) (by unfold s_pad; rw [if_neg (by omega), if_pos rfl]; decide)
  obtain ⟨fu, hf⟩ := g_fu (64 * s_nb n - 8 - (n + 1))
  obtain ⟨S2, e2, s2, i2⟩ := dg_fill (M := M) (s := nI s) (bits := 8 * nI n) hn fu (64 * s_nb n - 8 - (n + 1)) (n + 1) (by omega) (by omega) S1 (ms_h s1 hL) i1
  have s12 := ms_tr s1 s2
  have L2 := ms_h s12 hL
  have hb : (8 * nI n : Int32).toInt64 = lN (8 * n) := by
    rw [show (8 : Int32) = nI 8 from rfl, pk_mul, nI_l (by omega)]
  obtain ⟨S3, e3, s3, i3⟩ := p8_sayLong (v := lN (8 * n)) (M := s_pad M n) (n := 64 * s_nb n - 8) (by omega) L2.1 (fun i hi => by
    rw [lng_by (by omega) (by omega)]
    unfold s_pad
    rw [if_neg (by omega), if_neg (by omega), if_pos (by omega)]
    congr 5
    omega) i2
  have s13 := ms_tr s12 s3
  have L3 := ms_h s13 hL
  rw [show 64 * s_nb n - 8 + 8 = 64 * s_nb n by omega] at i3
  have w3 := L3.2.1
  have hz : ∀ {a k : Nat}, gK S3 a = k → k < 16 → a ≠ gZ S3 := fun ha hk e => by have := w3 _ (by rw [ha]; exact hk); omega
  have f4 : fr_S [] [] S3 (gsA (gnw S3 10 8) (gZ S3) fun i => if i < 8 then g_start.getD i 0 else 0) := fr_nA w3
  have K4 : gK (gsA (gnw S3 10 8) (gZ S3) fun i => if i < 8 then g_start.getD i 0 else 0) (gZ S3) = 10 := nw_K (n := 8)
  have N4 : gN (gsA (gnw S3 10 8) (gZ S3) fun i => if i < 8 then g_start.getD i 0 else 0) (gZ S3) = 8 := nw_N (kd := 10)
  have I4 : gI (gsA (gnw S3 10 8) (gZ S3) fun i => if i < 8 then g_start.getD i 0 else 0) (gZ S3) = fun i => if i < 8 then g_start.getD i 0 else 0 := sA_s
  have L4 := mh_fr L3 f4 (by simp) (by simp)
  have E4 : ∀ f : gS → Option gS, ((faI (gnw S3 10 8) (some (gZ S3)) 0 1779033703).bind fun S24 => (faI S24 (some (gZ S3)) 1 (-1150833019)).bind fun S26 => (faI S26 (some (gZ S3)) 2 1013904242).bind fun S28 => (faI S28 (some (gZ S3)) 3 (-1521486534)).bind fun S30 => (faI S30 (some (gZ S3)) 4 1359893119).bind fun S32 => (faI S32 (some (gZ S3)) 5 (-1694144372)).bind fun S34 => (faI S34 (some (gZ S3)) 6 528734635).bind fun S36 => (faI S36 (some (gZ S3)) 7 1541459225).bind fun S38 => f S38) = f (gsA (gnw S3 10 8) (gZ S3) fun i => if i < 8 then g_start.getD i 0 else 0) := by
    intro f
    have q : ∀ (T : gS) (i : Nat) (x : Int32) (f : gS → Option gS), i < 8 → gK T (gZ S3) = 10 → gN T (gZ S3) = 8 → ((faI T (some (gZ S3)) (nI i) x).bind f) = f (gsI T (gZ S3) i x) := by
      intro T i x f hi h3 h4
      rw [e_aI h3 h4 hi, e_bs]
    rw [show (0 : Int32) = nI 0 from rfl, show (1 : Int32) = nI 1 from rfl, show (2 : Int32) = nI 2 from rfl, show (3 : Int32) = nI 3 from rfl, show (4 : Int32) = nI 4 from rfl, show (5 : Int32) = nI 5 from rfl, show (6 : Int32) = nI 6 from rfl, show (7 : Int32) = nI 7 from rfl]
    rw [q _ 0, q _ 1, q _ 2, q _ 3, q _ 4, q _ 5, q _ 6, q _ 7]
    any_goals first | exact (nw_K (S := S3) (kd := 10) (n := 8)) | exact (nw_N (S := S3) (kd := 10) (n := 8)) | decide
    simp only [sI_A, sA_A, sA_s, nw_I]
    congr 2
    funext i
    match i with
    | 0 => rfl
    | 1 => rfl
    | 2 => rfl
    | 3 => rfl
    | 4 => rfl
    | 5 => rfl
    | 6 => rfl
    | 7 => rfl
    | i + 8 => rfl
  generalize hT : (gsA (gnw S3 10 8) (gZ S3) fun i => if i < 8 then g_start.getD i 0 else 0) = S4 at f4 K4 N4 I4 L4 E4
  obtain ⟨fv, hf2⟩ := g_fu 8
  obtain ⟨S5, e5, f5, i5⟩ := dg_first (m := m) (z := gZ S3) (s := nI s) fv 8 0 (by omega) S4 L4.1 K4 N4 (fun e => hz (md_k L3.1 15 10 8) (by decide) e.symm) (fun j hj => by rw [I4]; exact if_pos hj) (fun j hj => by omega)
  have f45 : fr_S [m + 15, m + 16] [] S3 S5 := fr_tr (fr_mo f4 (by simp) (by simp)) (fr_mo f5 (by simp) (by simp))
  have nm : ∀ o, o ≠ 15 → o ≠ 16 → m + o ∉ [m + 15, m + 16] := fun o h1 h2 => by simp only [List.mem_cons, List.not_mem_nil, or_false]; omega
  have L5 := mh_fr L3 f45 (nm 17 (by decide) (by decide)) (by simp)
  obtain ⟨fw, hf3⟩ := g_fu (s_nb n)
  obtain ⟨S6, e6, f6, i6⟩ := dg_blk (P := s_pad M n) (s := nI s) (nb := s_nb n) (by omega) fw (s_nb n) 0 (by omega) S5 L5 (by rw [fr_I f45 L3.1.1 (nm 0 (by decide) (by decide))]; exact i3.1) (fun j hj => by rw [fr_I f45 (md_k L3.1 14 10 320) (nm 14 (by decide) (by decide))]; exact i3.2 j hj) (fun i hi => i5 i hi)
  have f36 := fr_tr f45 f6
  have L6 := mh_fr L3 f36 (nm 17 (by decide) (by decide)) (by simp)
  obtain ⟨fx, hf4⟩ := g_fu 8
  obtain ⟨S7, e7, f7, g7, h7, i7⟩ := dg_slot (s := s) (W := s_dg M n) (g := gI S (m + 18)) hs fx 8 0 (by omega) S6 L6.1 (fun q hq => i6 q hq) (fun j => by rw [if_neg (by omega), fr_I f36 (md_k L3.1 18 10 800) (nm 18 (by decide) (by decide)), ms_o s13 hL.1 18 10 800 (by decide)])
  refine ⟨S7, ?_, ⟨?_, fun k hk => ?_, h7⟩, i7⟩
  · unfold f_X8_digest
    rw [e_gI hL.1.1, e_bs, h.1, e_let, e_dc hL.1.1, e1, e_bs, hf, show 64 * s_nb n - 8 - (n + 1) + fu + 1 = fu + (64 * s_nb n - 8 - (n + 1)) + 1 by omega, e2, f_X8_digest_L15, e_gI L2.1.1, e_bs, i2.1, show (64 : Int32) = nI 64 from rfl, pk_rem (by omega) (by decide) (by decide), if_pos (by rw [show (64 * s_nb n - 8) % 64 = 56 by omega]; rfl), e_dc L2.1.1, hb, e3, e_bs, show (8 : Int32) = nI 8 from rfl, e_nA (by decide), e_bs, e_let, e_let, E4, hf2, show 8 + fv + 1 = fv + 8 + 1 by omega, show (0 : Int32) = nI 0 from rfl, e5, hf3, show s_nb n + fw + 1 = fw + s_nb n + 1 by omega, show (0 : Int32) = nI (64 * 0) from rfl, e6, hf4, show 8 + fx + 1 = fx + 8 + 1 by omega]
    exact e7
  · refine fr_tr (fr_mo s13.1 (by simp) (by simp)) (fr_tr (fr_mo f36 (by simp) (by simp)) (fr_mo f7 (by simp) (by simp)))
  · rw [g7 k hk, fr_I f36 L3.1.1 (nm 0 (by decide) (by decide)), s13.2 k hk]
