/-! head, entry, leaf, root -/
theorem fr_ap {A B A' B' : List Nat} {S S' S'' : gS} (h : fr_S A B S S') (g : fr_S A' B' S' S'') : fr_S (A ++ A') (B ++ B') S S'' := fr_tr (fr_mo h (fun _ q => List.mem_append_left _ q) (fun _ q => List.mem_append_left _ q)) (fr_mo g (fun _ q => List.mem_append_right _ q) (fun _ q => List.mem_append_right _ q))
def o1A (z x : Nat) : Prop := (scA z x ∧ x ≠ z + 45) ∨ x = z + 1 ∨ x = z + 3 ∨ x = z + 4
def o2A (z x : Nat) : Prop := scA z x ∨ x = z + 47
theorem o12 {z x : Nat} {A1 A2 : List Nat} (h1 : ∀ x ∈ A1, o1A z x) (h2 : ∀ x ∈ A2, o2A z x) (hx : x ∈ A1 ++ A2) : otA z x := by
  rcases List.mem_append.mp hx with q | q
  · have := h1 x q; unfold o1A scA at this; unfold otA scA; omega
  · have := h2 x q; unfold o2A scA at this; unfold otA scA; omega
theorem in_out {z n : Nat} {A1 A2 : List Nat} {V : Nat → Int32} {S S1 S2 : gS} (h : in_ z S) (hn : n ≤ 288) (F1 : fr_S A1 [] S S1) (hA1 : ∀ x ∈ A1, o1A z x) (c1 : gI S1 (z + 3) 1 = nI n) (b1 : ∀ j, gI S1 (z + 4) j = if j < n then sb_ (V j) else gI S (z + 4) j) (F2 : fr_S A2 [] S1 S2) (hA2 : ∀ x ∈ A2, o2A z x) (c2 : gI S2 (z + 45) 4 = nI n) (b2 : ∀ j, gI S2 (z + 47) j = if j < n then V j else gI S1 (z + 47) j) (hV : ∀ j, j < n → bt_ (V j)) (tp : tp_ z S2) (h17 : gI S2 (z + 45) 17 = nI 0) : in_ z S2 := by
  have y := h.1
  have y1 := ly_fr y F1 (by simp)
  have F : fr_S (A1 ++ A2) [] S S2 := fr_ap F1 F2
  obtain ⟨o, o1, o2, o3, o4⟩ := h.2.2.1
  have n3 : z + 3 ∉ A2 := fun q => by have := hA2 _ q; unfold o2A scA at this; omega
  have n4 : z + 4 ∉ A2 := fun q => by have := hA2 _ q; unfold o2A scA at this; omega
  have n47 : z + 47 ∉ A1 := fun q => by have := hA1 _ q; unfold o1A scA at this; omega
  refine in_mk h F (fun x hx => o12 hA1 hA2 hx) tp ⟨n, hn, ?_, c2, fun j hj => ?_⟩ h17
  · rw [fr_I F2 y1.2.2.1.1 n3]; exact c1
  · rw [fr_I F2 y1.2.2.1.2.2.1 n4, b1 j, b2 j, show gI S1 (z + 47) = gI S (z + 47) from fr_I F1 (ly_mk y 2 10 2400) n47]
    by_cases q : j < n
    · rw [if_pos q, if_pos q]; exact ⟨rfl, hV j q⟩
    · rw [if_neg q, if_neg q]; exact o4 j hj
theorem tp_12 {z : Nat} {A1 A2 : List Nat} {S S1 S2 : gS} (h : in_ z S) (F1 : fr_S A1 [] S S1) (hA1 : ∀ x ∈ A1, o1A z x) (hz1 : z + 1 ∉ A1) (F2 : fr_S A2 [] S1 S2) (hA2 : ∀ x ∈ A2, o2A z x) (h2 : gI S2 (z + 45) 2 = gI S1 (z + 45) 2) : tp_ z S2 := by
  have F : fr_S (A1 ++ A2) [] S S2 := fr_ap F1 F2
  refine tp_fr h.2.1 h.1 F (fun x hx => ?_) ?_
  · rcases List.mem_append.mp hx with q | q
    · have := hA1 x q; unfold o1A scA at this
      have : x ≠ z + 1 := fun e => hz1 (e ▸ q)
      unfold tpA; omega
    · have := hA2 x q; unfold o2A scA at this; unfold tpA; omega
  · rw [h2, fr_I F1 (ly_md h.1).1 (fun q => by have := hA1 _ q; unfold o1A scA at this; omega)]
def nf_ (M : Nat → Int32) (p : Nat) : Nat → Int32
  | 0 => 0
  | k + 1 => 256 * nf_ M p k + M (p + k)
theorem nf_s (x : Int64) {b : Int32} (hb : bt_ b) : ((x <<< ((8 : Int32).toInt64 &&& 63)) ||| b.toInt64).toInt32 = 256 * x.toInt32 + b := by
  have h1 : ((x <<< ((8 : Int32).toInt64 &&& 63)) ||| b.toInt64).toInt32 = (x.toInt32 <<< (8 &&& 31)) ||| b := by
    apply i32_bv
    show ((x.toBitVec <<< 8) ||| b.toBitVec.signExtend 64).signExtend 32 = (x.toBitVec.signExtend 32 <<< 8) ||| b.toBitVec
    apply BitVec.eq_of_getLsbD_eq
    intro i hi
    rw [BitVec.getLsbD_signExtend, BitVec.getLsbD_or, BitVec.getLsbD_or, BitVec.getLsbD_shiftLeft, BitVec.getLsbD_shiftLeft, BitVec.getLsbD_signExtend, BitVec.getLsbD_signExtend]
    simp [hi, show i < 64 by omega, show i - 8 < 32 by omega, show i - 8 < 64 by omega]
  rw [h1]
  generalize x.toInt32 = y
  apply i32_bv
  show (y.toBitVec <<< 8) ||| b.toBitVec = 256#32 * y.toBitVec + b.toBitVec
  have hb' : b.toBitVec.toNat < 256 := by
    have e : b.toBitVec &&& 255#32 = b.toBitVec := congrArg Int32.toBitVec hb
    rw [← e, BitVec.toNat_and]
    exact Nat.lt_of_le_of_lt Nat.and_le_right (by decide)
  apply BitVec.eq_of_toNat_eq
  rw [BitVec.toNat_or, BitVec.toNat_shiftLeft, BitVec.toNat_add, BitVec.toNat_mul, BitVec.toNat_ofNat, Nat.shiftLeft_eq]
  have e1 : y.toBitVec.toNat * 2 ^ 8 % 2 ^ 32 = (y.toBitVec.toNat % 2 ^ 24) * 2 ^ 8 := by omega
  rw [e1, ← Nat.shiftLeft_eq, ← Nat.shiftLeft_add_eq_or_of_lt (show b.toBitVec.toNat < 2 ^ 8 from hb'), Nat.shiftLeft_eq]
  omega
theorem lg_nf {M : Nat → Int32} {p : Nat} : ∀ k, (∀ j, j < k → bt_ (M (p + j))) → (s_lgf M p k).toInt32 = nf_ M p k
  | 0, _ => rfl
  | k + 1, h => by
    show ((s_lgf M p k <<< _) ||| (M (p + k)).toInt64).toInt32 = 256 * nf_ M p k + M (p + k)
    rw [nf_s _ (h k (by omega)), lg_nf k (fun j hj => h j (by omega))]
theorem m_head98 {m : Nat} {S : gS} (hL : md_L S m) (fu : Nat) : ∀ d i, i + d = 8 → f_X8_head_L98 (fu + d + 1) S m (nf_ (gI S (m + 2)) 8 i) (nI (8 + i)) = some (nf_ (gI S (m + 2)) 8 8, S)
  | 0, i, hi => by
    have : i = 8 := by omega
    subst this
    rw [f_X8_head_L98, if_pos (show (16 : Int32) ≤ nI 16 from by decide)]
  | d + 1, i, hi => by
    rw [show fu + (d + 1) + 1 = (fu + d + 1) + 1 by omega, f_X8_head_L98, if_neg (show ¬ (16 : Int32) ≤ nI (8 + i) from nI_ge (b := 16) (by omega) (by decide)), e_gR hL.1, e_bs, md_r hL 3 2, e_I (md_k hL 2 10 2400) (md_n hL 2 10 2400) (by omega), e_bs, e_let, e_let, nI_1]
    exact m_head98 hL fu d (i + 1) (by omega)
theorem m_head {m c : Nat} {S : gS} {V : Nat → Int32} (hL : md_L S m) (hc : c + 80 ≤ 6400) (hV : ∀ q, q < 80 → gI S (m + 9) (c + q) = V q) : ∃ S', f_X8_head_L56 gFuel S m (nI c) 0 = some (nf_ V 8 8, S') ∧ fr_S [m, m + 2] [] S S' ∧ gI S' m 4 = nI 80 ∧ (∀ k, k ≠ 4 → gI S' m k = gI S m k) ∧ ∀ j, gI S' (m + 2) j = if j < 80 then V j else gI S (m + 2) j := by
  obtain ⟨fu, hf⟩ := g_fu 80
  obtain ⟨fv, hf2⟩ := g_fu 8
  have e1 := cp_head (m := m) (c := c) (n := 80) (f := V) (g := gI S (m + 2)) rfl hc fu 80 0 (by omega) S hL (fun j => by unfold ou_; rw [if_neg (by omega)]) hV
  have L1 : md_L (gsI (gsA S (m + 2) (ou_ (gI S (m + 2)) 0 80 V)) m 4 (nI 80)) m := hL
  have b1 : ∀ j, gI (gsI (gsA S (m + 2) (ou_ (gI S (m + 2)) 0 80 V)) m 4 (nI 80)) (m + 2) j = if j < 80 then V j else gI S (m + 2) j := fun j => by
    rw [sI_n (by omega), sA_s]
    unfold ou_
    by_cases q : j < 80
    · rw [if_pos (by omega), if_pos q, Nat.sub_zero]
    · rw [if_neg (by omega), if_neg q]
  have e2 := m_head98 L1 fv 8 0 (by omega)
  refine ⟨gsI (gsA S (m + 2) (ou_ (gI S (m + 2)) 0 80 V)) m 4 (nI 80), ?_, fr_tr (fr_A (by simp)) (fr_i (by simp)), by rw [sI_s, va_up_s], fun k hk => by rw [sI_s, va_up_n _ _ _ hk, sA_n (by omega)], b1⟩
  have ev : ∀ k, k ≤ 8 → nf_ (gI (gsI (gsA S (m + 2) (ou_ (gI S (m + 2)) 0 80 V)) m 4 (nI 80)) (m + 2)) 8 k = nf_ V 8 k := by
    intro k
    induction k with
    | zero => intro _; rfl
    | succ k ih =>
      intro hk
      show 256 * _ + _ = 256 * _ + _
      rw [ih (by omega), b1, if_pos (by omega)]
  rw [hf, show 80 + fu + 1 = fu + 80 + 1 by omega, show (0 : Int32) = nI 0 from rfl, e1, f_X8_head_L56, if_pos (show (80 : Int32) ≤ nI 80 from by decide), show (80 : Int32) = nI 80 from rfl, e_pI (S := gsA S (m + 2) _) hL.1, e_bs, hf2, show 8 + fv + 1 = fv + 8 + 1 by omega]
  rw [ev 8 (by decide)] at e2
  exact e2
theorem uq_head {z : Nat} {S : gS} {a v : Int32} (h : in_ z S) : Tq z (f_L_head S (some z) a v (some (z + 65))) (fun T => f_X8_head T (z + 45) a v) := by
  have y := h.1
  have M := ly_md y
  unfold f_L_head f_X7_head
  rw [e_dc y.1.1, e_dc y.1.1]
  rcases lg_cs a with ca | ⟨l, hl, rfl⟩
  · rw [lof_bad ca, e_bxl, e_bxl, if_pos rfl]
    refine ⟨1, gsZ S (gZ S + 1), 0, gsI (gsZ S (gZ S + 1)) (z + 45) 0 1, rfl, M.1, ?_, m0_s, fun q => absurd q (by decide), in_m0 (in_zz h)⟩
    show f_X8_head _ _ _ _ = _
    unfold f_X8_head f_X8_head_B31
    rw [isl_bad ca, e_bi, if_pos rfl, m_th (T := gsZ S (gZ S + 1)) M.1, if_neg (by decide)]
  · rw [lof_in y hl, e_bxr]
    obtain ⟨N, TS, H, kn, ⟨a1, a2, a3⟩, ⟨b1, b2, b3⟩, ⟨c1, c2, c3⟩, ⟨d1, d2⟩, kb, er, fu, hd, tm⟩ := h.2.2.2.2.1 l hl
    have L := ly_lg y hl
    rw [e_dc L.1]
    have hv : (v < 0 ∨ nI H ≤ v) ∨ ∃ i, i < H ∧ v = nI i := by
      rcases pk_ix v (n := H) (by omega) with q | q | q
      · exact Or.inl (Or.inl q)
      · exact Or.inl (Or.inr q)
      · exact Or.inr q
    rcases hv with cv | ⟨i, hi, rfl⟩
    · rw [p_headAt_out L c1 cv, e_bi, e_nn, e_bxl, if_neg (by decide), if_pos rfl]
      refine ⟨2, gsZ S (gZ S + 1), 0, gsI (gsZ S (gZ S + 1)) (z + 45) 0 2, rfl, M.1, ?_, m0_s, fun q => absurd q (by decide), in_m0 (in_zz h)⟩
      show f_X8_head _ _ _ _ = _
      unfold f_X8_head f_X8_head_B26 f_X8_head_B31
      rw [isl_in hl, e_bi, if_neg (by decide)]
      by_cases c0 : v < 0
      · rw [if_pos c0, m_th (T := gsZ S (gZ S + 1)) M.1, if_neg (by decide)]
      · rw [if_neg c0, e_gR (S := gsZ S (gZ S + 1)) M.1, e_bs, sZ_R, md_r M 13 11, e_I (S := gsZ S (gZ S + 1)) (md_k M 11 10 2) (md_n M 11 10 2) hl, e_bs, sZ_I, show gI S (z + 45 + 11) l = nI H from c2, if_neg (fun q => absurd (cv.resolve_left c0) (Int32.not_le.mpr q)), m_th (T := gsZ S (gZ S + 1)) M.1, if_neg (by decide)]
    · obtain ⟨hb, r, r1, rw0⟩ := hd i hi
      have rw1 := rw0
      obtain ⟨k3, zr, bb, R0, zb, kb3, nb, vb⟩ := rw0
      obtain ⟨S1, e1, f1, p1, q1⟩ := p_bec (n := 80) (r := bb) y (by decide) kb3 (by omega) (by omega)
      have rw2 := rw_fr rw1 f1 (fun x hx => by (try unfold lq_ at hx) <;> (try unfold pq_ at hx) <;> (try unfold cq_ at hx) <;> (simp only [List.mem_cons, List.not_mem_nil, or_false, false_or, List.cons_append, List.nil_append] at hx) <;> (try simp only [loA, loB, tpA, ooA, msA, vwA, vwB, lyB, scA]) <;> omega) (by simp)
      have e2 := p_longAt (p := 8) rw2 (by decide) (by decide)
      have hlong : (s_lg (fun j => sb_ (hf_ S z l i j) &&& 255) 8).toInt32 = nf_ (hf_ S z l i) 8 8 := by
        rw [lg_c (M' := hf_ S z l i) (p' := 8) (fun j hj => by rw [sb_and]; exact hb _ (by omega))]
        exact lg_nf 8 (fun j hj => hb _ (by omega))
      have e2' : f_X3_longAt S1 r (nI 8) = some (s_lg (fun j => sb_ (hf_ S z l i j) &&& 255) 8, S1) := e2
      have y1 := ly_fr y f1 (by simp)
      rw [p_headAt_in L c1 c3 hi, e_bi, r1, e_nl, e_gR y.1.1, e_bs, y.1.2.2.1, e_gR k3, e_bs, R0, e_bs, e_N (by omega), e_bs, nb, e_dc y.2.2.1.1, e1, e_bs, e_dc rw2.1, show (8 : Int32) = nI 8 from rfl, e2', e_bi, e_bxr, hlong, aL_o y1, e_bs]
      have F1 : fr_S [z + 3, z + 4, z + 65] [] S (gsL S1 (z + 65) 0 (nf_ (hf_ S z l i) 8 8).toInt64) := fr_tr (fr_mo f1 (fun x hx => by (try unfold lq_ at hx) <;> (try unfold pq_ at hx) <;> (try unfold cq_ at hx) <;> (try unfold lq_) <;> (try unfold pq_) <;> (try unfold cq_) <;> (simp only [List.mem_cons, List.not_mem_nil, or_false, false_or, List.cons_append, List.nil_append] at hx ⊢) <;> omega) (by simp)) (fr_l (by simp))
      have p1' : gI (gsL S1 (z + 65) 0 (nf_ (hf_ S z l i) 8 8).toInt64) (z + 3) 1 = nI 80 := p1
      have q1' : ∀ j, gI (gsL S1 (z + 65) 0 (nf_ (hf_ S z l i) 8 8).toInt64) (z + 4) j = if j < 80 then gI S bb j else gI S (z + 4) j := q1
      have g1' : gL (gsL S1 (z + 65) 0 (nf_ (hf_ S z l i) 8 8).toInt64) (z + 65) 0 = (nf_ (hf_ S z l i) 8 8).toInt64 := by rw [sL_s, va_up_s]
      generalize gsL S1 (z + 65) 0 (nf_ (hf_ S z l i) 8 8).toInt64 = S1' at *
      have y1' := ly_fr y F1 (by simp)
      have M1 := ly_md y1'
      have t : ∀ o k n, (o, k, n) ∈ md_A → k < 16 → 1 ≤ o → o < 20 → gI S1' (z + 45 + o) = gI S (z + 45 + o) := fun o k n hq hk h1 h2 => fr_I F1 (ly_mk y o k n hq) (by (try unfold lq_) <;> (try unfold pq_) <;> (try unfold cq_) <;> (simp only [List.mem_cons, List.not_mem_nil, or_false, false_or, not_false_eq_true, List.cons_append, List.nil_append]) <;> omega) hk
      have L2 : md_L (gsI S1' (z + 45) 0 0) (z + 45) := M1
      obtain ⟨S2, e3, f3, p3, k3', q3⟩ := m_head (m := z + 45) (c := 80 * (40 * l + i)) (V := hf_ S z l i) L2 (by omega) (fun q hq => by rw [sI_n (by omega), t 9 10 6400 (by decide) (by decide) (by decide) (by decide)]; rfl)
      have F2 : fr_S [z + 45, z + 47] [] S1' S2 := fr_tr (fr_i (by simp)) f3
      refine ⟨0, S1', nf_ (hf_ S z l i) 8 8, S2, rfl, M1.1, ?_, ?_, fun _ => ?_, in_out (V := hf_ S z l i) h (by decide) F1 (fun x hx => by simp only [List.mem_cons, List.not_mem_nil, or_false] at hx; unfold o1A scA; omega) p1' (fun j => ?_) F2 (fun x hx => by simp only [List.mem_cons, List.not_mem_nil, or_false] at hx; unfold o2A scA; omega) p3 (fun j => ?_) hb (tp_12 h F1 (fun x hx => by simp only [List.mem_cons, List.not_mem_nil, or_false] at hx; unfold o1A scA; omega) (by (try unfold lq_) <;> (try unfold pq_) <;> (try unfold cq_) <;> (simp only [List.mem_cons, List.not_mem_nil, or_false, false_or, not_false_eq_true, List.cons_append, List.nil_append]) <;> omega) F2 (fun x hx => by simp only [List.mem_cons, List.not_mem_nil, or_false] at hx; unfold o2A scA; omega) ?_) ?_⟩
      · show f_X8_head _ _ _ _ = _
        unfold f_X8_head f_X8_head_B31
        rw [isl_in hl, e_bi, if_neg (by decide), if_neg (nI_pos (by omega)), e_gR M1.1, e_bs, md_r M1 13 11, e_I (md_k M1 11 10 2) (md_n M1 11 10 2) hl, e_bs, t 11 10 2 (by decide) (by decide) (by decide) (by decide), show gI S (z + 45 + 11) l = nI H from c2, if_pos (nI_lt hi (by omega)), m_th M1.1, if_pos (by decide), e_let, show (40 : Int32) = nI 40 from rfl, pk_mul, nI_add, show (80 : Int32) = nI 80 from rfl, pk_mul]
        exact e3
      · rw [k3' 0 (by decide), m0_s]
      · rw [fr_L F2 y1'.2.2.2.2.2.2.2.2.2.1.1 (by (try unfold lq_) <;> (try unfold pq_) <;> (try unfold cq_) <;> (simp only [List.mem_cons, List.not_mem_nil, or_false, false_or, not_false_eq_true, List.cons_append, List.nil_append]) <;> omega), g1']
      · rw [q1' j]
        by_cases q : j < 80
        · rw [if_pos q, if_pos q]; exact vb j q
        · rw [if_neg q, if_neg q]
      · have := q3 j
        rw [sI_n (by omega)] at this
        exact this
      · rw [k3' 2 (by decide), sI_s, va_up_n _ _ _ (by decide)]
      · rw [k3' 17 (by decide), sI_s, va_up_n _ _ _ (by decide), fr_I F1 M.1 (by (try unfold lq_) <;> (try unfold pq_) <;> (try unfold cq_) <;> (simp only [List.mem_cons, List.not_mem_nil, or_false, false_or, not_false_eq_true, List.cons_append, List.nil_append]) <;> omega)]; exact h.2.2.2.1.1
