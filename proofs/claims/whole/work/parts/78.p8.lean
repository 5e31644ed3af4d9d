/-! follow: the reference -/
def fe_ (m p : Nat) (x : Int32) (S : gS) : Option (Int32 × gS) := if x = 0 then (f_X8_keep S m (nI p)).bind fun S86 => some (0, S86) else if x = 3 then (fgR S 8 15 (some m)).bind fun x120 => (fI S 12 x120 (nI p + 1)).bind fun x122 => if x122 = 0 then gDc S 8 (some m) fun a127 => (f_X8_copySeen S a127 (nI p) (nI p + 1)).bind fun S129 => gDc S129 8 (some m) fun a131 => (f_X8_keep S129 a131 (nI p + 2)).bind fun S133 => some (3, S133) else some (3, S) else some (x, S)
def mf_ (m : Nat) (S S' : gS) : Prop := fr_S [m, m + 14, m + 15, m + 16, m + 18, m + 19] [] S S' ∧ (∀ k, k ≠ 17 → k ≠ 23 → k ≠ 24 → gI S' m k = gI S m k) ∧ gI S' m 17 = nI 0
theorem mf_g {m : Nat} {S S' : gS} (h : mg_S m S S') : mf_ m S S' := ⟨fr_mo h.1 (fun x hx => by (try unfold lq_ at hx) <;> (try unfold pq_ at hx) <;> (try unfold cq_ at hx) <;> (try unfold lq_) <;> (try unfold pq_) <;> (try unfold cq_) <;> (simp only [List.mem_cons, List.not_mem_nil, or_false, false_or, List.cons_append, List.nil_append] at hx ⊢) <;> omega) (by simp), fun k h1 _ _ => h.2.1 k h1, h.2.2⟩
theorem mf_tr {m : Nat} {S S' S'' : gS} (h : mf_ m S S') (g : mf_ m S' S'') : mf_ m S S'' := ⟨fr_tr h.1 g.1, fun k h1 h2 h3 => (g.2.1 k h1 h2 h3).trans (h.2.1 k h1 h2 h3), g.2.2⟩
theorem m_f275 {m p n : Nat} {S : gS} {t : Int64} (hL : md_L S m) (hp : p < 24) : f_X8_follow_B275 S m t (nI p) 1 = fe_ m p (if t < s_lg (rr_ S (m + 12) p) 0 then 5 else 0) S := by
  unfold f_X8_follow_B275 fe_
  rw [if_neg (by decide), e_dc hL.1, show f_X8_seenLong S m (nI p) 0 = _ from p8_seenLong (o := 0) hL hp (by decide), e_bi, show s_lg (rr_ S (m + 12) p) 0 = s_lg (gI S (m + 12)) (80 * p + 0) from lg_sh']
  by_cases c : t < s_lg (gI S (m + 12)) (80 * p + 0)
  · rw [if_neg (fun q => absurd c (Int64.not_lt.mpr ((lg_cmp_ge _ _).mp q))), if_pos c, if_neg (by decide), if_neg (by decide)]
  · rw [if_pos ((lg_cmp_ge _ _).mpr (Int64.not_lt.mp c)), if_neg c, if_pos rfl, e_dc hL.1]
theorem m_f218 {m p n : Nat} {S : gS} {t s s0 : Int64} {V TR : Nat → Int32} {e o : Bool} (hH : mh_ S m) (h17 : gI S m 17 = nI 0) (hp : p < 24) (h80 : 80 ≤ n) (hn : n ≤ 2200) (hs : ¬ s < 0) (hs0 : ¬ s0 < 0) (hss : ¬ s < s0) (hV : rr_ S (m + 12) p = V) (hTR : gI S (m + 1) = TR) (hA : sl_at S m 10 (w_at V 16)) (hB : sl_at S m 11 (w_at TR 16)) (ho : o = true ↔ onP s0.toInt.toNat s.toInt.toNat 80 n (w_at V 16) (w_at TR 16) TR) : ∃ S1, mf_ m S S1 ∧ f_X8_follow_B218 S m (nI n) t s (nI p) 1 s0 = fe_ m p (if ((s = s0 ∨ s0 = 0) ∧ n = 80) ∨ (¬ (s = s0 ∨ s0 = 0) ∧ o = true) then (if t < s_lg V 0 then 5 else 0) else 4) S1 := by
  have b238 : (s = s0 ∨ s0 = 0) → f_X8_follow_B238 S m (nI n) t s (nI p) 1 s0 = fe_ m p (if ((s = s0 ∨ s0 = 0) ∧ n = 80) ∨ (¬ (s = s0 ∨ s0 = 0) ∧ o = true) then (if t < s_lg V 0 then 5 else 0) else 4) S := by
    intro hc
    unfold f_X8_follow_B238 f_X8_follow_B243
    rw [if_neg (by decide)]
    by_cases c : n = 80
    · rw [if_pos (show nI n = (80 : Int32) from by rw [c]; rfl), if_pos (Or.inl ⟨hc, c⟩), m_f275 (n := n) hH.1 hp, hV]
    · rw [if_neg (show ¬ nI n = (80 : Int32) from by rw [show (80 : Int32) = nI 80 from rfl, nI_eq (by omega) (by decide)]; exact c), if_neg (fun w => w.elim (fun w => c w.2) (fun w => w.1 hc))]
      unfold fe_
      rw [if_neg (by decide), if_neg (by decide)]
  unfold f_X8_follow_B218
  rw [if_neg (by decide)]
  by_cases c1 : s = s0
  · rw [if_pos ((lg_cmp_eq _ _).mpr c1)]
    exact ⟨S, mf_g (mg_rf h17), b238 (Or.inl c1)⟩
  rw [if_neg (fun q => c1 ((lg_cmp_eq _ _).mp q))]
  by_cases c2 : s0 = 0
  · rw [if_pos ((lg_cmp_eq _ _).mpr c2)]
    exact ⟨S, mf_g (mg_rf h17), b238 (Or.inr c2)⟩
  rw [if_neg (fun q => c2 ((lg_cmp_eq _ _).mp q))]
  obtain ⟨q, hq63, rfl⟩ := pk_lOf hs0
  obtain ⟨w, hw63, rfl⟩ := pk_lOf hs
  have hq0 : 0 < q := by
    rcases Nat.eq_zero_or_pos q with c | c
    · rw [c] at c2; exact (c2 rfl).elim
    · exact c
  have hqw : q ≤ w := (pk_lLE hq63 hw63).mp (Int64.not_lt.mp hss)
  obtain ⟨Tn, x, S1, hT, hT2, e1, f1, k1, k17, hx⟩ := m_goesOn (v5 := 80) (v6 := n) (m := m) hH h17 hw63 hq0 hqw h80 hn hA hB
  rw [hTR] at hx
  rw [tn_ hq63, tn_ hw63, onP_i hT hT2] at ho
  have L1 := md_fr hH.1 f1 (by simp)
  have V1 : rr_ S1 (m + 12) p = V := by rw [← hV]; funext j; unfold rr_; rw [fr_I f1 (md_k hH.1 12 10 1920) (by (try unfold lq_) <;> (try unfold pq_) <;> (try unfold cq_) <;> (simp only [List.mem_cons, List.not_mem_nil, or_false, false_or, not_false_eq_true, List.cons_append, List.nil_append]) <;> omega)]
  refine ⟨S1, ⟨f1, k1, k17⟩, ?_⟩
  unfold f_X8_follow_B243
  rw [if_pos rfl, e_dc hH.1.1, show f_X8_goesOn S m (lN q) (lN w) 80 (nI n) = _ from e1, e_bi]
  rcases hx with ⟨rfl, hO⟩ | ⟨rfl, hO⟩
  · rw [if_neg (by decide), m_f275 (n := n) L1 hp, V1, if_pos (Or.inr ⟨fun w => w.elim c1 c2, ho.mpr hO⟩)]
  · rw [if_pos rfl, if_neg (fun w => w.elim (fun w => w.1.elim c1 c2) (fun w => hO (ho.mp w.2)))]
    unfold fe_
    rw [if_neg (by decide), if_neg (by decide)]
theorem m_f44 {m w l n kn : Nat} {S : gS} {p e o : Bool} {fl : Int32} {V TR : Nat → Int32} (hH : mh_ S m) (h17 : gI S m 17 = nI 0) (hw : w < 4) (hl : l < 2) (h80 : 80 ≤ n) (hn : n ≤ 2200) (hk : ky_I S m l kn) (hTR : gI S (m + 1) = TR) (hb : ∀ j, j < 48 → bt_ (TR j)) (hV : rr_ S (m + 12) (3 * (2 * w + l)) = V) (hfl : gI S (m + 13) (3 * (2 * w + l)) = fl) (h01 : fl = 0 ∨ (fl = 1 ∧ ¬ s_lg V 8 < 0)) (hp : p = true ↔ ∀ i, i < 8 → s_sl (kb_ S m l) TR i = w_at TR 48 i) (he : e = true ↔ ∀ i, i < 8 → w_at V 16 i = w_at TR 16 i) (ho : o = true ↔ onP (s_lg V 8).toInt.toNat (s_lg TR 8).toInt.toNat 80 n (w_at V 16) (w_at TR 16) TR) : ∃ S1, mf_ m S S1 ∧ (gBi (f_X8_tapeLong S m 0) fun x23 S21 => gDc S21 8 (some m) fun a24 => gBi (f_X8_tapeLong S21 a24 8) fun x28 S26 => gDc S26 8 (some m) fun a29 => gBi (f_X8_sealed S26 a29 (nI l)) fun x33 S31 => if x33 = 0 then some (1, S31) else if (lg_cmp x23 0) < 0 then some (1, S31) else if 0 ≤ (lg_cmp x28 0) then gBi (f_X8_placeOf S31 (nI w) (nI l) 0) fun x45 S43 => (fgR S43 8 15 (some m)).bind fun x46 => (fI S43 12 x46 x45).bind fun x48 => if x48 = 0 then f_X8_follow_B129 S43 m (nI n) x23 x28 x45 x48 0 else gDc S43 8 (some m) fun a138 => gBi (f_X8_seenLong S43 a138 x45 8) fun x142 S140 => f_X8_follow_B129 S140 m (nI n) x23 x28 x45 x48 x142 else some (1, S31)) = fe_ m (3 * (2 * w + l)) (jc_ p e o (s_lg TR 0) (s_lg TR 8) (s_lg V 0) (s_lg V 8) n fl) S1 := by
  obtain ⟨x, S1, e1, s1, hx⟩ := m_sealed hH h17 hl hk (by rw [hTR]; exact hb)
  rw [hTR] at hx
  have H1 := mg_h s1 hH
  have g1 : gI S1 (m + 1) = TR := (mg_o s1 hH 1 10 2220).trans hTR
  have g12 : gI S1 (m + 12) = gI S (m + 12) := mg_o s1 hH 12 10 1920
  have g13 : gI S1 (m + 13) = gI S (m + 13) := mg_o s1 hH 13 12 24
  have V1 : rr_ S1 (m + 12) (3 * (2 * w + l)) = V := by rw [← hV]; funext j; unfold rr_; rw [g12]
  have hp24 : 3 * (2 * w + l) < 24 := by omega
  have one : fe_ m (3 * (2 * w + l)) 1 S1 = some (1, S1) := by unfold fe_; rw [if_neg (by decide), if_neg (by decide)]
  have four : ∀ T, fe_ m (3 * (2 * w + l)) 4 T = some (4, T) := fun T => by unfold fe_; rw [if_neg (by decide), if_neg (by decide)]
  rw [show f_X8_tapeLong S m 0 = _ from p8_tapeLong (p := 0) hH.1 (by decide), e_bi, e_dc hH.1.1, show f_X8_tapeLong S m 8 = _ from p8_tapeLong (p := 8) hH.1 (by decide), e_bi, e_dc hH.1.1, e1, e_bi, hTR]
  unfold jc_
  rcases hx with ⟨rfl, hP⟩ | ⟨rfl, hP⟩
  rotate_left
  · have hpf : p = false := by
      cases p with
      | false => rfl
      | true => exact (hP (hp.mp rfl)).elim
    rw [if_pos rfl, if_pos (Or.inr (Or.inr hpf))]
    exact ⟨S1, mf_g s1, one.symm⟩
  have hpt : ¬ p = false := by rw [hp.mpr hP]; decide
  rw [if_neg (by decide)]
  by_cases c1 : s_lg TR 0 < 0
  · rw [if_pos (l0_.mpr c1), if_pos (Or.inl c1)]
    exact ⟨S1, mf_g s1, one.symm⟩
  rw [if_neg (fun q => c1 (l0_.mp q))]
  by_cases c2 : s_lg TR 8 < 0
  · rw [if_neg (fun q => absurd c2 (Int64.not_lt.mpr ((lg_cmp_ge _ _).mp q))), if_pos (Or.inr (Or.inl c2))]
    exact ⟨S1, mf_g s1, one.symm⟩
  rw [if_pos ((lg_cmp_ge _ _).mpr (Int64.not_lt.mp c2)), if_neg (show ¬ (s_lg TR 0 < 0 ∨ s_lg TR 8 < 0 ∨ p = false) from fun w => w.elim c1 (fun w => w.elim c2 hpt)), plc0, e_bi, e_gR H1.1.1, e_bs, md_r H1.1 15 13, e_I (md_k H1.1 13 12 24) (md_n H1.1 13 12 24) hp24, e_bs, g13, hfl]
  -- the two slots
  have e2 := p8_seenSlot (S := S1) (m := m) (p := 3 * (2 * w + l)) (s := 10) H1.1 hp24 (by decide)
  have s2 := mg_A (S := S1) (m := m) (f := sl_ (gI S1 (m + 18)) 10 (w_at (gI S1 (m + 12)) (80 * (3 * (2 * w + l)) + 16))) s1.2.2
  have w2 : ∀ i, i < 8 → gI (gsA S1 (m + 18) (sl_ (gI S1 (m + 18)) 10 (w_at (gI S1 (m + 12)) (80 * (3 * (2 * w + l)) + 16)))) (m + 18) (8 * 10 + i) = w_at V 16 i := fun i hi => by rw [sA_s, sl_in hi, ← V1]; exact w_sh.symm
  have q2 : gI (gsA S1 (m + 18) (sl_ (gI S1 (m + 18)) 10 (w_at (gI S1 (m + 12)) (80 * (3 * (2 * w + l)) + 16)))) (m + 1) = TR := by rw [sA_n (by omega), g1]
  generalize gsA S1 (m + 18) (sl_ (gI S1 (m + 18)) 10 (w_at (gI S1 (m + 12)) (80 * (3 * (2 * w + l)) + 16))) = S2 at *
  have H2 := mg_h s2 H1
  have e3 := p8_fromTape (S := S2) (m := m) (p := 16) (s := 11) H2.1 (by decide) (by decide)
  have s3 := mg_A (S := S2) (m := m) (f := sl_ (gI S2 (m + 18)) 11 (w_at (gI S2 (m + 1)) 16)) s2.2.2
  have w3 : sl_at (gsA S2 (m + 18) (sl_ (gI S2 (m + 18)) 11 (w_at (gI S2 (m + 1)) 16))) m 11 (w_at TR 16) := fun i hi => by rw [sA_s, sl_in hi, q2]
  have w3' : sl_at (gsA S2 (m + 18) (sl_ (gI S2 (m + 18)) 11 (w_at (gI S2 (m + 1)) 16))) m 10 (w_at V 16) := fun i hi => by rw [sA_s, sl_out hi (by decide)]; exact w2 i hi
  have q3 : gI (gsA S2 (m + 18) (sl_ (gI S2 (m + 18)) 11 (w_at (gI S2 (m + 1)) 16))) (m + 1) = TR := by rw [sA_n (by omega), q2]
  generalize gsA S2 (m + 18) (sl_ (gI S2 (m + 18)) 11 (w_at (gI S2 (m + 1)) 16)) = S3 at *
  have H3 := mg_h s3 H2
  have s13 := mg_tr s1 (mg_tr s2 s3)
  have V3 : rr_ S3 (m + 12) (3 * (2 * w + l)) = V := by rw [← V1]; funext j; unfold rr_; rw [mg_o s3 H2 12 10 1920, mg_o s2 H1 12 10 1920]
  rcases h01 with rfl | ⟨rfl, hs0⟩
  · rw [if_pos rfl, if_pos rfl]
    unfold f_X8_follow_B129 f_X8_follow_B146 f_X8_follow_B218 f_X8_follow_B238 f_X8_follow_B243 f_X8_follow_B275
    rw [if_pos rfl, e_dc H1.1.1, show f_X8_seenSlot S1 m (nI (3 * (2 * w + l))) 10 = _ from e2, e_bs, e_dc H2.1.1, show f_X8_fromTape S2 m 16 11 = _ from e3, e_bs, if_pos rfl, if_pos rfl, if_neg (by decide), if_pos rfl]
    refine ⟨S3, mf_g s13, ?_⟩
    by_cases c : n = 80
    · rw [if_pos (show nI n = (80 : Int32) from by rw [c]; rfl), if_pos c, e_dc H3.1.1]
      unfold fe_
      rw [if_pos rfl]
    · rw [if_neg (show ¬ nI n = (80 : Int32) from by rw [show (80 : Int32) = nI 80 from rfl, nI_eq (by omega) (by decide)]; exact c), if_neg c, four]
  · have u8 : s_lg (gI S1 (m + 12)) (80 * (3 * (2 * w + l)) + 8) = s_lg V 8 := by rw [← V1]; exact lg_sh'.symm
    rw [if_neg (by decide), if_neg (by decide), e_dc H1.1.1, show f_X8_seenLong S1 m (nI (3 * (2 * w + l))) 8 = _ from p8_seenLong (o := 8) H1.1 hp24 (by decide), e_bi, u8]
    unfold f_X8_follow_B129
    rw [if_neg (by decide)]
    by_cases c4 : s_lg TR 8 < s_lg V 8
    · rw [if_neg (fun q => absurd c4 (Int64.not_lt.mpr ((lg_cmp_ge _ _).mp q))), if_pos c4]
      refine ⟨S1, mf_g s1, ?_⟩
      unfold fe_
      rw [if_neg (by decide), if_neg (by decide)]
    rw [if_pos ((lg_cmp_ge _ _).mpr (Int64.not_lt.mp c4)), if_neg c4]
    unfold f_X8_follow_B146
    rw [e_dc H1.1.1, show f_X8_seenSlot S1 m (nI (3 * (2 * w + l))) 10 = _ from e2, e_bs, e_dc H2.1.1, show f_X8_fromTape S2 m 16 11 = _ from e3, e_bs, if_neg (by decide)]
    obtain ⟨S4, f4, e4⟩ := m_f218 (m := m) (p := 3 * (2 * w + l)) (n := n) (S := S3) (t := s_lg TR 0) (s := s_lg TR 8) (s0 := s_lg V 8) (V := V) (TR := TR) (e := e) (o := o) H3 s3.2.2 hp24 h80 hn c2 hs0 c4 V3 q3 w3' w3 ho
    by_cases c5 : s_lg TR 8 = s_lg V 8
    · obtain ⟨xs, es, hxs⟩ := p8_isSame (S := S3) (m := m) (a := 10) (b := 11) H3.1 (by decide) (by decide)
      have hiff : (∀ j, j < 8 → gI S3 (m + 18) (8 * 10 + j) = gI S3 (m + 18) (8 * 11 + j)) ↔ ∀ i, i < 8 → w_at V 16 i = w_at TR 16 i := by
        constructor
        · intro w q hq
          have := w q hq
          rw [w3' q hq, w3 q hq] at this
          exact this
        · intro w q hq
          rw [w3' q hq, w3 q hq]; exact w q hq
      rw [hiff] at hxs
      rw [if_pos ((lg_cmp_eq _ _).mpr c5), e_dc H3.1.1, show f_X8_isSame S3 m 10 11 = _ from es, e_bi]
      rcases hxs with ⟨rfl, hE⟩ | ⟨rfl, hE⟩
      · have het : ¬ (s_lg TR 8 = s_lg V 8 ∧ e = false) := fun w => by rw [he.mpr hE] at w; exact absurd w.2 (by decide)
        rw [if_neg (by decide), if_neg het]
        exact ⟨S4, mf_tr (mf_g s13) f4, e4⟩
      · have hef : e = false := by
          cases e with
          | false => rfl
          | true => exact (hE (he.mp rfl)).elim
        rw [if_pos rfl, if_pos ⟨c5, hef⟩]
        refine ⟨S3, mf_g s13, ?_⟩
        unfold fe_
        rw [if_neg (by decide), if_pos rfl]
    · rw [if_neg (fun q => c5 ((lg_cmp_eq _ _).mp q)), if_neg (fun w => c5 w.1)]
      exact ⟨S4, mf_tr (mf_g s13) f4, e4⟩
