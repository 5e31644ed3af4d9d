/-! isIn, isOn -/
def on_ (q n T v5 v6 : Nat) (A B TR : Nat → Int32) : Prop := v6 = v5 + 32 * (T + ev_ (cs_ q) n T) ∧ (∀ i, i < 8 → co_ (sd_ (cs_ q) n) (fun u => w_at TR (v5 + 32 * ev_ (cs_ q) n T + 32 * u)) T (if ev_ (cs_ q) n T = 1 then w_at TR v5 else A) T i = A i) ∧ ∀ i, i < 8 → cn_ (sd_ (cs_ q) n) (fun u => w_at TR (v5 + 32 * ev_ (cs_ q) n T + 32 * u)) T (if ev_ (cs_ q) n T = 1 then w_at TR v5 else A) T i = B i
theorem p_digests {S : gS} {p n T e : Nat} {c : Nat → Nat → Bool} (hL : pt_L S p) (h : pt_I S p c n T e) (he : e = 0 ∨ e = 1) : f_X2_digests S p = some (nI (T + e), S) := by
  unfold f_X2_digests
  rw [e_gI hL.1.1, e_bs, e_gI hL.1.1, e_bs, h.1, h.2.2.2.1]
  rcases he with rfl | rfl
  · rw [if_pos (by decide), show (0 : Int32) = nI 0 from rfl, nI_add]
  · rw [if_neg (by decide), nI_1]
theorem m_on70 {m n Tn q1 : Nat} {c : Nat → Nat → Bool} {S : gS} {A B X : Nat → Int32} (H : mh_ S m) (h17 : gI S m 17 = nI 0) (T63 : Tn ≤ 63) (hq1 : q1 + 32 * Tn ≤ 2220) (hs : sm_I S m c n Tn) (hA : sl_at S m 10 A) (hB : sl_at S m 11 B) (hX : sl_at S m 12 X) : ∃ x S', f_X8_goesOn_B70 S 0 0 m (nI q1) = some (x, S') ∧ mg_S m S S' ∧ ((x = 1 ∧ (∀ i, i < 8 → A i = co_ (sd_ c n) (fun u => w_at (gI S (m + 1)) (q1 + 32 * u)) Tn X Tn i) ∧ ∀ i, i < 8 → B i = cn_ (sd_ c n) (fun u => w_at (gI S (m + 1)) (q1 + 32 * u)) Tn X Tn i) ∨ (x = 0 ∧ ¬ ((∀ i, i < 8 → A i = co_ (sd_ c n) (fun u => w_at (gI S (m + 1)) (q1 + 32 * u)) Tn X Tn i) ∧ ∀ i, i < 8 → B i = cn_ (sd_ c n) (fun u => w_at (gI S (m + 1)) (q1 + 32 * u)) Tn X Tn i))) := by
  have e1 := p8_copy (S := S) (m := m) (a := 12) (b := 13) H.1 (by decide) (by decide) (by decide)
  have s1 := mg_A (S := S) (m := m) (f := sl_ (gI S (m + 18)) 13 (fun q => gI S (m + 18) (8 * 12 + q))) h17
  have w : ∀ t q, q < 8 → t ≠ 13 → gI (gsA S (m + 18) (sl_ (gI S (m + 18)) 13 (fun q => gI S (m + 18) (8 * 12 + q)))) (m + 18) (8 * t + q) = gI S (m + 18) (8 * t + q) := fun t q hq ht => by rw [sA_s, sl_out hq ht]
  have w13 : ∀ q, q < 8 → gI (gsA S (m + 18) (sl_ (gI S (m + 18)) 13 (fun q => gI S (m + 18) (8 * 12 + q)))) (m + 18) (8 * 13 + q) = gI S (m + 18) (8 * 12 + q) := fun q hq => by rw [sA_s, sl_in hq]
  have k23 : gI (gsA S (m + 18) (sl_ (gI S (m + 18)) 13 (fun q => gI S (m + 18) (8 * 12 + q)))) m = gI S m := sA_n (by omega)
  have k1 : gI (gsA S (m + 18) (sl_ (gI S (m + 18)) 13 (fun q => gI S (m + 18) (8 * 12 + q)))) (m + 1) = gI S (m + 1) := sA_n (by omega)
  have k19 : gI (gsA S (m + 18) (sl_ (gI S (m + 18)) 13 (fun q => gI S (m + 18) (8 * 12 + q)))) (m + 19) = gI S (m + 19) := sA_n (by omega)
  unfold f_X8_goesOn_B70
  rw [e_gd (by decide), e_dc H.1.1, show f_X8_copy S m 12 13 = _ from e1, e_bs]
  generalize gsA S (m + 18) (sl_ (gI S (m + 18)) 13 (fun q => gI S (m + 18) (8 * 12 + q))) = S1 at *
  have H1 := mg_h s1 H
  obtain ⟨fu, hf⟩ := g_fu Tn
  obtain ⟨x, S2, e2, s2, hx⟩ := p8_onL (c := c) (n := n) (q1 := q1) (A := A) (B := B) (X := X) T63 hq1 fu Tn (Nat.le_refl _) S1 0 (by omega) H1 s1.2.2 (sm_o hs (by rw [k23]) k19) (fun q hq => by rw [w 10 q hq (by decide)]; exact hA q hq) (fun q hq => by rw [w 11 q hq (by decide)]; exact hB q hq) (fun q hq => by rw [w 12 q hq (by decide), Nat.sub_self]; exact hX q hq) (fun q hq => by rw [w13 q hq, Nat.sub_self]; exact hX q hq)
  rw [Nat.sub_self, Nat.mul_zero, Nat.add_zero] at e2
  rw [k1] at hx
  refine ⟨x, S2, ?_, mg_tr s1 s2, hx⟩
  rw [e_gI H1.1.1, e_bs, k23, hs.1, e_let, hf, show Tn + fu + 1 = fu + Tn + 1 by omega]
  exact e2
theorem m_goesOn {m q n v5 v6 : Nat} {T : gS} {A B : Nat → Int32} (hH : mh_ T m) (h17 : gI T m 17 = nI 0) (hn : n < 2 ^ 63) (hq : 0 < q) (hqn : q ≤ n) (hv : v5 ≤ v6) (hv6 : v6 ≤ 2200) (hA : sl_at T m 10 A) (hB : sl_at T m 11 B) : ∃ Tn x S', (∀ t', t' < Tn → q < (ds_ (cs_ q) n t').1 + (ds_ (cs_ q) n t').2) ∧ (ds_ (cs_ q) n Tn).1 + (ds_ (cs_ q) n Tn).2 ≤ q ∧ f_X8_goesOn T m (lN q) (lN n) (nI v5) (nI v6) = some (x, S') ∧ fr_S [m, m + 14, m + 15, m + 16, m + 18, m + 19] [] T S' ∧ (∀ k, k ≠ 17 → k ≠ 23 → k ≠ 24 → gI S' m k = gI T m k) ∧ gI S' m 17 = nI 0 ∧ ((x = 1 ∧ on_ q n Tn v5 v6 A B (gI T (m + 1))) ∨ (x = 0 ∧ ¬ on_ q n Tn v5 v6 A B (gI T (m + 1)))) := by
  obtain ⟨Tn, S1, e1, f1, k1, hT, hT2, s1, p24⟩ := p8_stepsOf hH.1 hn hq hqn
  have hT2' := (ds_s hq hqn Tn hT).2.2
  have T63 : Tn ≤ 63 := (ds_b (c := cs_ q) (e := 63) (by omega) (by omega) Tn hT2').2.2.1
  have H1 : mh_ S1 m := mh_fr hH f1 (by (try unfold lq_) <;> (try unfold pq_) <;> (try unfold cq_) <;> (simp only [List.mem_cons, List.not_mem_nil, or_false, false_or, not_false_eq_true, List.cons_append, List.nil_append]) <;> omega) (by simp)
  have o1 : ∀ o k w, (o, k, w) ∈ md_A → k < 16 → o ≠ 19 → 1 ≤ o → gI S1 (m + o) = gI T (m + o) := fun o k w hq' hk h1 h2 => fr_I f1 (hH.1.2.2 (o, k, w) hq').1 (by (try unfold lq_) <;> (try unfold pq_) <;> (try unfold cq_) <;> (simp only [List.mem_cons, List.not_mem_nil, or_false, false_or, not_false_eq_true, List.cons_append, List.nil_append]) <;> omega) hk
  have k17 : gI S1 m 17 = nI 0 := by rw [k1 17 (by decide) (by decide)]; exact h17
  have g1 := o1 1 10 2220 (by decide) (by decide) (by decide) (by decide)
  have g18 := o1 18 10 800 (by decide) (by decide) (by decide) (by decide)
  have A1 : ∀ i, i < 8 → gI S1 (m + 18) (8 * 10 + i) = A i := fun i hi => by rw [g18]; exact hA i hi
  have B1 : ∀ i, i < 8 → gI S1 (m + 18) (8 * 11 + i) = B i := fun i hi => by rw [g18]; exact hB i hi
  -- the first copy
  have e2 := p8_copy (S := S1) (m := m) (a := 10) (b := 12) H1.1 (by decide) (by decide) (by decide)
  have s2 := mg_A (S := S1) (m := m) (f := sl_ (gI S1 (m + 18)) 12 (fun q => gI S1 (m + 18) (8 * 10 + q))) k17
  have w2 : ∀ t q, q < 8 → t ≠ 12 → gI (gsA S1 (m + 18) (sl_ (gI S1 (m + 18)) 12 (fun q => gI S1 (m + 18) (8 * 10 + q)))) (m + 18) (8 * t + q) = gI S1 (m + 18) (8 * t + q) := fun t q hq ht => by rw [sA_s, sl_out hq ht]
  have w12 : ∀ q, q < 8 → gI (gsA S1 (m + 18) (sl_ (gI S1 (m + 18)) 12 (fun q => gI S1 (m + 18) (8 * 10 + q)))) (m + 18) (8 * 12 + q) = gI S1 (m + 18) (8 * 10 + q) := fun q hq => by rw [sA_s, sl_in hq]
  have km : gI (gsA S1 (m + 18) (sl_ (gI S1 (m + 18)) 12 (fun q => gI S1 (m + 18) (8 * 10 + q)))) m = gI S1 m := sA_n (by omega)
  have km1 : gI (gsA S1 (m + 18) (sl_ (gI S1 (m + 18)) 12 (fun q => gI S1 (m + 18) (8 * 10 + q)))) (m + 1) = gI S1 (m + 1) := sA_n (by omega)
  have km19 : gI (gsA S1 (m + 18) (sl_ (gI S1 (m + 18)) 12 (fun q => gI S1 (m + 18) (8 * 10 + q)))) (m + 19) = gI S1 (m + 19) := sA_n (by omega)
  generalize gsA S1 (m + 18) (sl_ (gI S1 (m + 18)) 12 (fun q => gI S1 (m + 18) (8 * 10 + q))) = S2 at *
  have H2 := mg_h s2 H1
  have fin : ∀ {S' : gS}, mg_S m S1 S' → fr_S [m, m + 14, m + 15, m + 16, m + 18, m + 19] [] T S' ∧ (∀ k, k ≠ 17 → k ≠ 23 → k ≠ 24 → gI S' m k = gI T m k) ∧ gI S' m 17 = nI 0 := fun s => ⟨fr_tr (fr_mo f1 (fun x hx => by (try unfold lq_ at hx) <;> (try unfold pq_ at hx) <;> (try unfold cq_ at hx) <;> (try unfold lq_) <;> (try unfold pq_) <;> (try unfold cq_) <;> (simp only [List.mem_cons, List.not_mem_nil, or_false, false_or, List.cons_append, List.nil_append] at hx ⊢) <;> omega) (by simp)) (fr_mo s.1 (fun x hx => by (try unfold lq_ at hx) <;> (try unfold pq_ at hx) <;> (try unfold cq_ at hx) <;> (try unfold lq_) <;> (try unfold pq_) <;> (try unfold cq_) <;> (simp only [List.mem_cons, List.not_mem_nil, or_false, false_or, List.cons_append, List.nil_append] at hx ⊢) <;> omega) (by simp)), fun k h1 h2 h3 => by rw [s.2.1 k h1, k1 k h2 h3], s.2.2⟩
  have gd0 : ∀ {x : Option (Int32 × gS)}, gGd (0 ≤ 140 ∧ 0 ≤ 1120) x = x := e_gd (by decide)
  rcases ev_01 (cs_ q) n Tn with he | he
  · rw [he] at p24
    have st : f_X8_goesOn T m (lN q) (lN n) (nI v5) (nI v6) = if v6 = v5 + 32 * (Tn + 0) then f_X8_goesOn_B70 S2 0 0 m (nI v5) else some (0, S1) := by
      unfold f_X8_goesOn f_X8_goesOn_B22
      rw [e_dc hH.1.1, e1, e_bs, e_gI H1.1.1, e_bs, e_gI H1.1.1, e_bs, p24, s1.1, if_neg (show ¬ nI (1 - 0) = (0 : Int32) from by decide), gd0, show (0 : Int32) = nI 0 from rfl, nI_add, e_let, pk_sub hv, show (32 : Int32) = nI 32 from rfl, pk_mul]
      by_cases c : v6 = v5 + 32 * (Tn + 0)
      · rw [if_pos (show nI (v6 - v5) = nI (32 * (Tn + 0)) from by rw [nI_eq (by omega) (by omega)]; omega), if_pos c, e_dc H1.1.1, show f_X8_copy S1 m 10 12 = _ from e2, e_bs, e_gI H2.1.1, e_bs, km, p24, if_neg (show ¬ nI (1 - 0) = nI 0 from by decide)]
      · rw [if_neg (show ¬ nI (v6 - v5) = nI (32 * (Tn + 0)) from by rw [nI_eq (by omega) (by omega)]; omega), if_neg c]
    by_cases c : v6 = v5 + 32 * (Tn + 0)
    · rw [if_pos c] at st
      obtain ⟨x, S3, e3, s3, hx⟩ := m_on70 (c := cs_ q) (n := n) (q1 := v5) (A := A) (B := B) (X := A) H2 s2.2.2 T63 (by omega) (sm_o s1 (by rw [km]) km19) (fun i hi => by rw [w2 10 i hi (by decide)]; exact A1 i hi) (fun i hi => by rw [w2 11 i hi (by decide)]; exact B1 i hi) (fun i hi => by rw [w12 i hi]; exact A1 i hi)
      rw [km1, g1] at hx
      obtain ⟨q1, q2, q3⟩ := fin (mg_tr s2 s3)
      refine ⟨Tn, x, S3, hT, hT2, st.trans e3, q1, q2, q3, ?_⟩
      unfold on_
      rw [he, if_neg (show ¬ (0 = 1) by decide), Nat.mul_zero, Nat.add_zero v5]
      rcases hx with ⟨rfl, x1, x2⟩ | ⟨rfl, x1⟩
      · exact Or.inl ⟨rfl, c, fun i hi => (x1 i hi).symm, fun i hi => (x2 i hi).symm⟩
      · exact Or.inr ⟨rfl, fun w => x1 ⟨fun i hi => (w.2.1 i hi).symm, fun i hi => (w.2.2 i hi).symm⟩⟩
    · rw [if_neg c] at st
      obtain ⟨q1, q2, q3⟩ := fin (mg_rf k17)
      exact ⟨Tn, 0, S1, hT, hT2, st, q1, q2, q3, Or.inr ⟨rfl, fun w => c (by have := w.1; rw [he] at this; exact this)⟩⟩
  · rw [he] at p24
    have e3 : v6 = v5 + 32 * (Tn + 1) → f_X8_fromTape S2 m (nI v5) (nI 12) = _ := fun c => p8_fromTape (S := S2) (m := m) (p := v5) (s := 12) H2.1 (by omega) (by decide)
    have s3 := mg_A (S := S2) (m := m) (f := sl_ (gI S2 (m + 18)) 12 (w_at (gI S2 (m + 1)) v5)) s2.2.2
    have w3 : ∀ t q, q < 8 → t ≠ 12 → gI (gsA S2 (m + 18) (sl_ (gI S2 (m + 18)) 12 (w_at (gI S2 (m + 1)) v5))) (m + 18) (8 * t + q) = gI S2 (m + 18) (8 * t + q) := fun t q hq ht => by rw [sA_s, sl_out hq ht]
    have w13 : ∀ q, q < 8 → gI (gsA S2 (m + 18) (sl_ (gI S2 (m + 18)) 12 (w_at (gI S2 (m + 1)) v5))) (m + 18) (8 * 12 + q) = w_at (gI T (m + 1)) v5 q := fun q hq => by rw [sA_s, sl_in hq, km1, g1]
    have kn : gI (gsA S2 (m + 18) (sl_ (gI S2 (m + 18)) 12 (w_at (gI S2 (m + 1)) v5))) m = gI S2 m := sA_n (by omega)
    have kn1 : gI (gsA S2 (m + 18) (sl_ (gI S2 (m + 18)) 12 (w_at (gI S2 (m + 1)) v5))) (m + 1) = gI S2 (m + 1) := sA_n (by omega)
    have kn19 : gI (gsA S2 (m + 18) (sl_ (gI S2 (m + 18)) 12 (w_at (gI S2 (m + 1)) v5))) (m + 19) = gI S2 (m + 19) := sA_n (by omega)
    generalize gsA S2 (m + 18) (sl_ (gI S2 (m + 18)) 12 (w_at (gI S2 (m + 1)) v5)) = S3 at *
    have H3 := mg_h s3 H2
    have st : f_X8_goesOn T m (lN q) (lN n) (nI v5) (nI v6) = if v6 = v5 + 32 * (Tn + 1) then f_X8_goesOn_B70 S3 0 0 m (nI (v5 + 32)) else some (0, S1) := by
      unfold f_X8_goesOn f_X8_goesOn_B22
      rw [e_dc hH.1.1, e1, e_bs, e_gI H1.1.1, e_bs, e_gI H1.1.1, e_bs, p24, s1.1, if_pos (show nI (1 - 1) = (0 : Int32) from by decide), gd0, nI_1, e_let, pk_sub hv, show (32 : Int32) = nI 32 from rfl, pk_mul]
      by_cases c : v6 = v5 + 32 * (Tn + 1)
      · rw [if_pos (show nI (v6 - v5) = nI (32 * (Tn + 1)) from by rw [nI_eq (by omega) (by omega)]; omega), if_pos c, e_dc H1.1.1, show f_X8_copy S1 m 10 12 = _ from e2, e_bs, e_gI H2.1.1, e_bs, km, p24, if_pos (show nI (1 - 1) = (0 : Int32) from by decide), e_dc H2.1.1, show f_X8_fromTape S2 m (nI v5) 12 = _ from e3 c, e_bs, nI_add, e_let]
      · rw [if_neg (show ¬ nI (v6 - v5) = nI (32 * (Tn + 1)) from by rw [nI_eq (by omega) (by omega)]; omega), if_neg c]
    by_cases c : v6 = v5 + 32 * (Tn + 1)
    · rw [if_pos c] at st
      obtain ⟨x, S4, e4, s4, hx⟩ := m_on70 (c := cs_ q) (n := n) (q1 := v5 + 32) (A := A) (B := B) (X := w_at (gI T (m + 1)) v5) H3 s3.2.2 T63 (by omega) (sm_o s1 (by rw [kn, km]) (kn19.trans km19)) (fun i hi => by rw [w3 10 i hi (by decide), w2 10 i hi (by decide)]; exact A1 i hi) (fun i hi => by rw [w3 11 i hi (by decide), w2 11 i hi (by decide)]; exact B1 i hi) (fun i hi => w13 i hi)
      rw [kn1, km1, g1] at hx
      obtain ⟨q1, q2, q3⟩ := fin (mg_tr s2 (mg_tr s3 s4))
      refine ⟨Tn, x, S4, hT, hT2, st.trans e4, q1, q2, q3, ?_⟩
      unfold on_
      rw [he, if_pos rfl, Nat.mul_one]
      rcases hx with ⟨rfl, x1, x2⟩ | ⟨rfl, x1⟩
      · exact Or.inl ⟨rfl, c, fun i hi => (x1 i hi).symm, fun i hi => (x2 i hi).symm⟩
      · exact Or.inr ⟨rfl, fun w => x1 ⟨fun i hi => (w.2.1 i hi).symm, fun i hi => (w.2.2 i hi).symm⟩⟩
    · rw [if_neg c] at st
      obtain ⟨q1, q2, q3⟩ := fin (mg_rf k17)
      exact ⟨Tn, 0, S1, hT, hT2, st, q1, q2, q3, Or.inr ⟨rfl, fun w => c (by have := w.1; rw [he] at this; exact this)⟩⟩
theorem c_goesOn {z q n v5 v6 r1 p1 p2 : Nat} {v8 : Int32} {S : gS} {A TR : Nat → Int32} (y : ly_ z S) (hn : n < 2 ^ 63) (hq : 0 < q) (hqn : q ≤ n) (hv6 : v6 ≤ 2200) (hv8 : ∀ k, k ≤ 64 → (v8 = nI k * 32 ↔ v6 = v5 + 32 * k)) (hr : gK S r1 = 9) (hN : p1 + 32 ≤ gN S r1) (hN2 : gN S r1 < 2 ^ 31) (hr1 : r1 = z + 2 ∨ z + 66 ≤ r1) (hA : dg_at S r1 p1 A) (hrb : rb_ S (z + 2) 2200 TR) (hp2 : p2 + 32 ≤ 2200) : ∃ Tn x S', (∀ t', t' < Tn → q < (ds_ (cs_ q) n t').1 + (ds_ (cs_ q) n t').2) ∧ (ds_ (cs_ q) n Tn).1 + (ds_ (cs_ q) n Tn).2 ≤ q ∧ f_X7_goesOn S z (lN q) (lN n) (some r1) (nI p1) (nI p2) v8 (nI v5) = some (x, S') ∧ fr_S (pq_ (z + 35) ++ cq_ (z + 39)) [] S S' ∧ ((x = 1 ∧ on_ q n Tn v5 v6 A (w_at TR p2) TR) ∨ (x = 0 ∧ ¬ on_ q n Tn v5 v6 A (w_at TR p2) TR)) := by
  obtain ⟨Tn, S1, e1, f1, hT, hT2, i1⟩ := p_goToSize (p := z + 35) y.2.2.2.2.2.2.1 hn hq hqn
  have hT2' := (ds_s hq hqn Tn hT).2.2
  have T63 : Tn ≤ 63 := (ds_b (c := cs_ q) (e := 63) (by omega) (by omega) Tn hT2').2.2.1
  have y1 := ly_fr y f1 (by simp)
  have ev := ev_01 (cs_ q) n Tn
  have ev1 : ev_ (cs_ q) n Tn ≤ 1 := by omega
  have e2 := p_digests y1.2.2.2.2.2.2.1 i1 ev
  have F1 : fr_S (pq_ (z + 35) ++ cq_ (z + 39)) [] S S1 := fr_mo f1 (fun _ h => List.mem_append_left _ h) (by simp)
  have nq : ∀ x, (x < z + 35 ∨ z + 66 ≤ x) → x ∉ pq_ (z + 35) ++ cq_ (z + 39) := fun x hx h => by
    unfold pq_ cq_ at h
    simp only [List.mem_cons, List.not_mem_nil, or_false, List.mem_append] at h
    omega
  have nq2 : ∀ x, (x < z + 35 ∨ z + 66 ≤ x) → x ∉ cq_ (z + 39) := fun x hx h => nq x hx (List.mem_append_right _ h)
  have nr : r1 < z + 35 ∨ z + 66 ≤ r1 := by omega
  unfold f_X7_goesOn
  rw [e_gR y.1.1, e_bs, y.1.2.2.2.2.2.1, e_dc y.2.2.2.2.2.2.1.1.1, e1, e_bs, e_gR y1.1.1, e_bs, y1.1.2.2.2.2.2.1, e_dc y1.2.2.2.2.2.2.1.1.1, e2, e_bi]
  have hv8' := hv8 (Tn + ev_ (cs_ q) n Tn) (by omega)
  by_cases c : v6 = v5 + 32 * (Tn + ev_ (cs_ q) n Tn)
  · rw [if_pos (hv8'.mpr c), e_gR y1.1.1, e_bs, y1.1.2.2.2.2.2.2, e_dc y1.2.2.2.2.2.2.2.1.1.1]
    obtain ⟨S2, e3, f3, d3, d3'⟩ := p_start (k := z + 39) (r := r1) (p := p1) (W := A) y1.2.2.2.2.2.2.2.1 (fr_K F1 hr) (by rw [fr_N F1 hr]; exact hN) (by rw [fr_N F1 hr]; exact hN2) (by omega) (by omega) (dg_fr hA F1 hr (nq _ nr))
    have y2 := ly_fr y1 f3 (by simp)
    have F2 : fr_S (pq_ (z + 35) ++ cq_ (z + 39)) [] S S2 := fr_tr F1 (fr_mo f3 (fun _ h => List.mem_append_right _ h) (by simp))
    have rb2 : rb_ S2 (z + 2) 2200 TR := rb_fr hrb F2 y.2.1.2.2.1 (nq _ (by omega))
    have i2 := ptI_fr i1 y1.2.2.2.2.2.2.1 f3 (by (try unfold lq_) <;> (try unfold pq_) <;> (try unfold cq_) <;> (simp only [List.mem_cons, List.not_mem_nil, or_false, false_or, not_false_eq_true, List.cons_append, List.nil_append]) <;> omega) (by (try unfold lq_) <;> (try unfold pq_) <;> (try unfold cq_) <;> (simp only [List.mem_cons, List.not_mem_nil, or_false, false_or, not_false_eq_true, List.cons_append, List.nil_append]) <;> omega) (by (try unfold lq_) <;> (try unfold pq_) <;> (try unfold cq_) <;> (simp only [List.mem_cons, List.not_mem_nil, or_false, false_or, not_false_eq_true, List.cons_append, List.nil_append]) <;> omega) (by (try unfold lq_) <;> (try unfold pq_) <;> (try unfold cq_) <;> (simp only [List.mem_cons, List.not_mem_nil, or_false, false_or, not_false_eq_true, List.cons_append, List.nil_append]) <;> omega)
    obtain ⟨S3, e4, f4, d4, d4'⟩ := p_climb (z := z) (q0 := v5) (c := cs_ q) (n := n) (T := Tn) (e := ev_ (cs_ q) n Tn) (D := fun u => w_at TR (v5 + 32 * ev_ (cs_ q) n Tn + 32 * u)) (X := if ev_ (cs_ q) n Tn = 1 then w_at TR v5 else A) T63 ev1 (by omega) y2.2.2.2.2.2.2.2.1 y2.2.2.2.2.2.2.1 i2 y2.2.1.2.2.1 y2.2.1.2.2.2 (fun u hu => rb_dg rb2 (by omega)) (fun he => by rw [if_pos he]; exact rb_dg rb2 (by omega)) (fun he => by rw [if_neg (by omega)]; exact ⟨d3, d3'⟩)
    have y3 := ly_fr y2 f4 (by simp)
    have F3 : fr_S (pq_ (z + 35) ++ cq_ (z + 39)) [] S S3 := fr_tr F2 (fr_mo f4 (fun _ h => List.mem_append_right _ h) (by simp))
    have rb3 : rb_ S3 (z + 2) 2200 TR := rb_fr hrb F3 y.2.1.2.2.1 (nq _ (by omega))
    obtain ⟨x1, e5, hx1⟩ := p_left (k := z + 39) (r := r1) (p := p1) (W := A) y3.2.2.2.2.2.2.2.1 (fr_K F3 hr) (by rw [fr_N F3 hr]; exact hN) (by rw [fr_N F3 hr]; exact hN2) d4 (dg_fr hA F3 hr (nq _ nr))
    obtain ⟨x2, e6, hx2⟩ := p_came (k := z + 39) (r := z + 2) (p := p2) (W := w_at TR p2) y3.2.2.2.2.2.2.2.1 y3.2.1.2.2.1 (by rw [y3.2.1.2.2.2]; exact hp2) (by rw [y3.2.1.2.2.2]; decide) d4' (rb_dg rb3 hp2)
    rw [e3, e_bs, e_gR y2.1.1, e_bs, y2.1.2.2.2.2.2.2, e_gR y2.1.1, e_bs, y2.1.2.2.2.2.2.1, e_gR y2.1.1, e_bs, y2.1.2.1, e_gR y2.2.1.1, e_bs, y2.2.1.2.1, e_dc y2.2.2.2.2.2.2.2.1.1.1, e4, e_bs, e_gR y3.1.1, e_bs, y3.1.2.2.2.2.2.2, e_dc y3.2.2.2.2.2.2.2.1.1.1, e5, e_bi]
    rcases hx1 with ⟨rfl, g1⟩ | ⟨rfl, g1⟩
    · rw [if_neg (by decide), e_gR y3.1.1, e_bs, y3.1.2.2.2.2.2.2, e_gR y3.1.1, e_bs, y3.1.2.1, e_gR y3.2.1.1, e_bs, y3.2.1.2.1, e_dc y3.2.2.2.2.2.2.2.1.1.1, e6, e_bi]
      rcases hx2 with ⟨rfl, g2⟩ | ⟨rfl, g2⟩
      · rw [if_neg (by decide)]
        exact ⟨Tn, 1, S3, hT, hT2, rfl, F3, Or.inl ⟨rfl, c, g1, g2⟩⟩
      · rw [if_pos rfl]
        exact ⟨Tn, 0, S3, hT, hT2, rfl, F3, Or.inr ⟨rfl, fun w => g2 w.2.2⟩⟩
    · rw [if_pos rfl]
      exact ⟨Tn, 0, S3, hT, hT2, rfl, F3, Or.inr ⟨rfl, fun w => g1 w.2.1⟩⟩
  · rw [if_neg (fun w => c (hv8'.mp w))]
    exact ⟨Tn, 0, S1, hT, hT2, rfl, F1, Or.inr ⟨rfl, fun w => c w.1⟩⟩
theorem in_u0 {z : Nat} {A : List Nat} {S S1 : gS} (h : in_ z S) (F : fr_S A [] S S1) (hA : ∀ x ∈ A, u1A z x) (c1 : gI S1 (z + 1) 1 = nI 0) : in_ z (gsI (gsI S1 (z + 45) 2 (nI 0)) (z + 45) 0 0) := by
  have m1 : gI S1 (z + 45) = gI S (z + 45) := fr_I F (ly_md h.1).1 (fun q => by have := hA _ q; unfold u1A scA at this; omega)
  refine in_us (A1 := A) (A2 := [z + 45]) h F hA c1 (fr_tr (fr_i (by simp)) (fr_i (by simp))) (fun x hx => by simp only [List.mem_cons, List.not_mem_nil, or_false] at hx; unfold scA; omega) ?_ ?_ ?_
  · rw [sI_s, va_up_n _ _ _ (by decide), sI_s, va_up_s]
  · rw [sI_s, va_up_n _ _ _ (by decide), sI_s, va_up_n _ _ _ (by decide)]
  · rw [sI_s, va_up_n _ _ _ (by decide), sI_s, va_up_n _ _ _ (by decide), m1]; exact h.2.2.2.1.1
theorem m_isOn {m q w n : Nat} {T : gS} (hH : mh_ T m) (h17 : gI T m 17 = nI 0) (h2 : gI T m 2 = nI n) (hn : n ≤ 2200) (hn64 : 64 ≤ n) (hw : w < 2 ^ 63) (hq : 0 < q) (hqw : q ≤ w) : ∃ Tn x S', (∀ t', t' < Tn → q < (ds_ (cs_ q) w t').1 + (ds_ (cs_ q) w t').2) ∧ (ds_ (cs_ q) w Tn).1 + (ds_ (cs_ q) w Tn).2 ≤ q ∧ f_X8_isOn T m (lN q) (lN w) = some (x, S') ∧ fr_S [m, m + 14, m + 15, m + 16, m + 18, m + 19] [] T S' ∧ gI S' m 2 = nI 0 ∧ gI S' m 4 = gI T m 4 ∧ gI S' m 17 = nI 0 ∧ ((x = 1 ∧ on_ q w Tn 64 n (w_at (gI T (m + 1)) 0) (w_at (gI T (m + 1)) 32) (gI T (m + 1))) ∨ (x = 0 ∧ ¬ on_ q w Tn 64 n (w_at (gI T (m + 1)) 0) (w_at (gI T (m + 1)) 32) (gI T (m + 1)))) := by
  obtain ⟨H0, k17, k2, k0, k4, ko, F0⟩ := mu_ hH h17
  have us := m_use hH.1.1 h2
  have th : f_X8_isOn T m (lN q) (lN w) = (f_X8_fromTape (gsI (gsI T m 2 (nI 0)) m 0 0) m 0 10).bind fun S19 => gDc S19 8 (some m) fun a21 => (f_X8_fromTape S19 a21 32 11).bind fun S23 => gDc S23 8 (some m) fun a25 => gBi (f_X8_goesOn S23 a25 (lN q) (lN w) 64 (nI n)) fun x29 S27 => if x29 = 0 ∨ x29 = 1 then some (x29, S27) else none := by
    unfold f_X8_isOn
    rw [e_dc hH.1.1, us, e_bi, e_pI (S := gsI T m 2 (nI 0)) hH.1.1, e_bs, if_neg (fun c => by rw [lg_cmp_le, show (0 : Int64) = lN 0 from rfl, pk_lLE (by omega) (by decide)] at c; omega), if_neg (fun c => by rw [lg_cmp_gt, pk_lLT (by omega) (by omega)] at c; omega), if_pos (show (64 : Int32) ≤ nI n from nI_le (a := 64) hn64 (by omega)), e_dc (S := gsI (gsI T m 2 (nI 0)) m 0 0) hH.1.1]
  rw [th]
  generalize gsI (gsI T m 2 (nI 0)) m 0 0 = S0 at *
  have g1 := ko 1 (by decide)
  have e1 := p8_fromTape (S := S0) (m := m) (p := 0) (s := 10) H0.1 (by decide) (by decide)
  have s1 := mg_A (S := S0) (m := m) (f := sl_ (gI S0 (m + 18)) 10 (w_at (gI S0 (m + 1)) 0)) k17
  have w1 : ∀ i, i < 8 → gI (gsA S0 (m + 18) (sl_ (gI S0 (m + 18)) 10 (w_at (gI S0 (m + 1)) 0))) (m + 18) (8 * 10 + i) = w_at (gI T (m + 1)) 0 i := fun i hi => by rw [sA_s, sl_in hi, g1]
  have q1 : gI (gsA S0 (m + 18) (sl_ (gI S0 (m + 18)) 10 (w_at (gI S0 (m + 1)) 0))) (m + 1) = gI T (m + 1) := by rw [sA_n (by omega), g1]
  rw [show f_X8_fromTape S0 m 0 10 = _ from e1, e_bs]
  generalize gsA S0 (m + 18) (sl_ (gI S0 (m + 18)) 10 (w_at (gI S0 (m + 1)) 0)) = S1 at *
  have H1 := mg_h s1 H0
  have e2 := p8_fromTape (S := S1) (m := m) (p := 32) (s := 11) H1.1 (by decide) (by decide)
  have s2 := mg_A (S := S1) (m := m) (f := sl_ (gI S1 (m + 18)) 11 (w_at (gI S1 (m + 1)) 32)) s1.2.2
  have w2 : ∀ i, i < 8 → gI (gsA S1 (m + 18) (sl_ (gI S1 (m + 18)) 11 (w_at (gI S1 (m + 1)) 32))) (m + 18) (8 * 11 + i) = w_at (gI T (m + 1)) 32 i := fun i hi => by rw [sA_s, sl_in hi, q1]
  have w2' : ∀ i, i < 8 → gI (gsA S1 (m + 18) (sl_ (gI S1 (m + 18)) 11 (w_at (gI S1 (m + 1)) 32))) (m + 18) (8 * 10 + i) = w_at (gI T (m + 1)) 0 i := fun i hi => by rw [sA_s, sl_out hi (by decide)]; exact w1 i hi
  have q2 : gI (gsA S1 (m + 18) (sl_ (gI S1 (m + 18)) 11 (w_at (gI S1 (m + 1)) 32))) (m + 1) = gI T (m + 1) := by rw [sA_n (by omega), q1]
  rw [e_dc H1.1.1, show f_X8_fromTape S1 m 32 11 = _ from e2, e_bs]
  generalize gsA S1 (m + 18) (sl_ (gI S1 (m + 18)) 11 (w_at (gI S1 (m + 1)) 32)) = S2 at *
  have H2 := mg_h s2 H1
  obtain ⟨Tn, x, S3, hT, hT2, e3, f3, k3, p17, hx⟩ := m_goesOn (v5 := 64) (v6 := n) (T := S2) (m := m) (A := w_at (gI T (m + 1)) 0) (B := w_at (gI T (m + 1)) 32) H2 s2.2.2 hw hq hqw hn64 hn w2' w2
  rw [q2] at hx
  have s12 := mg_tr s1 s2
  refine ⟨Tn, x, S3, hT, hT2, ?_, fr_tr (fr_mo F0 (by simp) (by simp)) (fr_tr (fr_mo s12.1 (fun x hx => by (try unfold lq_ at hx) <;> (try unfold pq_ at hx) <;> (try unfold cq_ at hx) <;> (try unfold lq_) <;> (try unfold pq_) <;> (try unfold cq_) <;> (simp only [List.mem_cons, List.not_mem_nil, or_false, false_or, List.cons_append, List.nil_append] at hx ⊢) <;> omega) (by simp)) f3), by rw [k3 2 (by decide) (by decide) (by decide), s12.2.1 2 (by decide), k2], by rw [k3 4 (by decide) (by decide) (by decide), s12.2.1 4 (by decide), k4], p17, hx⟩
  rw [e_dc H2.1.1, show f_X8_goesOn S2 m (lN q) (lN w) 64 (nI n) = _ from e3, e_bi, if_pos]
  rcases hx with ⟨q, -⟩ | ⟨q, -⟩
  · exact Or.inr q
  · exact Or.inl q
theorem o_isOn {z : Nat} {S : gS} {v1 v3 : Int64} (h : in_ z S) : ∃ r S1 S2, f_X7_isOn S z v1 v3 = some (r, S1) ∧ gK S1 (z + 45) = 8 ∧ f_X8_isOn S1 (z + 45) v1 v3 = some (r, S2) ∧ in_ z S2 := by
  have y := h.1
  have M := ly_md y
  obtain ⟨n, n1, n3, n4, eu, Fu, yu, cu⟩ := su_ h
  have hu1 : ∀ x ∈ [z + 1], u1A z x := fun x hx => by simp only [List.mem_cons, List.not_mem_nil, or_false] at hx; unfold u1A; omega
  have mu : gI (gsI S (z + 1) 1 (nI 0)) (z + 45) = gI S (z + 45) := sI_n (by omega)
  have mo : ∀ o, 2 ≤ o → gI (gsI S (z + 1) 1 (nI 0)) (z + o) = gI S (z + o) := fun o ho => sI_n (by omega)
  unfold f_X7_isOn
  rw [e_gR y.1.1, e_bs, y.1.2.1, e_dc y.2.1.1, eu, e_bi]
  generalize hSu : gsI S (z + 1) 1 (nI 0) = Su at *
  have Mu := ly_md yu
  by_cases c1 : lg_cmp v1 0 ≤ 0
  · rw [if_pos c1]
    refine ⟨0, Su, _, rfl, Mu.1, ?_, in_u0 h Fu hu1 cu⟩
    unfold f_X8_isOn
    rw [e_dc Mu.1, m_use Mu.1 (by rw [mu]; exact n3), e_bi, e_pI (S := gsI Su (z + 45) 2 (nI 0)) Mu.1, e_bs, if_pos c1]
  · rw [if_neg c1]
    by_cases c2 : lg_cmp v1 v3 ≤ 0
    · have c2' : ¬ 0 < lg_cmp v1 v3 := Int32.not_lt.mpr c2
      have d1 : ¬ v1 ≤ 0 := fun q => c1 ((lg_cmp_le _ _).mpr q)
      have d2 : v1 ≤ v3 := (lg_cmp_le _ _).mp c2
      have d3 : ¬ v1 < 0 := fun q => d1 (Int64.le_of_lt q)
      have d4 : ¬ v3 < 0 := fun q => d3 (Int64.lt_of_le_of_lt d2 q)
      obtain ⟨q, hq63, rfl⟩ := pk_lOf d3
      obtain ⟨w, hw63, rfl⟩ := pk_lOf d4
      have hq : 0 < q := by
        rw [show (0 : Int64) = lN 0 from rfl, pk_lLE hq63 (by decide)] at d1; omega
      have hqw : q ≤ w := (pk_lLE hq63 hw63).mp d2
      have T46 : gI Su (z + 46) = gI S (z + 46) := mo 46 (by decide)
      have n4u : rb_ Su (z + 2) 2200 (gI Su (z + 46)) := by rw [T46]; exact rb_fr n4 Fu y.2.1.2.2.1 (by (try unfold lq_) <;> (try unfold pq_) <;> (try unfold cq_) <;> (simp only [List.mem_cons, List.not_mem_nil, or_false, false_or, not_false_eq_true, List.cons_append, List.nil_append]) <;> omega)
      have hv8 : ∀ k, k ≤ 64 → (nI n - 64 = nI k * 32 ↔ n = 64 + 32 * k) := fun k hk => by
        rw [show (64 : Int32) = nI 64 from rfl, show (32 : Int32) = nI 32 from rfl, pk_mul]
        by_cases c : 64 ≤ n
        · rw [pk_sub c, nI_eq (by omega) (by omega)]; omega
        · constructor
          · intro e
            have := pk_sneg (a := n) (b := 64) (by decide) (by omega)
            rw [e] at this
            exact absurd this (nI_pos (by omega))
          · intro e; omega
      obtain ⟨Tn, x, S1, hT, hT2, e1, f1, hx⟩ := c_goesOn (z := z) (q := q) (n := w) (v5 := 64) (v6 := n) (r1 := z + 2) (p1 := 0) (p2 := 32) (v8 := nI n - 64) (A := w_at (gI Su (z + 46)) 0) (TR := gI Su (z + 46)) yu hw63 hq hqw n1 hv8 yu.2.1.2.2.1 (by rw [yu.2.1.2.2.2]; decide) (by rw [yu.2.1.2.2.2]; decide) (Or.inl rfl) (rb_dg n4u (by decide)) n4u (by decide)
      have hx01 : x = 0 ∨ x = 1 := by
        rcases hx with ⟨q, -⟩ | ⟨q, -⟩
        · exact Or.inr q
        · exact Or.inl q
      rw [if_pos c2, e_gR yu.1.1, e_bs, yu.1.2.1, e_gR yu.2.1.1, e_bs, yu.2.1.2.1, e_dc yu.1.1, show f_X7_goesOn Su z (lN q) (lN w) (some (z + 2)) 0 32 (nI n - 64) 64 = _ from e1, e_bi, if_pos hx01]
      have F1 : fr_S ([z + 1] ++ (pq_ (z + 35) ++ cq_ (z + 39))) [] S S1 := fr_tr (fr_mo Fu (fun _ q => List.mem_append_left _ q) (by simp)) (fr_mo f1 (fun _ q => List.mem_append_right _ q) (by simp))
      have hA : ∀ x ∈ [z + 1] ++ (pq_ (z + 35) ++ cq_ (z + 39)), u1A z x := fun x hx => by
        unfold pq_ cq_ at hx
        simp only [List.mem_cons, List.not_mem_nil, or_false, List.mem_append] at hx
        unfold u1A scA
        omega
      have nA : ∀ o, o < 20 → z + 45 + o ∉ [z + 1] ++ (pq_ (z + 35) ++ cq_ (z + 39)) := fun o ho q => by
        unfold pq_ cq_ at q
        simp only [List.mem_cons, List.not_mem_nil, or_false, List.mem_append] at q
        omega
      have y1 := ly_fr y F1 (by simp)
      have M1 := ly_md y1
      have cu1 : gI S1 (z + 1) 1 = nI 0 := by
        rw [fr_I f1 yu.2.1.1 (fun q => by unfold pq_ cq_ at q; simp only [List.mem_cons, List.not_mem_nil, or_false, List.mem_append] at q; omega)]; exact cu
      have t : ∀ o k n, (o, k, n) ∈ md_A → k < 16 → o < 20 → gI S1 (z + 45 + o) = gI S (z + 45 + o) := fun o k n hq hk h2 => fr_I F1 (ly_mk y o k n hq) (nA o h2) hk
      have m1 : gI S1 (z + 45) = gI S (z + 45) := fr_I F1 M.1 (nA 0 (by decide))
      have Hh : mh_ S1 (z + 45) := ⟨M1, ly_wf y1, fun q hq => by rw [t 17 10 64 (by decide) (by decide) (by decide)]; exact h.2.2.2.1.2 q hq⟩
      have g1 : gI S1 (z + 45 + 1) = gI Su (z + 46) := (t 1 10 2220 (by decide) (by decide) (by decide)).trans (mo 46 (by decide)).symm
      by_cases c3 : 64 ≤ n
      · obtain ⟨Tn', x', S2, hT', hT2', e2, F2, k2, k4, k17, hx'⟩ := m_isOn (T := S1) (m := z + 45) (q := q) (w := w) (n := n) Hh (by rw [m1]; exact h.2.2.2.1.1) (by rw [m1]; exact n3) n1 c3 hw63 hq hqw
        have : Tn' = Tn := T_v hT' hT2' hT hT2
        subst this
        rw [g1] at hx'
        have hxx : x = x' := by
          rcases hx with ⟨rfl, q⟩ | ⟨rfl, q⟩
          · rcases hx' with ⟨rfl, q'⟩ | ⟨rfl, q'⟩
            · rfl
            · exact (q' q).elim
          · rcases hx' with ⟨rfl, q'⟩ | ⟨rfl, q'⟩
            · exact (q q').elim
            · rfl
        subst hxx
        exact ⟨x, S1, S2, rfl, M1.1, e2, in_us h F1 hA cu1 F2 (fun x hx => by simp only [List.mem_cons, List.not_mem_nil, or_false] at hx; unfold scA; omega) k2 k4 k17⟩
      · have hx0 : x = 0 := by
          rcases hx with ⟨-, q⟩ | ⟨q, -⟩
          · exact absurd q.1 (by omega)
          · exact q
        subst hx0
        refine ⟨0, S1, _, rfl, M1.1, ?_, in_u0 h F1 hA cu1⟩
        unfold f_X8_isOn
        rw [e_dc M1.1, m_use M1.1 (by rw [m1]; exact n3), e_bi, e_pI (S := gsI S1 (z + 45) 2 (nI 0)) M1.1, e_bs, if_neg c1, if_neg c2', if_neg (show ¬ (64 : Int32) ≤ nI n from nI_ge (b := 64) (by omega) (by decide))]
    · rw [if_neg c2]
      refine ⟨0, Su, _, rfl, Mu.1, ?_, in_u0 h Fu hu1 cu⟩
      unfold f_X8_isOn
      rw [e_dc Mu.1, m_use Mu.1 (by rw [mu]; exact n3), e_bi, e_pI (S := gsI Su (z + 45) 2 (nI 0)) Mu.1, e_bs, if_neg c1, if_pos (Int32.not_le.mp c2)]
def ii_ (i w T n : Nat) (TR : Nat → Int32) : Prop := n = 64 + 32 * T ∧ ∀ q, q < 8 → cn_ (sd_ (cl_ i) w) (fun u => w_at TR (64 + 32 * u)) T (w_at TR 32) T q = w_at TR 0 q
theorem m_isIn {m i w n : Nat} {T : gS} (hH : mh_ T m) (h17 : gI T m 17 = nI 0) (h2 : gI T m 2 = nI n) (hn : n ≤ 2200) (hn64 : 64 ≤ n) (hw : w < 2 ^ 63) (hi : i < w) : ∃ Tn x S', (∀ t', t' < Tn → 2 ≤ (ds_ (cl_ i) w t').2) ∧ (ds_ (cl_ i) w Tn).2 < 2 ∧ f_X8_isIn T m (lN i) (lN w) = some (x, S') ∧ fr_S [m, m + 14, m + 15, m + 16, m + 18, m + 19] [] T S' ∧ gI S' m 2 = nI 0 ∧ gI S' m 4 = gI T m 4 ∧ gI S' m 17 = nI 0 ∧ ((x = 1 ∧ ii_ i w Tn n (gI T (m + 1))) ∨ (x = 0 ∧ ¬ ii_ i w Tn n (gI T (m + 1)))) := by
  obtain ⟨H0, k17, k2, k0, k4, ko, F0⟩ := mu_ hH h17
  have us := m_use hH.1.1 h2
  have th : f_X8_isIn T m (lN i) (lN w) = (f_X8_chainOf (gsI (gsI T m 2 (nI 0)) m 0 0) m (lN i) (lN w)).bind fun S19 => (fgI S19 8 23 (some m)).bind fun x21 => if nI n = (64 + (32 * x21)) then gDc S19 8 (some m) fun a26 => (f_X8_fromTape S19 a26 0 0).bind fun S28 => gDc S28 8 (some m) fun a30 => (f_X8_fromTape S28 a30 32 1).bind fun S32 => (fgI S32 8 23 (some m)).bind fun x34 => gLet (x34 - 1) fun x36 => f_X8_isIn_L76 gFuel S32 0 0 m x36 else some (0, S19) := by
    unfold f_X8_isIn
    rw [e_dc hH.1.1, us, e_bi, e_pI (S := gsI T m 2 (nI 0)) hH.1.1, e_bs, if_neg (fun c => by rw [lg_cmp_lt, show (0 : Int64) = lN 0 from rfl, pk_lLT (by omega) (by decide)] at c; omega), if_neg (fun c => by rw [lg_cmp_ge, pk_lLE (by omega) (by omega)] at c; omega), if_pos (show (64 : Int32) ≤ nI n from nI_le (a := 64) hn64 (by omega)), e_dc (S := gsI (gsI T m 2 (nI 0)) m 0 0) hH.1.1]
  rw [th]
  generalize gsI (gsI T m 2 (nI 0)) m 0 0 = S0 at *
  have g1 := ko 1 (by decide)
  obtain ⟨Tn, S1, e1, f1, k1, hT, hT2, s1⟩ := p8_chainOf (S := S0) (m := m) H0.1 hw hi
  have T63 : Tn ≤ 63 := (ds_b (c := cl_ i) (e := 63) (by omega) (by omega) Tn hT).2.2.1
  have H1 : mh_ S1 m := mh_fr H0 f1 (by (try unfold lq_) <;> (try unfold pq_) <;> (try unfold cq_) <;> (simp only [List.mem_cons, List.not_mem_nil, or_false, false_or, not_false_eq_true, List.cons_append, List.nil_append]) <;> omega) (by simp)
  have k17' : gI S1 m 17 = nI 0 := by rw [k1 17 (by decide)]; exact k17
  have g1' : gI S1 (m + 1) = gI T (m + 1) := (fr_I f1 (md_k H0.1 1 10 2220) (by (try unfold lq_) <;> (try unfold pq_) <;> (try unfold cq_) <;> (simp only [List.mem_cons, List.not_mem_nil, or_false, false_or, not_false_eq_true, List.cons_append, List.nil_append]) <;> omega)).trans g1
  have fin : ∀ {S' : gS}, mg_S m S1 S' → fr_S [m, m + 14, m + 15, m + 16, m + 18, m + 19] [] T S' ∧ gI S' m 2 = nI 0 ∧ gI S' m 4 = gI T m 4 ∧ gI S' m 17 = nI 0 := fun s => ⟨fr_tr (fr_mo F0 (by simp) (by simp)) (fr_tr (fr_mo f1 (fun x hx => by (try unfold lq_ at hx) <;> (try unfold pq_ at hx) <;> (try unfold cq_ at hx) <;> (try unfold lq_) <;> (try unfold pq_) <;> (try unfold cq_) <;> (simp only [List.mem_cons, List.not_mem_nil, or_false, false_or, List.cons_append, List.nil_append] at hx ⊢) <;> omega) (by simp)) (fr_mo s.1 (fun x hx => by (try unfold lq_ at hx) <;> (try unfold pq_ at hx) <;> (try unfold cq_ at hx) <;> (try unfold lq_) <;> (try unfold pq_) <;> (try unfold cq_) <;> (simp only [List.mem_cons, List.not_mem_nil, or_false, false_or, List.cons_append, List.nil_append] at hx ⊢) <;> omega) (by simp))), by rw [s.2.1 2 (by decide), k1 2 (by decide), k2], by rw [s.2.1 4 (by decide), k1 4 (by decide), k4], s.2.2⟩
  rw [e1, e_bs, e_gI H1.1.1, e_bs, s1.1, show (64 : Int32) = nI 64 from rfl, show (32 : Int32) = nI 32 from rfl, pk_mul, nI_add]
  by_cases c : n = 64 + 32 * Tn
  · rw [if_pos (by rw [nI_eq (by omega) (by omega)]; exact c), e_dc H1.1.1]
    have e2 := p8_fromTape (S := S1) (m := m) (p := 0) (s := 0) H1.1 (by decide) (by decide)
    have s2 := mg_A (S := S1) (m := m) (f := sl_ (gI S1 (m + 18)) 0 (w_at (gI S1 (m + 1)) 0)) k17'
    have w2 : ∀ i, i < 8 → gI (gsA S1 (m + 18) (sl_ (gI S1 (m + 18)) 0 (w_at (gI S1 (m + 1)) 0))) (m + 18) (8 * 0 + i) = w_at (gI T (m + 1)) 0 i := fun i hi => by rw [sA_s, sl_in hi, g1']
    have q2 : gI (gsA S1 (m + 18) (sl_ (gI S1 (m + 18)) 0 (w_at (gI S1 (m + 1)) 0))) (m + 1) = gI T (m + 1) := by rw [sA_n (by omega), g1']
    have r2 : gI (gsA S1 (m + 18) (sl_ (gI S1 (m + 18)) 0 (w_at (gI S1 (m + 1)) 0))) (m + 19) = gI S1 (m + 19) := sA_n (by omega)
    rw [show f_X8_fromTape S1 m 0 0 = _ from e2, e_bs]
    generalize gsA S1 (m + 18) (sl_ (gI S1 (m + 18)) 0 (w_at (gI S1 (m + 1)) 0)) = S2 at *
    have H2 := mg_h s2 H1
    have e3 := p8_fromTape (S := S2) (m := m) (p := 32) (s := 1) H2.1 (by decide) (by decide)
    have s3 := mg_A (S := S2) (m := m) (f := sl_ (gI S2 (m + 18)) 1 (w_at (gI S2 (m + 1)) 32)) s2.2.2
    have w3 : ∀ i, i < 8 → gI (gsA S2 (m + 18) (sl_ (gI S2 (m + 18)) 1 (w_at (gI S2 (m + 1)) 32))) (m + 18) (8 * 1 + i) = w_at (gI T (m + 1)) 32 i := fun i hi => by rw [sA_s, sl_in hi, q2]
    have w3' : ∀ i, i < 8 → gI (gsA S2 (m + 18) (sl_ (gI S2 (m + 18)) 1 (w_at (gI S2 (m + 1)) 32))) (m + 18) (8 * 0 + i) = w_at (gI T (m + 1)) 0 i := fun i hi => by rw [sA_s, sl_out hi (by decide)]; exact w2 i hi
    have q3 : gI (gsA S2 (m + 18) (sl_ (gI S2 (m + 18)) 1 (w_at (gI S2 (m + 1)) 32))) (m + 1) = gI T (m + 1) := by rw [sA_n (by omega), q2]
    have r3 : gI (gsA S2 (m + 18) (sl_ (gI S2 (m + 18)) 1 (w_at (gI S2 (m + 1)) 32))) (m + 19) = gI S1 (m + 19) := by rw [sA_n (by omega), r2]
    rw [e_dc H2.1.1, show f_X8_fromTape S2 m (nI 32) 1 = _ from e3, e_bs]
    generalize gsA S2 (m + 18) (sl_ (gI S2 (m + 18)) 1 (w_at (gI S2 (m + 1)) 32)) = S3 at *
    have H3 := mg_h s3 H2
    have s23 := mg_tr s2 s3
    have p23 : gI S3 m 23 = gI S1 m 23 := s23.2.1 23 (by decide)
    obtain ⟨fu, hf⟩ := g_fu Tn
    obtain ⟨x, S4, e4, s4, hx⟩ := p8_isInL (c := cl_ i) (n := w) (W := w_at (gI T (m + 1)) 0) (X := w_at (gI T (m + 1)) 32) T63 fu Tn (Nat.le_refl _) S3 H3 s3.2.2 (sm_o s1 p23 r3) w3' (fun q hq => by rw [Nat.sub_self]; exact w3 q hq)
    rw [Nat.sub_self, Nat.mul_zero] at e4
    rw [q3] at hx
    obtain ⟨x1, x2, x3, x4⟩ := fin (mg_tr s23 s4)
    refine ⟨Tn, x, S4, hT, hT2, ?_, x1, x2, x3, x4, ?_⟩
    · rw [e_gI H3.1.1, e_bs, p23, s1.1, e_let, hf, show Tn + fu + 1 = fu + Tn + 1 by omega]
      exact e4
    · rcases hx with ⟨rfl, q⟩ | ⟨rfl, q⟩
      · exact Or.inl ⟨rfl, c, fun j hj => (q j hj).symm⟩
      · exact Or.inr ⟨rfl, fun w => q fun j hj => (w.2 j hj).symm⟩
  · rw [if_neg (by rw [nI_eq (by omega) (by omega)]; exact c)]
    obtain ⟨x1, x2, x3, x4⟩ := fin (mg_rf k17')
    exact ⟨Tn, 0, S1, hT, hT2, rfl, x1, x2, x3, x4, Or.inr ⟨rfl, fun w => c w.1⟩⟩
theorem o_isIn {z : Nat} {S : gS} {v1 v3 : Int64} (h : in_ z S) : ∃ r S1 S2, f_X7_isIn S z v1 v3 = some (r, S1) ∧ gK S1 (z + 45) = 8 ∧ f_X8_isIn S1 (z + 45) v1 v3 = some (r, S2) ∧ in_ z S2 := by
  have y := h.1
  have M := ly_md y
  obtain ⟨n, n1, n3, n4, eu, Fu, yu, cu⟩ := su_ h
  have hu1 : ∀ x ∈ [z + 1], u1A z x := fun x hx => by simp only [List.mem_cons, List.not_mem_nil, or_false] at hx; unfold u1A; omega
  have mu : gI (gsI S (z + 1) 1 (nI 0)) (z + 45) = gI S (z + 45) := sI_n (by omega)
  have mo : ∀ o, 2 ≤ o → gI (gsI S (z + 1) 1 (nI 0)) (z + o) = gI S (z + o) := fun o ho => sI_n (by omega)
  unfold f_X7_isIn
  rw [e_gR y.1.1, e_bs, y.1.2.1, e_dc y.2.1.1, eu, e_bi]
  generalize hSu : gsI S (z + 1) 1 (nI 0) = Su at *
  have Mu := ly_md yu
  by_cases c1 : lg_cmp v1 0 < 0
  · rw [if_pos c1]
    refine ⟨0, Su, _, rfl, Mu.1, ?_, in_u0 h Fu hu1 cu⟩
    unfold f_X8_isIn
    rw [e_dc Mu.1, m_use Mu.1 (by rw [mu]; exact n3), e_bi, e_pI (S := gsI Su (z + 45) 2 (nI 0)) Mu.1, e_bs, if_pos c1]
  · rw [if_neg c1]
    by_cases c2 : lg_cmp v1 v3 < 0
    · have c2' : ¬ 0 ≤ lg_cmp v1 v3 := Int32.not_le.mpr c2
      have d3 : ¬ v1 < 0 := fun q => c1 ((lg_cmp_lt _ _).mpr q)
      have d2 : v1 < v3 := (lg_cmp_lt _ _).mp c2
      have d4 : ¬ v3 < 0 := fun q => d3 (Int64.lt_trans d2 q)
      obtain ⟨i, hi63, rfl⟩ := pk_lOf d3
      obtain ⟨w, hw63, rfl⟩ := pk_lOf d4
      have hiw : i < w := (pk_lLT hi63 hw63).mp d2
      have T46 : gI Su (z + 46) = gI S (z + 46) := mo 46 (by decide)
      have n4u : rb_ Su (z + 2) 2200 (gI Su (z + 46)) := by rw [T46]; exact rb_fr n4 Fu y.2.1.2.2.1 (by (try unfold lq_) <;> (try unfold pq_) <;> (try unfold cq_) <;> (simp only [List.mem_cons, List.not_mem_nil, or_false, false_or, not_false_eq_true, List.cons_append, List.nil_append]) <;> omega)
      obtain ⟨Tn, S1, e1, f1, hT, hT2, i1⟩ := p_goToLeaf (p := z + 35) yu.2.2.2.2.2.2.1 hw63 hiw
      have T63 : Tn ≤ 63 := (ds_b (c := cl_ i) (e := 63) (by omega) (by omega) Tn hT).2.2.1
      have y1 := ly_fr yu f1 (by simp)
      have e2 := p_digests y1.2.2.2.2.2.2.1 i1 (Or.inl rfl)
      have nq : ∀ x, (x < z + 35 ∨ z + 66 ≤ x) → x ∉ pq_ (z + 35) ++ cq_ (z + 39) := fun x hx h => by
        unfold pq_ cq_ at h
        simp only [List.mem_cons, List.not_mem_nil, or_false, List.mem_append] at h
        omega
      have F1 : fr_S (pq_ (z + 35) ++ cq_ (z + 39)) [] Su S1 := fr_mo f1 (fun _ h => List.mem_append_left _ h) (by simp)
      -- what the class answers
      have cls : ∃ x S', (if nI n = 64 + nI (Tn + 0) * 32 then (fgR S1 7 5 (some z)).bind fun x30 => (fgR S1 7 0 (some z)).bind fun x32 => (fgR S1 5 0 x32).bind fun x34 => gDc S1 0 x30 fun a36 => (f_X0_start S1 a36 x34 32).bind fun S38 => (fgR S38 7 5 (some z)).bind fun x40 => (fgR S38 7 4 (some z)).bind fun x42 => (fgR S38 7 0 (some z)).bind fun x44 => (fgR S38 5 0 x44).bind fun x46 => gDc S38 0 x40 fun a48 => (f_X0_climb S38 a48 x42 x46 64).bind fun S50 => (fgR S50 7 5 (some z)).bind fun x52 => (fgR S50 7 0 (some z)).bind fun x54 => (fgR S50 5 0 x54).bind fun x56 => gDc S50 0 x52 fun a58 => gBi (f_X0_cameTo S50 a58 x56 0) fun x62 S60 => if x62 = 0 ∨ x62 = 1 then some (x62, S60) else none else some (0, S1)) = some (x, S') ∧ fr_S (pq_ (z + 35) ++ cq_ (z + 39)) [] Su S' ∧ ((x = 1 ∧ ii_ i w Tn n (gI Su (z + 46))) ∨ (x = 0 ∧ ¬ ii_ i w Tn n (gI Su (z + 46)))) := by
        have cc : (nI n = 64 + nI (Tn + 0) * 32) ↔ n = 64 + 32 * Tn := by
          rw [show (64 : Int32) = nI 64 from rfl, show (32 : Int32) = nI 32 from rfl, pk_mul, nI_add, nI_eq (by omega) (by omega)]; omega
        by_cases c : n = 64 + 32 * Tn
        · have rb1 : rb_ S1 (z + 2) 2200 (gI Su (z + 46)) := rb_fr n4u F1 yu.2.1.2.2.1 (nq _ (by omega))
          obtain ⟨S2, e3, f3, d3, d3'⟩ := p_start (k := z + 39) (r := z + 2) (p := 32) (W := w_at (gI Su (z + 46)) 32) y1.2.2.2.2.2.2.2.1 y1.2.1.2.2.1 (by rw [y1.2.1.2.2.2]; decide) (by rw [y1.2.1.2.2.2]; decide) (by omega) (by omega) (rb_dg rb1 (by decide))
          have y2 := ly_fr y1 f3 (by simp)
          have F2 : fr_S (pq_ (z + 35) ++ cq_ (z + 39)) [] Su S2 := fr_tr F1 (fr_mo f3 (fun _ h => List.mem_append_right _ h) (by simp))
          have rb2 : rb_ S2 (z + 2) 2200 (gI Su (z + 46)) := rb_fr n4u F2 yu.2.1.2.2.1 (nq _ (by omega))
          have i2 := ptI_fr i1 y1.2.2.2.2.2.2.1 f3 (by (try unfold lq_) <;> (try unfold pq_) <;> (try unfold cq_) <;> (simp only [List.mem_cons, List.not_mem_nil, or_false, false_or, not_false_eq_true, List.cons_append, List.nil_append]) <;> omega) (by (try unfold lq_) <;> (try unfold pq_) <;> (try unfold cq_) <;> (simp only [List.mem_cons, List.not_mem_nil, or_false, false_or, not_false_eq_true, List.cons_append, List.nil_append]) <;> omega) (by (try unfold lq_) <;> (try unfold pq_) <;> (try unfold cq_) <;> (simp only [List.mem_cons, List.not_mem_nil, or_false, false_or, not_false_eq_true, List.cons_append, List.nil_append]) <;> omega) (by (try unfold lq_) <;> (try unfold pq_) <;> (try unfold cq_) <;> (simp only [List.mem_cons, List.not_mem_nil, or_false, false_or, not_false_eq_true, List.cons_append, List.nil_append]) <;> omega)
          obtain ⟨S3, e4, f4, d4, d4'⟩ := p_climb (z := z) (q0 := 64) (c := cl_ i) (n := w) (T := Tn) (e := 0) (D := fun u => w_at (gI Su (z + 46)) (64 + 32 * u)) (X := w_at (gI Su (z + 46)) 32) T63 (by decide) (by omega) y2.2.2.2.2.2.2.2.1 y2.2.2.2.2.2.2.1 i2 y2.2.1.2.2.1 y2.2.1.2.2.2 (fun u hu => by rw [Nat.mul_zero, Nat.add_zero]; exact rb_dg rb2 (by omega)) (fun he => absurd he (by decide)) (fun he => ⟨d3, d3'⟩)
          have y3 := ly_fr y2 f4 (by simp)
          have F3 : fr_S (pq_ (z + 35) ++ cq_ (z + 39)) [] Su S3 := fr_tr F2 (fr_mo f4 (fun _ h => List.mem_append_right _ h) (by simp))
          have rb3 : rb_ S3 (z + 2) 2200 (gI Su (z + 46)) := rb_fr n4u F3 yu.2.1.2.2.1 (nq _ (by omega))
          obtain ⟨x2, e6, hx2⟩ := p_came (k := z + 39) (r := z + 2) (p := 0) (W := w_at (gI Su (z + 46)) 0) y3.2.2.2.2.2.2.2.1 y3.2.1.2.2.1 (by rw [y3.2.1.2.2.2]; decide) (by rw [y3.2.1.2.2.2]; decide) d4' (rb_dg rb3 (by decide))
          refine ⟨x2, S3, ?_, F3, ?_⟩
          · rw [if_pos (cc.mpr c), e_gR y1.1.1, e_bs, y1.1.2.2.2.2.2.2, e_gR y1.1.1, e_bs, y1.1.2.1, e_gR y1.2.1.1, e_bs, y1.2.1.2.1, e_dc y1.2.2.2.2.2.2.2.1.1.1, show f_X0_start S1 (z + 39) (some (z + 2)) 32 = _ from e3, e_bs, e_gR y2.1.1, e_bs, y2.1.2.2.2.2.2.2, e_gR y2.1.1, e_bs, y2.1.2.2.2.2.2.1, e_gR y2.1.1, e_bs, y2.1.2.1, e_gR y2.2.1.1, e_bs, y2.2.1.2.1, e_dc y2.2.2.2.2.2.2.2.1.1.1, show f_X0_climb S2 (z + 39) (some (z + 35)) (some (z + 2)) 64 = _ from e4, e_bs, e_gR y3.1.1, e_bs, y3.1.2.2.2.2.2.2, e_gR y3.1.1, e_bs, y3.1.2.1, e_gR y3.2.1.1, e_bs, y3.2.1.2.1, e_dc y3.2.2.2.2.2.2.2.1.1.1, show f_X0_cameTo S3 (z + 39) (some (z + 2)) 0 = _ from e6, e_bi, if_pos]
            rcases hx2 with ⟨q, -⟩ | ⟨q, -⟩
            · exact Or.inr q
            · exact Or.inl q
          · rcases hx2 with ⟨q, q'⟩ | ⟨q, q'⟩
            · exact Or.inl ⟨q, c, q'⟩
            · exact Or.inr ⟨q, fun w => q' w.2⟩
        · exact ⟨0, S1, by rw [if_neg (fun q => c (cc.mp q))], F1, Or.inr ⟨rfl, fun w => c w.1⟩⟩
      obtain ⟨x, S2, e3, F2', hx⟩ := cls
      rw [if_pos c2, e_gR yu.1.1, e_bs, yu.1.2.2.2.2.2.1, e_dc yu.2.2.2.2.2.2.1.1.1, e1, e_bs, e_gR y1.1.1, e_bs, y1.1.2.2.2.2.2.1, e_dc y1.2.2.2.2.2.2.1.1.1, e2, e_bi, e3]
      have F2 : fr_S ([z + 1] ++ (pq_ (z + 35) ++ cq_ (z + 39))) [] S S2 := fr_tr (fr_mo Fu (fun _ q => List.mem_append_left _ q) (by simp)) (fr_mo F2' (fun _ q => List.mem_append_right _ q) (by simp))
      have hA : ∀ x ∈ [z + 1] ++ (pq_ (z + 35) ++ cq_ (z + 39)), u1A z x := fun x hx => by
        unfold pq_ cq_ at hx
        simp only [List.mem_cons, List.not_mem_nil, or_false, List.mem_append] at hx
        unfold u1A scA
        omega
      have nA : ∀ o, o < 20 → z + 45 + o ∉ [z + 1] ++ (pq_ (z + 35) ++ cq_ (z + 39)) := fun o ho q => by
        unfold pq_ cq_ at q
        simp only [List.mem_cons, List.not_mem_nil, or_false, List.mem_append] at q
        omega
      have y2 := ly_fr y F2 (by simp)
      have M2 := ly_md y2
      have cu1 : gI S2 (z + 1) 1 = nI 0 := by rw [fr_I F2' yu.2.1.1 (nq _ (by omega))]; exact cu
      have t : ∀ o k n, (o, k, n) ∈ md_A → k < 16 → o < 20 → gI S2 (z + 45 + o) = gI S (z + 45 + o) := fun o k n hq hk h2 => fr_I F2 (ly_mk y o k n hq) (nA o h2) hk
      have m1 : gI S2 (z + 45) = gI S (z + 45) := fr_I F2 M.1 (nA 0 (by decide))
      have Hh : mh_ S2 (z + 45) := ⟨M2, ly_wf y2, fun q hq => by rw [t 17 10 64 (by decide) (by decide) (by decide)]; exact h.2.2.2.1.2 q hq⟩
      have g1 : gI S2 (z + 45 + 1) = gI Su (z + 46) := (t 1 10 2220 (by decide) (by decide) (by decide)).trans (mo 46 (by decide)).symm
      by_cases c3 : 64 ≤ n
      · obtain ⟨Tn', x', S3, hT', hT2', e4, F3, k2, k4, k17, hx'⟩ := m_isIn (T := S2) (m := z + 45) (i := i) (w := w) (n := n) Hh (by rw [m1]; exact h.2.2.2.1.1) (by rw [m1]; exact n3) n1 c3 hw63 hiw
        have : Tn' = Tn := T_u hT' hT2' hT hT2
        subst this
        rw [g1] at hx'
        have hxx : x = x' := by
          rcases hx with ⟨rfl, q⟩ | ⟨rfl, q⟩
          · rcases hx' with ⟨rfl, q'⟩ | ⟨rfl, q'⟩
            · rfl
            · exact (q' q).elim
          · rcases hx' with ⟨rfl, q'⟩ | ⟨rfl, q'⟩
            · exact (q q').elim
            · rfl
        subst hxx
        exact ⟨x, S2, S3, rfl, M2.1, e4, in_us h F2 hA cu1 F3 (fun x hx => by simp only [List.mem_cons, List.not_mem_nil, or_false] at hx; unfold scA; omega) k2 k4 k17⟩
      · have hx0 : x = 0 := by
          rcases hx with ⟨-, q⟩ | ⟨q, -⟩
          · exact absurd q.1 (by omega)
          · exact q
        subst hx0
        refine ⟨0, S2, _, rfl, M2.1, ?_, in_u0 h F2 hA cu1⟩
        unfold f_X8_isIn
        rw [e_dc M2.1, m_use M2.1 (by rw [m1]; exact n3), e_bi, e_pI (S := gsI S2 (z + 45) 2 (nI 0)) M2.1, e_bs, if_neg c1, if_neg c2', if_neg (show ¬ (64 : Int32) ≤ nI n from nI_ge (b := 64) (by omega) (by decide))]
    · rw [if_neg c2]
      refine ⟨0, Su, _, rfl, Mu.1, ?_, in_u0 h Fu hu1 cu⟩
      unfold f_X8_isIn
      rw [e_dc Mu.1, m_use Mu.1 (by rw [mu]; exact n3), e_bi, e_pI (S := gsI Su (z + 45) 2 (nI 0)) Mu.1, e_bs, if_neg c1, if_pos (Int32.not_lt.mp c2)]
