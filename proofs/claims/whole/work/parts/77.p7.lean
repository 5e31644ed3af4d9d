/-! follow: the judgement -/
theorem bx_ (X : Prop) : ∃ p : Bool, (p = true ↔ X) := by
  by_cases h : X
  · exact ⟨true, ⟨fun _ => h, fun _ => rfl⟩⟩
  · exact ⟨false, ⟨fun e => absurd e (by decide), fun w => (h w).elim⟩⟩
def jc_ (p e o : Bool) (t s t0 s0 : Int64) (n : Nat) (fl : Int32) : Int32 := if t < 0 ∨ s < 0 ∨ p = false then 1 else if fl = 0 then (if n = 80 then 0 else 4) else if s < s0 then 2 else if s = s0 ∧ e = false then 3 else if ((s = s0 ∨ s0 = 0) ∧ n = 80) ∨ (¬ (s = s0 ∨ s0 = 0) ∧ o = true) then (if t < t0 then 5 else 0) else 4
theorem jc_0 {p e o : Bool} {t s t0 s0 : Int64} {n : Nat} {fl : Int32} (h : jc_ p e o t s t0 s0 n fl = 0) : ¬ s < 0 := by
  intro c
  unfold jc_ at h
  rw [if_pos (Or.inr (Or.inl c))] at h
  exact absurd h (by decide)
theorem jc_3 {p e o : Bool} {t s t0 s0 : Int64} {n : Nat} {fl : Int32} (h : jc_ p e o t s t0 s0 n fl = 3) : ¬ fl = 0 := by
  intro c
  unfold jc_ at h
  by_cases c1 : t < 0 ∨ s < 0 ∨ p = false
  · rw [if_pos c1] at h; exact absurd h (by decide)
  · rw [if_neg c1, if_pos c] at h
    by_cases c2 : n = 80
    · rw [if_pos c2] at h; exact absurd h (by decide)
    · rw [if_neg c2] at h; exact absurd h (by decide)
def onP (q n v5 v6 : Nat) (A B TR : Nat → Int32) : Prop := ∃ Tn, (∀ t', t' < Tn → q < (ds_ (cs_ q) n t').1 + (ds_ (cs_ q) n t').2) ∧ (ds_ (cs_ q) n Tn).1 + (ds_ (cs_ q) n Tn).2 ≤ q ∧ on_ q n Tn v5 v6 A B TR
theorem onP_i {q n v5 v6 Tn : Nat} {A B TR : Nat → Int32} (h1 : ∀ t', t' < Tn → q < (ds_ (cs_ q) n t').1 + (ds_ (cs_ q) n t').2) (h2 : (ds_ (cs_ q) n Tn).1 + (ds_ (cs_ q) n Tn).2 ≤ q) : onP q n v5 v6 A B TR ↔ on_ q n Tn v5 v6 A B TR := by
  constructor
  · rintro ⟨T', h1', h2', h3⟩
    have : T' = Tn := T_v h1' h2' h1 h2
    subst this
    exact h3
  · exact fun h3 => ⟨Tn, h1, h2, h3⟩
theorem rb_lg {S : gS} {r N p : Nat} {T : Nat → Int32} (h : rb_ S r N T) (hk : gK S r = 9) (hN : gN S r = N) (hN2 : N < 2 ^ 31) (hp : p + 8 ≤ N) : f_X3_readLong S (some r) (nI p) = some (s_lg T p, S) := by
  rw [p_readLong hk (by omega) (by omega)]
  congr 2
  exact lg_c (fun j hj => rb_and h (by omega))
theorem l0_ {s : Int64} : lg_cmp s 0 < 0 ↔ s < 0 := lg_cmp_lt _ _
theorem tn_ {q : Nat} (h : q < 2 ^ 63) : (lN q).toInt.toNat = q := by rw [pk_lT h]; rfl
theorem n80_ {n : Nat} (h80 : 80 ≤ n) (hn : n ≤ 2200) : nI (n - 80) = 0 ↔ n = 80 := by
  rw [show (0 : Int32) = nI 0 from rfl, nI_eq (by omega) (by decide)]; omega
theorem c_j137 {z r n : Nat} {S : gS} {V : Nat → Int32} {t : Int64} (Q : vq_ z S r V) (h80 : 80 ≤ n) (hn : n ≤ 2200) : f_X7_judge_B137 S (some r) (nI (n - 80)) t = some (if n = 80 then (if t < s_lg V 0 then 5 else 0) else 4, S) := by
  obtain ⟨bb, k3, -, -, -, -, -⟩ := vq_b Q
  unfold f_X7_judge_B137
  by_cases c : n = 80
  · rw [if_pos ((n80_ h80 hn).mpr c), if_neg (by decide), e_dc k3, show f_X3_longAt S r 0 = _ from vq_lg (p := 0) Q (by decide), e_bi, if_pos c]
    by_cases c2 : t < s_lg V 0
    · rw [if_pos c2, if_neg (fun q => absurd c2 (Int64.not_lt.mpr ((lg_cmp_ge _ _).mp q)))]
    · rw [if_neg c2, if_pos ((lg_cmp_ge _ _).mpr (Int64.not_lt.mp c2))]
  · rw [if_neg (fun q => c ((n80_ h80 hn).mp q)), if_pos rfl, if_neg c]
theorem c_judge {z l n : Nat} {R : Option Nat} {S : gS} {TR KB V : Nat → Int32} {p e o : Bool} {fl : Int32} (y : ly_ z S) (hl : l < 2) (h80 : 80 ≤ n) (hn : n ≤ 2200) (hrb : rb_ S (z + 2) 2200 TR) (hkb : ∀ j, j < 64 → gI S (z + 6 + 10 * l + 4) j = sb_ (KB j)) (hR : (fl = 0 ∧ R = none) ∨ (fl = 1 ∧ ¬ s_lg V 8 < 0 ∧ ∃ r, R = some r ∧ vq_ z S r V)) (hp : p = true ↔ ∀ i, i < 8 → s_sl KB TR i = w_at TR 48 i) (he : e = true ↔ ∀ i, i < 8 → w_at V 16 i = w_at TR 16 i) (ho : o = true ↔ onP (s_lg V 8).toInt.toNat (s_lg TR 8).toInt.toNat 80 n (w_at V 16) (w_at TR 16) TR) : ∃ S', f_X7_judge S z R (some (z + 6 + 10 * l)) (nI (n - 80)) = some (jc_ p e o (s_lg TR 0) (s_lg TR 8) (s_lg V 0) (s_lg V 8) n fl, S') ∧ fr_S (lq_ (z + 6 + 10 * l) ++ (pq_ (z + 35) ++ cq_ (z + 39))) [] S S' := by
  have k2 := y.2.1.2.2.1
  have n2 := y.2.1.2.2.2
  unfold f_X7_judge jc_
  rw [e_gR y.1.1, e_bs, y.1.2.1, e_gR y.2.1.1, e_bs, y.2.1.2.1, show f_X3_readLong S (some (z + 2)) 0 = _ from rb_lg (p := 0) hrb k2 n2 (by decide) (by decide), e_bi, e_gR y.1.1, e_bs, y.1.2.1, e_gR y.2.1.1, e_bs, y.2.1.2.1, show f_X3_readLong S (some (z + 2)) 8 = _ from rb_lg (p := 8) hrb k2 n2 (by decide) (by decide), e_bi]
  by_cases c1 : s_lg TR 0 < 0
  · rw [if_pos (l0_.mpr c1), if_pos (Or.inl c1)]
    exact ⟨S, rfl, fr_refl _ _ _⟩
  by_cases c2 : s_lg TR 8 < 0
  · rw [if_neg (fun q => c1 (l0_.mp q)), if_pos (l0_.mpr c2), if_pos (Or.inr (Or.inl c2))]
    exact ⟨S, rfl, fr_refl _ _ _⟩
  obtain ⟨x, S1, e1, f1, hx⟩ := p_hasSealed (r := z + 2) (KB := KB) (H := TR) (W := w_at TR 48) (ly_lg y hl) hkb k2 (by rw [n2]; decide) (by rw [n2]; decide) (by omega) (fun j hj => rb_and hrb (by omega)) (rb_dg hrb (by decide))
  have F1 : fr_S (lq_ (z + 6 + 10 * l) ++ (pq_ (z + 35) ++ cq_ (z + 39))) [] S S1 := fr_mo f1 (fun _ q => List.mem_append_left _ q) (by simp)
  have A6 : ∀ x ∈ lq_ (z + 6 + 10 * l), x < z + 66 := fun x hx => by unfold lq_ at hx; simp only [List.mem_cons, List.not_mem_nil, or_false] at hx; omega
  have y1 := ly_fr y f1 (by simp)
  have rb1 : rb_ S1 (z + 2) 2200 TR := rb_fr hrb f1 k2 (by (try unfold lq_) <;> (try unfold pq_) <;> (try unfold cq_) <;> (simp only [List.mem_cons, List.not_mem_nil, or_false, false_or, not_false_eq_true, List.cons_append, List.nil_append]) <;> omega)
  rw [if_neg (fun q => c1 (l0_.mp q)), if_neg (fun q => c2 (l0_.mp q)), e_gR y.1.1, e_bs, y.1.2.1, e_gR y.2.1.1, e_bs, y.2.1.2.1, e_dc (ly_lg y hl).1, e1, e_bi]
  rcases hx with ⟨rfl, hP⟩ | ⟨rfl, hP⟩
  rotate_left
  · have hpf : p = false := by
      cases p with
      | false => rfl
      | true => exact (hP (hp.mp rfl)).elim
    rw [if_pos rfl, if_pos (Or.inr (Or.inr hpf))]
    exact ⟨S1, rfl, F1⟩
  have hpt : ¬ p = false := by rw [hp.mpr hP]; decide
  rw [if_neg (by decide), if_neg (show ¬ (s_lg TR 0 < 0 ∨ s_lg TR 8 < 0 ∨ p = false) from fun w => w.elim c1 (fun w => w.elim c2 hpt))]
  rcases hR with ⟨rfl, rfl⟩ | ⟨rfl, hs0, r, rfl, Q0⟩
  · rw [e_nn, if_pos rfl]
    by_cases c : n = 80
    · rw [if_pos ((n80_ h80 hn).mpr c), if_pos c]
      exact ⟨S1, rfl, F1⟩
    · rw [if_neg (fun q => c ((n80_ h80 hn).mp q)), if_neg c]
      exact ⟨S1, rfl, F1⟩
  have Q := vq_fr Q0 f1 A6 (by simp)
  obtain ⟨bb, k3, R0, zb, kb9, nb, rbv⟩ := vq_b Q
  rw [e_nl, e_dc k3, show f_X3_longAt S1 r 8 = _ from vq_lg (p := 8) Q (by decide), e_bi, if_neg (show ¬ (1 : Int32) = 0 by decide)]
  by_cases c4 : s_lg TR 8 < s_lg V 8
  · rw [if_neg (fun q => absurd c4 (Int64.not_lt.mpr ((lg_cmp_ge _ _).mp q))), if_pos c4]
    exact ⟨S1, rfl, F1⟩
  rw [if_pos ((lg_cmp_ge _ _).mpr (Int64.not_lt.mp c4)), if_neg c4]
  have j137 := c_j137 (t := s_lg TR 0) Q h80 hn
  by_cases c5 : s_lg TR 8 = s_lg V 8
  · obtain ⟨xs, es, hxs⟩ := p_same (S := S1) (r1 := bb) (r2 := z + 2) (p1 := 16) (p2 := 16) (n := 32) kb9 y1.2.1.2.2.1 (by omega) (by rw [y1.2.1.2.2.2]; decide) (by omega) (by rw [y1.2.1.2.2.2]; decide) (by decide)
    rw [same_dg (rb_dg rbv (by decide)) (rb_dg rb1 (by decide))] at hxs
    rw [if_pos ((lg_cmp_eq _ _).mpr c5), e_gR k3, e_bs, R0, e_gR y1.1.1, e_bs, y1.1.2.1, e_gR y1.2.1.1, e_bs, y1.2.1.2.1, show f_X3_same S1 (some bb) 16 (some (z + 2)) 16 32 = _ from es, e_bi]
    rcases hxs with ⟨rfl, hE⟩ | ⟨rfl, hE⟩
    · have het : ¬ (s_lg TR 8 = s_lg V 8 ∧ e = false) := fun w => by rw [he.mpr hE] at w; exact absurd w.2 (by decide)
      rw [if_neg (by decide), if_neg het]
      unfold f_X7_judge_B122
      rw [if_pos ((lg_cmp_eq _ _).mpr c5), j137]
      refine ⟨S1, ?_, F1⟩
      by_cases c : n = 80
      · rw [if_pos c, if_pos (show ((s_lg TR 8 = s_lg V 8 ∨ s_lg V 8 = 0) ∧ n = 80) ∨ _ from Or.inl ⟨Or.inl c5, c⟩)]
      · rw [if_neg c, if_neg (show ¬ (((s_lg TR 8 = s_lg V 8 ∨ s_lg V 8 = 0) ∧ n = 80) ∨ (¬ (s_lg TR 8 = s_lg V 8 ∨ s_lg V 8 = 0) ∧ o = true)) from fun w => w.elim (fun w => c w.2) (fun w => w.1 (Or.inl c5)))]
    · have hef : e = false := by
        cases e with
        | false => rfl
        | true => exact (hE (he.mp rfl)).elim
      rw [if_pos rfl, if_pos ⟨c5, hef⟩]
      exact ⟨S1, rfl, F1⟩
  · have c5' : ¬ lg_cmp (s_lg TR 8) (s_lg V 8) = 0 := fun q => c5 ((lg_cmp_eq _ _).mp q)
    rw [if_neg c5', if_neg (fun w => c5 w.1)]
    unfold f_X7_judge_B122
    rw [if_neg c5']
    by_cases c6 : s_lg V 8 = 0
    · rw [if_pos ((lg_cmp_eq _ _).mpr c6), j137]
      refine ⟨S1, ?_, F1⟩
      by_cases c : n = 80
      · rw [if_pos c, if_pos (show ((s_lg TR 8 = s_lg V 8 ∨ s_lg V 8 = 0) ∧ n = 80) ∨ _ from Or.inl ⟨Or.inr c6, c⟩)]
      · rw [if_neg c, if_neg (show ¬ (((s_lg TR 8 = s_lg V 8 ∨ s_lg V 8 = 0) ∧ n = 80) ∨ (¬ (s_lg TR 8 = s_lg V 8 ∨ s_lg V 8 = 0) ∧ o = true)) from fun w => w.elim (fun w => c w.2) (fun w => w.1 (Or.inr c6)))]
    · obtain ⟨q, hq63, hq⟩ := pk_lOf hs0
      obtain ⟨w, hw63, hw⟩ := pk_lOf c2
      have hq0 : 0 < q := by
        rcases Nat.eq_zero_or_pos q with c | c
        · rw [c] at hq; exact (c6 hq).elim
        · exact c
      have hqw : q ≤ w := by
        have := Int64.not_lt.mp c4
        rw [hq, hw, pk_lLE hq63 hw63] at this
        exact this
      have hv8 : ∀ k, k ≤ 64 → (nI (n - 80) = nI k * 32 ↔ n = 80 + 32 * k) := fun k hk => by
        rw [show (32 : Int32) = nI 32 from rfl, pk_mul, nI_eq (by omega) (by omega)]; omega
      obtain ⟨Tn, x, S2, hT, hT2, e2, f2, hx⟩ := c_goesOn (z := z) (q := q) (n := w) (v5 := 80) (v6 := n) (r1 := bb) (p1 := 16) (p2 := 16) (v8 := nI (n - 80)) (A := w_at V 16) (TR := TR) y1 hw63 hq0 hqw hn hv8 kb9 (by omega) (by omega) (Or.inr zb) (rb_dg rbv (by decide)) rb1 (by decide)
      have A62 : ∀ x ∈ pq_ (z + 35) ++ cq_ (z + 39), x < z + 66 := fun x hx => by unfold pq_ cq_ at hx; simp only [List.mem_cons, List.not_mem_nil, or_false, List.mem_append] at hx; omega
      have F2 : fr_S (lq_ (z + 6 + 10 * l) ++ (pq_ (z + 35) ++ cq_ (z + 39))) [] S S2 := fr_tr F1 (fr_mo f2 (fun _ q => List.mem_append_right _ q) (by simp))
      have Q2 := vq_fr Q f2 A62 (by simp)
      obtain ⟨bb2, k32, -, -, -, -, -⟩ := vq_b Q2
      rw [hq, hw, tn_ hq63, tn_ hw63, onP_i hT hT2] at ho
      rw [if_neg (fun q => c6 ((lg_cmp_eq _ _).mp q)), e_gR k3, e_bs, R0, e_dc y1.1.1, show f_X7_goesOn S1 z (s_lg V 8) (s_lg TR 8) (some bb) 16 16 (nI (n - 80)) 80 = some (x, S2) from by rw [hq, hw]; exact e2, e_bi]
      rcases hx with ⟨rfl, hO⟩ | ⟨rfl, hO⟩
      · rw [if_neg (by decide), e_dc k32, show f_X3_longAt S2 r 0 = _ from vq_lg (p := 0) Q2 (by decide), e_bi, if_pos (show (_ ∧ n = 80) ∨ (¬ (s_lg TR 8 = s_lg V 8 ∨ s_lg V 8 = 0) ∧ o = true) from Or.inr ⟨fun w => w.elim c5 c6, ho.mpr hO⟩)]
        refine ⟨S2, ?_, F2⟩
        by_cases c : s_lg TR 0 < s_lg V 0
        · rw [if_pos c, if_neg (fun q => absurd c (Int64.not_lt.mpr ((lg_cmp_ge _ _).mp q)))]
        · rw [if_neg c, if_pos ((lg_cmp_ge _ _).mpr (Int64.not_lt.mp c))]
      · rw [if_pos rfl, if_neg (show ¬ (((s_lg TR 8 = s_lg V 8 ∨ s_lg V 8 = 0) ∧ n = 80) ∨ (¬ (s_lg TR 8 = s_lg V 8 ∨ s_lg V 8 = 0) ∧ o = true)) from fun w => w.elim (fun w => w.1.elim c5 c6) (fun w => hO (ho.mp w.2)))]
        exact ⟨S2, rfl, F2⟩
