/-! what witnesses keep; gossip -/
def vq_ (z : Nat) (S : gS) (r : Nat) (V : Nat → Int32) : Prop := (∀ j, j < 80 → bt_ (V j)) ∧ rw_at (z + 66) S r 80 (fun j => sb_ (V j))
def vp_ (z : Nat) (S : gS) (q : Nat) (R : Option Nat) (fl : Int32) (V : Nat → Int32) : Prop := (fl = 0 ∧ R = none) ∨ (fl = 1 ∧ (∀ j, j < 80 → bt_ (V j)) ∧ (q = 0 → ¬ s_lg V 8 < 0) ∧ ∃ r, R = some r ∧ rw_at (z + 66) S r 80 (fun j => sb_ (V j)))
def vs_ (z : Nat) (S : gS) (R : Nat → Nat → Option Nat) (fl : Nat → Int32) (row : Nat → Nat → Int32) : Prop := ∀ v q, v < 8 → q < 3 → vp_ z S q (R v q) (fl (3 * v + q)) (row (3 * v + q))
def rr_ (S : gS) (a c j : Nat) : Int32 := gI S a (80 * c + j)
theorem vs_vw {z : Nat} {S : gS} (h : vs_ z S (fun v q => gR S (z + 27 + v) q) (gI S (z + 58)) (rr_ S (z + 57))) : vw_ z S := h
theorem vw_vs {z : Nat} {S : gS} (h : vw_ z S) : vs_ z S (fun v q => gR S (z + 27 + v) q) (gI S (z + 58)) (rr_ S (z + 57)) := h
theorem vs_fr {z : Nat} {S S' : gS} {A B : List Nat} {R : Nat → Nat → Option Nat} {fl : Nat → Int32} {row : Nat → Nat → Int32} (h : vs_ z S R fl row) (F : fr_S A B S S') (hA : ∀ x ∈ A, x < z + 66) (hB : ∀ x ∈ B, x < z + 66) : vs_ z S' R fl row := by
  intro v q hv hq
  rcases h v q hv hq with c | ⟨c1, c2, cn, r, c3, c4⟩
  · exact Or.inl c
  · exact Or.inr ⟨c1, c2, cn, r, c3, rw_fr c4 F hA hB⟩
theorem vs_c {z : Nat} {S : gS} {R R' : Nat → Nat → Option Nat} {fl fl' : Nat → Int32} {row row' : Nat → Nat → Int32} (h : vs_ z S R fl row) (h1 : ∀ v q, v < 8 → q < 3 → R' v q = R v q) (h2 : ∀ c, c < 24 → fl' c = fl c) (h3 : ∀ c j, c < 24 → j < 80 → row' c j = row c j) : vs_ z S R' fl' row' := by
  intro v q hv hq
  rw [h1 v q hv hq, h2 _ (by omega)]
  rcases h v q hv hq with c | ⟨c1, c2, cn, r, c3, c4⟩
  · exact Or.inl c
  · exact Or.inr ⟨c1, fun j hj => by rw [h3 _ j (by omega) hj]; exact c2 j hj, fun q0 => by rw [lg_c (M := row' (3 * v + q)) (M' := row (3 * v + q)) (p' := 8) (fun j hj => h3 _ _ (by omega) (by omega))]; exact cn q0, r, c3, rw_c c4 fun j hj => by rw [h3 _ j (by omega) hj]⟩
theorem vs_put {z v q r : Nat} {S : gS} {R : Nat → Nat → Option Nat} {fl : Nat → Int32} {row : Nat → Nat → Int32} {V : Nat → Int32} (h : vs_ z S R fl row) (hq : q < 3) (hV : vq_ z S r V) (hn : q = 0 → ¬ s_lg V 8 < 0) : vs_ z S (fun v' q' => if v' = v ∧ q' = q then some r else R v' q') (fun c => if c = 3 * v + q then 1 else fl c) (fun c => if c = 3 * v + q then V else row c) := by
  intro v' q' hv' hq'
  show vp_ z S q' (if v' = v ∧ q' = q then some r else R v' q') (if 3 * v' + q' = 3 * v + q then 1 else fl (3 * v' + q')) (if 3 * v' + q' = 3 * v + q then V else row (3 * v' + q'))
  by_cases c : v' = v ∧ q' = q
  · rw [if_pos c, if_pos (by omega), if_pos (by omega)]
    exact Or.inr ⟨rfl, hV.1, fun e => hn (c.2 ▸ e), r, rfl, hV.2⟩
  · rw [if_neg c, if_neg (by omega), if_neg (by omega)]
    exact h v' q' hv' hq'
theorem vs_get {z v q : Nat} {S : gS} {R : Nat → Nat → Option Nat} {fl : Nat → Int32} {row : Nat → Nat → Int32} (h : vs_ z S R fl row) (hv : v < 8) (hq : q < 3) : (fl (3 * v + q) = 0 ∧ R v q = none) ∨ (fl (3 * v + q) = 1 ∧ (q = 0 → ¬ s_lg (row (3 * v + q)) 8 < 0) ∧ ∃ r, R v q = some r ∧ vq_ z S r (row (3 * v + q))) := by
  rcases h v q hv hq with c | ⟨c1, c2, cn, r, c3, c4⟩
  · exact Or.inl c
  · exact Or.inr ⟨c1, cn, r, c3, c2, c4⟩
theorem vs_told {z v a b ra rb : Nat} {S : gS} {R : Nat → Nat → Option Nat} {fl : Nat → Int32} {row : Nat → Nat → Int32} (h : vs_ z S R fl row) (hv : v < 8) (hA : vq_ z S ra (row a)) (hB : vq_ z S rb (row b)) : vs_ z S (fun v' q => if v' = v ∧ R v 1 = none ∧ (q = 1 ∨ q = 2) then (if q = 1 then some ra else some rb) else R v' q) (fun c => if fl (3 * v + 1) = 0 ∧ (c = 3 * v + 1 ∨ c = 3 * v + 2) then 1 else fl c) (fun c => row (if fl (3 * v + 1) = 0 ∧ c = 3 * v + 1 then a else if fl (3 * v + 1) = 0 ∧ c = 3 * v + 2 then b else c)) := by
  intro v' q' hv' hq'
  show vp_ z S q' (if v' = v ∧ R v 1 = none ∧ (q' = 1 ∨ q' = 2) then (if q' = 1 then some ra else some rb) else R v' q') (if fl (3 * v + 1) = 0 ∧ (3 * v' + q' = 3 * v + 1 ∨ 3 * v' + q' = 3 * v + 2) then 1 else fl (3 * v' + q')) (row (if fl (3 * v + 1) = 0 ∧ 3 * v' + q' = 3 * v + 1 then a else if fl (3 * v + 1) = 0 ∧ 3 * v' + q' = 3 * v + 2 then b else 3 * v' + q'))
  rcases vs_get h hv (show 1 < 3 by decide) with ⟨c1, c2⟩ | ⟨c1, -, r, c2, -⟩
  · by_cases e1 : v' = v ∧ q' = 1
    · rw [if_pos ⟨e1.1, c2, Or.inl e1.2⟩, if_pos e1.2, if_pos ⟨c1, Or.inl (by omega)⟩, if_pos ⟨c1, by omega⟩]
      exact Or.inr ⟨rfl, hA.1, fun e => absurd e (by omega), ra, rfl, hA.2⟩
    · by_cases e2 : v' = v ∧ q' = 2
      · rw [if_pos ⟨e2.1, c2, Or.inr e2.2⟩, if_neg (by omega), if_pos ⟨c1, Or.inr (by omega)⟩, if_neg (fun w => by omega), if_pos ⟨c1, by omega⟩]
        exact Or.inr ⟨rfl, hB.1, fun e => absurd e (by omega), rb, rfl, hB.2⟩
      · rw [if_neg (fun w => by omega), if_neg (fun w => by omega), if_neg (fun w => by omega), if_neg (fun w => by omega)]
        exact h v' q' hv' hq'
  · have n1 : ¬ fl (3 * v + 1) = 0 := by rw [c1]; decide
    have n2 : ¬ R v 1 = none := by rw [c2]; exact fun e => nomatch e
    rw [if_neg (fun w => n2 w.2.1), if_neg (fun w => n1 w.1), if_neg (fun w => n1 w.1), if_neg (fun w => n1 w.1)]
    exact h v' q' hv' hq'
theorem c_lacks {v : Nat} {S : gS} (hk : gK S v = 6) : f_X6_lacksEvidence S v = some (if gR S v 1 = none then 1 else 0, S) := by
  unfold f_X6_lacksEvidence
  rw [e_gR hk, e_bs]
  cases e : gR S v 1 with
  | none => rw [e_nn, if_pos rfl]
  | some a => rw [e_nl, if_neg (fun q => nomatch q)]
theorem c_keepEv {v : Nat} {x y : Option Nat} {S : gS} (hk : gK S v = 6) : ∃ S', f_X6_keepEvidence S v x y = some S' ∧ fr_S [] [v] S S' ∧ ∀ q, gR S' v q = if gR S v 1 = none ∧ (q = 1 ∨ q = 2) then (if q = 1 then x else y) else gR S v q := by
  unfold f_X6_keepEvidence
  rw [e_dc hk, c_lacks hk, e_bi]
  by_cases c : gR S v 1 = none
  · rw [if_pos c, if_neg (by decide), e_pR hk, e_bs, e_pR (S := gsR S v 1 x) hk, e_bs]
    refine ⟨gsR (gsR S v 1 x) v 2 y, rfl, fr_tr (fr_r (by simp)) (fr_r (by simp)), fun q => ?_⟩
    rw [sR_s, va_up_e, sR_s, va_up_e]
    by_cases q2 : q = 2
    · rw [if_pos q2, if_pos ⟨c, Or.inr q2⟩, if_neg (by omega)]
    · rw [if_neg q2]
      by_cases q1 : q = 1
      · rw [if_pos q1, if_pos ⟨c, Or.inl q1⟩, if_pos q1]
      · rw [if_neg q1, if_neg (fun w => by omega)]
  · rw [if_neg c, if_pos rfl]
    exact ⟨S, rfl, fr_refl _ _ _, fun q => by rw [if_neg (fun w => c w.1)]⟩
theorem p8_cseenL {m a b : Nat} {g : Nat → Int32} (ha : a < 24) (hb : b < 24) (hab : a ≠ b) (fu : Nat) : ∀ d i, i + d = 80 → ∀ S, md_L S m → (∀ j, gI S (m + 12) j = ou_ g (80 * b) i (fun q => g (80 * a + q)) j) → f_X8_copySeen_L2 (fu + d + 1) S m (nI a) (nI b) (nI i) = some (gsI (gsA S (m + 12) (ou_ g (80 * b) 80 (fun q => g (80 * a + q)))) (m + 13) b 1)
  | 0, i, hi, S, hL, hd => by
    have : i = 80 := by omega
    subst this
    have : gI S (m + 12) = ou_ g (80 * b) 80 (fun q => g (80 * a + q)) := funext hd
    rw [f_X8_copySeen_L2, if_pos (show (80 : Int32) ≤ nI 80 from by decide), e_gR hL.1, e_bs, md_r hL 15 13, e_aZ (md_k hL 13 12 24) (md_n hL 13 12 24) hb, e_bs, ← this, sA_i]
    rfl
  | d + 1, i, hi, S, hL, hd => by
    have kd := md_k hL 12 10 1920
    have nd := md_n hL 12 10 1920
    have hs : gI S (m + 12) (80 * a + i) = g (80 * a + i) := by
      rw [hd]
      unfold ou_
      rw [if_neg (by omega)]
    rw [show fu + (d + 1) + 1 = (fu + d + 1) + 1 by omega, f_X8_copySeen_L2, if_neg (show ¬ (80 : Int32) ≤ nI i from nI_ge (b := 80) (by omega) (by decide)), e_gR hL.1, e_bs, md_r hL 14 12, e_bs, show (80 : Int32) = nI 80 from rfl, pk_mul, pk_mul, nI_add, nI_add, e_I kd nd (by omega), e_bs, e_aI kd nd (by omega), e_bs, e_let, nI_1, hs]
    have := p8_cseenL (g := g) ha hb hab fu d (i + 1) (by omega) (gsI S (m + 12) (80 * b + i) (g (80 * a + i))) hL (fun j => by
      rw [sI_s, va_up_e, hd j]
      unfold ou_
      by_cases e : j = 80 * b + i
      · rw [if_pos e, if_pos (by omega), e, show 80 * b + i - 80 * b = i by omega]
      · rw [if_neg e]
        by_cases e2 : 80 * b ≤ j ∧ j < 80 * b + i
        · rw [if_pos e2, if_pos (by omega)]
        · rw [if_neg e2, if_neg (by omega)])
    rw [show gsA (gsI S (m + 12) (80 * b + i) (g (80 * a + i))) (m + 12) (ou_ g (80 * b) 80 (fun q => g (80 * a + q))) = gsA S (m + 12) (ou_ g (80 * b) 80 (fun q => g (80 * a + q))) by rw [sI_A, sA_A]] at this
    exact this
/-- a row of the reference's views is written -/
def sw_ (m b : Nat) (V : Nat → Int32) (S S' : gS) : Prop := fr_S [m + 12, m + 13] [] S S' ∧ (∀ c, gI S' (m + 13) c = if c = b then 1 else gI S (m + 13) c) ∧ ∀ c j, j < 80 → rr_ S' (m + 12) c j = if c = b then V j else rr_ S (m + 12) c j
theorem sw_mk {m b : Nat} {V : Nat → Int32} {S : gS} : sw_ m b V S (gsI (gsA S (m + 12) (ou_ (gI S (m + 12)) (80 * b) 80 V)) (m + 13) b 1) := by
  refine ⟨fr_tr (fr_A (by simp)) (fr_i (by simp)), fun c => ?_, fun c j hj => ?_⟩
  · rw [sI_s, va_up_e, sA_n (by omega)]
  · unfold rr_
    rw [sI_n (by omega), sA_s]
    unfold ou_
    by_cases e : c = b
    · rw [if_pos e, if_pos (by omega), e, show 80 * b + j - 80 * b = j by omega]
    · rw [if_neg e, if_neg (by omega)]
theorem p8_cseen {S : gS} {m a b : Nat} (hL : md_L S m) (ha : a < 24) (hb : b < 24) (hab : a ≠ b) : ∃ S', f_X8_copySeen S m (nI a) (nI b) = some S' ∧ sw_ m b (rr_ S (m + 12) a) S S' := by
  obtain ⟨fu, hf⟩ := g_fu 80
  refine ⟨_, ?_, sw_mk⟩
  unfold f_X8_copySeen
  rw [hf, show 80 + fu + 1 = fu + 80 + 1 by omega]
  exact p8_cseenL ha hb hab fu 80 0 (by omega) S hL (fun j => by unfold ou_; rw [if_neg (by omega)])
theorem p8_keep {S : gS} {m c : Nat} (hL : md_L S m) (hc : c < 24) : ∃ S', f_X8_keep S m (nI c) = some S' ∧ sw_ m c (gI S (m + 1)) S S' := by
  obtain ⟨fu, hf⟩ := g_fu 80
  refine ⟨_, ?_, sw_mk⟩
  have e := cp_keep (m := m) (c := c) (n := 80) (f := gI S (m + 1)) (g := gI S (m + 12)) rfl hc fu 80 0 (by omega) S hL (fun j => by unfold ou_; rw [if_neg (by omega)]) (fun q hq => rfl)
  have L1 : md_L (gsA S (m + 12) (ou_ (gI S (m + 12)) (80 * c) 80 (gI S (m + 1)))) m := hL
  unfold f_X8_keep
  rw [hf, show 80 + fu + 1 = fu + 80 + 1 by omega]
  refine Eq.trans e ?_
  rw [f_X8_keep_L2, if_pos (show (80 : Int32) ≤ nI 80 from by decide), e_gR L1.1, e_bs, md_r L1 15 13, e_aZ (md_k L1 13 12 24) (md_n L1 13 12 24) hc, e_bs]
  rfl
theorem m_told {S : gS} {m p a b : Nat} (hL : md_L S m) (hp : p + 2 < 24) (ha : a < 24) (hb : b < 24) (h1 : a ≠ p + 1) (h2 : b ≠ p + 1) (h3 : b ≠ p + 2) : ∃ S', f_X8_told S m (nI p) (nI a) (nI b) = some S' ∧ fr_S [m + 12, m + 13] [] S S' ∧ (∀ c, gI S' (m + 13) c = if gI S (m + 13) (p + 1) = 0 ∧ (c = p + 1 ∨ c = p + 2) then 1 else gI S (m + 13) c) ∧ ∀ c j, j < 80 → rr_ S' (m + 12) c j = rr_ S (m + 12) (if gI S (m + 13) (p + 1) = 0 ∧ c = p + 1 then a else if gI S (m + 13) (p + 1) = 0 ∧ c = p + 2 then b else c) j := by
  unfold f_X8_told
  rw [e_gR hL.1, e_bs, md_r hL 15 13, nI_1, show nI p + 2 = nI (p + 2) from nI_add _ 2, e_I (md_k hL 13 12 24) (md_n hL 13 12 24) (by omega), e_bs]
  by_cases c : gI S (m + 13) (p + 1) = 0
  · rw [if_pos c, e_dc hL.1]
    obtain ⟨S1, e1, f1, x1, y1⟩ := p8_cseen (a := a) (b := p + 1) hL ha (by omega) h1
    have L1 := md_fr hL f1 (by simp)
    obtain ⟨S2, e2, f2, x2, y2⟩ := p8_cseen (a := b) (b := p + 2) L1 hb (by omega) h3
    refine ⟨S2, by rw [e1, e_bs, e_dc L1.1, e2, e_bs], fr_tr f1 f2, fun d => ?_, fun d j hj => ?_⟩
    · rw [x2, x1]
      by_cases q2 : d = p + 2
      · rw [if_pos q2, if_pos ⟨c, Or.inr q2⟩]
      · rw [if_neg q2]
        by_cases q1 : d = p + 1
        · rw [if_pos q1, if_pos ⟨c, Or.inl q1⟩]
        · rw [if_neg q1, if_neg (fun w => by omega)]
    · rw [y2 d j hj, y1 d j hj, y1 b j hj, if_neg h2]
      by_cases q2 : d = p + 2
      · rw [if_pos q2, if_neg (fun w => by omega), if_pos ⟨c, q2⟩]
      · rw [if_neg q2]
        by_cases q1 : d = p + 1
        · rw [if_pos q1, if_pos ⟨c, q1⟩]
        · rw [if_neg q1, if_neg (fun w => by omega), if_neg (fun w => by omega)]
  · rw [if_neg c]
    exact ⟨S, rfl, fr_refl _ _ _, fun d => by rw [if_neg (fun w => c w.1)], fun d j hj => by rw [if_neg (fun w => c w.1), if_neg (fun w => c w.1)]⟩
theorem w_sh {M : Nat → Int32} {c p i : Nat} : w_at (fun j => M (c + j)) p i = w_at M (c + p) i := by
  unfold w_at s_w4
  simp only [Nat.add_assoc]
theorem lg_sh' {M : Nat → Int32} {c p : Nat} : s_lg (fun j => M (c + j)) p = s_lg M (c + p) := lg_c (fun j hj => by show M (c + (p + j)) = M (c + p + j); rw [Nat.add_assoc])
theorem vq_lg {z r p : Nat} {S : gS} {V : Nat → Int32} (h : vq_ z S r V) (hp : p + 8 ≤ 80) : f_X3_longAt S r (nI p) = some (s_lg V p, S) := by
  rw [p_longAt h.2 hp (by decide)]
  congr 2
  exact lg_c (fun j hj => by rw [sb_and]; exact h.1 _ (by omega))
theorem vq_b {z r : Nat} {S : gS} {V : Nat → Int32} (h : vq_ z S r V) : ∃ b, gK S r = 3 ∧ gR S r 0 = some b ∧ z + 66 ≤ b ∧ gK S b = 9 ∧ gN S b = 80 ∧ rb_ S b 80 V := by
  obtain ⟨k3, z3, bb, R0, zb, kb3, nb, vb⟩ := h.2
  exact ⟨bb, k3, R0, zb, kb3, nb, fun j hj => ⟨vb j hj, h.1 j hj⟩⟩
theorem vq_fr {z r : Nat} {S S' : gS} {A B : List Nat} {V : Nat → Int32} (h : vq_ z S r V) (F : fr_S A B S S') (hA : ∀ x ∈ A, x < z + 66) (hB : ∀ x ∈ B, x < z + 66) : vq_ z S' r V := ⟨h.1, rw_fr h.2 F hA hB⟩
theorem in_vw {z : Nat} {A B : List Nat} {S S' : gS} (h : in_ z S) (F : fr_S A B S S') (hA : ∀ x ∈ A, scA z x ∨ x = z + 1 ∨ x = z + 57 ∨ x = z + 58) (hB : ∀ x ∈ B, z + 27 ≤ x ∧ x ≤ z + 34) (tp : tp_ z S') (h4 : gI S' (z + 45) 4 = gI S (z + 45) 4) (h17 : gI S' (z + 45) 17 = nI 0) (vw : vw_ z S') : in_ z S' := by
  obtain ⟨y, -, oo, ms, lo, -⟩ := h
  refine ⟨ly_fr y F (fun x hx => by have := hB x hx; unfold lyB; omega), tp, oo_fr oo y F (fun x hx => by have := hA x hx; unfold scA at this; unfold ooA; omega) h4, ms_fr ms y F (fun x hx => by have := hA x hx; unfold scA at this; unfold msA; omega) (by rw [h17, ms.1]), fun l hl => ?_, vw⟩
  obtain ⟨N, TS, H, kn, q⟩ := lo l hl
  exact ⟨N, TS, H, kn, lo_fr q hl y F (fun x hx => by have := hA x hx; unfold scA at this; unfold loA; omega) (fun x hx => by have := hB x hx; unfold loB; omega)⟩
