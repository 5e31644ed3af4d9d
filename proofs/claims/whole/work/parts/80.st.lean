/-! the start -/
def zc_ (S : gS) (a kd n : Nat) : Prop := gK S a = kd ∧ gN S a = n ∧ gI S a = fun _ => 0
theorem zc_fr {A B : List Nat} {S S' : gS} {a kd n : Nat} (h : zc_ S a kd n) (F : fr_S A B S S') (hA : a ∉ A) (hd : kd < 16 := by decide) : zc_ S' a kd n := ⟨fr_K F h.1 hd, by rw [fr_N F h.1 hd]; exact h.2.1, by rw [fr_I F h.1 hA hd]; exact h.2.2⟩
theorem i_new {S : gS} {kd n c : Nat} (w : wf_S S) (hz : gZ S = c) : fr_S [] [] S (gnw S kd n) ∧ wf_S (gnw S kd n) ∧ gZ (gnw S kd n) = c + 1 ∧ zc_ (gnw S kd n) c kd n ∧ gR (gnw S kd n) c = (fun _ => none) := by
  subst hz
  exact ⟨fr_n w, (fr_n (A := []) (B := []) w).1 w, rfl, ⟨nw_K, nw_N, nw_I⟩, nw_R⟩
theorem i_put {S : gS} {a ci f t : Nat} (w : wf_S S) (ha : gK S a = ci) : ∃ S', fpR S ci f (some a) (some t) = some S' ∧ fr_S [] [a] S S' ∧ wf_S S' ∧ gZ S' = gZ S ∧ gR S' a = va_up (gR S a) f (some t) := ⟨gsR S a f (some t), e_pR ha, fr_r (by simp), w, rfl, sR_s⟩
theorem i_al {S : gS} {a ci f kd n c : Nat} (w : wf_S S) (hz : gZ S = c) (ha : gK S a = ci) (hc : ci < 16 := by decide) : ∃ S', fpR (gnw S kd n) ci f (some a) (some c) = some S' ∧ fr_S [] [a] S S' ∧ wf_S S' ∧ gZ S' = c + 1 ∧ zc_ S' c kd n ∧ gR S' a = va_up (gR S a) f (some c) := by
  obtain ⟨f0, w0, z0, c0, r0⟩ := i_new (kd := kd) (n := n) w hz
  obtain ⟨S', e1, f1, w1, z1, r1⟩ := i_put (f := f) (t := c) w0 (fr_K f0 ha hc)
  refine ⟨S', e1, fr_tr (fr_mo f0 (by simp) (by simp)) f1, w1, z1.trans z0, ?_, by rw [r1, fr_R f0 ha (by simp) hc]⟩
  have e2 : S' = gsR (gnw S kd n) a f (some c) := Option.some.inj (e1.symm.trans (e_pR (fr_K f0 ha hc)))
  rw [e2]
  exact c0
theorem i_X4 {S : gS} {a c : Nat} (w : wf_S S) (hz : gZ S = c) (ha : gK S a = 4) : ∃ S', f_X4_init S a = some S' ∧ fr_S [] [a] S S' ∧ wf_S S' ∧ gZ S' = c + 2 ∧ zc_ S' c 10 8 ∧ zc_ S' (c + 1) 10 64 ∧ gR S' a 0 = some c ∧ gR S' a 1 = some (c + 1) := by
  obtain ⟨S1, e1, f1, w1, z1, c1, r1⟩ := i_al (S := S) (a := a) (ci := 4) (f := 0) (kd := 10) (n := 8) w hz ha
  obtain ⟨S2, e2, f2, w2, z2, c2, r2⟩ := i_al (S := S1) (a := a) (ci := 4) (f := 1) (kd := 10) (n := 64) w1 z1 (fr_K f1 ha)
  refine ⟨S2, ?_, fr_tr f1 f2, w2, z2, zc_fr c1 f2 (by simp), c2, ?_, ?_⟩
  · unfold f_X4_init
    rw [show fnA 8 8 = some 8 from e_nA (n := 8) (Nat.le_refl _), e_bs, hz, e_let, e_let, e1, e_bs, show fnA 64 64 = some 64 from e_nA (n := 64) (Nat.le_refl _), e_bs, z1, e_let, e_let, e2, e_bs]
  · rw [r2, va_up_n _ _ _ (by decide), r1, va_up_s]
  · rw [r2, va_up_s]
theorem i_X1 {S : gS} {b : Nat} (w : wf_S S) (hz : gZ S = b + 1) (hb : gK S b = 1) : ∃ S', f_X1_init S b = some S' ∧ fr_S [] [b] S S' ∧ wf_S S' ∧ gZ S' = b + 10 ∧ lg_L S' b ∧ zc_ S' (b + 4) 9 64 := by
  obtain ⟨f0, w0, (z0 : gZ (gnw S 4 4) = b + 2), c0, -⟩ := i_new (S := S) (kd := 4) (n := 4) w hz
  obtain ⟨S1, e1, f1, w1, (z1 : gZ S1 = b + 4), c1, c1', r1, r1'⟩ := i_X4 (S := gnw S 4 4) (a := b + 1) w0 z0 c0.1
  have b1 : gK S1 b = 1 := fr_K f1 (fr_K f0 hb)
  obtain ⟨S2, e2, f2, w2, z2', r2⟩ := i_put (S := S1) (a := b) (ci := 1) (f := 0) (t := b + 1) w1 b1
  have z2 : gZ S2 = b + 4 := z2'.trans z1
  have b2 : gK S2 b = 1 := fr_K f2 b1
  obtain ⟨S3, e3, f3, w3, (z3 : gZ S3 = b + 5), c3, r3⟩ := i_al (S := S2) (a := b) (ci := 1) (f := 1) (kd := 9) (n := 64) w2 z2 b2
  have b3 : gK S3 b = 1 := fr_K f3 b2
  obtain ⟨S4, e4, f4, w4, (z4 : gZ S4 = b + 6), c4, r4⟩ := i_al (S := S3) (a := b) (ci := 1) (f := 3) (kd := 14) (n := 200) w3 z3 b3
  have b4 : gK S4 b = 1 := fr_K f4 b3
  obtain ⟨S5, e5, f5, w5, (z5 : gZ S5 = b + 7), c5, r5⟩ := i_al (S := S4) (a := b) (ci := 1) (f := 5) (kd := 14) (n := 400) w4 z4 b4
  have b5 : gK S5 b = 1 := fr_K f5 b4
  obtain ⟨S6, e6, f6, w6, (z6 : gZ S6 = b + 8), c6, r6⟩ := i_al (S := S5) (a := b) (ci := 1) (f := 7) (kd := 14) (n := 40) w5 z5 b5
  have b6 : gK S6 b = 1 := fr_K f6 b5
  obtain ⟨S7, e7, f7, w7, (z7 : gZ S7 = b + 9), c7, r7⟩ := i_al (S := S6) (a := b) (ci := 1) (f := 9) (kd := 9) (n := 32) w6 z6 b6
  have b7 : gK S7 b = 1 := fr_K f7 b6
  obtain ⟨S8, e8, f8, w8, (z8 : gZ S8 = b + 10), c8, r8⟩ := i_al (S := S7) (a := b) (ci := 1) (f := 10) (kd := 9) (n := 80) w7 z7 b7
  have b8 : gK S8 b = 1 := fr_K f8 b7
  have G8 : fr_S [] [b] S8 S8 := fr_refl _ _ _
  have G7 : fr_S [] [b] S7 S8 := fr_tr f8 G8
  have G6 : fr_S [] [b] S6 S8 := fr_tr f7 G7
  have G5 : fr_S [] [b] S5 S8 := fr_tr f6 G6
  have G4 : fr_S [] [b] S4 S8 := fr_tr f5 G5
  have G3 : fr_S [] [b] S3 S8 := fr_tr f4 G4
  have G2 : fr_S [] [b] S2 S8 := fr_tr f3 G3
  have G1 : fr_S [] [b] S1 S8 := fr_tr f2 G2
  have R : gR S8 b = va_up (va_up (va_up (va_up (va_up (va_up (va_up (gR S1 b) 0 (some (b + 1))) 1 (some (b + 4))) 3 (some (b + 5))) 5 (some (b + 6))) 7 (some (b + 7))) 9 (some (b + 8))) 10 (some (b + 9)) := by rw [r8, r7, r6, r5, r4, r3, r2]
  have cs : gK S8 (b + 1) = 4 := fr_K G1 (fr_K f1 c0.1)
  have cn : gN S8 (b + 1) = 4 := by rw [fr_N G1 (fr_K f1 c0.1), fr_N f1 c0.1]; exact c0.2.1
  have q2 := zc_fr c1 G1 (by simp)
  have q3 := zc_fr c1' G1 (by simp)
  have q4 := zc_fr c3 G3 (by simp)
  have q5 := zc_fr c4 G4 (by simp)
  have q6 := zc_fr c5 G5 (by simp)
  have q7 := zc_fr c6 G6 (by simp)
  have q8 := zc_fr c7 G7 (by simp)
  have q9 := zc_fr c8 G8 (by simp)
  refine ⟨S8, ?_, ?_, w8, z8, ⟨b8, fun q hq => ?_, fun q hq => ?_, ?_, ?_⟩, q4⟩
  · unfold f_X1_init
    rw [hz, e_let, e_let, e1, e_bs, e2, e_bs, show fnA 64 64 = some 64 from e_nA (n := 64) (Nat.le_refl _), e_bs, z2, e_let, e_let, e3, e_bs, show fnA 200 200 = some 200 from e_nA (n := 200) (Nat.le_refl _), e_bs, z3, e_let, e_let, e4, e_bs, show fnA 400 400 = some 400 from e_nA (n := 400) (Nat.le_refl _), e_bs, z4, e_let, e_let, e5, e_bs, show fnA 40 40 = some 40 from e_nA (n := 40) (Nat.le_refl _), e_bs, z5, e_let, e_let, e6, e_bs, show fnA 32 32 = some 32 from e_nA (n := 32) (Nat.le_refl _), e_bs, z6, e_let, e_let, e7, e_bs, show fnA 80 80 = some 80 from e_nA (n := 80) (Nat.le_refl _), e_bs, z7, e_let, e_let, e8, e_bs]
  · have F : fr_S [b + 1] [b, b + 1] S S8 := fr_tr (fr_mo f0 (by simp) (by simp)) (fr_tr (fr_mo f1 (by simp) (by simp)) (fr_mo G1 (by simp) (by simp)))
    refine ⟨F.1, fun a ha => ?_⟩
    have hab : a ≠ b + 1 := fun e => by have := w a ha; omega
    obtain ⟨h1, h2, h3, h4⟩ := F.2 a ha
    exact ⟨h1, h2, fun _ => h3 (by simp only [List.mem_cons, List.not_mem_nil, or_false]; exact hab), fun h => h4 (by simp only [List.mem_cons, List.not_mem_nil, or_false] at h ⊢; exact fun q => q.elim h hab)⟩
  · simp only [lg_R, List.mem_cons, List.not_mem_nil, or_false] at hq
    rcases hq with rfl | rfl | rfl | rfl | rfl | rfl | rfl <;> exact (congrFun R _).trans rfl
  · simp only [lg_A, List.mem_cons, List.not_mem_nil, or_false] at hq
    rcases hq with rfl | rfl | rfl | rfl | rfl | rfl | rfl | rfl | rfl
    · exact ⟨cs, cn⟩
    · exact ⟨q2.1, q2.2.1⟩
    · exact ⟨q3.1, q3.2.1⟩
    · exact ⟨q4.1, q4.2.1⟩
    · exact ⟨q5.1, q5.2.1⟩
    · exact ⟨q6.1, q6.2.1⟩
    · exact ⟨q7.1, q7.2.1⟩
    · exact ⟨q8.1, q8.2.1⟩
    · exact ⟨q9.1, q9.2.1⟩
  · rw [fr_R G1 (fr_K f1 c0.1) (by simp)]; exact r1
  · rw [fr_R G1 (fr_K f1 c0.1) (by simp)]; exact r1'
theorem i_X2 {S : gS} {p : Nat} (w : wf_S S) (hz : gZ S = p + 1) (hp : gK S p = 2) : ∃ S', f_X2_init S p = some S' ∧ fr_S [] [p] S S' ∧ wf_S S' ∧ gZ S' = p + 4 ∧ pt_L S' p := by
  obtain ⟨S1, e1, f1, w1, (z1 : gZ S1 = p + 2), c1, r1⟩ := i_al (S := S) (a := p) (ci := 2) (f := 0) (kd := 11) (n := 64) w hz hp
  have b1 : gK S1 p = 2 := fr_K f1 hp
  obtain ⟨S2, e2, f2, w2, (z2 : gZ S2 = p + 3), c2, r2⟩ := i_al (S := S1) (a := p) (ci := 2) (f := 1) (kd := 11) (n := 64) w1 z1 b1
  have b2 : gK S2 p = 2 := fr_K f2 b1
  obtain ⟨S3, e3, f3, w3, (z3 : gZ S3 = p + 4), c3, r3⟩ := i_al (S := S2) (a := p) (ci := 2) (f := 2) (kd := 12) (n := 64) w2 z2 b2
  have b3 : gK S3 p = 2 := fr_K f3 b2
  have R : gR S3 p = va_up (va_up (va_up (gR S p) 0 (some (p + 1))) 1 (some (p + 2))) 2 (some (p + 3)) := by rw [r3, r2, r1]
  have q1 := zc_fr c1 (fr_tr f2 f3) (by simp)
  have q2 := zc_fr c2 f3 (by simp)
  refine ⟨S3, ?_, fr_tr f1 (fr_tr f2 f3), w3, z3, ⟨b3, (congrFun R _).trans rfl, (congrFun R _).trans rfl, (congrFun R _).trans rfl⟩, ⟨q1.1, q1.2.1⟩, ⟨q2.1, q2.2.1⟩, c3.1, c3.2.1⟩
  unfold f_X2_init
  rw [show fnA 64 64 = some 64 from e_nA (n := 64) (Nat.le_refl _), e_bs, hz, e_let, e_let, e1, e_bs, e_bs, z1, e_let, e_let, e2, e_bs, e_bs, z2, e_let, e_let, e3, e_bs]
theorem i_X0 {S : gS} {b : Nat} (w : wf_S S) (hz : gZ S = b + 1) (hb : gK S b = 0) : ∃ S', f_X0_init S b = some S' ∧ fr_S [] [b] S S' ∧ wf_S S' ∧ gZ S' = b + 6 ∧ cb_L S' b := by
  obtain ⟨f0, w0, (z0 : gZ (gnw S 4 4) = b + 2), c0, -⟩ := i_new (S := S) (kd := 4) (n := 4) w hz
  obtain ⟨S1, e1, f1, w1, (z1 : gZ S1 = b + 4), c1, c1', r1, r1'⟩ := i_X4 (S := gnw S 4 4) (a := b + 1) w0 z0 c0.1
  have b1 : gK S1 b = 0 := fr_K f1 (fr_K f0 hb)
  obtain ⟨S2, e2, f2, w2, z2', r2⟩ := i_put (S := S1) (a := b) (ci := 0) (f := 0) (t := b + 1) w1 b1
  have z2 : gZ S2 = b + 4 := z2'.trans z1
  have b2 : gK S2 b = 0 := fr_K f2 b1
  obtain ⟨S3, e3, f3, w3, (z3 : gZ S3 = b + 5), c3, r3⟩ := i_al (S := S2) (a := b) (ci := 0) (f := 1) (kd := 9) (n := 32) w2 z2 b2
  have b3 : gK S3 b = 0 := fr_K f3 b2
  obtain ⟨S4, e4, f4, w4, (z4 : gZ S4 = b + 6), c4, r4⟩ := i_al (S := S3) (a := b) (ci := 0) (f := 2) (kd := 9) (n := 32) w3 z3 b3
  have b4 : gK S4 b = 0 := fr_K f4 b3
  have G1 : fr_S [] [b] S1 S4 := fr_tr f2 (fr_tr f3 f4)
  have R : gR S4 b = va_up (va_up (va_up (gR S1 b) 0 (some (b + 1))) 1 (some (b + 4))) 2 (some (b + 5)) := by rw [r4, r3, r2]
  have cs : gK S4 (b + 1) = 4 := fr_K G1 (fr_K f1 c0.1)
  have q2 := zc_fr c1 G1 (by simp)
  have q3 := zc_fr c1' G1 (by simp)
  have q4 := zc_fr c3 f4 (by simp)
  refine ⟨S4, ?_, ?_, w4, z4, ⟨b4, (congrFun R _).trans rfl, (congrFun R _).trans rfl, (congrFun R _).trans rfl⟩, ⟨⟨cs, ?_, ?_⟩, ⟨q2.1, q2.2.1⟩, ⟨q3.1, q3.2.1⟩, by omega, by omega, by omega⟩, ⟨q4.1, q4.2.1⟩, c4.1, c4.2.1⟩
  · unfold f_X0_init
    rw [hz, e_let, e_let, e1, e_bs, e2, e_bs, show fnA 32 32 = some 32 from e_nA (n := 32) (Nat.le_refl _), e_bs, z2, e_let, e_let, e3, e_bs, e_bs, z3, e_let, e_let, e4, e_bs]
  · have F : fr_S [b + 1] [b, b + 1] S S4 := fr_tr (fr_mo f0 (by simp) (by simp)) (fr_tr (fr_mo f1 (by simp) (by simp)) (fr_mo G1 (by simp) (by simp)))
    refine ⟨F.1, fun a ha => ?_⟩
    have hab : a ≠ b + 1 := fun e => by have := w a ha; omega
    obtain ⟨h1, h2, h3, h4⟩ := F.2 a ha
    exact ⟨h1, h2, fun _ => h3 (by simp only [List.mem_cons, List.not_mem_nil, or_false]; exact hab), fun h => h4 (by simp only [List.mem_cons, List.not_mem_nil, or_false] at h ⊢; exact fun q => q.elim h hab)⟩
  · rw [fr_R G1 (fr_K f1 c0.1) (by simp)]; exact r1
  · rw [fr_R G1 (fr_K f1 c0.1) (by simp)]; exact r1'
theorem i_st {S : gS} {r i : Nat} {v : Int32} (hk : gK S r = 10) (hn : gN S r = 64) (hi : i < 64) (h : ∀ j, j < i → gI S r j = g_round.getD j 0) (hv : v = g_round.getD i 0) : ∃ S', faI S (some r) (nI i) v = some S' ∧ fr_S [r] [] S S' ∧ gZ S' = gZ S ∧ ∀ j, j < i + 1 → gI S' r j = g_round.getD j 0 := by
  refine ⟨gsI S r i v, e_aI hk hn hi, fr_i (by simp), rfl, fun j hj => ?_⟩
  rw [sI_s, va_up_e]
  by_cases e : j = i
  · rw [if_pos e, e, hv]
  · rw [if_neg e]; exact h j (by omega)
theorem i_tab {α : Type} {S0 : gS} {r : Nat} {K : gS → Option α} (w : wf_S S0) (hk : gK S0 r = 10) (hn : gN S0 r = 64) : ∃ S', ((faI S0 (some r) 0 1116352408).bind fun S1 => (faI S1 (some r) 1 1899447441).bind fun S2 => (faI S2 (some r) 2 (-1245643825)).bind fun S3 => (faI S3 (some r) 3 (-373957723)).bind fun S4 => (faI S4 (some r) 4 961987163).bind fun S5 => (faI S5 (some r) 5 1508970993).bind fun S6 => (faI S6 (some r) 6 (-1841331548)).bind fun S7 => (faI S7 (some r) 7 (-1424204075)).bind fun S8 => (faI S8 (some r) 8 (-670586216)).bind fun S9 => (faI S9 (some r) 9 310598401).bind fun S10 => (faI S10 (some r) 10 607225278).bind fun S11 => (faI S11 (some r) 11 1426881987).bind fun S12 => (faI S12 (some r) 12 1925078388).bind fun S13 => (faI S13 (some r) 13 (-2132889090)).bind fun S14 => (faI S14 (some r) 14 (-1680079193)).bind fun S15 => (faI S15 (some r) 15 (-1046744716)).bind fun S16 => (faI S16 (some r) 16 (-459576895)).bind fun S17 => (faI S17 (some r) 17 (-272742522)).bind fun S18 => (faI S18 (some r) 18 264347078).bind fun S19 => (faI S19 (some r) 19 604807628).bind fun S20 => (faI S20 (some r) 20 770255983).bind fun S21 => (faI S21 (some r) 21 1249150122).bind fun S22 => (faI S22 (some r) 22 1555081692).bind fun S23 => (faI S23 (some r) 23 1996064986).bind fun S24 => (faI S24 (some r) 24 (-1740746414)).bind fun S25 => (faI S25 (some r) 25 (-1473132947)).bind fun S26 => (faI S26 (some r) 26 (-1341970488)).bind fun S27 => (faI S27 (some r) 27 (-1084653625)).bind fun S28 => (faI S28 (some r) 28 (-958395405)).bind fun S29 => (faI S29 (some r) 29 (-710438585)).bind fun S30 => (faI S30 (some r) 30 113926993).bind fun S31 => (faI S31 (some r) 31 338241895).bind fun S32 => (faI S32 (some r) 32 666307205).bind fun S33 => (faI S33 (some r) 33 773529912).bind fun S34 => (faI S34 (some r) 34 1294757372).bind fun S35 => (faI S35 (some r) 35 1396182291).bind fun S36 => (faI S36 (some r) 36 1695183700).bind fun S37 => (faI S37 (some r) 37 1986661051).bind fun S38 => (faI S38 (some r) 38 (-2117940946)).bind fun S39 => (faI S39 (some r) 39 (-1838011259)).bind fun S40 => (faI S40 (some r) 40 (-1564481375)).bind fun S41 => (faI S41 (some r) 41 (-1474664885)).bind fun S42 => (faI S42 (some r) 42 (-1035236496)).bind fun S43 => (faI S43 (some r) 43 (-949202525)).bind fun S44 => (faI S44 (some r) 44 (-778901479)).bind fun S45 => (faI S45 (some r) 45 (-694614492)).bind fun S46 => (faI S46 (some r) 46 (-200395387)).bind fun S47 => (faI S47 (some r) 47 275423344).bind fun S48 => (faI S48 (some r) 48 430227734).bind fun S49 => (faI S49 (some r) 49 506948616).bind fun S50 => (faI S50 (some r) 50 659060556).bind fun S51 => (faI S51 (some r) 51 883997877).bind fun S52 => (faI S52 (some r) 52 958139571).bind fun S53 => (faI S53 (some r) 53 1322822218).bind fun S54 => (faI S54 (some r) 54 1537002063).bind fun S55 => (faI S55 (some r) 55 1747873779).bind fun S56 => (faI S56 (some r) 56 1955562222).bind fun S57 => (faI S57 (some r) 57 2024104815).bind fun S58 => (faI S58 (some r) 58 (-2067236844)).bind fun S59 => (faI S59 (some r) 59 (-1933114872)).bind fun S60 => (faI S60 (some r) 60 (-1866530822)).bind fun S61 => (faI S61 (some r) 61 (-1538233109)).bind fun S62 => (faI S62 (some r) 62 (-1090935817)).bind fun S63 => (faI S63 (some r) 63 (-965641998)).bind fun S64 => K S64) = K S' ∧ fr_S [r] [] S0 S' ∧ wf_S S' ∧ gZ S' = gZ S0 ∧ ∀ j, j < 64 → gI S' r j = g_round.getD j 0 := by
  have g0 : fr_S [r] [] S0 S0 := fr_refl _ _ _
  have y0 : gZ S0 = gZ S0 := rfl
  have h0 : ∀ j, j < 0 → gI S0 r j = g_round.getD j 0 := fun j hj => absurd hj (Nat.not_lt_zero j)
  obtain ⟨S1, e1, f1, z1, h1⟩ := i_st (S := S0) (r := r) (i := 0) (v := 1116352408) (fr_K g0 hk) (by rw [fr_N g0 hk]; exact hn) (by decide) h0 rfl
  have g1 := fr_tr g0 f1
  have y1 := z1.trans y0
  obtain ⟨S2, e2, f2, z2, h2⟩ := i_st (S := S1) (r := r) (i := 1) (v := 1899447441) (fr_K g1 hk) (by rw [fr_N g1 hk]; exact hn) (by decide) h1 rfl
  have g2 := fr_tr g1 f2
  have y2 := z2.trans y1
  obtain ⟨S3, e3, f3, z3, h3⟩ := i_st (S := S2) (r := r) (i := 2) (v := (-1245643825)) (fr_K g2 hk) (by rw [fr_N g2 hk]; exact hn) (by decide) h2 rfl
  have g3 := fr_tr g2 f3
  have y3 := z3.trans y2
  obtain ⟨S4, e4, f4, z4, h4⟩ := i_st (S := S3) (r := r) (i := 3) (v := (-373957723)) (fr_K g3 hk) (by rw [fr_N g3 hk]; exact hn) (by decide) h3 rfl
  have g4 := fr_tr g3 f4
  have y4 := z4.trans y3
  obtain ⟨S5, e5, f5, z5, h5⟩ := i_st (S := S4) (r := r) (i := 4) (v := 961987163) (fr_K g4 hk) (by rw [fr_N g4 hk]; exact hn) (by decide) h4 rfl
  have g5 := fr_tr g4 f5
  have y5 := z5.trans y4
  obtain ⟨S6, e6, f6, z6, h6⟩ := i_st (S := S5) (r := r) (i := 5) (v := 1508970993) (fr_K g5 hk) (by rw [fr_N g5 hk]; exact hn) (by decide) h5 rfl
  have g6 := fr_tr g5 f6
  have y6 := z6.trans y5
  obtain ⟨S7, e7, f7, z7, h7⟩ := i_st (S := S6) (r := r) (i := 6) (v := (-1841331548)) (fr_K g6 hk) (by rw [fr_N g6 hk]; exact hn) (by decide) h6 rfl
  have g7 := fr_tr g6 f7
  have y7 := z7.trans y6
  obtain ⟨S8, e8, f8, z8, h8⟩ := i_st (S := S7) (r := r) (i := 7) (v := (-1424204075)) (fr_K g7 hk) (by rw [fr_N g7 hk]; exact hn) (by decide) h7 rfl
  have g8 := fr_tr g7 f8
  have y8 := z8.trans y7
  obtain ⟨S9, e9, f9, z9, h9⟩ := i_st (S := S8) (r := r) (i := 8) (v := (-670586216)) (fr_K g8 hk) (by rw [fr_N g8 hk]; exact hn) (by decide) h8 rfl
  have g9 := fr_tr g8 f9
  have y9 := z9.trans y8
  obtain ⟨S10, e10, f10, z10, h10⟩ := i_st (S := S9) (r := r) (i := 9) (v := 310598401) (fr_K g9 hk) (by rw [fr_N g9 hk]; exact hn) (by decide) h9 rfl
  have g10 := fr_tr g9 f10
  have y10 := z10.trans y9
  obtain ⟨S11, e11, f11, z11, h11⟩ := i_st (S := S10) (r := r) (i := 10) (v := 607225278) (fr_K g10 hk) (by rw [fr_N g10 hk]; exact hn) (by decide) h10 rfl
  have g11 := fr_tr g10 f11
  have y11 := z11.trans y10
  obtain ⟨S12, e12, f12, z12, h12⟩ := i_st (S := S11) (r := r) (i := 11) (v := 1426881987) (fr_K g11 hk) (by rw [fr_N g11 hk]; exact hn) (by decide) h11 rfl
  have g12 := fr_tr g11 f12
  have y12 := z12.trans y11
  obtain ⟨S13, e13, f13, z13, h13⟩ := i_st (S := S12) (r := r) (i := 12) (v := 1925078388) (fr_K g12 hk) (by rw [fr_N g12 hk]; exact hn) (by decide) h12 rfl
  have g13 := fr_tr g12 f13
  have y13 := z13.trans y12
  obtain ⟨S14, e14, f14, z14, h14⟩ := i_st (S := S13) (r := r) (i := 13) (v := (-2132889090)) (fr_K g13 hk) (by rw [fr_N g13 hk]; exact hn) (by decide) h13 rfl
  have g14 := fr_tr g13 f14
  have y14 := z14.trans y13
  obtain ⟨S15, e15, f15, z15, h15⟩ := i_st (S := S14) (r := r) (i := 14) (v := (-1680079193)) (fr_K g14 hk) (by rw [fr_N g14 hk]; exact hn) (by decide) h14 rfl
  have g15 := fr_tr g14 f15
  have y15 := z15.trans y14
  obtain ⟨S16, e16, f16, z16, h16⟩ := i_st (S := S15) (r := r) (i := 15) (v := (-1046744716)) (fr_K g15 hk) (by rw [fr_N g15 hk]; exact hn) (by decide) h15 rfl
  have g16 := fr_tr g15 f16
  have y16 := z16.trans y15
  obtain ⟨S17, e17, f17, z17, h17⟩ := i_st (S := S16) (r := r) (i := 16) (v := (-459576895)) (fr_K g16 hk) (by rw [fr_N g16 hk]; exact hn) (by decide) h16 rfl
  have g17 := fr_tr g16 f17
  have y17 := z17.trans y16
  obtain ⟨S18, e18, f18, z18, h18⟩ := i_st (S := S17) (r := r) (i := 17) (v := (-272742522)) (fr_K g17 hk) (by rw [fr_N g17 hk]; exact hn) (by decide) h17 rfl
  have g18 := fr_tr g17 f18
  have y18 := z18.trans y17
  obtain ⟨S19, e19, f19, z19, h19⟩ := i_st (S := S18) (r := r) (i := 18) (v := 264347078) (fr_K g18 hk) (by rw [fr_N g18 hk]; exact hn) (by decide) h18 rfl
  have g19 := fr_tr g18 f19
  have y19 := z19.trans y18
  obtain ⟨S20, e20, f20, z20, h20⟩ := i_st (S := S19) (r := r) (i := 19) (v := 604807628) (fr_K g19 hk) (by rw [fr_N g19 hk]; exact hn) (by decide) h19 rfl
  have g20 := fr_tr g19 f20
  have y20 := z20.trans y19
  obtain ⟨S21, e21, f21, z21, h21⟩ := i_st (S := S20) (r := r) (i := 20) (v := 770255983) (fr_K g20 hk) (by rw [fr_N g20 hk]; exact hn) (by decide) h20 rfl
  have g21 := fr_tr g20 f21
  have y21 := z21.trans y20
  obtain ⟨S22, e22, f22, z22, h22⟩ := i_st (S := S21) (r := r) (i := 21) (v := 1249150122) (fr_K g21 hk) (by rw [fr_N g21 hk]; exact hn) (by decide) h21 rfl
  have g22 := fr_tr g21 f22
  have y22 := z22.trans y21
  obtain ⟨S23, e23, f23, z23, h23⟩ := i_st (S := S22) (r := r) (i := 22) (v := 1555081692) (fr_K g22 hk) (by rw [fr_N g22 hk]; exact hn) (by decide) h22 rfl
  have g23 := fr_tr g22 f23
  have y23 := z23.trans y22
  obtain ⟨S24, e24, f24, z24, h24⟩ := i_st (S := S23) (r := r) (i := 23) (v := 1996064986) (fr_K g23 hk) (by rw [fr_N g23 hk]; exact hn) (by decide) h23 rfl
  have g24 := fr_tr g23 f24
  have y24 := z24.trans y23
  obtain ⟨S25, e25, f25, z25, h25⟩ := i_st (S := S24) (r := r) (i := 24) (v := (-1740746414)) (fr_K g24 hk) (by rw [fr_N g24 hk]; exact hn) (by decide) h24 rfl
  have g25 := fr_tr g24 f25
  have y25 := z25.trans y24
  obtain ⟨S26, e26, f26, z26, h26⟩ := i_st (S := S25) (r := r) (i := 25) (v := (-1473132947)) (fr_K g25 hk) (by rw [fr_N g25 hk]; exact hn) (by decide) h25 rfl
  have g26 := fr_tr g25 f26
  have y26 := z26.trans y25
  obtain ⟨S27, e27, f27, z27, h27⟩ := i_st (S := S26) (r := r) (i := 26) (v := (-1341970488)) (fr_K g26 hk) (by rw [fr_N g26 hk]; exact hn) (by decide) h26 rfl
  have g27 := fr_tr g26 f27
  have y27 := z27.trans y26
  obtain ⟨S28, e28, f28, z28, h28⟩ := i_st (S := S27) (r := r) (i := 27) (v := (-1084653625)) (fr_K g27 hk) (by rw [fr_N g27 hk]; exact hn) (by decide) h27 rfl
  have g28 := fr_tr g27 f28
  have y28 := z28.trans y27
  obtain ⟨S29, e29, f29, z29, h29⟩ := i_st (S := S28) (r := r) (i := 28) (v := (-958395405)) (fr_K g28 hk) (by rw [fr_N g28 hk]; exact hn) (by decide) h28 rfl
  have g29 := fr_tr g28 f29
  have y29 := z29.trans y28
  obtain ⟨S30, e30, f30, z30, h30⟩ := i_st (S := S29) (r := r) (i := 29) (v := (-710438585)) (fr_K g29 hk) (by rw [fr_N g29 hk]; exact hn) (by decide) h29 rfl
  have g30 := fr_tr g29 f30
  have y30 := z30.trans y29
  obtain ⟨S31, e31, f31, z31, h31⟩ := i_st (S := S30) (r := r) (i := 30) (v := 113926993) (fr_K g30 hk) (by rw [fr_N g30 hk]; exact hn) (by decide) h30 rfl
  have g31 := fr_tr g30 f31
  have y31 := z31.trans y30
  obtain ⟨S32, e32, f32, z32, h32⟩ := i_st (S := S31) (r := r) (i := 31) (v := 338241895) (fr_K g31 hk) (by rw [fr_N g31 hk]; exact hn) (by decide) h31 rfl
  have g32 := fr_tr g31 f32
  have y32 := z32.trans y31
  obtain ⟨S33, e33, f33, z33, h33⟩ := i_st (S := S32) (r := r) (i := 32) (v := 666307205) (fr_K g32 hk) (by rw [fr_N g32 hk]; exact hn) (by decide) h32 rfl
  have g33 := fr_tr g32 f33
  have y33 := z33.trans y32
  obtain ⟨S34, e34, f34, z34, h34⟩ := i_st (S := S33) (r := r) (i := 33) (v := 773529912) (fr_K g33 hk) (by rw [fr_N g33 hk]; exact hn) (by decide) h33 rfl
  have g34 := fr_tr g33 f34
  have y34 := z34.trans y33
  obtain ⟨S35, e35, f35, z35, h35⟩ := i_st (S := S34) (r := r) (i := 34) (v := 1294757372) (fr_K g34 hk) (by rw [fr_N g34 hk]; exact hn) (by decide) h34 rfl
  have g35 := fr_tr g34 f35
  have y35 := z35.trans y34
  obtain ⟨S36, e36, f36, z36, h36⟩ := i_st (S := S35) (r := r) (i := 35) (v := 1396182291) (fr_K g35 hk) (by rw [fr_N g35 hk]; exact hn) (by decide) h35 rfl
  have g36 := fr_tr g35 f36
  have y36 := z36.trans y35
  obtain ⟨S37, e37, f37, z37, h37⟩ := i_st (S := S36) (r := r) (i := 36) (v := 1695183700) (fr_K g36 hk) (by rw [fr_N g36 hk]; exact hn) (by decide) h36 rfl
  have g37 := fr_tr g36 f37
  have y37 := z37.trans y36
  obtain ⟨S38, e38, f38, z38, h38⟩ := i_st (S := S37) (r := r) (i := 37) (v := 1986661051) (fr_K g37 hk) (by rw [fr_N g37 hk]; exact hn) (by decide) h37 rfl
  have g38 := fr_tr g37 f38
  have y38 := z38.trans y37
  obtain ⟨S39, e39, f39, z39, h39⟩ := i_st (S := S38) (r := r) (i := 38) (v := (-2117940946)) (fr_K g38 hk) (by rw [fr_N g38 hk]; exact hn) (by decide) h38 rfl
  have g39 := fr_tr g38 f39
  have y39 := z39.trans y38
  obtain ⟨S40, e40, f40, z40, h40⟩ := i_st (S := S39) (r := r) (i := 39) (v := (-1838011259)) (fr_K g39 hk) (by rw [fr_N g39 hk]; exact hn) (by decide) h39 rfl
  have g40 := fr_tr g39 f40
  have y40 := z40.trans y39
  obtain ⟨S41, e41, f41, z41, h41⟩ := i_st (S := S40) (r := r) (i := 40) (v := (-1564481375)) (fr_K g40 hk) (by rw [fr_N g40 hk]; exact hn) (by decide) h40 rfl
  have g41 := fr_tr g40 f41
  have y41 := z41.trans y40
  obtain ⟨S42, e42, f42, z42, h42⟩ := i_st (S := S41) (r := r) (i := 41) (v := (-1474664885)) (fr_K g41 hk) (by rw [fr_N g41 hk]; exact hn) (by decide) h41 rfl
  have g42 := fr_tr g41 f42
  have y42 := z42.trans y41
  obtain ⟨S43, e43, f43, z43, h43⟩ := i_st (S := S42) (r := r) (i := 42) (v := (-1035236496)) (fr_K g42 hk) (by rw [fr_N g42 hk]; exact hn) (by decide) h42 rfl
  have g43 := fr_tr g42 f43
  have y43 := z43.trans y42
  obtain ⟨S44, e44, f44, z44, h44⟩ := i_st (S := S43) (r := r) (i := 43) (v := (-949202525)) (fr_K g43 hk) (by rw [fr_N g43 hk]; exact hn) (by decide) h43 rfl
  have g44 := fr_tr g43 f44
  have y44 := z44.trans y43
  obtain ⟨S45, e45, f45, z45, h45⟩ := i_st (S := S44) (r := r) (i := 44) (v := (-778901479)) (fr_K g44 hk) (by rw [fr_N g44 hk]; exact hn) (by decide) h44 rfl
  have g45 := fr_tr g44 f45
  have y45 := z45.trans y44
  obtain ⟨S46, e46, f46, z46, h46⟩ := i_st (S := S45) (r := r) (i := 45) (v := (-694614492)) (fr_K g45 hk) (by rw [fr_N g45 hk]; exact hn) (by decide) h45 rfl
  have g46 := fr_tr g45 f46
  have y46 := z46.trans y45
  obtain ⟨S47, e47, f47, z47, h47⟩ := i_st (S := S46) (r := r) (i := 46) (v := (-200395387)) (fr_K g46 hk) (by rw [fr_N g46 hk]; exact hn) (by decide) h46 rfl
  have g47 := fr_tr g46 f47
  have y47 := z47.trans y46
  obtain ⟨S48, e48, f48, z48, h48⟩ := i_st (S := S47) (r := r) (i := 47) (v := 275423344) (fr_K g47 hk) (by rw [fr_N g47 hk]; exact hn) (by decide) h47 rfl
  have g48 := fr_tr g47 f48
  have y48 := z48.trans y47
  obtain ⟨S49, e49, f49, z49, h49⟩ := i_st (S := S48) (r := r) (i := 48) (v := 430227734) (fr_K g48 hk) (by rw [fr_N g48 hk]; exact hn) (by decide) h48 rfl
  have g49 := fr_tr g48 f49
  have y49 := z49.trans y48
  obtain ⟨S50, e50, f50, z50, h50⟩ := i_st (S := S49) (r := r) (i := 49) (v := 506948616) (fr_K g49 hk) (by rw [fr_N g49 hk]; exact hn) (by decide) h49 rfl
  have g50 := fr_tr g49 f50
  have y50 := z50.trans y49
  obtain ⟨S51, e51, f51, z51, h51⟩ := i_st (S := S50) (r := r) (i := 50) (v := 659060556) (fr_K g50 hk) (by rw [fr_N g50 hk]; exact hn) (by decide) h50 rfl
  have g51 := fr_tr g50 f51
  have y51 := z51.trans y50
  obtain ⟨S52, e52, f52, z52, h52⟩ := i_st (S := S51) (r := r) (i := 51) (v := 883997877) (fr_K g51 hk) (by rw [fr_N g51 hk]; exact hn) (by decide) h51 rfl
  have g52 := fr_tr g51 f52
  have y52 := z52.trans y51
  obtain ⟨S53, e53, f53, z53, h53⟩ := i_st (S := S52) (r := r) (i := 52) (v := 958139571) (fr_K g52 hk) (by rw [fr_N g52 hk]; exact hn) (by decide) h52 rfl
  have g53 := fr_tr g52 f53
  have y53 := z53.trans y52
  obtain ⟨S54, e54, f54, z54, h54⟩ := i_st (S := S53) (r := r) (i := 53) (v := 1322822218) (fr_K g53 hk) (by rw [fr_N g53 hk]; exact hn) (by decide) h53 rfl
  have g54 := fr_tr g53 f54
  have y54 := z54.trans y53
  obtain ⟨S55, e55, f55, z55, h55⟩ := i_st (S := S54) (r := r) (i := 54) (v := 1537002063) (fr_K g54 hk) (by rw [fr_N g54 hk]; exact hn) (by decide) h54 rfl
  have g55 := fr_tr g54 f55
  have y55 := z55.trans y54
  obtain ⟨S56, e56, f56, z56, h56⟩ := i_st (S := S55) (r := r) (i := 55) (v := 1747873779) (fr_K g55 hk) (by rw [fr_N g55 hk]; exact hn) (by decide) h55 rfl
  have g56 := fr_tr g55 f56
  have y56 := z56.trans y55
  obtain ⟨S57, e57, f57, z57, h57⟩ := i_st (S := S56) (r := r) (i := 56) (v := 1955562222) (fr_K g56 hk) (by rw [fr_N g56 hk]; exact hn) (by decide) h56 rfl
  have g57 := fr_tr g56 f57
  have y57 := z57.trans y56
  obtain ⟨S58, e58, f58, z58, h58⟩ := i_st (S := S57) (r := r) (i := 57) (v := 2024104815) (fr_K g57 hk) (by rw [fr_N g57 hk]; exact hn) (by decide) h57 rfl
  have g58 := fr_tr g57 f58
  have y58 := z58.trans y57
  obtain ⟨S59, e59, f59, z59, h59⟩ := i_st (S := S58) (r := r) (i := 58) (v := (-2067236844)) (fr_K g58 hk) (by rw [fr_N g58 hk]; exact hn) (by decide) h58 rfl
  have g59 := fr_tr g58 f59
  have y59 := z59.trans y58
  obtain ⟨S60, e60, f60, z60, h60⟩ := i_st (S := S59) (r := r) (i := 59) (v := (-1933114872)) (fr_K g59 hk) (by rw [fr_N g59 hk]; exact hn) (by decide) h59 rfl
  have g60 := fr_tr g59 f60
  have y60 := z60.trans y59
  obtain ⟨S61, e61, f61, z61, h61⟩ := i_st (S := S60) (r := r) (i := 60) (v := (-1866530822)) (fr_K g60 hk) (by rw [fr_N g60 hk]; exact hn) (by decide) h60 rfl
  have g61 := fr_tr g60 f61
  have y61 := z61.trans y60
  obtain ⟨S62, e62, f62, z62, h62⟩ := i_st (S := S61) (r := r) (i := 61) (v := (-1538233109)) (fr_K g61 hk) (by rw [fr_N g61 hk]; exact hn) (by decide) h61 rfl
  have g62 := fr_tr g61 f62
  have y62 := z62.trans y61
  obtain ⟨S63, e63, f63, z63, h63⟩ := i_st (S := S62) (r := r) (i := 62) (v := (-1090935817)) (fr_K g62 hk) (by rw [fr_N g62 hk]; exact hn) (by decide) h62 rfl
  have g63 := fr_tr g62 f63
  have y63 := z63.trans y62
  obtain ⟨S64, e64, f64, z64, h64⟩ := i_st (S := S63) (r := r) (i := 63) (v := (-965641998)) (fr_K g63 hk) (by rw [fr_N g63 hk]; exact hn) (by decide) h63 rfl
  have g64 := fr_tr g63 f64
  have y64 := z64.trans y63
  refine ⟨S64, ?_, g64, g64.1 w, y64, h64⟩
  rw [show faI S0 (some r) 0 1116352408 = some S1 from e1, e_bs]
  rw [show faI S1 (some r) 1 1899447441 = some S2 from e2, e_bs]
  rw [show faI S2 (some r) 2 (-1245643825) = some S3 from e3, e_bs]
  rw [show faI S3 (some r) 3 (-373957723) = some S4 from e4, e_bs]
  rw [show faI S4 (some r) 4 961987163 = some S5 from e5, e_bs]
  rw [show faI S5 (some r) 5 1508970993 = some S6 from e6, e_bs]
  rw [show faI S6 (some r) 6 (-1841331548) = some S7 from e7, e_bs]
  rw [show faI S7 (some r) 7 (-1424204075) = some S8 from e8, e_bs]
  rw [show faI S8 (some r) 8 (-670586216) = some S9 from e9, e_bs]
  rw [show faI S9 (some r) 9 310598401 = some S10 from e10, e_bs]
  rw [show faI S10 (some r) 10 607225278 = some S11 from e11, e_bs]
  rw [show faI S11 (some r) 11 1426881987 = some S12 from e12, e_bs]
  rw [show faI S12 (some r) 12 1925078388 = some S13 from e13, e_bs]
  rw [show faI S13 (some r) 13 (-2132889090) = some S14 from e14, e_bs]
  rw [show faI S14 (some r) 14 (-1680079193) = some S15 from e15, e_bs]
  rw [show faI S15 (some r) 15 (-1046744716) = some S16 from e16, e_bs]
  rw [show faI S16 (some r) 16 (-459576895) = some S17 from e17, e_bs]
  rw [show faI S17 (some r) 17 (-272742522) = some S18 from e18, e_bs]
  rw [show faI S18 (some r) 18 264347078 = some S19 from e19, e_bs]
  rw [show faI S19 (some r) 19 604807628 = some S20 from e20, e_bs]
  rw [show faI S20 (some r) 20 770255983 = some S21 from e21, e_bs]
  rw [show faI S21 (some r) 21 1249150122 = some S22 from e22, e_bs]
  rw [show faI S22 (some r) 22 1555081692 = some S23 from e23, e_bs]
  rw [show faI S23 (some r) 23 1996064986 = some S24 from e24, e_bs]
  rw [show faI S24 (some r) 24 (-1740746414) = some S25 from e25, e_bs]
  rw [show faI S25 (some r) 25 (-1473132947) = some S26 from e26, e_bs]
  rw [show faI S26 (some r) 26 (-1341970488) = some S27 from e27, e_bs]
  rw [show faI S27 (some r) 27 (-1084653625) = some S28 from e28, e_bs]
  rw [show faI S28 (some r) 28 (-958395405) = some S29 from e29, e_bs]
  rw [show faI S29 (some r) 29 (-710438585) = some S30 from e30, e_bs]
  rw [show faI S30 (some r) 30 113926993 = some S31 from e31, e_bs]
  rw [show faI S31 (some r) 31 338241895 = some S32 from e32, e_bs]
  rw [show faI S32 (some r) 32 666307205 = some S33 from e33, e_bs]
  rw [show faI S33 (some r) 33 773529912 = some S34 from e34, e_bs]
  rw [show faI S34 (some r) 34 1294757372 = some S35 from e35, e_bs]
  rw [show faI S35 (some r) 35 1396182291 = some S36 from e36, e_bs]
  rw [show faI S36 (some r) 36 1695183700 = some S37 from e37, e_bs]
  rw [show faI S37 (some r) 37 1986661051 = some S38 from e38, e_bs]
  rw [show faI S38 (some r) 38 (-2117940946) = some S39 from e39, e_bs]
  rw [show faI S39 (some r) 39 (-1838011259) = some S40 from e40, e_bs]
  rw [show faI S40 (some r) 40 (-1564481375) = some S41 from e41, e_bs]
  rw [show faI S41 (some r) 41 (-1474664885) = some S42 from e42, e_bs]
  rw [show faI S42 (some r) 42 (-1035236496) = some S43 from e43, e_bs]
  rw [show faI S43 (some r) 43 (-949202525) = some S44 from e44, e_bs]
  rw [show faI S44 (some r) 44 (-778901479) = some S45 from e45, e_bs]
  rw [show faI S45 (some r) 45 (-694614492) = some S46 from e46, e_bs]
  rw [show faI S46 (some r) 46 (-200395387) = some S47 from e47, e_bs]
  rw [show faI S47 (some r) 47 275423344 = some S48 from e48, e_bs]
  rw [show faI S48 (some r) 48 430227734 = some S49 from e49, e_bs]
  rw [show faI S49 (some r) 49 506948616 = some S50 from e50, e_bs]
  rw [show faI S50 (some r) 50 659060556 = some S51 from e51, e_bs]
  rw [show faI S51 (some r) 51 883997877 = some S52 from e52, e_bs]
  rw [show faI S52 (some r) 52 958139571 = some S53 from e53, e_bs]
  rw [show faI S53 (some r) 53 1322822218 = some S54 from e54, e_bs]
  rw [show faI S54 (some r) 54 1537002063 = some S55 from e55, e_bs]
  rw [show faI S55 (some r) 55 1747873779 = some S56 from e56, e_bs]
  rw [show faI S56 (some r) 56 1955562222 = some S57 from e57, e_bs]
  rw [show faI S57 (some r) 57 2024104815 = some S58 from e58, e_bs]
  rw [show faI S58 (some r) 58 (-2067236844) = some S59 from e59, e_bs]
  rw [show faI S59 (some r) 59 (-1933114872) = some S60 from e60, e_bs]
  rw [show faI S60 (some r) 60 (-1866530822) = some S61 from e61, e_bs]
  rw [show faI S61 (some r) 61 (-1538233109) = some S62 from e62, e_bs]
  rw [show faI S62 (some r) 62 (-1090935817) = some S63 from e63, e_bs]
  rw [show faI S63 (some r) 63 (-965641998) = some S64 from e64, e_bs]
theorem ni17 {m o : Nat} (h : o ≠ 17) : m + o ∉ [m + 17] := by simp only [List.mem_cons, List.not_mem_nil, or_false]; omega
theorem o13_ {o : Nat} (h1 : 1 ≤ o) (h2 : o ≤ 13) : o = 1 ∨ o = 2 ∨ o = 3 ∨ o = 4 ∨ o = 5 ∨ o = 6 ∨ o = 7 ∨ o = 8 ∨ o = 9 ∨ o = 10 ∨ o = 11 ∨ o = 12 ∨ o = 13 := by omega
set_option maxHeartbeats 2000000 in
theorem i_X8 {S : gS} {m : Nat} (w : wf_S S) (hz : gZ S = m + 1) (hb : gK S m = 8) : ∃ S', f_X8_init S m = some S' ∧ fr_S [] [m] S S' ∧ wf_S S' ∧ gZ S' = m + 20 ∧ md_L S' m ∧ (∀ j, j < 64 → gI S' (m + 17) j = g_round.getD j 0) ∧ ∀ o, 1 ≤ o → o ≤ 13 → gI S' (m + o) = fun _ => 0 := by
  have b0 : gK S m = 8 := hb
  have z0 : gZ S = m + 1 := hz
  have w0 := w
  obtain ⟨S1, e1, f1, w1, (z1 : gZ S1 = m + 2), c1, r1⟩ := i_al (S := S) (a := m) (ci := 8) (f := 1) (kd := 10) (n := 2220) w0 z0 b0
  have b1 : gK S1 m = 8 := fr_K f1 b0
  obtain ⟨S2, e2, f2, w2, (z2 : gZ S2 = m + 3), c2, r2⟩ := i_al (S := S1) (a := m) (ci := 8) (f := 3) (kd := 10) (n := 2400) w1 z1 b1
  have b2 : gK S2 m = 8 := fr_K f2 b1
  obtain ⟨S3, e3, f3, w3, (z3 : gZ S3 = m + 4), c3, r3⟩ := i_al (S := S2) (a := m) (ci := 8) (f := 5) (kd := 10) (n := 200) w2 z2 b2
  have b3 : gK S3 m = 8 := fr_K f3 b2
  obtain ⟨S4, e4, f4, w4, (z4 : gZ S4 = m + 5), c4, r4⟩ := i_al (S := S3) (a := m) (ci := 8) (f := 6) (kd := 10) (n := 2) w3 z3 b3
  have b4 : gK S4 m = 8 := fr_K f4 b3
  obtain ⟨S5, e5, f5, w5, (z5 : gZ S5 = m + 6), c5, r5⟩ := i_al (S := S4) (a := m) (ci := 8) (f := 7) (kd := 10) (n := 48000) w4 z4 b4
  have b5 : gK S5 m = 8 := fr_K f5 b4
  obtain ⟨S6, e6, f6, w6, (z6 : gZ S6 = m + 7), c6, r6⟩ := i_al (S := S5) (a := m) (ci := 8) (f := 8) (kd := 10) (n := 400) w5 z5 b5
  have b6 : gK S6 m = 8 := fr_K f6 b5
  obtain ⟨S7, e7, f7, w7, (z7 : gZ S7 = m + 8), c7, r7⟩ := i_al (S := S6) (a := m) (ci := 8) (f := 9) (kd := 10) (n := 2) w6 z6 b6
  have b7 : gK S7 m = 8 := fr_K f7 b6
  obtain ⟨S8, e8, f8, w8, (z8 : gZ S8 = m + 9), c8, r8⟩ := i_al (S := S7) (a := m) (ci := 8) (f := 10) (kd := 10) (n := 2) w7 z7 b7
  have b8 : gK S8 m = 8 := fr_K f8 b7
  obtain ⟨S9, e9, f9, w9, (z9 : gZ S9 = m + 10), c9, r9⟩ := i_al (S := S8) (a := m) (ci := 8) (f := 11) (kd := 10) (n := 6400) w8 z8 b8
  have b9 : gK S9 m = 8 := fr_K f9 b8
  obtain ⟨S10, e10, f10, w10, (z10 : gZ S10 = m + 11), c10, r10⟩ := i_al (S := S9) (a := m) (ci := 8) (f := 12) (kd := 11) (n := 2) w9 z9 b9
  have b10 : gK S10 m = 8 := fr_K f10 b9
  obtain ⟨S11, e11, f11, w11, (z11 : gZ S11 = m + 12), c11, r11⟩ := i_al (S := S10) (a := m) (ci := 8) (f := 13) (kd := 10) (n := 2) w10 z10 b10
  have b11 : gK S11 m = 8 := fr_K f11 b10
  obtain ⟨S12, e12, f12, w12, (z12 : gZ S12 = m + 13), c12, r12⟩ := i_al (S := S11) (a := m) (ci := 8) (f := 14) (kd := 10) (n := 1920) w11 z11 b11
  have b12 : gK S12 m = 8 := fr_K f12 b11
  obtain ⟨S13, e13, f13, w13, (z13 : gZ S13 = m + 14), c13, r13⟩ := i_al (S := S12) (a := m) (ci := 8) (f := 15) (kd := 12) (n := 24) w12 z12 b12
  have b13 : gK S13 m = 8 := fr_K f13 b12
  obtain ⟨S14, e14, f14, w14, (z14 : gZ S14 = m + 15), c14, r14⟩ := i_al (S := S13) (a := m) (ci := 8) (f := 16) (kd := 10) (n := 320) w13 z13 b13
  have b14 : gK S14 m = 8 := fr_K f14 b13
  obtain ⟨S15, e15, f15, w15, (z15 : gZ S15 = m + 16), c15, r15⟩ := i_al (S := S14) (a := m) (ci := 8) (f := 18) (kd := 10) (n := 8) w14 z14 b14
  have b15 : gK S15 m = 8 := fr_K f15 b14
  obtain ⟨S16, e16, f16, w16, (z16 : gZ S16 = m + 17), c16, r16⟩ := i_al (S := S15) (a := m) (ci := 8) (f := 19) (kd := 10) (n := 64) w15 z15 b15
  have b16 : gK S16 m = 8 := fr_K f16 b15
  obtain ⟨ft, wt, (zt : gZ (gnw S16 10 64) = m + 18), ct, -⟩ := i_new (S := S16) (kd := 10) (n := 64) w16 z16
  obtain ⟨T, eT, fT, wT, zT', hT⟩ := i_tab (S0 := gnw S16 10 64) (r := m + 17) (K := fun S261 => (fpR S261 8 20 (some m) (some (m + 17))).bind fun S263 => (fnA 800 800).bind fun k265 => gLet (gZ S263) fun z269 => gLet (gnw S263 10 k265) fun S267 => (fpR S267 8 21 (some m) (some z269)).bind fun S271 => (fnA 70 70).bind fun k273 => gLet (gZ S271) fun z277 => gLet (gnw S271 10 k273) fun S275 => (fpR S275 8 22 (some m) (some z277)).bind fun S279 => some S279) wt ct.1 ct.2.1
  have zT : gZ T = m + 18 := zT'.trans zt
  have bT : gK T m = 8 := fr_K fT (fr_K ft b16)
  have kT : gK T (m + 17) = 10 := fr_K fT ct.1
  have nT : gN T (m + 17) = 64 := by rw [fr_N fT ct.1]; exact ct.2.1
  have RT : gR T m = gR S16 m := by rw [fr_R fT (fr_K ft b16) (by simp), fr_R ft b16 (by simp)]
  obtain ⟨S17, e17, f17, w17, z17', r17⟩ := i_put (S := T) (a := m) (ci := 8) (f := 20) (t := m + 17) wT bT
  have z17 : gZ S17 = m + 18 := z17'.trans zT
  have b17 : gK S17 m = 8 := fr_K f17 bT
  obtain ⟨S18, e18, f18, w18, (z18 : gZ S18 = m + 19), c18, r18⟩ := i_al (S := S17) (a := m) (ci := 8) (f := 21) (kd := 10) (n := 800) w17 z17 b17
  have b18 : gK S18 m = 8 := fr_K f18 b17
  obtain ⟨S19, e19, f19, w19, (z19 : gZ S19 = m + 20), c19, r19⟩ := i_al (S := S18) (a := m) (ci := 8) (f := 22) (kd := 10) (n := 70) w18 z18 b18
  have b19 : gK S19 m = 8 := fr_K f19 b18
  have GT : fr_S [m + 17] [m] T S19 := fr_mo (fr_tr f17 (fr_tr f18 f19)) (by simp) (by simp)
  have G16 : fr_S [m + 17] [m] S16 S19 := fr_tr (fr_mo ft (by simp) (by simp)) (fr_tr (fr_mo fT (by simp) (by simp)) GT)
  have G15 : fr_S [m + 17] [m] S15 S19 := fr_tr (fr_mo f16 (by simp) (by simp)) G16
  have G14 : fr_S [m + 17] [m] S14 S19 := fr_tr (fr_mo f15 (by simp) (by simp)) G15
  have G13 : fr_S [m + 17] [m] S13 S19 := fr_tr (fr_mo f14 (by simp) (by simp)) G14
  have G12 : fr_S [m + 17] [m] S12 S19 := fr_tr (fr_mo f13 (by simp) (by simp)) G13
  have G11 : fr_S [m + 17] [m] S11 S19 := fr_tr (fr_mo f12 (by simp) (by simp)) G12
  have G10 : fr_S [m + 17] [m] S10 S19 := fr_tr (fr_mo f11 (by simp) (by simp)) G11
  have G9 : fr_S [m + 17] [m] S9 S19 := fr_tr (fr_mo f10 (by simp) (by simp)) G10
  have G8 : fr_S [m + 17] [m] S8 S19 := fr_tr (fr_mo f9 (by simp) (by simp)) G9
  have G7 : fr_S [m + 17] [m] S7 S19 := fr_tr (fr_mo f8 (by simp) (by simp)) G8
  have G6 : fr_S [m + 17] [m] S6 S19 := fr_tr (fr_mo f7 (by simp) (by simp)) G7
  have G5 : fr_S [m + 17] [m] S5 S19 := fr_tr (fr_mo f6 (by simp) (by simp)) G6
  have G4 : fr_S [m + 17] [m] S4 S19 := fr_tr (fr_mo f5 (by simp) (by simp)) G5
  have G3 : fr_S [m + 17] [m] S3 S19 := fr_tr (fr_mo f4 (by simp) (by simp)) G4
  have G2 : fr_S [m + 17] [m] S2 S19 := fr_tr (fr_mo f3 (by simp) (by simp)) G3
  have G1 : fr_S [m + 17] [m] S1 S19 := fr_tr (fr_mo f2 (by simp) (by simp)) G2
  have G0 : fr_S [m + 17] [m] S S19 := fr_tr (fr_mo f1 (by simp) (by simp)) G1
  have R : gR S19 m = va_up (va_up (va_up (va_up (va_up (va_up (va_up (va_up (va_up (va_up (va_up (va_up (va_up (va_up (va_up (va_up (va_up (va_up (va_up (gR S m) 1 (some (m + 1))) 3 (some (m + 2))) 5 (some (m + 3))) 6 (some (m + 4))) 7 (some (m + 5))) 8 (some (m + 6))) 9 (some (m + 7))) 10 (some (m + 8))) 11 (some (m + 9))) 12 (some (m + 10))) 13 (some (m + 11))) 14 (some (m + 12))) 15 (some (m + 13))) 16 (some (m + 14))) 18 (some (m + 15))) 19 (some (m + 16))) 20 (some (m + 17))) 21 (some (m + 18))) 22 (some (m + 19)) := by rw [r19, r18, r17, RT, r16, r15, r14, r13, r12, r11, r10, r9, r8, r7, r6, r5, r4, r3, r2, r1]
  have q1 := zc_fr c1 G1 (ni17 (by decide))
  have q2 := zc_fr c2 G2 (ni17 (by decide))
  have q3 := zc_fr c3 G3 (ni17 (by decide))
  have q4 := zc_fr c4 G4 (ni17 (by decide))
  have q5 := zc_fr c5 G5 (ni17 (by decide))
  have q6 := zc_fr c6 G6 (ni17 (by decide))
  have q7 := zc_fr c7 G7 (ni17 (by decide))
  have q8 := zc_fr c8 G8 (ni17 (by decide))
  have q9 := zc_fr c9 G9 (ni17 (by decide))
  have q10 := zc_fr c10 G10 (ni17 (by decide))
  have q11 := zc_fr c11 G11 (ni17 (by decide))
  have q12 := zc_fr c12 G12 (ni17 (by decide))
  have q13 := zc_fr c13 G13 (ni17 (by decide))
  have q14 := zc_fr c14 G14 (ni17 (by decide))
  have q15 := zc_fr c15 G15 (ni17 (by decide))
  have q16 := zc_fr c16 G16 (ni17 (by decide))
  have q18 := zc_fr c18 f19 (by simp)
  have k17 : gK S19 (m + 17) = 10 := fr_K GT kT
  have n17 : gN S19 (m + 17) = 64 := by rw [fr_N GT kT]; exact nT
  refine ⟨S19, ?_, ?_, w19, z19, ⟨b19, fun q hq => ?_, fun q hq => ?_⟩, fun j hj => ?_, fun o h1 h2 => ?_⟩
  · unfold f_X8_init
    rw [show fnA 2220 2220 = some 2220 from e_nA (n := 2220) (Nat.le_refl _), e_bs, z0, e_let, e_let, e1, e_bs, show fnA 2400 2400 = some 2400 from e_nA (n := 2400) (Nat.le_refl _), e_bs, z1, e_let, e_let, e2, e_bs, show fnA 200 200 = some 200 from e_nA (n := 200) (Nat.le_refl _), e_bs, z2, e_let, e_let, e3, e_bs, show fnA 2 2 = some 2 from e_nA (n := 2) (Nat.le_refl _), e_bs, z3, e_let, e_let, e4, e_bs, show fnA 48000 48000 = some 48000 from e_nA (n := 48000) (Nat.le_refl _), e_bs, z4, e_let, e_let, e5, e_bs, show fnA 400 400 = some 400 from e_nA (n := 400) (Nat.le_refl _), e_bs, z5, e_let, e_let, e6, e_bs, e_bs, z6, e_let, e_let, e7, e_bs, e_bs, z7, e_let, e_let, e8, e_bs, show fnA 6400 6400 = some 6400 from e_nA (n := 6400) (Nat.le_refl _), e_bs, z8, e_let, e_let, e9, e_bs, e_bs, z9, e_let, e_let, e10, e_bs, e_bs, z10, e_let, e_let, e11, e_bs, show fnA 1920 1920 = some 1920 from e_nA (n := 1920) (Nat.le_refl _), e_bs, z11, e_let, e_let, e12, e_bs, show fnA 24 24 = some 24 from e_nA (n := 24) (Nat.le_refl _), e_bs, z12, e_let, e_let, e13, e_bs, show fnA 320 320 = some 320 from e_nA (n := 320) (Nat.le_refl _), e_bs, z13, e_let, e_let, e14, e_bs, show fnA 8 8 = some 8 from e_nA (n := 8) (Nat.le_refl _), e_bs, z14, e_let, e_let, e15, e_bs, show fnA 64 64 = some 64 from e_nA (n := 64) (Nat.le_refl _), e_bs, z15, e_let, e_let, e16, e_bs, e_bs, z16, e_let, e_let]
    refine eT.trans ?_
    show ((fpR T 8 20 (some m) (some (m + 17))).bind fun S263 => (fnA 800 800).bind fun k265 => gLet (gZ S263) fun z269 => gLet (gnw S263 10 k265) fun S267 => (fpR S267 8 21 (some m) (some z269)).bind fun S271 => (fnA 70 70).bind fun k273 => gLet (gZ S271) fun z277 => gLet (gnw S271 10 k273) fun S275 => (fpR S275 8 22 (some m) (some z277)).bind fun S279 => some S279) = some S19
    rw [e17, e_bs, show fnA 800 800 = some 800 from e_nA (n := 800) (Nat.le_refl _), e_bs, z17, e_let, e_let, e18, e_bs, show fnA 70 70 = some 70 from e_nA (n := 70) (Nat.le_refl _), e_bs, z18, e_let, e_let, e19, e_bs]
  · have F := G0
    refine ⟨F.1, fun a ha => ?_⟩
    have hab : a ≠ m + 17 := Nat.ne_of_lt (Nat.lt_of_lt_of_le (hz ▸ w a ha) (Nat.add_le_add_left (by decide) m))
    obtain ⟨h1, h2, h3, h4⟩ := F.2 a ha
    exact ⟨h1, h2, fun _ => h3 (by simp only [List.mem_cons, List.not_mem_nil, or_false]; exact hab), h4⟩
  · simp only [md_R, List.mem_cons, List.not_mem_nil, or_false] at hq
    rcases hq with rfl | rfl | rfl | rfl | rfl | rfl | rfl | rfl | rfl | rfl | rfl | rfl | rfl | rfl | rfl | rfl | rfl | rfl | rfl <;> exact (congrFun R _).trans rfl
  · simp only [md_A, List.mem_cons, List.not_mem_nil, or_false] at hq
    rcases hq with rfl | rfl | rfl | rfl | rfl | rfl | rfl | rfl | rfl | rfl | rfl | rfl | rfl | rfl | rfl | rfl | rfl | rfl | rfl
    · exact ⟨q1.1, q1.2.1⟩
    · exact ⟨q2.1, q2.2.1⟩
    · exact ⟨q3.1, q3.2.1⟩
    · exact ⟨q4.1, q4.2.1⟩
    · exact ⟨q5.1, q5.2.1⟩
    · exact ⟨q6.1, q6.2.1⟩
    · exact ⟨q7.1, q7.2.1⟩
    · exact ⟨q8.1, q8.2.1⟩
    · exact ⟨q9.1, q9.2.1⟩
    · exact ⟨q10.1, q10.2.1⟩
    · exact ⟨q11.1, q11.2.1⟩
    · exact ⟨q12.1, q12.2.1⟩
    · exact ⟨q13.1, q13.2.1⟩
    · exact ⟨q14.1, q14.2.1⟩
    · exact ⟨q15.1, q15.2.1⟩
    · exact ⟨q16.1, q16.2.1⟩
    · exact ⟨k17, n17⟩
    · exact ⟨q18.1, q18.2.1⟩
    · exact ⟨c19.1, c19.2.1⟩
  · rw [fr_I (fr_tr f17 (fr_tr f18 f19)) kT (by simp)]; exact hT j hj
  · obtain rfl | rfl | rfl | rfl | rfl | rfl | rfl | rfl | rfl | rfl | rfl | rfl | rfl := o13_ h1 h2
    · exact q1.2.2
    · exact q2.2.2
    · exact q3.2.2
    · exact q4.2.2
    · exact q5.2.2
    · exact q6.2.2
    · exact q7.2.2
    · exact q8.2.2
    · exact q9.2.2
    · exact q10.2.2
    · exact q11.2.2
    · exact q12.2.2
    · exact q13.2.2
