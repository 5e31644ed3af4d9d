/-! the start: what holds -/
theorem wf_00 (z : Nat) : wf_S (gS00 z) := fun a h => absurd h (by show ¬ 16 < 16; omega)
theorem nl_ {z l : Nat} (hl : l < 2) : z + 6 + 10 * l ∉ [z + 45] ∧ z + 6 + 10 * l + 1 ∉ [z + 45] := by simp only [List.mem_cons, List.not_mem_nil, or_false]; omega
theorem nv2_ {z v : Nat} (hv : v < 8) : z + 27 + v ∉ [z + 45] := by simp only [List.mem_cons, List.not_mem_nil, or_false]; omega
theorem tp0_ {a k : Nat} (h : 0 < k) : ¬ a + k ≤ 0 := by omega
set_option maxHeartbeats 4000000 in
theorem i_all {z L : Nat} {gw : Int32 → Int32 → Nat → Nat} {gp : Int32 → Int32 → Nat} {gq : Int32 → Int32 → Nat → Nat} {xs : Nat → Int32} : ∃ S, f_L_law gw gp gq L xs (gS00 z) = f_L_law_L23 gw gp gq L xs gFuel S 82 74932 (some z) (some (z + 45)) (some (z + 65)) 0 ∧ in_ z S := by
  obtain ⟨f2, w2, z2, c2, -⟩ := i_new (S := gS00 z) (kd := 7) (n := 6) (c := z) (wf_00 z) rfl
  obtain ⟨S5, e5, w5, z5, y5, l5⟩ := i_X7 (S := gnw (gS00 z) 7 6) (z := z) w2 z2 c2.1
  obtain ⟨f8, w8, z8, c8, -⟩ := i_new (S := S5) (kd := 8) (n := 25) w5 z5
  obtain ⟨S11, e11, f11, w11, (z11 : gZ S11 = z + 65), M11, t11, zz11⟩ := i_X8 (S := gnw S5 8 25) (m := z + 45) w8 z8 c8.1
  obtain ⟨f15, w15, z15, c15, -⟩ := i_new (S := S11) (kd := 11) (n := 1) w11 z11
  refine ⟨gnw S11 11 1, ?_, ?_⟩
  · unfold f_L_law
    rw [e_gd (by decide), show gZ (gS00 z) = z from rfl, e_let, e_let, e_gd (by decide), e5, e_bs, e_gd (by decide), z5, e_let, e_let, e_gd (by decide), e11, e_bs, show fnA 1 1 = some 1 from e_nA (n := 1) (Nat.le_refl _), e_bs, e_gd (by decide), z11, e_let, e_let]
  have F : fr_S [] [z + 45] S5 (gnw S11 11 1) := fr_tr (fr_mo f8 (by simp) (by simp)) (fr_tr f11 (fr_mo f15 (by simp) (by simp)))
  have cm := zc_fr (zc_fr c8 f11 (by simp)) f15 (by simp)
  generalize gnw S11 11 1 = S15 at *
  have M : md_L S15 (z + 45) := md_fr M11 f15 (by simp)
  have tb : ∀ j, j < 64 → gI S15 (z + 62) j = g_round.getD j 0 := fun j hj => by
    show gI S15 (z + 45 + 17) j = _
    rw [fr_I f15 (md_k M11 17 10 64) (by simp)]; exact t11 j hj
  have zz : ∀ o k n, (o, k, n) ∈ md_A → k < 16 → 1 ≤ o → o ≤ 13 → gI S15 (z + 45 + o) = fun _ => 0 := fun o k n hq hk h1 h2 => by
    rw [fr_I f15 (M11.2.2 (o, k, n) hq).1 (by simp) hk]; exact zz11 o h1 h2
  obtain ⟨⟨a0, a1, a2, a3, a4, a5, a6⟩, h1, h2, ⟨b1, b2, b3⟩, h3, ⟨d1, d2, d3⟩, h4, h5⟩ := y5
  obtain ⟨l1, l2, l3, l4, ll, lv⟩ := l5
  have q1 := zc_fr l1 F (by simp)
  have q2 := zc_fr l2 F (by simp)
  have q3 := zc_fr l3 F (by simp)
  have q4 := zc_fr l4 F (by simp)
  have y : ly_ z S15 := ⟨⟨fr_K F a0, by rw [fr_R F a0 (by simp)]; exact a1, by rw [fr_R F a0 (by simp)]; exact a2, by rw [fr_R F a0 (by simp)]; exact a3, by rw [fr_R F a0 (by simp)]; exact a4, by rw [fr_R F a0 (by simp)]; exact a5, by rw [fr_R F a0 (by simp)]; exact a6⟩, st_fr h1 F (by simp), st_fr h2 F (by simp), ⟨fr_K F b1, by rw [fr_N F b1]; exact b2, fun l hl => by rw [fr_R F b1 (by simp)]; exact b3 l hl⟩, fun l hl => lg_fr (h3 l hl) F (nl_ hl).1 (nl_ hl).2, ⟨fr_K F d1, by rw [fr_N F d1]; exact d2, fun v hv => ⟨by rw [fr_R F d1 (by simp)]; exact (d3 v hv).1, fr_K F (d3 v hv).2⟩⟩, pt_fr h4 F (by simp), cb_fr h5 F (by simp) (by simp), M, ⟨c15.1, c15.2.1⟩, w15⟩
  have g1 : gI S15 (z + 46) = fun _ => 0 := zz 1 10 2220 (by decide) (by decide) (by decide) (by decide)
  have g2 : gI S15 (z + 47) = fun _ => 0 := zz 2 10 2400 (by decide) (by decide) (by decide) (by decide)
  have g4 : gI S15 (z + 45 + 4) = fun _ => 0 := zz 4 10 2 (by decide) (by decide) (by decide) (by decide)
  have g7 : gI S15 (z + 52) = fun _ => 0 := zz 7 10 2 (by decide) (by decide) (by decide) (by decide)
  have g8 : gI S15 (z + 53) = fun _ => 0 := zz 8 10 2 (by decide) (by decide) (by decide) (by decide)
  have g11 : gI S15 (z + 56) = fun _ => 0 := zz 11 10 2 (by decide) (by decide) (by decide) (by decide)
  have g13 : gI S15 (z + 58) = fun _ => 0 := zz 13 12 24 (by decide) (by decide) (by decide) (by decide)
  refine ⟨y, ⟨0, Nat.zero_le _, by rw [q1.2.2]; rfl, by rw [cm.2.2]; rfl, fun j hj => ?_⟩, ⟨0, Nat.zero_le _, by rw [q3.2.2]; rfl, by rw [cm.2.2]; rfl, fun j hj => ?_⟩, ⟨by rw [cm.2.2]; rfl, tb⟩, fun l hl => ⟨0, 0, 0, 0, ?_⟩, fun v q hv hq => Or.inl ⟨?_, ?_⟩⟩
  · rw [q2.2.2, g1]; exact ⟨rfl, (show (0 : Int32) &&& 255 = 0 from rfl)⟩
  · rw [q4.2.2, g2]; exact ⟨rfl, (show (0 : Int32) &&& 255 = 0 from rfl)⟩
  · obtain ⟨x1, x2⟩ := ll l hl
    have p1 := zc_fr x1 F (by simp)
    have p2 := zc_fr x2 F (by simp)
    refine ⟨⟨by rw [p1.2.2]; rfl, by rw [g7]; rfl, by decide, fun i hi => absurd hi (Nat.not_lt_zero i)⟩, ⟨by rw [p1.2.2]; rfl, by rw [g8]; rfl, Nat.le_refl _⟩, ⟨by rw [p1.2.2]; rfl, by rw [g11]; rfl, Nat.zero_le _⟩, ⟨by rw [p1.2.2]; rfl, by decide, by rw [g4]; rfl, fun j hj => absurd hj (Nat.not_lt_zero j)⟩, fun j hj => ?_, fun i hi => absurd hi (Nat.not_lt_zero i), fun k a hd hk => ?_, fun i hi => absurd hi (Nat.not_lt_zero i), fun h => absurd h (Nat.lt_irrefl 0)⟩
    · rw [p2.2.2]
      unfold kb_
      rw [g4]
      rfl
    · have := Nat.two_pow_pos k
      exact absurd hk (tp0_ this)
  · rw [g13]
  · rw [fr_R F (d3 v hv).2 (nv2_ hv), lv v hv]
