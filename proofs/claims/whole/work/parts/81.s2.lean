/-! the start: the class -/
theorem i_L81 {z : Nat} (fu : Nat) : ∀ d i, i + d = 8 → ∀ S, wf_S S → gK S z = 7 → gR S z 3 = some (z + 26) → gK S (z + 26) = 15 → gN S (z + 26) = 8 → gZ S = z + 27 + i → (∀ v, v < i → gR S (z + 26) v = some (z + 27 + v) ∧ gK S (z + 27 + v) = 6 ∧ gR S (z + 27 + v) = fun _ => none) → ∃ S', f_X7_init_L81 (fu + d + 1) S (26 + i) (4308 + 3 * i) z (nI i) = f_X7_init_L81 (fu + 1) S' 34 4332 z (nI 8) ∧ fr_S [] [z + 26] S S' ∧ wf_S S' ∧ gZ S' = z + 35 ∧ ∀ v, v < 8 → gR S' (z + 26) v = some (z + 27 + v) ∧ gK S' (z + 27 + v) = 6 ∧ gR S' (z + 27 + v) = fun _ => none
  | 0, i, hi, S, w, k7, r3, k15, n8, hz, hv => by
    have : i = 8 := by omega
    subst this
    exact ⟨S, rfl, fr_refl _ _ _, w, hz, hv⟩
  | d + 1, i, hi, S, w, k7, r3, k15, n8, hz, hv => by
    obtain ⟨f0, w0, z0, c0, r0⟩ := i_new (S := S) (kd := 6) (n := 3) w hz
    have kz : gK (gnw S 6 3) (z + 26) = 15 := fr_K f0 k15
    have nz : gN (gnw S 6 3) (z + 26) = 8 := by rw [fr_N f0 k15]; exact n8
    have e1 : faR (gnw S 6 3) 15 6 (some (z + 26)) (nI i) (some (z + 27 + i)) = some (gsR (gnw S 6 3) (z + 26) i (some (z + 27 + i))) := e_aR kz nz (by omega) c0.1
    have F : fr_S [] [z + 26] S (gsR (gnw S 6 3) (z + 26) i (some (z + 27 + i))) := fr_tr (fr_mo f0 (by simp) (by simp)) (fr_r (by simp))
    have V : ∀ v, v < i + 1 → gR (gsR (gnw S 6 3) (z + 26) i (some (z + 27 + i))) (z + 26) v = some (z + 27 + v) ∧ gK (gsR (gnw S 6 3) (z + 26) i (some (z + 27 + i))) (z + 27 + v) = 6 ∧ gR (gsR (gnw S 6 3) (z + 26) i (some (z + 27 + i))) (z + 27 + v) = fun _ => none := by
      intro v hv'
      by_cases e : v = i
      · subst e
        exact ⟨by rw [sR_s, va_up_s], c0.1, by rw [sR_n (by omega)]; exact r0⟩
      · obtain ⟨h1, h2, h3⟩ := hv v (by omega)
        refine ⟨?_, fr_K F h2, ?_⟩
        · rw [sR_s, va_up_n _ _ _ e, fr_R f0 k15 (by simp)]; exact h1
        · rw [sR_n (by omega), fr_R f0 h2 (by simp)]; exact h3
    have K7 : gK (gsR (gnw S 6 3) (z + 26) i (some (z + 27 + i))) z = 7 := fr_K F k7
    have R3 : gR (gsR (gnw S 6 3) (z + 26) i (some (z + 27 + i))) z 3 = some (z + 26) := by rw [fr_R F k7 (by simp)]; exact r3
    have Z3 : gZ (gsR (gnw S 6 3) (z + 26) i (some (z + 27 + i))) = z + 27 + (i + 1) := z0
    have st : f_X7_init_L81 (fu + (d + 1) + 1) S (26 + i) (4308 + 3 * i) z (nI i) = f_X7_init_L81 (fu + d + 1) (gsR (gnw S 6 3) (z + 26) i (some (z + 27 + i))) (26 + (i + 1)) (4308 + 3 * (i + 1)) z (nI (i + 1)) := by
      rw [show fu + (d + 1) + 1 = (fu + d + 1) + 1 by omega, f_X7_init_L81, e_gd (by omega), if_neg (show ¬ (8 : Int32) ≤ nI i from nI_ge (b := 8) (by omega) (by decide)), e_gR k7, e_bs, r3, e_gd (by omega), hz, e_let, e_let]
      unfold f_X6_init
      rw [e_bs, e1, e_bs, e_let, nI_1, show 26 + i + 1 = 26 + (i + 1) by omega, show 4308 + 3 * i + 3 = 4308 + 3 * (i + 1) by omega]
    generalize gsR (gnw S 6 3) (z + 26) i (some (z + 27 + i)) = S1 at *
    obtain ⟨S', e2, f2, w2, z2, v2⟩ := i_L81 fu d (i + 1) (by omega) S1 (F.1 w) K7 R3 (fr_K F k15) (by rw [fr_N F k15]; exact n8) Z3 V
    exact ⟨S', st.trans e2, fr_tr F f2, w2, z2, v2⟩
/-- one log -/
theorem i_L46 {z l fu : Nat} {S : gS} (hl : l < 2) (w : wf_S S) (k7 : gK S z = 7) (r2 : gR S z 2 = some (z + 5)) (k13 : gK S (z + 5) = 13) (n2 : gN S (z + 5) = 2) (hz : gZ S = z + 6 + 10 * l) : ∃ S', f_X7_init_L46 (fu + 1 + 1) S (5 + 10 * l) (2494 + 903 * l) z (nI l) = f_X7_init_L46 (fu + 1) S' (5 + 10 * (l + 1)) (2494 + 903 * (l + 1)) z (nI (l + 1)) ∧ fr_S [] [z + 5] S S' ∧ wf_S S' ∧ gZ S' = z + 6 + 10 * (l + 1) ∧ gR S' (z + 5) = va_up (gR S (z + 5)) l (some (z + 6 + 10 * l)) ∧ lg_L S' (z + 6 + 10 * l) ∧ zc_ S' (z + 6 + 10 * l) 1 11 ∧ zc_ S' (z + 6 + 10 * l + 4) 9 64 := by
  obtain ⟨f0, w0, z0, c0, -⟩ := i_new (S := S) (kd := 1) (n := 11) w hz
  obtain ⟨S1, e1, f1, w1, (z1 : gZ S1 = z + 6 + 10 * l + 10), L1, c1⟩ := i_X1 (S := gnw S 1 11) (b := z + 6 + 10 * l) w0 z0 c0.1
  have kz : gK S1 (z + 5) = 13 := fr_K f1 (fr_K f0 k13)
  have nz : gN S1 (z + 5) = 2 := by rw [fr_N f1 (fr_K f0 k13), fr_N f0 k13]; exact n2
  have cb := zc_fr c0 f1 (by simp)
  have e2 : faR S1 13 1 (some (z + 5)) (nI l) (some (z + 6 + 10 * l)) = some (gsR S1 (z + 5) l (some (z + 6 + 10 * l))) := e_aR kz nz hl L1.1
  have F2 : fr_S [] [z + 5] S1 (gsR S1 (z + 5) l (some (z + 6 + 10 * l))) := fr_r (by simp)
  refine ⟨gsR S1 (z + 5) l (some (z + 6 + 10 * l)), ?_, ?_, w1, by show gZ S1 = _; rw [z1]; omega, ?_, lg_fr L1 F2 (by simp only [List.mem_cons, List.not_mem_nil, or_false]; omega) (by simp only [List.mem_cons, List.not_mem_nil, or_false]; omega), zc_fr cb F2 (by simp), zc_fr c1 F2 (by simp)⟩
  · rw [f_X7_init_L46, e_gd (by omega), if_neg (show ¬ (2 : Int32) ≤ nI l from nI_ge (b := 2) (by omega) (by decide)), e_gR k7, e_bs, r2, e_gd (by omega), hz, e_let, e_let, e_gd (by omega), e1, e_bs, e2, e_bs, e_let, nI_1, show 5 + 10 * l + 1 + 9 = 5 + 10 * (l + 1) by omega, show 2494 + 903 * l + 11 + 892 = 2494 + 903 * (l + 1) by omega]
  · have F : fr_S [] [z + 5, z + 6 + 10 * l] S (gsR S1 (z + 5) l (some (z + 6 + 10 * l))) := fr_tr (fr_mo f0 (by simp) (by simp)) (fr_tr (fr_mo f1 (by simp) (by simp)) (fr_r (by simp)))
    refine ⟨F.1, fun a ha => ?_⟩
    have hab : a ≠ z + 6 + 10 * l := fun e => by have := w a ha; omega
    obtain ⟨h1, h2, h3, h4⟩ := F.2 a ha
    exact ⟨h1, h2, h3, fun h => h4 (by simp only [List.mem_cons, List.not_mem_nil, or_false] at h ⊢; exact fun q => q.elim h hab)⟩
  · rw [sR_s, fr_R f1 (fr_K f0 k13) (by simp only [List.mem_cons, List.not_mem_nil, or_false]; omega), fr_R f0 k13 (by simp)]
def l0_y (z : Nat) (S : gS) : Prop := (gK S z = 7 ∧ gR S z 0 = some (z + 1) ∧ gR S z 1 = some (z + 3) ∧ gR S z 2 = some (z + 5) ∧ gR S z 3 = some (z + 26) ∧ gR S z 4 = some (z + 35) ∧ gR S z 5 = some (z + 39)) ∧ st_L S (z + 1) (z + 2) 2200 ∧ st_L S (z + 3) (z + 4) 288 ∧ (gK S (z + 5) = 13 ∧ gN S (z + 5) = 2 ∧ ∀ l, l < 2 → gR S (z + 5) l = some (z + 6 + 10 * l)) ∧ (∀ l, l < 2 → lg_L S (z + 6 + 10 * l)) ∧ (gK S (z + 26) = 15 ∧ gN S (z + 26) = 8 ∧ ∀ v, v < 8 → gR S (z + 26) v = some (z + 27 + v) ∧ gK S (z + 27 + v) = 6) ∧ pt_L S (z + 35) ∧ cb_L S (z + 39)
def l0_c (z : Nat) (S : gS) : Prop := zc_ S (z + 1) 5 2 ∧ zc_ S (z + 2) 9 2200 ∧ zc_ S (z + 3) 5 2 ∧ zc_ S (z + 4) 9 288 ∧ (∀ l, l < 2 → zc_ S (z + 6 + 10 * l) 1 11 ∧ zc_ S (z + 6 + 10 * l + 4) 9 64) ∧ ∀ v, v < 8 → gR S (z + 27 + v) = fun _ => none
/-- a strip -/
theorem i_strip {z c f N : Nat} {S : gS} (w : wf_S S) (k7 : gK S z = 7) (hz : gZ S = c) (hzc : z < c) : ∃ S1 S2, gZ (gnw S 5 2) = c + 1 ∧ f_X5_init (gnw (gnw S 5 2) 9 N) c (some (c + 1)) = some S1 ∧ fpR S1 7 f (some z) (some c) = some S2 ∧ fr_S [] [z] S S2 ∧ wf_S S2 ∧ gZ S2 = c + 2 ∧ st_L S2 c (c + 1) N ∧ zc_ S2 c 5 2 ∧ zc_ S2 (c + 1) 9 N ∧ gR S2 z = va_up (gR S z) f (some c) := by
  obtain ⟨f0, w0, z0, c0, -⟩ := i_new (S := S) (kd := 5) (n := 2) w hz
  obtain ⟨S1, e1, f1, w1, z1, c1, r1⟩ := i_al (S := gnw S 5 2) (a := c) (ci := 5) (f := 0) (kd := 9) (n := N) w0 z0 c0.1
  have k1 : gK S1 z = 7 := fr_K f1 (fr_K f0 k7)
  obtain ⟨S2, e2, f2, w2, z2, r2⟩ := i_put (S := S1) (a := z) (ci := 7) (f := f) (t := c) w1 k1
  have cc := zc_fr (zc_fr c0 f1 (by simp)) f2 (by simp)
  have cd := zc_fr c1 f2 (by simp)
  refine ⟨S1, S2, z0, ?_, e2, ?_, w2, z2.trans z1, ⟨cc.1, ?_, cd.1, cd.2.1⟩, cc, cd, ?_⟩
  · unfold f_X5_init
    rw [e1, e_bs]
  · have F : fr_S [] [z, c] S S2 := fr_tr (fr_mo f0 (by simp) (by simp)) (fr_tr (fr_mo f1 (by simp) (by simp)) (fr_mo f2 (by simp) (by simp)))
    refine ⟨F.1, fun a ha => ?_⟩
    have hab : a ≠ c := fun e => by have := w a ha; omega
    obtain ⟨h1, h2, h3, h4⟩ := F.2 a ha
    exact ⟨h1, h2, h3, fun h => h4 (by simp only [List.mem_cons, List.not_mem_nil, or_false] at h ⊢; exact fun q => q.elim h hab)⟩
  · rw [fr_R f2 (fr_K f1 c0.1) (by simp only [List.mem_cons, List.not_mem_nil, or_false]; omega), r1, va_up_s]
  · rw [r2, fr_R f1 (fr_K f0 k7) (by simp only [List.mem_cons, List.not_mem_nil, or_false]; omega), fr_R f0 k7 (by simp)]
theorem two_ {l : Nat} (h : l < 2) : l = 0 ∨ l = 1 := by omega
theorem t2_ {fu : Nat} : 2 + fu + 1 = fu + 1 + 1 + 1 := by omega
theorem t8_ {fu : Nat} : 8 + fu + 1 = fu + 8 + 1 := by omega
theorem nD_ {z o : Nat} (h : o ≠ 0 ∧ o ≠ 5 ∧ o ≠ 26 ∧ o ≠ 35 ∧ o ≠ 39) : z + o ∉ [z, z + 5, z + 26, z + 35, z + 39] := by simp only [List.mem_cons, List.not_mem_nil, or_false]; omega
theorem nE_ {z o : Nat} (h : o ≠ 0 ∧ o ≠ 26 ∧ o ≠ 35 ∧ o ≠ 39) : z + o ∉ [z, z + 26, z + 35, z + 39] := by simp only [List.mem_cons, List.not_mem_nil, or_false]; omega
theorem nU_ {z o : Nat} (h : o ≠ 0) : z + o ∉ [z] := by simp only [List.mem_cons, List.not_mem_nil, or_false]; omega
theorem nv_ {z v : Nat} (hv : v < 8) : z + 27 + v ∉ [z, z + 35, z + 39] := by simp only [List.mem_cons, List.not_mem_nil, or_false]; omega
set_option maxHeartbeats 8000000 in
theorem i_X7 {S : gS} {z : Nat} (w : wf_S S) (hz : gZ S = z + 1) (k7 : gK S z = 7) : ∃ S', f_X7_init S z = some S' ∧ wf_S S' ∧ gZ S' = z + 45 ∧ l0_y z S' ∧ l0_c z S' := by
  obtain ⟨A1, A2, za, ea1, ea2, fa, wa, (za2 : gZ A2 = z + 3), sa, ca, ca', ra⟩ := i_strip (z := z) (f := 0) (N := 2200) w k7 hz (Nat.lt_succ_self z)
  have ka : gK A2 z = 7 := fr_K fa k7
  obtain ⟨B1, B2, zb, eb1, eb2, fb, wb, (zb2 : gZ B2 = z + 5), sb, cb, cb', rb⟩ := i_strip (S := A2) (z := z) (f := 1) (N := 288) wa ka za2 (Nat.lt_add_of_pos_right (by decide))
  have kb : gK B2 z = 7 := fr_K fb ka
  obtain ⟨C, ec, fc, wc, (zc : gZ C = z + 6), cc, rc⟩ := i_al (S := B2) (a := z) (ci := 7) (f := 2) (kd := 13) (n := 2) wb zb2 kb
  have kc : gK C z = 7 := fr_K fc kb
  have rC2 : gR C z 2 = some (z + 5) := by rw [rc, va_up_s]
  obtain ⟨fu, hf⟩ := g_fu 2
  obtain ⟨D, ed, fd, wd, zd, rd, Ld, cd, cd'⟩ := i_L46 (z := z) (l := 0) (fu := fu + 1) (S := C) (by decide) wc kc rC2 cc.1 cc.2.1 zc
  have kd : gK D z = 7 := fr_K fd kc
  have rD2 : gR D z 2 = some (z + 5) := by rw [fr_R fd kc (by simp)]; exact rC2
  obtain ⟨E, ee, fe, we, ze, re, Le, ce, ce'⟩ := i_L46 (z := z) (l := 1) (fu := fu) (S := D) (by decide) wd kd rD2 (fr_K fd cc.1) (by rw [fr_N fd cc.1]; exact cc.2.1) zd
  have ke : gK E z = 7 := fr_K fe kd
  have zE : gZ E = z + 26 := ze
  obtain ⟨G, eg, fg, wg, (zg : gZ G = z + 27), cg, rg⟩ := i_al (S := E) (a := z) (ci := 7) (f := 3) (kd := 15) (n := 8) we zE ke
  have kg : gK G z = 7 := fr_K fg ke
  obtain ⟨fu2, hf2⟩ := g_fu 8
  obtain ⟨H, eh, fh, wh, zh, vh⟩ := i_L81 (z := z) fu2 8 0 rfl G wg kg (by rw [rg, va_up_s]) cg.1 cg.2.1 zg (fun v hv => absurd hv (Nat.not_lt_zero v))
  have kh : gK H z = 7 := fr_K fh kg
  obtain ⟨fi, wi, zi, ci, -⟩ := i_new (S := H) (kd := 2) (n := 7) wh zh
  obtain ⟨P, ep, fp, wp, (zp : gZ P = z + 39), pl⟩ := i_X2 (S := gnw H 2 7) (p := z + 35) wi zi ci.1
  have kp : gK P z = 7 := fr_K fp (fr_K fi kh)
  obtain ⟨Q, eq, fq, wq, zq', rq⟩ := i_put (S := P) (a := z) (ci := 7) (f := 4) (t := z + 35) wp kp
  have zq : gZ Q = z + 39 := zq'.trans zp
  have kq : gK Q z = 7 := fr_K fq kp
  obtain ⟨fj, wj, zj, cj, -⟩ := i_new (S := Q) (kd := 0) (n := 3) wq zq
  obtain ⟨U, eu, f_u, wu, (zu : gZ U = z + 45), cl⟩ := i_X0 (S := gnw Q 0 3) (b := z + 39) wj zj cj.1
  have ku : gK U z = 7 := fr_K f_u (fr_K fj kq)
  obtain ⟨V, ev, fv, wv, zv', rv⟩ := i_put (S := U) (a := z) (ci := 7) (f := 5) (t := z + 39) wu ku
  have zv : gZ V = z + 45 := zv'.trans zu
  have kv : gK V z = 7 := fr_K fv ku
  -- frames to the end
  have gU : fr_S [] [z] U V := fv
  have gQ : fr_S [] [z, z + 39] Q V := fr_tr (fr_mo fj (by simp) (by simp)) (fr_tr (fr_mo f_u (by simp) (by simp)) (fr_mo fv (by simp) (by simp)))
  have gP : fr_S [] [z, z + 39] P V := fr_tr (fr_mo fq (by simp) (by simp)) gQ
  have gH : fr_S [] [z, z + 35, z + 39] H V := fr_tr (fr_mo fi (by simp) (by simp)) (fr_tr (fr_mo fp (by simp) (by simp)) (fr_mo gP (by simp) (by simp)))
  have gG : fr_S [] [z, z + 26, z + 35, z + 39] G V := fr_tr (fr_mo fh (by simp) (by simp)) (fr_mo gH (by simp) (by simp))
  have gE : fr_S [] [z, z + 26, z + 35, z + 39] E V := fr_tr (fr_mo fg (by simp) (by simp)) gG
  have gD : fr_S [] [z, z + 5, z + 26, z + 35, z + 39] D V := fr_tr (fr_mo fe (by simp) (by simp)) (fr_mo gE (by simp) (by simp))
  have gC : fr_S [] [z, z + 5, z + 26, z + 35, z + 39] C V := fr_tr (fr_mo fd (by simp) (by simp)) gD
  have gB : fr_S [] [z, z + 5, z + 26, z + 35, z + 39] B2 V := fr_tr (fr_mo fc (by simp) (by simp)) gC
  have gA : fr_S [] [z, z + 5, z + 26, z + 35, z + 39] A2 V := fr_tr (fr_mo fb (by simp) (by simp)) gB
  have RV : gR V z = va_up (va_up (va_up (va_up (va_up (va_up (gR S z) 0 (some (z + 1))) 1 (some (z + 3))) 2 (some (z + 5))) 3 (some (z + 26))) 4 (some (z + 35))) 5 (some (z + 39)) := by
    rw [rv, fr_R f_u (fr_K fj kq) (by simp), fr_R fj kq (by simp), rq, fr_R fp (fr_K fi kh) (by simp), fr_R fi kh (by simp), fr_R fh kg (by simp), rg, fr_R fe kd (by simp), fr_R fd kc (by simp), rc, rb, ra]
  have R5 : gR V (z + 5) = va_up (va_up (gR C (z + 5)) 0 (some (z + 6 + 10 * 0))) 1 (some (z + 6 + 10 * 1)) := by
    rw [fr_R gE (fr_K fe (fr_K fd cc.1)) (by simp), re, rd]
  have lgs : ∀ l, l < 2 → lg_L V (z + 6 + 10 * l) ∧ zc_ V (z + 6 + 10 * l) 1 11 ∧ zc_ V (z + 6 + 10 * l + 4) 9 64 := by
    intro l hl
    obtain rfl | rfl := two_ hl
    · exact ⟨lg_fr Ld gD (nD_ (o := 6) (by decide)) (nD_ (o := 7) (by decide)), zc_fr cd gD (by simp), zc_fr cd' gD (by simp)⟩
    · exact ⟨lg_fr Le gE (nE_ (o := 16) (by decide)) (nE_ (o := 17) (by decide)), zc_fr ce gE (by simp), zc_fr ce' gE (by simp)⟩
  refine ⟨V, ?_, wv, zv, ⟨⟨kv, (congrFun RV _).trans rfl, (congrFun RV _).trans rfl, (congrFun RV _).trans rfl, (congrFun RV _).trans rfl, (congrFun RV _).trans rfl, (congrFun RV _).trans rfl⟩, st_fr sa gA (by simp), st_fr sb gB (by simp), ⟨fr_K gC cc.1, by rw [fr_N gC cc.1]; exact cc.2.1, fun l hl => ?_⟩, fun l hl => (lgs l hl).1, ⟨fr_K gG cg.1, by rw [fr_N gG cg.1]; exact cg.2.1, fun v hv => ⟨?_, fr_K gH (vh v hv).2.1⟩⟩, pt_fr pl gP (by simp), cb_fr cl gU (nU_ (o := 39) (by decide)) (nU_ (o := 40) (by decide))⟩, zc_fr ca gA (by simp), zc_fr ca' gA (by simp), zc_fr cb gB (by simp), zc_fr cb' gB (by simp), fun l hl => (lgs l hl).2, fun v hv => ?_⟩
  · unfold f_X7_init
    rw [hz, e_let, e_let, show fnA 2200 2200 = some 2200 from e_nA (n := 2200) (Nat.le_refl _), e_bs, za, e_let, e_let, ea1, e_bs, ea2, e_bs, za2, e_let, e_let, show fnA 288 288 = some 288 from e_nA (n := 288) (Nat.le_refl _), e_bs, zb, e_let, e_let, eb1, e_bs, eb2, e_bs, show fnA 2 2 = some 2 from e_nA (n := 2) (Nat.le_refl _), e_bs, zb2, e_let, e_let, ec, e_bs, hf, t2_]
    refine Eq.trans ed ?_
    refine Eq.trans ee ?_
    rw [f_X7_init_L46, e_gd (by decide), if_pos (show (2 : Int32) ≤ nI (1 + 1) from by decide), show fnA 8 8 = some 8 from e_nA (n := 8) (Nat.le_refl _), e_bs, e_gd (by decide), zE, e_let, e_let, eg, e_bs, hf2, t8_]
    refine Eq.trans eh ?_
    rw [f_X7_init_L81, e_gd (by decide), if_pos (show (8 : Int32) ≤ nI 8 from by decide), e_gd (by decide), zh, e_let, e_let, e_gd (by decide), ep, e_bs, eq, e_bs, e_gd (by decide), zq, e_let, e_let, e_gd (by decide), eu, e_bs, ev, e_bs]
  · obtain rfl | rfl := two_ hl
    · exact (congrFun R5 _).trans rfl
    · exact (congrFun R5 _).trans rfl
  · rw [fr_R gH (fr_K fh cg.1) (by simp)]; exact (vh v hv).1
  · rw [fr_R gH (vh v hv).2.1 (nv_ hv)]; exact (vh v hv).2.2
