/-! bytes and words, bytes and longs -/
def bt_ (x : Int32) : Prop := x &&& 255 = x
theorem b255 {i : Nat} (hi : i < 32) : (255#32).getLsbD i = decide (i < 8) := by
  have : ∀ i : Fin 32, (255#32).getLsbD i.val = decide (i.val < 8) := by decide
  exact this ⟨i, hi⟩
theorem bt_hi {x : Int32} (h : bt_ x) {q : Nat} (hq : 8 ≤ q) : x.toBitVec.getLsbD q = false := by
  have e : x.toBitVec &&& 255#32 = x.toBitVec := congrArg Int32.toBitVec h
  rw [← e, BitVec.getLsbD_and]
  by_cases c : q < 32
  · rw [b255 c]; simp; omega
  · rw [BitVec.getLsbD_of_ge _ _ (by omega)]; rfl
theorem bt_and (x : Int32) : bt_ (x &&& 255) := m_m x
theorem bt_dby (W : Nat → Int32) (j : Nat) : bt_ (d_by W j) := d_by_m W j
theorem by_bit {w : Int32} {i q : Nat} (hi : i < 4) (hq : q < 8) : (s_by w i).toBitVec.getLsbD q = w.toBitVec.getLsbD (24 - 8 * i + q) := by
  have key : ∀ k : Nat, ((w.toBitVec >>> k) &&& 255#32).getLsbD q = w.toBitVec.getLsbD (k + q) := by
    intro k
    rw [BitVec.getLsbD_and, b255 (by omega), BitVec.getLsbD_ushiftRight]; simp [hq]
  obtain rfl | rfl | rfl | rfl : i = 0 ∨ i = 1 ∨ i = 2 ∨ i = 3 := by omega
  · exact key 24
  · exact key 16
  · exact key 8
  · exact key 0
theorem w4_bit {M : Nat → Int32} {p q : Nat} (h : ∀ j, p ≤ j → j < p + 4 → bt_ (M j)) (hq : q < 32) : (s_w4 M p).toBitVec.getLsbD q = (M (p + (3 - q / 8))).toBitVec.getLsbD (q % 8) := by
  show ((((M p).toBitVec <<< 24 ||| (M (p + 1)).toBitVec <<< 16) ||| (M (p + 2)).toBitVec <<< 8) ||| (M (p + 3)).toBitVec).getLsbD q = _
  have h0 : ∀ k, 8 ≤ k → (M p).toBitVec.getLsbD k = false := fun k hk => bt_hi (h p (by omega) (by omega)) hk
  have h1 : ∀ k, 8 ≤ k → (M (p + 1)).toBitVec.getLsbD k = false := fun k hk => bt_hi (h (p + 1) (by omega) (by omega)) hk
  have h2 : ∀ k, 8 ≤ k → (M (p + 2)).toBitVec.getLsbD k = false := fun k hk => bt_hi (h (p + 2) (by omega) (by omega)) hk
  have h3 : ∀ k, 8 ≤ k → (M (p + 3)).toBitVec.getLsbD k = false := fun k hk => bt_hi (h (p + 3) (by omega) (by omega)) hk
  rw [BitVec.getLsbD_or, BitVec.getLsbD_or, BitVec.getLsbD_or, BitVec.getLsbD_shiftLeft, BitVec.getLsbD_shiftLeft, BitVec.getLsbD_shiftLeft]
  by_cases c1 : q < 8
  · rw [show 3 - q / 8 = 3 by omega, show q % 8 = q by omega, decide_eq_true (show q < 24 by omega), decide_eq_true (show q < 16 by omega), decide_eq_true c1]; simp
  · by_cases c2 : q < 16
    · rw [show 3 - q / 8 = 2 by omega, show q % 8 = q - 8 by omega, h3 q (by omega), decide_eq_true (show q < 24 by omega), decide_eq_true c2, decide_eq_false c1]; simp [hq]
    · by_cases c3 : q < 24
      · rw [show 3 - q / 8 = 1 by omega, show q % 8 = q - 16 by omega, h3 q (by omega), h2 (q - 8) (by omega), decide_eq_true c3, decide_eq_false c2]; simp [hq]
      · rw [show 3 - q / 8 = 0 by omega, show q % 8 = q - 24 by omega, h3 q (by omega), h2 (q - 8) (by omega), h1 (q - 16) (by omega), decide_eq_false c3]; simp [hq]
theorem bt_ext {x y : Int32} (hx : bt_ x) (hy : bt_ y) (h : ∀ q, q < 8 → x.toBitVec.getLsbD q = y.toBitVec.getLsbD q) : x = y := by
  apply i32_bv
  apply BitVec.eq_of_getLsbD_eq
  intro i _
  by_cases c : i < 8
  · exact h i c
  · rw [bt_hi hx (by omega), bt_hi hy (by omega)]
/-- the words of bytes in a row -/
def w_at (M : Nat → Int32) (p i : Nat) : Int32 := s_w4 M (p + 4 * i)
theorem by_w {M : Nat → Int32} {p j : Nat} (h : ∀ k, k < 32 → bt_ (M (p + k))) (hj : j < 32) : d_by (w_at M p) j = M (p + j) := by
  refine bt_ext (bt_dby _ _) (h j hj) fun q hq => ?_
  unfold d_by w_at
  rw [by_bit (by omega) hq, w4_bit (fun k h1 h2 => by rw [show k = p + (k - p) by omega]; exact h _ (by omega)) (by omega)]
  rw [show p + 4 * (j / 4) + (3 - (24 - 8 * (j % 4) + q) / 8) = p + j by omega, show (24 - 8 * (j % 4) + q) % 8 = q by omega]
theorem w_by {A B : Nat → Int32} {i : Nat} (hi : i < 8) (h : ∀ j, j < 32 → d_by A j = d_by B j) : A i = B i := by
  apply i32_bv
  apply BitVec.eq_of_getLsbD_eq
  intro q hq
  have e := congrArg (fun x => x.toBitVec.getLsbD (q % 8)) (h (4 * i + (3 - q / 8)) (by omega))
  simp only [d_by] at e
  rw [by_bit (by omega) (by omega), by_bit (by omega) (by omega), show (4 * i + (3 - q / 8)) / 4 = i by omega, show 24 - 8 * ((4 * i + (3 - q / 8)) % 4) + q % 8 = q by omega] at e
  exact e
theorem d_by_c {A B : Nat → Int32} (h : ∀ i, i < 8 → A i = B i) {j : Nat} (hj : j < 32) : d_by A j = d_by B j := by
  unfold d_by; rw [h _ (by omega)]
/-! longs -/
def s_lgf (M : Nat → Int32) (p : Nat) : Nat → Int64
  | 0 => 0
  | k + 1 => (s_lgf M p k <<< ((8 : Int32).toInt64 &&& 63)) ||| (M (p + k)).toInt64
def s_lg (M : Nat → Int32) (p : Nat) : Int64 := s_lgf M p 8
def lb_ (v : Int64) (i : Nat) : Int32 := ((v >>> ((nI (8 * (7 - i))).toInt64 &&& 63)).toInt32) &&& 255
theorem bt_lb (v : Int64) (i : Nat) : bt_ (lb_ v i) := m_m _
theorem lb_bit {v : Int64} {i q : Nat} (hi : i < 8) (hq : q < 8) : (lb_ v i).toBitVec.getLsbD q = v.toBitVec.getLsbD (8 * (7 - i) + q) := by
  have key : ∀ k : Nat, k ≤ 56 → ((v.toBitVec.sshiftRight k).signExtend 32 &&& 255#32).getLsbD q = v.toBitVec.getLsbD (k + q) := by
    intro k hk
    rw [BitVec.getLsbD_and, b255 (by omega), BitVec.getLsbD_signExtend, BitVec.getLsbD_sshiftRight]
    simp [hq, show q < 32 by omega, show q < 64 by omega, show k + q < 64 by omega]
  obtain rfl | rfl | rfl | rfl | rfl | rfl | rfl | rfl : i = 0 ∨ i = 1 ∨ i = 2 ∨ i = 3 ∨ i = 4 ∨ i = 5 ∨ i = 6 ∨ i = 7 := by omega
  · exact key 56 (by decide)
  · exact key 48 (by decide)
  · exact key 40 (by decide)
  · exact key 32 (by decide)
  · exact key 24 (by decide)
  · exact key 16 (by decide)
  · exact key 8 (by decide)
  · exact key 0 (by decide)
theorem lb_ush {v : Int64} {i : Nat} (hi : i < 8) : ((g_lushr' v (56 - (8 * nI i))).toInt32) &&& 255 = lb_ v i := by
  refine bt_ext (bt_and _) (bt_lb _ _) fun q hq => ?_
  rw [lb_bit hi hq]
  have key : ∀ k : Nat, ((v.toBitVec >>> k).signExtend 32 &&& 255#32).getLsbD q = v.toBitVec.getLsbD (k + q) := by
    intro k
    rw [BitVec.getLsbD_and, b255 (by omega), BitVec.getLsbD_signExtend, BitVec.getLsbD_ushiftRight]
    simp [hq, show q < 32 by omega, show q < 64 by omega]
  obtain rfl | rfl | rfl | rfl | rfl | rfl | rfl | rfl : i = 0 ∨ i = 1 ∨ i = 2 ∨ i = 3 ∨ i = 4 ∨ i = 5 ∨ i = 6 ∨ i = 7 := by omega
  · exact key 56
  · exact key 48
  · exact key 40
  · exact key 32
  · exact key 24
  · exact key 16
  · exact key 8
  · exact key 0
theorem lgf_bit {M : Nat → Int32} {p : Nat} : ∀ k, k ≤ 8 → (∀ j, j < k → bt_ (M (p + j))) → ∀ q, q < 64 → (s_lgf M p k).toBitVec.getLsbD q = (decide (q < 8 * k) && (M (p + (k - 1 - q / 8))).toBitVec.getLsbD (q % 8))
  | 0, _, _, q, hq => by
    show (0#64).getLsbD q = _
    simp
  | k + 1, hk, h, q, hq => by
    have ih := lgf_bit (M := M) (p := p) k (by omega) (fun j hj => h j (by omega))
    show (((s_lgf M p k).toBitVec <<< 8) ||| (M (p + k)).toBitVec.signExtend 64).getLsbD q = _
    rw [BitVec.getLsbD_or, BitVec.getLsbD_shiftLeft, BitVec.getLsbD_signExtend]
    have hb := fun c (hc : 8 ≤ c) => bt_hi (h k (by omega)) hc
    by_cases c : q < 8
    · simp only [decide_eq_true c, decide_eq_true hq, decide_eq_true (show q < 8 * (k + 1) by omega), show q < 32 by omega, if_true, Bool.not_true, Bool.and_false, Bool.false_and, Bool.false_or, Bool.true_and]
      rw [show k + 1 - 1 - q / 8 = k by omega, show q % 8 = q by omega]
    · have hz : (if q < 32 then (M (p + k)).toBitVec.getLsbD q else (M (p + k)).toBitVec.msb) = false := by
        by_cases c2 : q < 32
        · rw [if_pos c2]; exact hb q (by omega)
        · rw [if_neg c2, BitVec.msb_eq_getLsbD_last]; exact hb _ (by decide)
      rw [hz, ih (q - 8) (by omega), decide_eq_false c, decide_eq_true hq]
      simp only [Bool.not_false, Bool.true_and, Bool.and_false, Bool.or_false]
      rw [show k - 1 - (q - 8) / 8 = k + 1 - 1 - q / 8 by omega, show (q - 8) % 8 = q % 8 by omega, decide_eq_decide.mpr (show q - 8 < 8 * k ↔ q < 8 * (k + 1) by omega)]
theorem lb_lg {M : Nat → Int32} {p i : Nat} (h : ∀ j, j < 8 → bt_ (M (p + j))) (hi : i < 8) : lb_ (s_lg M p) i = M (p + i) := by
  refine bt_ext (bt_lb _ _) (h i hi) fun q hq => ?_
  rw [lb_bit hi hq]
  unfold s_lg
  rw [lgf_bit 8 (by decide) h _ (by omega), decide_eq_true (by omega), show 8 - 1 - (8 * (7 - i) + q) / 8 = i by omega, show (8 * (7 - i) + q) % 8 = q by omega]
  rfl
theorem i64_bv {x y : Int64} (h : x.toBitVec = y.toBitVec) : x = y := Int64.toBitVec_inj.mp h
theorem lg_lb {M : Nat → Int32} {p : Nat} {v : Int64} (h : ∀ j, j < 8 → M (p + j) = lb_ v j) : s_lg M p = v := by
  apply i64_bv
  apply BitVec.eq_of_getLsbD_eq
  intro q hq
  unfold s_lg
  rw [lgf_bit 8 (by decide) (fun j hj => by rw [h j hj]; exact bt_lb _ _) q hq, decide_eq_true (by omega), h _ (by omega), lb_bit (by omega) (by omega), show 8 * (7 - (8 - 1 - q / 8)) + q % 8 = q by omega]
  rfl
theorem lgf_c {M M' : Nat → Int32} {p p' : Nat} : ∀ k, (∀ j, j < k → M (p + j) = M' (p' + j)) → s_lgf M p k = s_lgf M' p' k
  | 0, _ => rfl
  | k + 1, h => by
    show (s_lgf M p k <<< _) ||| (M (p + k)).toInt64 = (s_lgf M' p' k <<< _) ||| (M' (p' + k)).toInt64
    rw [lgf_c k (fun j hj => h j (by omega)), h k (by omega)]
theorem lg_c {M M' : Nat → Int32} {p p' : Nat} (h : ∀ j, j < 8 → M (p + j) = M' (p' + j)) : s_lg M p = s_lg M' p' := lgf_c 8 h
