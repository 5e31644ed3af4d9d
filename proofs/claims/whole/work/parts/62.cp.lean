/-! the reference copies -/
theorem cp_again {m c n : Nat} {f g : Nat → Int32} (hb : c + n ≤ 2200 ∧ n ≤ 288) (fu : Nat) : ∀ d i, i + d = n → ∀ S, md_L S m → gI S m 4 = nI n → gI S m 2 = nI c → (∀ j, gI S (m + 1) j = ou_ g (c) i f j) → (∀ q, q < n → gI S (m + 2) (q) = f q) → f_X8_again_L24 (fu + d + 1) S m (nI i) = f_X8_again_L24 (fu + 1) (gsA S (m + 1) (ou_ g (c) n f)) m (nI n)
  | 0, i, hi, S, hL, h4, h2, hd, hs => by
    have : i = n := by omega
    subst this
    have : gI S (m + 1) = ou_ g (c) i f := funext hd
    rw [← this, sA_i]
  | d + 1, i, hi, S, hL, h4, h2, hd, hs => by
    have kd := md_k hL 1 10 2220
    have nd := md_n hL 1 10 2220
    have ks := md_k hL 2 10 2400
    have ns := md_n hL 2 10 2400
    rw [show fu + (d + 1) + 1 = (fu + d + 1) + 1 by omega, f_X8_again_L24, e_gI hL.1, e_bs, h4, if_neg (nI_ge (by omega) (by omega)), e_gR hL.1, e_bs, md_r hL 1 1, e_gI hL.1, e_bs, h2, e_gR hL.1, e_bs, md_r hL 3 2, e_I ks ns (show i < 2400 by omega), e_bs, nI_add, e_aI kd nd (show c + i < 2220 by omega), e_bs, e_let, nI_1]
    have := cp_again (f := f) (g := g) hb fu d (i + 1) (by omega) (gsI S (m + 1) (c + i) (f i)) hL (by rw [sI_n (by omega)]; exact h4) (by rw [sI_n (by omega)]; exact h2) (fun j => by
      rw [sI_s, va_up_e, hd j]
      unfold ou_
      by_cases e : j = c + i
      · rw [if_pos e, if_pos (by omega), e, show c + i - (c) = i by omega]
      · rw [if_neg e]
        by_cases e2 : c ≤ j ∧ j < c + i
        · rw [if_pos e2, if_pos (by omega)]
        · rw [if_neg e2, if_neg (by omega)]) (fun q hq => by rw [sI_n (by omega)]; exact hs q hq)
    rw [show gsA (gsI S (m + 1) (c + i) (f i)) (m + 1) (ou_ g (c) n f) = gsA S (m + 1) (ou_ g (c) n f) by rw [sI_A, sA_A]] at this
    rw [← this, hs i (by omega)]
theorem cp_head {m c n : Nat} {f g : Nat → Int32} (hn : n = 80) (hb : c + 80 ≤ 6400) (fu : Nat) : ∀ d i, i + d = n → ∀ S, md_L S m → (∀ j, gI S (m + 2) j = ou_ g (0) i f j) → (∀ q, q < n → gI S (m + 9) (c + q) = f q) → f_X8_head_L56 (fu + d + 1) S m (nI c) (nI i) = f_X8_head_L56 (fu + 1) (gsA S (m + 2) (ou_ g (0) n f)) m (nI c) (nI n)
  | 0, i, hi, S, hL, hd, hs => by
    have : i = n := by omega
    subst this
    have : gI S (m + 2) = ou_ g (0) i f := funext hd
    rw [← this, sA_i]
  | d + 1, i, hi, S, hL, hd, hs => by
    have kd := md_k hL 2 10 2400
    have nd := md_n hL 2 10 2400
    have ks := md_k hL 9 10 6400
    have ns := md_n hL 9 10 6400
    rw [show fu + (d + 1) + 1 = (fu + d + 1) + 1 by omega, f_X8_head_L56, if_neg (show ¬ (80 : Int32) ≤ nI i from nI_ge (b := 80) (by omega) (by decide)), e_gR hL.1, e_bs, md_r hL 3 2, e_gR hL.1, e_bs, md_r hL 11 9, nI_add, e_I ks ns (show c + i < 6400 by omega), e_bs, e_aI kd nd (show i < 2400 by omega), e_bs, e_let, nI_1]
    have := cp_head (f := f) (g := g) hn hb fu d (i + 1) (by omega) (gsI S (m + 2) (i) (f i)) hL  (fun j => by
      rw [sI_s, va_up_e, hd j]
      unfold ou_
      by_cases e : j = i
      · rw [if_pos e, if_pos (by omega), e, show i - (0) = i by omega]
      · rw [if_neg e]
        by_cases e2 : 0 ≤ j ∧ j < 0 + i
        · rw [if_pos e2, if_pos (by omega)]
        · rw [if_neg e2, if_neg (by omega)]) (fun q hq => by rw [sI_n (by omega)]; exact hs q hq)
    rw [show gsA (gsI S (m + 2) (i) (f i)) (m + 2) (ou_ g (0) n f) = gsA S (m + 2) (ou_ g (0) n f) by rw [sI_A, sA_A]] at this
    rw [← this, hs i (by omega)]
theorem cp_entry {m c n : Nat} {f g : Nat → Int32} (hb : n ≤ 120 ∧ c < 400) (fu : Nat) : ∀ d i, i + d = n → ∀ S, md_L S m → gI S m 4 = nI n → (∀ j, gI S (m + 2) j = ou_ g (0) i f j) → (∀ q, q < n → gI S (m + 5) (120 * c + q) = f q) → f_X8_entry_L64 (fu + d + 1) S m (nI c) (nI i) = f_X8_entry_L64 (fu + 1) (gsA S (m + 2) (ou_ g (0) n f)) m (nI c) (nI n)
  | 0, i, hi, S, hL, h4, hd, hs => by
    have : i = n := by omega
    subst this
    have : gI S (m + 2) = ou_ g (0) i f := funext hd
    rw [← this, sA_i]
  | d + 1, i, hi, S, hL, h4, hd, hs => by
    have kd := md_k hL 2 10 2400
    have nd := md_n hL 2 10 2400
    have ks := md_k hL 5 10 48000
    have ns := md_n hL 5 10 48000
    rw [show fu + (d + 1) + 1 = (fu + d + 1) + 1 by omega, f_X8_entry_L64, e_gI hL.1, e_bs, h4, if_neg (nI_ge (by omega) (by omega)), e_gR hL.1, e_bs, md_r hL 3 2, e_gR hL.1, e_bs, md_r hL 7 5, show (120 : Int32) = nI 120 from rfl, pk_mul, nI_add, e_I ks ns (show 120 * c + i < 48000 by omega), e_bs, e_aI kd nd (show i < 2400 by omega), e_bs, e_let, nI_1]
    have := cp_entry (f := f) (g := g) hb fu d (i + 1) (by omega) (gsI S (m + 2) (i) (f i)) hL (by rw [sI_n (by omega)]; exact h4) (fun j => by
      rw [sI_s, va_up_e, hd j]
      unfold ou_
      by_cases e : j = i
      · rw [if_pos e, if_pos (by omega), e, show i - (0) = i by omega]
      · rw [if_neg e]
        by_cases e2 : 0 ≤ j ∧ j < 0 + i
        · rw [if_pos e2, if_pos (by omega)]
        · rw [if_neg e2, if_neg (by omega)]) (fun q hq => by rw [sI_n (by omega)]; exact hs q hq)
    rw [show gsA (gsI S (m + 2) (i) (f i)) (m + 2) (ou_ g (0) n f) = gsA S (m + 2) (ou_ g (0) n f) by rw [sI_A, sA_A]] at this
    rw [← this, hs i (by omega)]
theorem cp_has {m c n : Nat} {f g : Nat → Int32} (hn : n = 80) (hb : c < 24) (fu : Nat) : ∀ d i, i + d = n → ∀ S, md_L S m → (∀ j, gI S (m + 2) j = ou_ g (0) i f j) → (∀ q, q < n → gI S (m + 12) (80 * c + q) = f q) → f_X8_has_L70 (fu + d + 1) S m (nI c) (nI i) = f_X8_has_L70 (fu + 1) (gsA S (m + 2) (ou_ g (0) n f)) m (nI c) (nI n)
  | 0, i, hi, S, hL, hd, hs => by
    have : i = n := by omega
    subst this
    have : gI S (m + 2) = ou_ g (0) i f := funext hd
    rw [← this, sA_i]
  | d + 1, i, hi, S, hL, hd, hs => by
    have kd := md_k hL 2 10 2400
    have nd := md_n hL 2 10 2400
    have ks := md_k hL 12 10 1920
    have ns := md_n hL 12 10 1920
    rw [show fu + (d + 1) + 1 = (fu + d + 1) + 1 by omega, f_X8_has_L70, if_neg (show ¬ (80 : Int32) ≤ nI i from nI_ge (b := 80) (by omega) (by decide)), e_gR hL.1, e_bs, md_r hL 3 2, e_gR hL.1, e_bs, md_r hL 14 12, show (80 : Int32) = nI 80 from rfl, pk_mul, nI_add, e_I ks ns (show 80 * c + i < 1920 by omega), e_bs, e_aI kd nd (show i < 2400 by omega), e_bs, e_let, nI_1]
    have := cp_has (f := f) (g := g) hn hb fu d (i + 1) (by omega) (gsI S (m + 2) (i) (f i)) hL  (fun j => by
      rw [sI_s, va_up_e, hd j]
      unfold ou_
      by_cases e : j = i
      · rw [if_pos e, if_pos (by omega), e, show i - (0) = i by omega]
      · rw [if_neg e]
        by_cases e2 : 0 ≤ j ∧ j < 0 + i
        · rw [if_pos e2, if_pos (by omega)]
        · rw [if_neg e2, if_neg (by omega)]) (fun q hq => by rw [sI_n (by omega)]; exact hs q hq)
    rw [show gsA (gsI S (m + 2) (i) (f i)) (m + 2) (ou_ g (0) n f) = gsA S (m + 2) (ou_ g (0) n f) by rw [sI_A, sA_A]] at this
    rw [← this, hs i (by omega)]
theorem cp_seal {m  n : Nat} {f g : Nat → Int32} (hn : n = 48) (fu : Nat) : ∀ d i, i + d = n → ∀ S, md_L S m → (∀ j, gI S (m + 2) j = ou_ g (0) i f j) → (∀ q, q < n → gI S (m + 1) (q) = f q) → f_X8_seal_L65 (fu + d + 1) S m (nI i) = f_X8_seal_L65 (fu + 1) (gsA S (m + 2) (ou_ g (0) n f)) m (nI n)
  | 0, i, hi, S, hL, hd, hs => by
    have : i = n := by omega
    subst this
    have : gI S (m + 2) = ou_ g (0) i f := funext hd
    rw [← this, sA_i]
  | d + 1, i, hi, S, hL, hd, hs => by
    have kd := md_k hL 2 10 2400
    have nd := md_n hL 2 10 2400
    have ks := md_k hL 1 10 2220
    have ns := md_n hL 1 10 2220
    rw [show fu + (d + 1) + 1 = (fu + d + 1) + 1 by omega, f_X8_seal_L65, if_neg (show ¬ (48 : Int32) ≤ nI i from nI_ge (b := 48) (by omega) (by decide)), e_gR hL.1, e_bs, md_r hL 3 2, e_gR hL.1, e_bs, md_r hL 1 1, e_I ks ns (show i < 2220 by omega), e_bs, e_aI kd nd (show i < 2400 by omega), e_bs, e_let, nI_1]
    have := cp_seal (f := f) (g := g) hn fu d (i + 1) (by omega) (gsI S (m + 2) (i) (f i)) hL  (fun j => by
      rw [sI_s, va_up_e, hd j]
      unfold ou_
      by_cases e : j = i
      · rw [if_pos e, if_pos (by omega), e, show i - (0) = i by omega]
      · rw [if_neg e]
        by_cases e2 : 0 ≤ j ∧ j < 0 + i
        · rw [if_pos e2, if_pos (by omega)]
        · rw [if_neg e2, if_neg (by omega)]) (fun q hq => by rw [sI_n (by omega)]; exact hs q hq)
    rw [show gsA (gsI S (m + 2) (i) (f i)) (m + 2) (ou_ g (0) n f) = gsA S (m + 2) (ou_ g (0) n f) by rw [sI_A, sA_A]] at this
    rw [← this, hs i (by omega)]
theorem cp_key {m c n : Nat} {f g : Nat → Int32} (hb : n ≤ 100 ∧ c < 2) (fu : Nat) : ∀ d i, i + d = n → ∀ S, md_L S m → (∀ j, gI S (m + 3) j = ou_ g (100 * c) i f j) → (∀ q, q < n → gI S (m + 1) (q) = f q) → f_X8_key_L55 (fu + d + 1) S m (nI c) (nI n) (nI i) = f_X8_key_L55 (fu + 1) (gsA S (m + 3) (ou_ g (100 * c) n f)) m (nI c) (nI n) (nI n)
  | 0, i, hi, S, hL, hd, hs => by
    have : i = n := by omega
    subst this
    have : gI S (m + 3) = ou_ g (100 * c) i f := funext hd
    rw [← this, sA_i]
  | d + 1, i, hi, S, hL, hd, hs => by
    have kd := md_k hL 3 10 200
    have nd := md_n hL 3 10 200
    have ks := md_k hL 1 10 2220
    have ns := md_n hL 1 10 2220
    rw [show fu + (d + 1) + 1 = (fu + d + 1) + 1 by omega, f_X8_key_L55, if_neg (nI_ge (by omega) (by omega)), e_gR hL.1, e_bs, md_r hL 5 3, e_gR hL.1, e_bs, md_r hL 1 1, e_I ks ns (show i < 2220 by omega), e_bs, show (100 : Int32) = nI 100 from rfl, pk_mul, nI_add, e_aI kd nd (show 100 * c + i < 200 by omega), e_bs, e_let, nI_1]
    have := cp_key (f := f) (g := g) hb fu d (i + 1) (by omega) (gsI S (m + 3) (100 * c + i) (f i)) hL  (fun j => by
      rw [sI_s, va_up_e, hd j]
      unfold ou_
      by_cases e : j = 100 * c + i
      · rw [if_pos e, if_pos (by omega), e, show 100 * c + i - (100 * c) = i by omega]
      · rw [if_neg e]
        by_cases e2 : 100 * c ≤ j ∧ j < 100 * c + i
        · rw [if_pos e2, if_pos (by omega)]
        · rw [if_neg e2, if_neg (by omega)]) (fun q hq => by rw [sI_n (by omega)]; exact hs q hq)
    rw [show gsA (gsI S (m + 3) (100 * c + i) (f i)) (m + 3) (ou_ g (100 * c) n f) = gsA S (m + 3) (ou_ g (100 * c) n f) by rw [sI_A, sA_A]] at this
    rw [← this, hs i (by omega)]
theorem cp_submit {m b c n : Nat} {f g : Nat → Int32} (hb : n ≤ 120 ∧ c < 400) (fu : Nat) : ∀ d i, i + d = n → ∀ S, md_L S m → (∀ j, gI S (m + 5) j = ou_ g (120 * c) i f j) → (∀ q, q < n → gI S (m + 1) (q) = f q) → f_X8_submit_L117 (fu + d + 1) S m (nI b) (nI n) (nI c) (nI i) = f_X8_submit_L117 (fu + 1) (gsA S (m + 5) (ou_ g (120 * c) n f)) m (nI b) (nI n) (nI c) (nI n)
  | 0, i, hi, S, hL, hd, hs => by
    have : i = n := by omega
    subst this
    have : gI S (m + 5) = ou_ g (120 * c) i f := funext hd
    rw [← this, sA_i]
  | d + 1, i, hi, S, hL, hd, hs => by
    have kd := md_k hL 5 10 48000
    have nd := md_n hL 5 10 48000
    have ks := md_k hL 1 10 2220
    have ns := md_n hL 1 10 2220
    rw [show fu + (d + 1) + 1 = (fu + d + 1) + 1 by omega, f_X8_submit_L117, if_neg (nI_ge (by omega) (by omega)), e_gR hL.1, e_bs, md_r hL 7 5, e_gR hL.1, e_bs, md_r hL 1 1, e_I ks ns (show i < 2220 by omega), e_bs, show (120 : Int32) = nI 120 from rfl, pk_mul, nI_add, e_aI kd nd (show 120 * c + i < 48000 by omega), e_bs, e_let, nI_1]
    have := cp_submit (f := f) (g := g) (b := b) hb fu d (i + 1) (by omega) (gsI S (m + 5) (120 * c + i) (f i)) hL  (fun j => by
      rw [sI_s, va_up_e, hd j]
      unfold ou_
      by_cases e : j = 120 * c + i
      · rw [if_pos e, if_pos (by omega), e, show 120 * c + i - (120 * c) = i by omega]
      · rw [if_neg e]
        by_cases e2 : 120 * c ≤ j ∧ j < 120 * c + i
        · rw [if_pos e2, if_pos (by omega)]
        · rw [if_neg e2, if_neg (by omega)]) (fun q hq => by rw [sI_n (by omega)]; exact hs q hq)
    rw [show gsA (gsI S (m + 5) (120 * c + i) (f i)) (m + 5) (ou_ g (120 * c) n f) = gsA S (m + 5) (ou_ g (120 * c) n f) by rw [sI_A, sA_A]] at this
    rw [← this, hs i (by omega)]
theorem cp_keep {m c n : Nat} {f g : Nat → Int32} (hn : n = 80) (hb : c < 24) (fu : Nat) : ∀ d i, i + d = n → ∀ S, md_L S m → (∀ j, gI S (m + 12) j = ou_ g (80 * c) i f j) → (∀ q, q < n → gI S (m + 1) (q) = f q) → f_X8_keep_L2 (fu + d + 1) S m (nI c) (nI i) = f_X8_keep_L2 (fu + 1) (gsA S (m + 12) (ou_ g (80 * c) n f)) m (nI c) (nI n)
  | 0, i, hi, S, hL, hd, hs => by
    have : i = n := by omega
    subst this
    have : gI S (m + 12) = ou_ g (80 * c) i f := funext hd
    rw [← this, sA_i]
  | d + 1, i, hi, S, hL, hd, hs => by
    have kd := md_k hL 12 10 1920
    have nd := md_n hL 12 10 1920
    have ks := md_k hL 1 10 2220
    have ns := md_n hL 1 10 2220
    rw [show fu + (d + 1) + 1 = (fu + d + 1) + 1 by omega, f_X8_keep_L2, if_neg (show ¬ (80 : Int32) ≤ nI i from nI_ge (b := 80) (by omega) (by decide)), e_gR hL.1, e_bs, md_r hL 14 12, e_gR hL.1, e_bs, md_r hL 1 1, e_I ks ns (show i < 2220 by omega), e_bs, show (80 : Int32) = nI 80 from rfl, pk_mul, nI_add, e_aI kd nd (show 80 * c + i < 1920 by omega), e_bs, e_let, nI_1]
    have := cp_keep (f := f) (g := g) hn hb fu d (i + 1) (by omega) (gsI S (m + 12) (80 * c + i) (f i)) hL  (fun j => by
      rw [sI_s, va_up_e, hd j]
      unfold ou_
      by_cases e : j = 80 * c + i
      · rw [if_pos e, if_pos (by omega), e, show 80 * c + i - (80 * c) = i by omega]
      · rw [if_neg e]
        by_cases e2 : 80 * c ≤ j ∧ j < 80 * c + i
        · rw [if_pos e2, if_pos (by omega)]
        · rw [if_neg e2, if_neg (by omega)]) (fun q hq => by rw [sI_n (by omega)]; exact hs q hq)
    rw [show gsA (gsI S (m + 12) (80 * c + i) (f i)) (m + 12) (ou_ g (80 * c) n f) = gsA S (m + 12) (ou_ g (80 * c) n f) by rw [sI_A, sA_A]] at this
    rw [← this, hs i (by omega)]
