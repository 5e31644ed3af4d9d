/-! the pure part: forward rows of the ghost's operations -/
def wf_S (S : gS) : Prop := ∀ a, gK S a < 16 → a < gZ S
def fr_S (A B : List Nat) (S S' : gS) : Prop := (wf_S S → wf_S S') ∧ ∀ a, gK S a < 16 → gK S' a = gK S a ∧ gN S' a = gN S a ∧ (a ∉ A → gI S' a = gI S a ∧ gL S' a = gL S a) ∧ (a ∉ B → gR S' a = gR S a)
theorem fr_K {A B : List Nat} {S S' : gS} (h : fr_S A B S S') {a kd : Nat} (hk : gK S a = kd) (hd : kd < 16 := by decide) : gK S' a = kd := by
  rw [(h.2 a (by rw [hk]; exact hd)).1]; exact hk
theorem fr_N {A B : List Nat} {S S' : gS} (h : fr_S A B S S') {a kd : Nat} (hk : gK S a = kd) (hd : kd < 16 := by decide) : gN S' a = gN S a := (h.2 a (by rw [hk]; exact hd)).2.1
theorem fr_I {A B : List Nat} {S S' : gS} (h : fr_S A B S S') {a kd : Nat} (hk : gK S a = kd) (hA : a ∉ A) (hd : kd < 16 := by decide) : gI S' a = gI S a := ((h.2 a (by rw [hk]; exact hd)).2.2.1 hA).1
theorem fr_L {A B : List Nat} {S S' : gS} (h : fr_S A B S S') {a kd : Nat} (hk : gK S a = kd) (hA : a ∉ A) (hd : kd < 16 := by decide) : gL S' a = gL S a := ((h.2 a (by rw [hk]; exact hd)).2.2.1 hA).2
theorem fr_R {A B : List Nat} {S S' : gS} (h : fr_S A B S S') {a kd : Nat} (hk : gK S a = kd) (hB : a ∉ B) (hd : kd < 16 := by decide) : gR S' a = gR S a := (h.2 a (by rw [hk]; exact hd)).2.2.2 hB
theorem fr_refl (A B : List Nat) (S : gS) : fr_S A B S S := ⟨id, fun _ _ => ⟨rfl, rfl, fun _ => ⟨rfl, rfl⟩, fun _ => rfl⟩⟩
theorem fr_tr {A B : List Nat} {S S' S'' : gS} (h : fr_S A B S S') (g : fr_S A B S' S'') : fr_S A B S S'' := by
  refine ⟨fun w => g.1 (h.1 w), fun a ha => ?_⟩
  obtain ⟨h1, h2, h3, h4⟩ := h.2 a ha
  obtain ⟨g1, g2, g3, g4⟩ := g.2 a (by rw [h1]; exact ha)
  exact ⟨g1.trans h1, g2.trans h2, fun q => ⟨(g3 q).1.trans (h3 q).1, (g3 q).2.trans (h3 q).2⟩, fun q => (g4 q).trans (h4 q)⟩
theorem fr_mo {A B A' B' : List Nat} {S S' : gS} (h : fr_S A B S S') (hA : ∀ x ∈ A, x ∈ A') (hB : ∀ x ∈ B, x ∈ B') : fr_S A' B' S S' := by
  refine ⟨h.1, fun a ha => ?_⟩
  obtain ⟨h1, h2, h3, h4⟩ := h.2 a ha
  exact ⟨h1, h2, fun q => h3 fun q' => q (hA a q'), fun q => h4 fun q' => q (hB a q')⟩
theorem va_up_s {α : Type} (f : Nat → α) (k : Nat) (v : α) : va_up f k v k = v := by simp [va_up]
theorem va_up_n {α : Type} (f : Nat → α) (k : Nat) (v : α) {j : Nat} (h : j ≠ k) : va_up f k v j = f j := by simp [va_up, h]
theorem va_up_e {α : Type} (f : Nat → α) (k : Nat) (v : α) (j : Nat) : va_up f k v j = if j = k then v else f j := rfl
theorem fr_A {S : gS} {a : Nat} {f : Nat → Int32} {A B : List Nat} (h : a ∈ A) : fr_S A B S (gsA S a f) := ⟨id, fun b _ => ⟨rfl, rfl, fun q => ⟨va_up_n _ _ _ (fun e => q (e ▸ h)), rfl⟩, fun _ => rfl⟩⟩
theorem fr_i {S : gS} {a k : Nat} {v : Int32} {A B : List Nat} (h : a ∈ A) : fr_S A B S (gsI S a k v) := fr_A h
theorem fr_l {S : gS} {a k : Nat} {v : Int64} {A B : List Nat} (h : a ∈ A) : fr_S A B S (gsL S a k v) := ⟨id, fun b _ => ⟨rfl, rfl, fun q => ⟨rfl, va_up_n _ _ _ (fun e => q (e ▸ h))⟩, fun _ => rfl⟩⟩
theorem fr_r {S : gS} {a k : Nat} {v : Option Nat} {A B : List Nat} (h : a ∈ B) : fr_S A B S (gsR S a k v) := ⟨id, fun b _ => ⟨rfl, rfl, fun _ => ⟨rfl, rfl⟩, fun q => va_up_n _ _ _ (fun e => q (e ▸ h))⟩⟩
theorem fr_z {S : gS} {A B : List Nat} : fr_S A B S (gsZ S (gZ S + 1)) := ⟨fun w a h => Nat.lt_succ_of_lt (w a h), fun _ _ => ⟨rfl, rfl, fun _ => ⟨rfl, rfl⟩, fun _ => rfl⟩⟩
theorem fr_n {S : gS} {kd n : Nat} {A B : List Nat} (w : wf_S S) : fr_S A B S (gnw S kd n) := by
  refine ⟨fun _ a h => ?_, fun b hb => ?_⟩
  · show a < gZ S + 1
    by_cases e : a = gZ S
    · omega
    · have h1 : gK (gnw S kd n) a = gK S a := va_up_n _ _ _ e
      rw [h1] at h
      have := w a h
      omega
  · have e : b ≠ gZ S := fun e => by have := w b hb; omega
    exact ⟨va_up_n _ _ _ e, va_up_n _ _ _ e, fun _ => ⟨va_up_n _ _ _ e, va_up_n _ _ _ e⟩, fun _ => va_up_n _ _ _ e⟩
theorem nw_K {S : gS} {kd n : Nat} : gK (gnw S kd n) (gZ S) = kd := va_up_s _ _ _
theorem nw_N {S : gS} {kd n : Nat} : gN (gnw S kd n) (gZ S) = n := va_up_s _ _ _
theorem nw_I {S : gS} {kd n : Nat} : gI (gnw S kd n) (gZ S) = fun _ => 0 := va_up_s _ _ _
theorem nw_R {S : gS} {kd n : Nat} : gR (gnw S kd n) (gZ S) = fun _ => none := va_up_s _ _ _
theorem sA_K {S : gS} {a : Nat} {f : Nat → Int32} : gK (gsA S a f) = gK S := rfl
theorem sA_N {S : gS} {a : Nat} {f : Nat → Int32} : gN (gsA S a f) = gN S := rfl
theorem sA_L {S : gS} {a : Nat} {f : Nat → Int32} : gL (gsA S a f) = gL S := rfl
theorem sA_R {S : gS} {a : Nat} {f : Nat → Int32} : gR (gsA S a f) = gR S := rfl
theorem sA_Z {S : gS} {a : Nat} {f : Nat → Int32} : gZ (gsA S a f) = gZ S := rfl
theorem sA_s {S : gS} {a : Nat} {f : Nat → Int32} : gI (gsA S a f) a = f := va_up_s _ _ _
theorem sA_n {S : gS} {a b : Nat} {f : Nat → Int32} (h : b ≠ a) : gI (gsA S a f) b = gI S b := va_up_n _ _ _ h
theorem sA_i {S : gS} {a : Nat} : gsA S a (gI S a) = S := by
  have : va_up (gI S) a (gI S a) = gI S := by
    funext b
    by_cases e : b = a
    · subst e; exact va_up_s _ _ _
    · exact va_up_n _ _ _ e
  show gmk (gK S) (gN S) (va_up (gI S) a (gI S a)) (gL S) (gR S) (gZ S) = S
  rw [this]; rfl
theorem sA_A {S : gS} {a : Nat} {f g : Nat → Int32} : gsA (gsA S a f) a g = gsA S a g := by
  show gmk (gK S) (gN S) (va_up (va_up (gI S) a f) a g) (gL S) (gR S) (gZ S) = _
  rw [bx_uu]; rfl
theorem sI_A {S : gS} {a k : Nat} {v : Int32} : gsI S a k v = gsA S a (va_up (gI S a) k v) := rfl
theorem e_gI {S : gS} {ci k a : Nat} (h : gK S a = ci) : fgI S ci k (some a) = some (gI S a k) := if_pos h
theorem e_gL {S : gS} {ci k a : Nat} (h : gK S a = ci) : fgL S ci k (some a) = some (gL S a k) := if_pos h
theorem e_gR {S : gS} {ci k a : Nat} (h : gK S a = ci) : fgR S ci k (some a) = some (gR S a k) := if_pos h
theorem e_pI {S : gS} {ci k a : Nat} {v : Int32} (h : gK S a = ci) : fpI S ci k (some a) v = some (gsI S a k v) := if_pos h
theorem e_pZ {S : gS} {ci k a : Nat} {v : Int32} (h : gK S a = ci) (hv : v = 0 ∨ v = 1) : fpZ S ci k (some a) v = some (gsI S a k v) := if_pos ⟨h, hv⟩
theorem e_pL {S : gS} {ci k a : Nat} {v : Int64} (h : gK S a = ci) : fpL S ci k (some a) v = some (gsL S a k v) := if_pos h
theorem e_pR {S : gS} {ci k a : Nat} {v : Option Nat} (h : gK S a = ci) : fpR S ci k (some a) v = some (gsR S a k v) := if_pos h
theorem e_dc {α : Type} {S : gS} {ci a : Nat} {f : Nat → Option α} (h : gK S a = ci) : gDc S ci (some a) f = f a := if_pos h
theorem e_bi {α β : Type} {a : α} {S : gS} {f : α → gS → Option β} : gBi (some (a, S)) f = f a S := by simp only [gBi]
theorem e_bs {α β : Type} {a : α} {f : α → Option β} : (some a).bind f = f a := by simp only [Option.bind_some]
theorem e_let {α β : Type} {a : α} {f : α → β} : gLet a f = f a := by simp only [gLet]
theorem e_gd {α : Type} {c : Prop} [d : Decidable c] {x : Option α} (h : c) : gGd c x = x := if_pos h
theorem e_nl {α : Type} {a : Nat} {x y : α} : gnl (some a) x y = y := by simp only [gnl]
theorem e_nn {α : Type} {x y : α} : gnl none x y = x := by simp only [gnl]
theorem e_bxl {α β : Type} {E : String} {S : gS} {fx : String → gS → Option β} {fr : α → gS → Option β} : gBx (some (.inl E, S)) fx fr = fx E S := by simp only [gBx]
theorem e_bxr {α β : Type} {a : α} {S : gS} {fx : String → gS → Option β} {fr : α → gS → Option β} : gBx (some (.inr a, S)) fx fr = fr a S := by simp only [gBx]
theorem e_N {S : gS} {a : Nat} (h : 9 ≤ gK S a ∧ gK S a < 16) : fN S (some a) = some (nI (gN S a)) := if_pos h
theorem e_I {S : gS} {kd a i n : Nat} (h : gK S a = kd) (hN : gN S a = n) (hi : i < n) (hn : n < 2 ^ 31 := by decide) : fI S kd (some a) (nI i) = some (gI S a i) := by
  show (if _ then _ else _) = _
  rw [if_pos ⟨h, by rw [hN]; exact nI_in hi hn⟩, nI_clamp (by omega)]
theorem e_L {S : gS} {a i n : Nat} (h : gK S a = 11) (hN : gN S a = n) (hi : i < n) (hn : n < 2 ^ 31 := by decide) : fL S (some a) (nI i) = some (gL S a i) := by
  show (if _ then _ else _) = _
  rw [if_pos ⟨h, by rw [hN]; exact nI_in hi hn⟩, nI_clamp (by omega)]
theorem e_R {S : gS} {kd a i n : Nat} (h : gK S a = kd) (hN : gN S a = n) (hi : i < n) (hn : n < 2 ^ 31 := by decide) : fR S kd (some a) (nI i) = some (gR S a i) := by
  show (if _ then _ else _) = _
  rw [if_pos ⟨h, by rw [hN]; exact nI_in hi hn⟩, nI_clamp (by omega)]
theorem e_aI {S : gS} {a i n : Nat} {v : Int32} (h : gK S a = 10) (hN : gN S a = n) (hi : i < n) (hn : n < 2 ^ 31 := by decide) : faI S (some a) (nI i) v = some (gsI S a i v) := by
  show (if _ then _ else _) = _
  rw [if_pos ⟨h, by rw [hN]; exact nI_in hi hn⟩, nI_clamp (by omega)]
theorem e_aB {S : gS} {a i n : Nat} {v : Int32} (h : gK S a = 9) (hN : gN S a = n) (hi : i < n) (hn : n < 2 ^ 31 := by decide) : faB S (some a) (nI i) v = some (gsI S a i v.toInt8.toInt32) := by
  show (if _ then _ else _) = _
  rw [if_pos ⟨h, by rw [hN]; exact nI_in hi hn⟩, nI_clamp (by omega)]
theorem e_aZ {S : gS} {a i n : Nat} {v : Int32} (h : gK S a = 12) (hN : gN S a = n) (hi : i < n) (hn : n < 2 ^ 31 := by decide) : faZ S (some a) (nI i) v = some (gsI S a i (v &&& 1)) := by
  show (if _ then _ else _) = _
  rw [if_pos ⟨h, by rw [hN]; exact nI_in hi hn⟩, nI_clamp (by omega)]
theorem e_aL {S : gS} {a i n : Nat} {v : Int64} (h : gK S a = 11) (hN : gN S a = n) (hi : i < n) (hn : n < 2 ^ 31 := by decide) : faL S (some a) (nI i) v = some (gsL S a i v) := by
  show (if _ then _ else _) = _
  rw [if_pos ⟨h, by rw [hN]; exact nI_in hi hn⟩, nI_clamp (by omega)]
theorem e_aR {S : gS} {kd ci a i n b : Nat} (h : gK S a = kd) (hN : gN S a = n) (hi : i < n) (hb : gK S b = ci) (hn : n < 2 ^ 31 := by decide) : faR S kd ci (some a) (nI i) (some b) = some (gsR S a i (some b)) := by
  show (if _ then _ else _) = _
  rw [if_pos ⟨⟨h, by rw [hN]; exact nI_in hi hn⟩, hb⟩, nI_clamp (by omega)]
theorem e_nA {n cap : Nat} (h : n ≤ cap) (hn : cap < 2 ^ 31 := by decide) : fnA (nI n) cap = some n := by
  have hc : (nI n).toNatClampNeg = n := nI_clamp (by omega)
  show (if _ then _ else _) = _
  rw [if_pos ⟨nI_pos (by omega), by rw [hc]; exact h⟩, hc]
theorem e_cp {S : gS} {a b sp dp n : Nat} (ha : gK S a = 9) (hb : gK S b = 9) (h1 : sp + n ≤ gN S a) (h2 : dp + n ≤ gN S b) (h3 : gN S a < 2 ^ 31) (h4 : gN S b < 2 ^ 31) : fcp S (some a) (nI sp) (some b) (nI dp) (nI n) = some (gsA S b (va_cpy (gI S a) (gI S b) sp dp n)) := by
  have c1 : (nI sp).toNatClampNeg = sp := nI_clamp (by omega)
  have c2 : (nI dp).toNatClampNeg = dp := nI_clamp (by omega)
  have c3 : (nI n).toNatClampNeg = n := nI_clamp (by omega)
  show (if _ then _ else _) = _
  rw [if_pos ⟨⟨ha, hb⟩, nI_pos (by omega), nI_pos (by omega), nI_pos (by omega), by rw [c1, c3]; exact h1, by rw [c2, c3]; exact h2⟩, c1, c2, c3]
theorem g_fu (n : Nat) (h : n ≤ 999999 := by omega) : ∃ k, gFuel = n + k + 1 := ⟨999999 - n, by show 1000000 = _; omega⟩
theorem sI_K {S : gS} {a k : Nat} {v : Int32} : gK (gsI S a k v) = gK S := rfl
theorem sI_N {S : gS} {a k : Nat} {v : Int32} : gN (gsI S a k v) = gN S := rfl
theorem sI_L {S : gS} {a k : Nat} {v : Int32} : gL (gsI S a k v) = gL S := rfl
theorem sI_R {S : gS} {a k : Nat} {v : Int32} : gR (gsI S a k v) = gR S := rfl
theorem sI_Z {S : gS} {a k : Nat} {v : Int32} : gZ (gsI S a k v) = gZ S := rfl
theorem sL_K {S : gS} {a k : Nat} {v : Int64} : gK (gsL S a k v) = gK S := rfl
theorem sL_N {S : gS} {a k : Nat} {v : Int64} : gN (gsL S a k v) = gN S := rfl
theorem sL_I {S : gS} {a k : Nat} {v : Int64} : gI (gsL S a k v) = gI S := rfl
theorem sL_R {S : gS} {a k : Nat} {v : Int64} : gR (gsL S a k v) = gR S := rfl
theorem sL_Z {S : gS} {a k : Nat} {v : Int64} : gZ (gsL S a k v) = gZ S := rfl
theorem sR_K {S : gS} {a k : Nat} {v : Option Nat} : gK (gsR S a k v) = gK S := rfl
theorem sR_N {S : gS} {a k : Nat} {v : Option Nat} : gN (gsR S a k v) = gN S := rfl
theorem sR_I {S : gS} {a k : Nat} {v : Option Nat} : gI (gsR S a k v) = gI S := rfl
theorem sR_L {S : gS} {a k : Nat} {v : Option Nat} : gL (gsR S a k v) = gL S := rfl
theorem sR_Z {S : gS} {a k : Nat} {v : Option Nat} : gZ (gsR S a k v) = gZ S := rfl
theorem sZ_K {S : gS} {a : Nat} : gK (gsZ S a) = gK S := rfl
theorem sZ_N {S : gS} {a : Nat} : gN (gsZ S a) = gN S := rfl
theorem sZ_I {S : gS} {a : Nat} : gI (gsZ S a) = gI S := rfl
theorem sZ_L {S : gS} {a : Nat} : gL (gsZ S a) = gL S := rfl
theorem sZ_R {S : gS} {a : Nat} : gR (gsZ S a) = gR S := rfl
theorem sI_s {S : gS} {a k : Nat} {v : Int32} : gI (gsI S a k v) a = va_up (gI S a) k v := va_up_s _ _ _
theorem sI_n {S : gS} {a b k : Nat} {v : Int32} (h : b ≠ a) : gI (gsI S a k v) b = gI S b := va_up_n _ _ _ h
theorem sL_s {S : gS} {a k : Nat} {v : Int64} : gL (gsL S a k v) a = va_up (gL S a) k v := va_up_s _ _ _
theorem sL_n {S : gS} {a b k : Nat} {v : Int64} (h : b ≠ a) : gL (gsL S a k v) b = gL S b := va_up_n _ _ _ h
theorem sR_s {S : gS} {a k : Nat} {v : Option Nat} : gR (gsR S a k v) a = va_up (gR S a) k v := va_up_s _ _ _
theorem sR_n {S : gS} {a b k : Nat} {v : Option Nat} (h : b ≠ a) : gR (gsR S a k v) b = gR S b := va_up_n _ _ _ h
