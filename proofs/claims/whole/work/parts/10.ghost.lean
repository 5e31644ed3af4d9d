/-! a picture of the heap: kinds (0 to 8 objects of vwCl, 9 byte[], 10 int[], 11 long[], 12 boolean[], 13 Log[], 14 Row[], 15 View[]; 16 and above: nothing), lengths, numbers, longs, references, and the heap's size -/
def gS : Type := (Nat → Nat) × (Nat → Nat) × (Nat → Nat → Int32) × (Nat → Nat → Int64) × (Nat → Nat → Option Nat) × Nat
def gK (S : gS) : Nat → Nat := S.1
def gN (S : gS) : Nat → Nat := S.2.1
def gI (S : gS) : Nat → Nat → Int32 := S.2.2.1
def gL (S : gS) : Nat → Nat → Int64 := S.2.2.2.1
def gR (S : gS) : Nat → Nat → Option Nat := S.2.2.2.2.1
def gZ (S : gS) : Nat := S.2.2.2.2.2
def gmk (K N : Nat → Nat) (I : Nat → Nat → Int32) (L : Nat → Nat → Int64) (R : Nat → Nat → Option Nat) (Z : Nat) : gS := (K, N, I, L, R, Z)
/-- a row of numbers anew -/
def gsA (S : gS) (a : Nat) (f : Nat → Int32) : gS := gmk (gK S) (gN S) (va_up (gI S) a f) (gL S) (gR S) (gZ S)
def gsI (S : gS) (a k : Nat) (v : Int32) : gS := gsA S a (va_up (gI S a) k v)
def gsL (S : gS) (a k : Nat) (v : Int64) : gS := gmk (gK S) (gN S) (gI S) (va_up (gL S) a (va_up (gL S a) k v)) (gR S) (gZ S)
def gsR (S : gS) (a k : Nat) (v : Option Nat) : gS := gmk (gK S) (gN S) (gI S) (gL S) (va_up (gR S) a (va_up (gR S a) k v)) (gZ S)
def gsZ (S : gS) (z : Nat) : gS := gmk (gK S) (gN S) (gI S) (gL S) (gR S) z
/-- a new cell, at the heap's end -/
def gnw (S : gS) (kd n : Nat) : gS := gmk (va_up (gK S) (gZ S) kd) (va_up (gN S) (gZ S) n) (va_up (gI S) (gZ S) (fun _ => 0)) (va_up (gL S) (gZ S) (fun _ => 0)) (va_up (gR S) (gZ S) (fun _ => none)) (gZ S + 1)
def g_ty (kd k : Nat) : FieldType := match kd with
  | 0 => tyX0 k
  | 1 => tyX1 k
  | 2 => tyX2 k
  | 3 => tyX3 k
  | 4 => tyX4 k
  | 5 => tyX5 k
  | 6 => tyX6 k
  | 7 => tyX7 k
  | 8 => tyX8 k
  | 9 => .byte
  | 10 => .int
  | 11 => .long
  | 12 => .boolean
  | 13 => .object RX1
  | 14 => .object RX3
  | _ => .object RX6
def g_v (ty : FieldType) (x : Int32) (y : Int64) (r : Option Nat) : Value := match ty with
  | .long => .long y
  | .object _ => va_rf r
  | .array _ => va_rf r
  | _ => .int x
def g_V (S : gS) (a k : Nat) : Value := g_v (g_ty (gK S a) k) (gI S a k) (gL S a k) (gR S a k)
/-- what is known of the start: the classes' numbers, their slots, the arrays' classes, the heap at the start, the two tables -/
def gD : Type := (Nat → ClassId) × (Nat → Nat → Nat) × (Nat → ClassId) × Heap × Nat × Nat
def dC (D : gD) : Nat → ClassId := D.1
def dI (D : gD) : Nat → Nat → Nat := D.2.1
def dA (D : gD) : Nat → ClassId := D.2.2.1
def dH (D : gD) : Heap := D.2.2.2.1
def dT (D : gD) : Nat := D.2.2.2.2.1
def dU (D : gD) : Nat := D.2.2.2.2.2
def dB (D : gD) : Nat := (dH D).size
abbrev g_tys (D : gD) : List (ClassId × FieldType) := [(dA D 9, .byte), (dA D 10, .int), (dA D 11, .long), (dA D 12, .boolean), (dA D 13, .object RX1), (dA D 14, .object RX3), (dA D 15, .object RX6)]
def g_ob (D : gD) (S : gS) (a : Nat) (H : Heap) : Prop := ∃ q : vw_C, vwCl[gK S a]? = some q ∧ t_OB a (dC D (gK S a)) q.2.2 (dI D (gK S a)) H (g_V S a)
def g_ar (D : gD) (S : gS) (a : Nat) (H : Heap) : Prop := H[a]? = some (arrV (dA D (gK S a)) (gN S a) (g_V S a))
def g_cell (D : gD) (S : gS) (a : Nat) (H : Heap) : Prop := (gK S a < 9 → g_ob D S a H) ∧ (9 ≤ gK S a → g_ar D S a H) ∧ (gK S a = 9 → ∀ j, fits .byte (.int (gI S a j)) = true)
def g_Rep (D : gD) (S : gS) (H : Heap) : Prop := H.size = gZ S ∧ dB D ≤ H.size ∧ (∀ q, q < dB D → H[q]? = (dH D)[q]?) ∧ ∀ a, gK S a < 16 → dB D ≤ a ∧ g_cell D S a H
theorem g_cell.kept {D : gD} {S S' : gS} {a : Nat} {H H1 : Heap} (h : g_cell D S a H) (hq : H1[a]? = H[a]?) (hK : gK S' a = gK S a) (hN : gN S' a = gN S a) (hV : g_V S' a = g_V S a) (hI : gI S' a = gI S a) : g_cell D S' a H1 := by
  obtain ⟨h1, h2, h3⟩ := h
  refine ⟨fun hk => ?_, fun hk => ?_, fun hk => ?_⟩
  · rw [hK] at hk
    obtain ⟨q, g1, g2⟩ := h1 hk
    refine ⟨q, by rw [hK]; exact g1, ?_⟩
    rw [hK, hV]
    exact g2.kept hq
  · rw [hK] at hk
    show H1[a]? = some (arrV (dA D (gK S' a)) (gN S' a) (g_V S' a))
    rw [hK, hN, hV, hq]
    exact h2 hk
  · rw [hK] at hk
    rw [hI]
    exact h3 hk
theorem g_cell.lt {D : gD} {S : gS} {a : Nat} {H : Heap} (h : g_cell D S a H) : a < H.size := by
  by_cases hk : gK S a < 9
  · obtain ⟨q, -, cell, h2, -⟩ := h.1 hk
    exact (Array.getElem?_eq_some_iff.mp h2).1
  · exact (Array.getElem?_eq_some_iff.mp (h.2.1 (by omega))).1
/-- one cell anew -/
theorem g_Rep.set {D : gD} {S S' : gS} {H H1 : Heap} {a : Nat} (h : g_Rep D S H) (ha : gK S a < 16) (hK : gK S' = gK S) (hN : gN S' = gN S) (hZ : gZ S' = gZ S) (ho : ∀ b, b ≠ a → g_V S' b = g_V S b ∧ gI S' b = gI S b) (hs : H1.size = H.size) (oq : ∀ q : Nat, q ≠ a → H1[q]? = H[q]?) (hc : g_cell D S' a H1) : g_Rep D S' H1 := by
  obtain ⟨h1, h2, h3, h4⟩ := h
  have hb := (h4 a ha).1
  refine ⟨by rw [hs, hZ]; exact h1, by rw [hs]; exact h2, fun q hq => ?_, fun b hbk => ?_⟩
  · rw [oq q (fun e => by subst e; omega)]
    exact h3 q hq
  · by_cases e : b = a
    · subst e
      exact ⟨hb, hc⟩
    · rw [hK] at hbk
      obtain ⟨g1, g2⟩ := h4 b hbk
      exact ⟨g1, g2.kept (oq b e) (by rw [hK]) (by rw [hN]) (ho b e).1 (ho b e).2⟩
theorem g_Rep.lt {D : gD} {S : gS} {H : Heap} (h : g_Rep D S H) {a : Nat} (ha : gK S a < 16) : a < gZ S := by
  rw [← h.1]
  exact (h.2.2.2 a ha).2.lt
theorem g_Rep.new {D : gD} {S : gS} {H H1 : Heap} {kd n : Nat} (h : g_Rep D S H) (hs : H1.size = H.size + 1) (oq : ∀ q : Nat, q < H.size → H1[q]? = H[q]?) (hc : g_cell D (gnw S kd n) H.size H1) : g_Rep D (gnw S kd n) H1 := by
  obtain ⟨h1, h2, h3, h4⟩ := h
  refine ⟨by rw [hs, h1]; rfl, by omega, fun q hq => ?_, fun b hbk => ?_⟩
  · rw [oq q (by omega)]
    exact h3 q hq
  · by_cases e : b = gZ S
    · subst e
      rw [← h1]
      exact ⟨h2, hc⟩
    · have e1 : ∀ {α : Type} (f : Nat → α) (v : α), va_up f (gZ S) v b = f b := fun f v => by simp [va_up, e]
      have hk : gK (gnw S kd n) b = gK S b := e1 _ _
      rw [hk] at hbk
      obtain ⟨g1, g2⟩ := h4 b hbk
      refine ⟨g1, g2.kept (oq b g2.lt) hk (e1 _ _) ?_ (e1 _ _)⟩
      funext k
      show g_v (g_ty (gK (gnw S kd n) b) k) (gI (gnw S kd n) b k) (gL (gnw S kd n) b k) (gR (gnw S kd n) b k) = _
      rw [hk]
      show g_v _ (va_up (gI S) (gZ S) _ b k) (va_up (gL S) (gZ S) _ b k) (va_up (gR S) (gZ S) _ b k) = _
      rw [e1, e1, e1]
      rfl
theorem g_Rep.sz {D : gD} {S : gS} {H H1 : Heap} (h : g_Rep D S H) (hs : H.size ≤ H1.size) (oq : ∀ q : Nat, q < H.size → H1[q]? = H[q]?) : g_Rep D (gsZ S H1.size) H1 := by
  obtain ⟨h1, h2, h3, h4⟩ := h
  refine ⟨rfl, by omega, fun q hq => ?_, fun b hbk => ?_⟩
  · rw [oq q (by omega)]
    exact h3 q hq
  · obtain ⟨g1, g2⟩ := h4 b hbk
    exact ⟨g1, g2.kept (oq b g2.lt) rfl rfl rfl rfl⟩
/-! guards and steps of the functions that are read off the bytecode -/
theorem g_if {α : Type} {c : Prop} {d : Decidable c} {x : Option α} {r : α} (h : @ite _ c d x none = some r) : c ∧ x = some r := by
  by_cases hc : c
  · rw [if_pos hc] at h; exact ⟨hc, h⟩
  · rw [if_neg hc] at h; cases h
theorem g_ip {α : Type} {c : Prop} {d : Decidable c} {x y : Option α} {r : α} (h : @ite _ c d x y = some r) (hc : c) : x = some r := by rw [if_pos hc] at h; exact h
theorem g_in {α : Type} {c : Prop} {d : Decidable c} {x y : Option α} {r : α} (h : @ite _ c d x y = some r) (hc : ¬ c) : y = some r := by rw [if_neg hc] at h; exact h
def gLet {α β : Type} (v : α) (f : α → β) : β := f v
theorem g_let {α β : Type} {v : α} {f : α → Option β} {r : β} (h : gLet v f = some r) : ∃ x, x = v ∧ f x = some r := ⟨v, rfl, h⟩
def gDe {α : Type} (r : Option Nat) (f : Nat → Option α) : Option α := match r with
  | some a => f a
  | none => none
theorem g_de {α : Type} {r : Option Nat} {f : Nat → Option α} {x : α} (h : gDe r f = some x) : ∃ a, r = some a ∧ f a = some x := by
  cases r with
  | none => cases h
  | some a => exact ⟨a, rfl, h⟩
def gBi {α β : Type} (x : Option (α × gS)) (f : α → gS → Option β) : Option β := match x with
  | some (a, S) => f a S
  | none => none
theorem g_bi {α β : Type} {x : Option (α × gS)} {f : α → gS → Option β} {r : β} (h : gBi x f = some r) : ∃ a S, x = some (a, S) ∧ f a S = some r := by
  cases x with
  | none => cases h
  | some q => exact ⟨q.1, q.2, rfl, h⟩
theorem g_end {α : Type} {a b : α} {S T : gS} (h : some (a, S) = some (b, T)) : a = b ∧ S = T := by cases h; exact ⟨rfl, rfl⟩
def gnl {α : Type} (r : Option Nat) (x y : α) : α := match r with
  | none => x
  | some _ => y
theorem g_nl {α : Type} {r : Option Nat} {x y : Option α} {q : α} (h : gnl r x y = some q) : (r = none ∧ x = some q) ∨ (∃ a, r = some a ∧ y = some q) := by
  cases r with
  | none => exact Or.inl ⟨rfl, h⟩
  | some a => exact Or.inr ⟨a, rfl, h⟩
theorem g_bd {α β : Type} {x : Option α} {f : α → Option β} {r : β} (h : x.bind f = some r) : ∃ a, x = some a ∧ f a = some r := by
  cases x with
  | none => cases h
  | some a => exact ⟨a, rfl, h⟩
/-! what the instructions that touch the heap answer: nothing where the machine itself would throw -/
def fI (S : gS) (kd : Nat) (r : Option Nat) (i : Int32) : Option Int32 := gDe r fun a => if gK S a = kd ∧ ¬ (i < 0 ∨ gN S a ≤ i.toNatClampNeg) then some (gI S a i.toNatClampNeg) else none
def fL (S : gS) (r : Option Nat) (i : Int32) : Option Int64 := gDe r fun a => if gK S a = 11 ∧ ¬ (i < 0 ∨ gN S a ≤ i.toNatClampNeg) then some (gL S a i.toNatClampNeg) else none
def fR (S : gS) (kd : Nat) (r : Option Nat) (i : Int32) : Option (Option Nat) := gDe r fun a => if gK S a = kd ∧ ¬ (i < 0 ∨ gN S a ≤ i.toNatClampNeg) then some (gR S a i.toNatClampNeg) else none
def fN (S : gS) (r : Option Nat) : Option Int32 := gDe r fun a => if 9 ≤ gK S a ∧ gK S a < 16 then some (nI (gN S a)) else none
def fgI (S : gS) (ci k : Nat) (r : Option Nat) : Option Int32 := gDe r fun a => if gK S a = ci then some (gI S a k) else none
def fgL (S : gS) (ci k : Nat) (r : Option Nat) : Option Int64 := gDe r fun a => if gK S a = ci then some (gL S a k) else none
def fgR (S : gS) (ci k : Nat) (r : Option Nat) : Option (Option Nat) := gDe r fun a => if gK S a = ci then some (gR S a k) else none
def fpI (S : gS) (ci k : Nat) (r : Option Nat) (v : Int32) : Option gS := gDe r fun a => if gK S a = ci then some (gsI S a k v) else none
def fpZ (S : gS) (ci k : Nat) (r : Option Nat) (v : Int32) : Option gS := gDe r fun a => if gK S a = ci ∧ (v = 0 ∨ v = 1) then some (gsI S a k v) else none
def fpL (S : gS) (ci k : Nat) (r : Option Nat) (v : Int64) : Option gS := gDe r fun a => if gK S a = ci then some (gsL S a k v) else none
def fpR (S : gS) (ci k : Nat) (r : Option Nat) (v : Option Nat) : Option gS := gDe r fun a => if gK S a = ci then some (gsR S a k v) else none
def faI (S : gS) (r : Option Nat) (i v : Int32) : Option gS := gDe r fun a => if gK S a = 10 ∧ ¬ (i < 0 ∨ gN S a ≤ i.toNatClampNeg) then some (gsI S a i.toNatClampNeg v) else none
def faB (S : gS) (r : Option Nat) (i v : Int32) : Option gS := gDe r fun a => if gK S a = 9 ∧ ¬ (i < 0 ∨ gN S a ≤ i.toNatClampNeg) then some (gsI S a i.toNatClampNeg v.toInt8.toInt32) else none
def faZ (S : gS) (r : Option Nat) (i v : Int32) : Option gS := gDe r fun a => if gK S a = 12 ∧ ¬ (i < 0 ∨ gN S a ≤ i.toNatClampNeg) then some (gsI S a i.toNatClampNeg (v &&& 1)) else none
def faL (S : gS) (r : Option Nat) (i : Int32) (v : Int64) : Option gS := gDe r fun a => if gK S a = 11 ∧ ¬ (i < 0 ∨ gN S a ≤ i.toNatClampNeg) then some (gsL S a i.toNatClampNeg v) else none
def faR (S : gS) (kd ci : Nat) (r : Option Nat) (i : Int32) (v : Option Nat) : Option gS := gDe r fun a => gDe v fun b => if (gK S a = kd ∧ ¬ (i < 0 ∨ gN S a ≤ i.toNatClampNeg)) ∧ gK S b = ci then some (gsR S a i.toNatClampNeg (some b)) else none
def fnA (n : Int32) (cap : Nat) : Option Nat := if ¬ n < 0 ∧ n.toNatClampNeg ≤ cap then some n.toNatClampNeg else none
/-- System.arraycopy of bytes -/
def fcp (S : gS) (r0 : Option Nat) (sp : Int32) (r1 : Option Nat) (dp n : Int32) : Option gS := gDe r0 fun a => gDe r1 fun b => if (gK S a = 9 ∧ gK S b = 9) ∧ ¬ sp < 0 ∧ ¬ dp < 0 ∧ ¬ n < 0 ∧ sp.toNatClampNeg + n.toNatClampNeg ≤ gN S a ∧ dp.toNatClampNeg + n.toNatClampNeg ≤ gN S b then some (gsA S b (va_cpy (gI S a) (gI S b) sp.toNatClampNeg dp.toNatClampNeg n.toNatClampNeg)) else none
theorem fI_s {S : gS} {kd : Nat} {r : Option Nat} {i x : Int32} (h : fI S kd r i = some x) : ∃ a, r = some a ∧ gK S a = kd ∧ vp_in i (gN S a) ∧ x = gI S a i.toNatClampNeg := by
  obtain ⟨a, hr, h⟩ := g_de h
  obtain ⟨⟨h1, h2⟩, h⟩ := g_if h
  exact ⟨a, hr, h1, h2, (Option.some.inj h).symm⟩
theorem fL_s {S : gS} {r : Option Nat} {i : Int32} {x : Int64} (h : fL S r i = some x) : ∃ a, r = some a ∧ gK S a = 11 ∧ vp_in i (gN S a) ∧ x = gL S a i.toNatClampNeg := by
  obtain ⟨a, hr, h⟩ := g_de h
  obtain ⟨⟨h1, h2⟩, h⟩ := g_if h
  exact ⟨a, hr, h1, h2, (Option.some.inj h).symm⟩
theorem fR_s {S : gS} {kd : Nat} {r : Option Nat} {i : Int32} {x : Option Nat} (h : fR S kd r i = some x) : ∃ a, r = some a ∧ gK S a = kd ∧ vp_in i (gN S a) ∧ x = gR S a i.toNatClampNeg := by
  obtain ⟨a, hr, h⟩ := g_de h
  obtain ⟨⟨h1, h2⟩, h⟩ := g_if h
  exact ⟨a, hr, h1, h2, (Option.some.inj h).symm⟩
theorem fN_s {S : gS} {r : Option Nat} {x : Int32} (h : fN S r = some x) : ∃ a, r = some a ∧ 9 ≤ gK S a ∧ gK S a < 16 ∧ x = nI (gN S a) := by
  obtain ⟨a, hr, h⟩ := g_de h
  obtain ⟨⟨h1, h2⟩, h⟩ := g_if h
  exact ⟨a, hr, h1, h2, (Option.some.inj h).symm⟩
theorem fgI_s {S : gS} {ci k : Nat} {r : Option Nat} {x : Int32} (h : fgI S ci k r = some x) : ∃ a, r = some a ∧ gK S a = ci ∧ x = gI S a k := by
  obtain ⟨a, hr, h⟩ := g_de h
  obtain ⟨h1, h⟩ := g_if h
  exact ⟨a, hr, h1, (Option.some.inj h).symm⟩
theorem fgL_s {S : gS} {ci k : Nat} {r : Option Nat} {x : Int64} (h : fgL S ci k r = some x) : ∃ a, r = some a ∧ gK S a = ci ∧ x = gL S a k := by
  obtain ⟨a, hr, h⟩ := g_de h
  obtain ⟨h1, h⟩ := g_if h
  exact ⟨a, hr, h1, (Option.some.inj h).symm⟩
theorem fgR_s {S : gS} {ci k : Nat} {r x : Option Nat} (h : fgR S ci k r = some x) : ∃ a, r = some a ∧ gK S a = ci ∧ x = gR S a k := by
  obtain ⟨a, hr, h⟩ := g_de h
  obtain ⟨h1, h⟩ := g_if h
  exact ⟨a, hr, h1, (Option.some.inj h).symm⟩
theorem fpI_s {S S1 : gS} {ci k : Nat} {r : Option Nat} {v : Int32} (h : fpI S ci k r v = some S1) : ∃ a, r = some a ∧ gK S a = ci ∧ S1 = gsI S a k v := by
  obtain ⟨a, hr, h⟩ := g_de h
  obtain ⟨h1, h⟩ := g_if h
  exact ⟨a, hr, h1, (Option.some.inj h).symm⟩
theorem fpZ_s {S S1 : gS} {ci k : Nat} {r : Option Nat} {v : Int32} (h : fpZ S ci k r v = some S1) : ∃ a, r = some a ∧ gK S a = ci ∧ (v = 0 ∨ v = 1) ∧ S1 = gsI S a k v := by
  obtain ⟨a, hr, h⟩ := g_de h
  obtain ⟨⟨h1, h2⟩, h⟩ := g_if h
  exact ⟨a, hr, h1, h2, (Option.some.inj h).symm⟩
theorem fpL_s {S S1 : gS} {ci k : Nat} {r : Option Nat} {v : Int64} (h : fpL S ci k r v = some S1) : ∃ a, r = some a ∧ gK S a = ci ∧ S1 = gsL S a k v := by
  obtain ⟨a, hr, h⟩ := g_de h
  obtain ⟨h1, h⟩ := g_if h
  exact ⟨a, hr, h1, (Option.some.inj h).symm⟩
theorem fpR_s {S S1 : gS} {ci k : Nat} {r v : Option Nat} (h : fpR S ci k r v = some S1) : ∃ a, r = some a ∧ gK S a = ci ∧ S1 = gsR S a k v := by
  obtain ⟨a, hr, h⟩ := g_de h
  obtain ⟨h1, h⟩ := g_if h
  exact ⟨a, hr, h1, (Option.some.inj h).symm⟩
theorem faI_s {S S1 : gS} {r : Option Nat} {i v : Int32} (h : faI S r i v = some S1) : ∃ a, r = some a ∧ gK S a = 10 ∧ vp_in i (gN S a) ∧ S1 = gsI S a i.toNatClampNeg v := by
  obtain ⟨a, hr, h⟩ := g_de h
  obtain ⟨⟨h1, h2⟩, h⟩ := g_if h
  exact ⟨a, hr, h1, h2, (Option.some.inj h).symm⟩
theorem faB_s {S S1 : gS} {r : Option Nat} {i v : Int32} (h : faB S r i v = some S1) : ∃ a, r = some a ∧ gK S a = 9 ∧ vp_in i (gN S a) ∧ S1 = gsI S a i.toNatClampNeg v.toInt8.toInt32 := by
  obtain ⟨a, hr, h⟩ := g_de h
  obtain ⟨⟨h1, h2⟩, h⟩ := g_if h
  exact ⟨a, hr, h1, h2, (Option.some.inj h).symm⟩
theorem faZ_s {S S1 : gS} {r : Option Nat} {i v : Int32} (h : faZ S r i v = some S1) : ∃ a, r = some a ∧ gK S a = 12 ∧ vp_in i (gN S a) ∧ S1 = gsI S a i.toNatClampNeg (v &&& 1) := by
  obtain ⟨a, hr, h⟩ := g_de h
  obtain ⟨⟨h1, h2⟩, h⟩ := g_if h
  exact ⟨a, hr, h1, h2, (Option.some.inj h).symm⟩
theorem faL_s {S S1 : gS} {r : Option Nat} {i : Int32} {v : Int64} (h : faL S r i v = some S1) : ∃ a, r = some a ∧ gK S a = 11 ∧ vp_in i (gN S a) ∧ S1 = gsL S a i.toNatClampNeg v := by
  obtain ⟨a, hr, h⟩ := g_de h
  obtain ⟨⟨h1, h2⟩, h⟩ := g_if h
  exact ⟨a, hr, h1, h2, (Option.some.inj h).symm⟩
theorem faR_s {S S1 : gS} {kd ci : Nat} {r : Option Nat} {i : Int32} {v : Option Nat} (h : faR S kd ci r i v = some S1) : ∃ a b, r = some a ∧ v = some b ∧ gK S a = kd ∧ vp_in i (gN S a) ∧ gK S b = ci ∧ S1 = gsR S a i.toNatClampNeg (some b) := by
  obtain ⟨a, hr, h⟩ := g_de h
  obtain ⟨b, hv, h⟩ := g_de h
  obtain ⟨⟨⟨h1, h2⟩, h3⟩, h⟩ := g_if h
  exact ⟨a, b, hr, hv, h1, h2, h3, (Option.some.inj h).symm⟩
theorem fnA_s {n : Int32} {cap k : Nat} (h : fnA n cap = some k) : ¬ n < 0 ∧ n.toNatClampNeg = k ∧ k ≤ cap := by
  obtain ⟨⟨h1, h2⟩, h⟩ := g_if h
  have e := Option.some.inj h
  exact ⟨h1, e, by rw [← e]; exact h2⟩
theorem fcp_s {S S1 : gS} {r0 r1 : Option Nat} {sp dp n : Int32} (h : fcp S r0 sp r1 dp n = some S1) : ∃ a b, r0 = some a ∧ r1 = some b ∧ (gK S a = 9 ∧ gK S b = 9) ∧ (¬ sp < 0 ∧ ¬ dp < 0 ∧ ¬ n < 0 ∧ sp.toNatClampNeg + n.toNatClampNeg ≤ gN S a ∧ dp.toNatClampNeg + n.toNatClampNeg ≤ gN S b) ∧ S1 = gsA S b (va_cpy (gI S a) (gI S b) sp.toNatClampNeg dp.toNatClampNeg n.toNatClampNeg) := by
  obtain ⟨a, hr, h⟩ := g_de h
  obtain ⟨b, hv, h⟩ := g_de h
  obtain ⟨⟨h1, h2⟩, h⟩ := g_if h
  exact ⟨a, b, hr, hv, h1, h2, (Option.some.inj h).symm⟩
def gDc {α : Type} (S : gS) (ci : Nat) (r : Option Nat) (f : Nat → Option α) : Option α := gDe r fun a => if gK S a = ci then f a else none
theorem g_dc {α : Type} {S : gS} {ci : Nat} {r : Option Nat} {f : Nat → Option α} {x : α} (h : gDc S ci r f = some x) : ∃ a, r = some a ∧ gK S a = ci ∧ f a = some x := by
  obtain ⟨a, hr, h⟩ := g_de h
  obtain ⟨h1, h⟩ := g_if h
  exact ⟨a, hr, h1, h⟩
def gBx {α β : Type} (x : Option ((String ⊕ α) × gS)) (fx : String → gS → Option β) (fr : α → gS → Option β) : Option β := match x with
  | some (.inl E, S) => fx E S
  | some (.inr a, S) => fr a S
  | none => none
theorem g_bx {α β : Type} {x : Option ((String ⊕ α) × gS)} {fx : String → gS → Option β} {fr : α → gS → Option β} {r : β} (h : gBx x fx fr = some r) : (∃ a S, x = some (.inr a, S) ∧ fr a S = some r) ∨ ∃ E S, x = some (.inl E, S) ∧ fx E S = some r := by
  cases x with
  | none => cases h
  | some q =>
    obtain ⟨res, S⟩ := q
    cases res with
    | inl E => exact Or.inr ⟨E, S, rfl, h⟩
    | inr a => exact Or.inl ⟨a, S, rfl, h⟩
def gFuel : Nat := 1000000
def gGd {α : Type} (c : Prop) [d : Decidable c] (x : Option α) : Option α := if c then x else none
theorem g_gd {α : Type} {c : Prop} [d : Decidable c] {x : Option α} {r : α} (h : gGd c x = some r) : c ∧ x = some r := g_if h
theorem g_nln {α : Type} {r : Option Nat} {x y : Option α} {q : α} (h : gnl r x y = some q) (hr : r = none) : x = some q := by subst hr; exact h
theorem g_nls {α : Type} {r : Option Nat} {x y : Option α} {q : α} {a : Nat} (h : gnl r x y = some q) (hr : r = some a) : y = some q := by subst hr; exact h
