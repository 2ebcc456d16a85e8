/-! The class's state KS and the cells that hold it: an indexed family. -/
section STC
/-- a family of cells: index i lies at a i and holds fx i -/
def FW (dom : Nat → Prop) (fx : Nat → va_E) (a : Nat → Nat) (L : List Nat) (f : Nat → va_E) : Prop := (∀ i, dom i → a i ∈ L ∧ f (a i) = fx i) ∧ ∀ i j, dom i → dom j → a i = a j → i = j
theorem FW.q {dom : Nat → Prop} {fx : Nat → va_E} {a : Nat → Nat} {L : List Nat} {f : Nat → va_E} (h : FW dom fx a L f) {i : Nat} (hi : dom i) : a i ∈ L := (h.1 i hi).1
theorem FW.f {dom : Nat → Prop} {fx : Nat → va_E} {a : Nat → Nat} {L : List Nat} {f : Nat → va_E} (h : FW dom fx a L f) {i : Nat} (hi : dom i) : f (a i) = fx i := (h.1 i hi).2
theorem FW.set {dom dom' : Nat → Prop} {fx fx' : Nat → va_E} {a : Nat → Nat} {L : List Nat} {f : Nat → va_E} {e : va_E} (h : FW dom fx a L f) (i : Nat) (hi : dom i) (hd : ∀ j, dom' j → dom j) (he : fx' i = e) (ho : ∀ j, j ≠ i → fx' j = fx j) : FW dom' fx' a L (va_up f (a i) e) := by
  refine ⟨fun j hj => ⟨h.q (hd j hj), ?_⟩, fun j k hj hk => h.2 j k (hd j hj) (hd k hk)⟩
  by_cases hji : j = i
  · subst hji
    rw [he]
    exact pu_s
  · rw [ho j hji]
    exact pu_n (fun q => hji (h.2 j i (hd j hj) hi q)) (h.f (hd j hj))
/-- v: numbers; n: counts; r: what lists hold; o: the order of each policy's changes -/
abbrev KS : Type := (Nat → Nat → Int32) × (Nat → Nat → Nat) × (Nat → Nat → Option Nat) × (Nat → List Nat)
abbrev kV (k : KS) (c : Nat) (x : Nat → Int32) : KS := (va_up k.1 c x, k.2)
abbrev kW (k : KS) (c j : Nat) (x : Int32) : KS := (va_up k.1 c (upd (k.1 c) j x), k.2)
theorem va_up_id {α : Type} (f : Nat → α) (c : Nat) : va_up f c (f c) = f := by
  funext j
  by_cases h : j = c
  · subst h; exact pu_s
  · exact pu_n h rfl
theorem va_up_up {α : Type} (f : Nat → α) (c : Nat) (x y : α) : va_up (va_up f c x) c y = va_up f c y := by
  funext j
  by_cases h : j = c
  · subst h; rw [pu_s, pu_s]
  · rw [pu_n h rfl, pu_n h rfl, pu_n h rfl]
theorem kV_id (k : KS) (c : Nat) : kV k c (k.1 c) = k := by
  show (va_up k.1 c (k.1 c), k.2) = k
  rw [va_up_id]
theorem kV_kV (k : KS) (c : Nat) (x y : Nat → Int32) : kV (kV k c x) c y = kV k c y := by
  show (va_up (va_up k.1 c x) c y, k.2) = _
  rw [va_up_up]
theorem upd_id (f : Nat → Int32) (j : Nat) : upd f j (f j) = f := by
  funext i
  by_cases h : i = j
  · subst h; exact if_pos rfl
  · exact if_neg h
theorem kW_id (k : KS) (c j : Nat) : kW k c j (k.1 c j) = k := by
  show (va_up k.1 c (upd (k.1 c) j (k.1 c j)), k.2) = k
  rw [upd_id, va_up_id]
def eLst (g : GE) (a : Nat → Nat) (k : KS) (t la : Nat) : va_E := .inr (2, [.int (k.1 17 t), .ref (if k.2.1 4 t = 0 then g.2.2 4 else a la), .int (nI (k.2.1 3 t))])
def eArr (g : GE) (k : KS) (t : Nat) : va_E := .inl (g.2.1 2, k.2.1 4 t, .inr (.inr (.inr (.inr (k.2.2.1 t)))))
def ePol (a : Nat → Nat) (k : KS) (i : Nat) : va_E := .inr (4, [.int (k.1 10 i), .ref (a (21 + 3 * i)), .int (k.1 11 i)])
def eChg (g : GE) (a : Nat → Nat) (k : KS) (j : Nat) : va_E := .inr (3, [.int (nI j), .ref (a (20 + 3 * k.2.1 1 j)), .ref (g.2.2 (k.2.1 2 j)), .int (k.1 12 j), .int (k.1 13 j), .int (k.1 14 j), .int (k.1 15 j), .int (k.1 16 j)])
def row3 (a : Nat → Nat) (b : Nat) : Nat → Option Nat := fun j => if j < 3 then some (a (b + j)) else none
def fxC (g : GE) (a : Nat → Nat) (k : KS) : Nat → va_E
  | 0 => .inr (8, [.ref (a 1), .ref (a 2), .ref (a 3), .ref (a 4), .ref (a 5), .int (k.1 0 0)])
  | 1 => eLst g a k 0 17
  | 2 => eLst g a k 1 18
  | 3 => .inr (5, [.ref (a 6), .ref (a 7), .int (k.1 0 1)])
  | 4 => .inr (6, [.ref (a 14), .int (k.1 0 2)])
  | 5 => .inr (7, [.ref (a 15), .ref (a 16)])
  | 6 => .inl (g.2.1 3, 3, .inr (.inr (.inr (.inr (row3 a 8)))))
  | 7 => .inl (g.2.1 3, 3, .inr (.inr (.inr (.inr (row3 a 11)))))
  | 8 => .inl (g.2.1 0, 365, .inl (k.1 4))
  | 9 => .inl (g.2.1 0, 365, .inl (k.1 5))
  | 10 => .inl (g.2.1 0, 365, .inl (k.1 6))
  | 11 => .inl (g.2.1 0, 365, .inl (k.1 7))
  | 12 => .inl (g.2.1 0, 365, .inl (k.1 8))
  | 13 => .inl (g.2.1 0, 365, .inl (k.1 9))
  | 14 => .inl (g.2.1 0, 3, .inl (k.1 1))
  | 15 => .inl (g.2.1 0, 365, .inl (k.1 2))
  | 16 => .inl (g.2.1 0, 366, .inl (k.1 3))
  | 17 => eArr g k 0
  | 18 => eArr g k 1
  | 19 => .inr (0, [])
  | i + 20 => if i < 12 then (if i % 3 = 0 then ePol a k (i / 3) else if i % 3 = 1 then eLst g a k (2 + i / 3) (22 + 3 * (i / 3)) else eArr g k (2 + i / 3)) else eChg g a k (i - 12)
def domC (k : KS) (i : Nat) : Prop := i < 17 ∨ (i = 17 ∧ 0 < k.2.1 4 0) ∨ (i = 18 ∧ 0 < k.2.1 4 1) ∨ (∃ p, p < k.2.1 0 0 ∧ p < 4 ∧ (i = 20 + 3 * p ∨ i = 21 + 3 * p ∨ (i = 22 + 3 * p ∧ 0 < k.2.1 4 (2 + p)))) ∨ ∃ j, j < k.2.1 0 1 ∧ i = 32 + j
abbrev CW (g : GE) (a : Nat → Nat) (k : KS) (L : List Nat) (f : Nat → va_E) : Prop := FW (domC k) (fxC g a k) a L f
theorem dC {k : KS} {i : Nat} (h : i < 17) : domC k i := Or.inl h
theorem dP {k : KS} {p : Nat} (h : p < k.2.1 0 0) (h4 : p < 4) : domC k (20 + 3 * p) := Or.inr (Or.inr (Or.inr (Or.inl ⟨p, h, h4, Or.inl rfl⟩)))
theorem dPl {k : KS} {p : Nat} (h : p < k.2.1 0 0) (h4 : p < 4) : domC k (21 + 3 * p) := Or.inr (Or.inr (Or.inr (Or.inl ⟨p, h, h4, Or.inr (Or.inl rfl)⟩)))
theorem dPa {k : KS} {p : Nat} (h : p < k.2.1 0 0) (h4 : p < 4) (hc : 0 < k.2.1 4 (2 + p)) : domC k (22 + 3 * p) := Or.inr (Or.inr (Or.inr (Or.inl ⟨p, h, h4, Or.inr (Or.inr ⟨rfl, hc⟩)⟩)))
theorem dCh {k : KS} {j : Nat} (h : j < k.2.1 0 1) : domC k (32 + j) := Or.inr (Or.inr (Or.inr (Or.inr ⟨j, h, rfl⟩)))
theorem fP (g : GE) (a : Nat → Nat) (k : KS) {p : Nat} (h : p < 4) : fxC g a k (20 + 3 * p) = ePol a k p := by
  match p, h with
  | 0, _ => rfl
  | 1, _ => rfl
  | 2, _ => rfl
  | 3, _ => rfl
theorem fPl (g : GE) (a : Nat → Nat) (k : KS) {p : Nat} (h : p < 4) : fxC g a k (21 + 3 * p) = eLst g a k (2 + p) (22 + 3 * p) := by
  match p, h with
  | 0, _ => rfl
  | 1, _ => rfl
  | 2, _ => rfl
  | 3, _ => rfl
theorem fPa (g : GE) (a : Nat → Nat) (k : KS) {p : Nat} (h : p < 4) : fxC g a k (22 + 3 * p) = eArr g k (2 + p) := by
  match p, h with
  | 0, _ => rfl
  | 1, _ => rfl
  | 2, _ => rfl
  | 3, _ => rfl
theorem fCh (g : GE) (a : Nat → Nat) (k : KS) (j : Nat) : fxC g a k (32 + j) = eChg g a k j := by
  have e : 32 + j = (12 + j) + 20 := by omega
  rw [e]
  show (if 12 + j < 12 then _ else eChg g a k (12 + j - 12)) = _
  rw [if_neg (by omega), show 12 + j - 12 = j by omega]
theorem fo_vals (g : GE) (a : Nat → Nat) (k : KS) (x : Nat → Int32) : ∀ j, j ≠ 14 → fxC g a (kV k 1 x) j = fxC g a k j := by
  intro j h
  match j, h with
  | 0, _ => rfl
  | 1, _ => rfl
  | 2, _ => rfl
  | 3, _ => rfl
  | 4, _ => rfl
  | 5, _ => rfl
  | 6, _ => rfl
  | 7, _ => rfl
  | 8, _ => rfl
  | 9, _ => rfl
  | 10, _ => rfl
  | 11, _ => rfl
  | 12, _ => rfl
  | 13, _ => rfl
  | 14, h => exact absurd rfl h
  | 15, _ => rfl
  | 16, _ => rfl
  | 17, _ => rfl
  | 18, _ => rfl
  | 19, _ => rfl
  | j + 20, _ => rfl
theorem CW.vals {g : GE} {a : Nat → Nat} {k : KS} {L : List Nat} {f : Nat → va_E} (h : CW g a k L f) (x : Nat → Int32) : CW g a (kV k 1 x) L (va_up f (a 14) (.inl (g.2.1 0, 3, .inl x))) := FW.set h 14 (dC (by decide)) (fun _ h => h) rfl (fo_vals g a k x)
theorem fo_rates (g : GE) (a : Nat → Nat) (k : KS) (x : Nat → Int32) : ∀ j, j ≠ 15 → fxC g a (kV k 2 x) j = fxC g a k j := by
  intro j h
  match j, h with
  | 0, _ => rfl
  | 1, _ => rfl
  | 2, _ => rfl
  | 3, _ => rfl
  | 4, _ => rfl
  | 5, _ => rfl
  | 6, _ => rfl
  | 7, _ => rfl
  | 8, _ => rfl
  | 9, _ => rfl
  | 10, _ => rfl
  | 11, _ => rfl
  | 12, _ => rfl
  | 13, _ => rfl
  | 14, _ => rfl
  | 15, h => exact absurd rfl h
  | 16, _ => rfl
  | 17, _ => rfl
  | 18, _ => rfl
  | 19, _ => rfl
  | j + 20, _ => rfl
theorem CW.rates {g : GE} {a : Nat → Nat} {k : KS} {L : List Nat} {f : Nat → va_E} (h : CW g a k L f) (x : Nat → Int32) : CW g a (kV k 2 x) L (va_up f (a 15) (.inl (g.2.1 0, 365, .inl x))) := FW.set h 15 (dC (by decide)) (fun _ h => h) rfl (fo_rates g a k x)
theorem fo_sums (g : GE) (a : Nat → Nat) (k : KS) (x : Nat → Int32) : ∀ j, j ≠ 16 → fxC g a (kV k 3 x) j = fxC g a k j := by
  intro j h
  match j, h with
  | 0, _ => rfl
  | 1, _ => rfl
  | 2, _ => rfl
  | 3, _ => rfl
  | 4, _ => rfl
  | 5, _ => rfl
  | 6, _ => rfl
  | 7, _ => rfl
  | 8, _ => rfl
  | 9, _ => rfl
  | 10, _ => rfl
  | 11, _ => rfl
  | 12, _ => rfl
  | 13, _ => rfl
  | 14, _ => rfl
  | 15, _ => rfl
  | 16, h => exact absurd rfl h
  | 17, _ => rfl
  | 18, _ => rfl
  | 19, _ => rfl
  | j + 20, _ => rfl
theorem CW.sums {g : GE} {a : Nat → Nat} {k : KS} {L : List Nat} {f : Nat → va_E} (h : CW g a k L f) (x : Nat → Int32) : CW g a (kV k 3 x) L (va_up f (a 16) (.inl (g.2.1 0, 366, .inl x))) := FW.set h 16 (dC (by decide)) (fun _ h => h) rfl (fo_sums g a k x)
theorem fo_w0 (g : GE) (a : Nat → Nat) (k : KS) (x : Nat → Int32) : ∀ j, j ≠ 8 → fxC g a (kV k 4 x) j = fxC g a k j := by
  intro j h
  match j, h with
  | 0, _ => rfl
  | 1, _ => rfl
  | 2, _ => rfl
  | 3, _ => rfl
  | 4, _ => rfl
  | 5, _ => rfl
  | 6, _ => rfl
  | 7, _ => rfl
  | 8, h => exact absurd rfl h
  | 9, _ => rfl
  | 10, _ => rfl
  | 11, _ => rfl
  | 12, _ => rfl
  | 13, _ => rfl
  | 14, _ => rfl
  | 15, _ => rfl
  | 16, _ => rfl
  | 17, _ => rfl
  | 18, _ => rfl
  | 19, _ => rfl
  | j + 20, _ => rfl
theorem CW.w0 {g : GE} {a : Nat → Nat} {k : KS} {L : List Nat} {f : Nat → va_E} (h : CW g a k L f) (x : Nat → Int32) : CW g a (kV k 4 x) L (va_up f (a 8) (.inl (g.2.1 0, 365, .inl x))) := FW.set h 8 (dC (by decide)) (fun _ h => h) rfl (fo_w0 g a k x)
theorem fo_w1 (g : GE) (a : Nat → Nat) (k : KS) (x : Nat → Int32) : ∀ j, j ≠ 9 → fxC g a (kV k 5 x) j = fxC g a k j := by
  intro j h
  match j, h with
  | 0, _ => rfl
  | 1, _ => rfl
  | 2, _ => rfl
  | 3, _ => rfl
  | 4, _ => rfl
  | 5, _ => rfl
  | 6, _ => rfl
  | 7, _ => rfl
  | 8, _ => rfl
  | 9, h => exact absurd rfl h
  | 10, _ => rfl
  | 11, _ => rfl
  | 12, _ => rfl
  | 13, _ => rfl
  | 14, _ => rfl
  | 15, _ => rfl
  | 16, _ => rfl
  | 17, _ => rfl
  | 18, _ => rfl
  | 19, _ => rfl
  | j + 20, _ => rfl
theorem CW.w1 {g : GE} {a : Nat → Nat} {k : KS} {L : List Nat} {f : Nat → va_E} (h : CW g a k L f) (x : Nat → Int32) : CW g a (kV k 5 x) L (va_up f (a 9) (.inl (g.2.1 0, 365, .inl x))) := FW.set h 9 (dC (by decide)) (fun _ h => h) rfl (fo_w1 g a k x)
theorem fo_w2 (g : GE) (a : Nat → Nat) (k : KS) (x : Nat → Int32) : ∀ j, j ≠ 10 → fxC g a (kV k 6 x) j = fxC g a k j := by
  intro j h
  match j, h with
  | 0, _ => rfl
  | 1, _ => rfl
  | 2, _ => rfl
  | 3, _ => rfl
  | 4, _ => rfl
  | 5, _ => rfl
  | 6, _ => rfl
  | 7, _ => rfl
  | 8, _ => rfl
  | 9, _ => rfl
  | 10, h => exact absurd rfl h
  | 11, _ => rfl
  | 12, _ => rfl
  | 13, _ => rfl
  | 14, _ => rfl
  | 15, _ => rfl
  | 16, _ => rfl
  | 17, _ => rfl
  | 18, _ => rfl
  | 19, _ => rfl
  | j + 20, _ => rfl
theorem CW.w2 {g : GE} {a : Nat → Nat} {k : KS} {L : List Nat} {f : Nat → va_E} (h : CW g a k L f) (x : Nat → Int32) : CW g a (kV k 6 x) L (va_up f (a 10) (.inl (g.2.1 0, 365, .inl x))) := FW.set h 10 (dC (by decide)) (fun _ h => h) rfl (fo_w2 g a k x)
theorem fo_s0 (g : GE) (a : Nat → Nat) (k : KS) (x : Nat → Int32) : ∀ j, j ≠ 11 → fxC g a (kV k 7 x) j = fxC g a k j := by
  intro j h
  match j, h with
  | 0, _ => rfl
  | 1, _ => rfl
  | 2, _ => rfl
  | 3, _ => rfl
  | 4, _ => rfl
  | 5, _ => rfl
  | 6, _ => rfl
  | 7, _ => rfl
  | 8, _ => rfl
  | 9, _ => rfl
  | 10, _ => rfl
  | 11, h => exact absurd rfl h
  | 12, _ => rfl
  | 13, _ => rfl
  | 14, _ => rfl
  | 15, _ => rfl
  | 16, _ => rfl
  | 17, _ => rfl
  | 18, _ => rfl
  | 19, _ => rfl
  | j + 20, _ => rfl
theorem CW.s0 {g : GE} {a : Nat → Nat} {k : KS} {L : List Nat} {f : Nat → va_E} (h : CW g a k L f) (x : Nat → Int32) : CW g a (kV k 7 x) L (va_up f (a 11) (.inl (g.2.1 0, 365, .inl x))) := FW.set h 11 (dC (by decide)) (fun _ h => h) rfl (fo_s0 g a k x)
theorem fo_s1 (g : GE) (a : Nat → Nat) (k : KS) (x : Nat → Int32) : ∀ j, j ≠ 12 → fxC g a (kV k 8 x) j = fxC g a k j := by
  intro j h
  match j, h with
  | 0, _ => rfl
  | 1, _ => rfl
  | 2, _ => rfl
  | 3, _ => rfl
  | 4, _ => rfl
  | 5, _ => rfl
  | 6, _ => rfl
  | 7, _ => rfl
  | 8, _ => rfl
  | 9, _ => rfl
  | 10, _ => rfl
  | 11, _ => rfl
  | 12, h => exact absurd rfl h
  | 13, _ => rfl
  | 14, _ => rfl
  | 15, _ => rfl
  | 16, _ => rfl
  | 17, _ => rfl
  | 18, _ => rfl
  | 19, _ => rfl
  | j + 20, _ => rfl
theorem CW.s1 {g : GE} {a : Nat → Nat} {k : KS} {L : List Nat} {f : Nat → va_E} (h : CW g a k L f) (x : Nat → Int32) : CW g a (kV k 8 x) L (va_up f (a 12) (.inl (g.2.1 0, 365, .inl x))) := FW.set h 12 (dC (by decide)) (fun _ h => h) rfl (fo_s1 g a k x)
theorem fo_s2 (g : GE) (a : Nat → Nat) (k : KS) (x : Nat → Int32) : ∀ j, j ≠ 13 → fxC g a (kV k 9 x) j = fxC g a k j := by
  intro j h
  match j, h with
  | 0, _ => rfl
  | 1, _ => rfl
  | 2, _ => rfl
  | 3, _ => rfl
  | 4, _ => rfl
  | 5, _ => rfl
  | 6, _ => rfl
  | 7, _ => rfl
  | 8, _ => rfl
  | 9, _ => rfl
  | 10, _ => rfl
  | 11, _ => rfl
  | 12, _ => rfl
  | 13, h => exact absurd rfl h
  | 14, _ => rfl
  | 15, _ => rfl
  | 16, _ => rfl
  | 17, _ => rfl
  | 18, _ => rfl
  | 19, _ => rfl
  | j + 20, _ => rfl
theorem CW.s2 {g : GE} {a : Nat → Nat} {k : KS} {L : List Nat} {f : Nat → va_E} (h : CW g a k L f) (x : Nat → Int32) : CW g a (kV k 9 x) L (va_up f (a 13) (.inl (g.2.1 0, 365, .inl x))) := FW.set h 13 (dC (by decide)) (fun _ h => h) rfl (fo_s2 g a k x)
theorem fo_cov (g : GE) (a : Nat → Nat) (k : KS) (x : Int32) : ∀ j, j ≠ 4 → fxC g a (kW k 0 2 x) j = fxC g a k j := by
  intro j h
  match j, h with
  | 0, _ => rfl
  | 1, _ => rfl
  | 2, _ => rfl
  | 3, _ => rfl
  | 4, h => exact absurd rfl h
  | 5, _ => rfl
  | 6, _ => rfl
  | 7, _ => rfl
  | 8, _ => rfl
  | 9, _ => rfl
  | 10, _ => rfl
  | 11, _ => rfl
  | 12, _ => rfl
  | 13, _ => rfl
  | 14, _ => rfl
  | 15, _ => rfl
  | 16, _ => rfl
  | 17, _ => rfl
  | 18, _ => rfl
  | 19, _ => rfl
  | j + 20, _ => rfl
theorem CW.cov {g : GE} {a : Nat → Nat} {k : KS} {L : List Nat} {f : Nat → va_E} (h : CW g a k L f) (x : Int32) : CW g a (kW k 0 2 x) L (va_up f (a 4) (.inr (6, [.ref (a 14), .int x]))) := FW.set h 4 (dC (by decide)) (fun _ h => h) rfl (fo_cov g a k x)
theorem fo_tc (g : GE) (a : Nat → Nat) (k : KS) (x : Int32) : ∀ j, j ≠ 3 → fxC g a (kW k 0 1 x) j = fxC g a k j := by
  intro j h
  match j, h with
  | 0, _ => rfl
  | 1, _ => rfl
  | 2, _ => rfl
  | 3, h => exact absurd rfl h
  | 4, _ => rfl
  | 5, _ => rfl
  | 6, _ => rfl
  | 7, _ => rfl
  | 8, _ => rfl
  | 9, _ => rfl
  | 10, _ => rfl
  | 11, _ => rfl
  | 12, _ => rfl
  | 13, _ => rfl
  | 14, _ => rfl
  | 15, _ => rfl
  | 16, _ => rfl
  | 17, _ => rfl
  | 18, _ => rfl
  | 19, _ => rfl
  | j + 20, _ => rfl
theorem CW.tc {g : GE} {a : Nat → Nat} {k : KS} {L : List Nat} {f : Nat → va_E} (h : CW g a k L f) (x : Int32) : CW g a (kW k 0 1 x) L (va_up f (a 3) (.inr (5, [.ref (a 6), .ref (a 7), .int x]))) := FW.set h 3 (dC (by decide)) (fun _ h => h) rfl (fo_tc g a k x)
theorem fo_day (g : GE) (a : Nat → Nat) (k : KS) (x : Int32) : ∀ j, j ≠ 0 → fxC g a (kW k 0 0 x) j = fxC g a k j := by
  intro j h
  match j, h with
  | 0, h => exact absurd rfl h
  | 1, _ => rfl
  | 2, _ => rfl
  | 3, _ => rfl
  | 4, _ => rfl
  | 5, _ => rfl
  | 6, _ => rfl
  | 7, _ => rfl
  | 8, _ => rfl
  | 9, _ => rfl
  | 10, _ => rfl
  | 11, _ => rfl
  | 12, _ => rfl
  | 13, _ => rfl
  | 14, _ => rfl
  | 15, _ => rfl
  | 16, _ => rfl
  | 17, _ => rfl
  | 18, _ => rfl
  | 19, _ => rfl
  | j + 20, _ => rfl
theorem CW.day {g : GE} {a : Nat → Nat} {k : KS} {L : List Nat} {f : Nat → va_E} (h : CW g a k L f) (x : Int32) : CW g a (kW k 0 0 x) L (va_up f (a 0) (.inr (8, [.ref (a 1), .ref (a 2), .ref (a 3), .ref (a 4), .ref (a 5), .int x]))) := FW.set h 0 (dC (by decide)) (fun _ h => h) rfl (fo_day g a k x)
theorem fo_bil (g : GE) (a : Nat → Nat) (k : KS) (p : Nat) (x : Int32) : ∀ j, j ≠ 20 + 3 * p → fxC g a (kW k 11 p x) j = fxC g a k j := by
  intro j h
  match j, h with
  | 0, _ => rfl
  | 1, _ => rfl
  | 2, _ => rfl
  | 3, _ => rfl
  | 4, _ => rfl
  | 5, _ => rfl
  | 6, _ => rfl
  | 7, _ => rfl
  | 8, _ => rfl
  | 9, _ => rfl
  | 10, _ => rfl
  | 11, _ => rfl
  | 12, _ => rfl
  | 13, _ => rfl
  | 14, _ => rfl
  | 15, _ => rfl
  | 16, _ => rfl
  | 17, _ => rfl
  | 18, _ => rfl
  | 19, _ => rfl
  | j + 20, h =>
    show (if j < 12 then (if j % 3 = 0 then ePol a (kW k 11 p x) (j / 3) else if j % 3 = 1 then eLst g a k (2 + j / 3) (22 + 3 * (j / 3)) else eArr g k (2 + j / 3)) else eChg g a k (j - 12)) = (if j < 12 then (if j % 3 = 0 then ePol a k (j / 3) else if j % 3 = 1 then eLst g a k (2 + j / 3) (22 + 3 * (j / 3)) else eArr g k (2 + j / 3)) else eChg g a k (j - 12))
    by_cases h1 : j < 12
    · rw [if_pos h1, if_pos h1]
      by_cases h2 : j % 3 = 0
      · rw [if_pos h2, if_pos h2]
        have h3 : j / 3 ≠ p := by omega
        simp [ePol, va_up, upd, h3]
      · rw [if_neg h2, if_neg h2]
    · rw [if_neg h1, if_neg h1]
theorem CW.bil {g : GE} {a : Nat → Nat} {k : KS} {L : List Nat} {f : Nat → va_E} (h : CW g a k L f) {p : Nat} (h1 : p < k.2.1 0 0) (h4 : p < 4) (x : Int32) : CW g a (kW k 11 p x) L (va_up f (a (20 + 3 * p)) (.inr (4, [.int (k.1 10 p), .ref (a (21 + 3 * p)), .int x]))) :=
  FW.set h (20 + 3 * p) (dP h1 h4) (fun _ h => h) (by rw [fP g a _ h4]; simp [ePol, va_up, upd]) (fo_bil g a k p x)
theorem fo_tak (g : GE) (a : Nat → Nat) (k : KS) (i : Nat) (x : Int32) : ∀ j, j ≠ 32 + i → fxC g a (kW k 16 i x) j = fxC g a k j := by
  intro j h
  match j, h with
  | 0, _ => rfl
  | 1, _ => rfl
  | 2, _ => rfl
  | 3, _ => rfl
  | 4, _ => rfl
  | 5, _ => rfl
  | 6, _ => rfl
  | 7, _ => rfl
  | 8, _ => rfl
  | 9, _ => rfl
  | 10, _ => rfl
  | 11, _ => rfl
  | 12, _ => rfl
  | 13, _ => rfl
  | 14, _ => rfl
  | 15, _ => rfl
  | 16, _ => rfl
  | 17, _ => rfl
  | 18, _ => rfl
  | 19, _ => rfl
  | j + 20, h =>
    show (if j < 12 then (if j % 3 = 0 then ePol a k (j / 3) else if j % 3 = 1 then eLst g a k (2 + j / 3) (22 + 3 * (j / 3)) else eArr g k (2 + j / 3)) else eChg g a (kW k 16 i x) (j - 12)) = (if j < 12 then (if j % 3 = 0 then ePol a k (j / 3) else if j % 3 = 1 then eLst g a k (2 + j / 3) (22 + 3 * (j / 3)) else eArr g k (2 + j / 3)) else eChg g a k (j - 12))
    by_cases h1 : j < 12
    · rw [if_pos h1, if_pos h1]
    · rw [if_neg h1, if_neg h1]
      have h3 : j - 12 ≠ i := by omega
      simp [eChg, va_up, upd, h3]
theorem CW.tak {g : GE} {a : Nat → Nat} {k : KS} {L : List Nat} {f : Nat → va_E} (h : CW g a k L f) {i : Nat} (h1 : i < k.2.1 0 1) (x : Int32) : CW g a (kW k 16 i x) L (va_up f (a (32 + i)) (.inr (3, [.int (nI i), .ref (a (20 + 3 * k.2.1 1 i)), .ref (g.2.2 (k.2.1 2 i)), .int (k.1 12 i), .int (k.1 13 i), .int (k.1 14 i), .int (k.1 15 i), .int x]))) :=
  FW.set h (32 + i) (dCh h1) (fun _ h => h) (by rw [fCh]; simp [eChg, va_up, upd]) (fo_tak g a k i x)
theorem dom_lt {k : KS} {i : Nat} (h : domC k i) (h4 : ∀ p, p < k.2.1 0 0 → p < 4) : i < 19 ∨ (∃ p, p < k.2.1 0 0 ∧ p < 4 ∧ (i = 20 + 3 * p ∨ i = 21 + 3 * p ∨ i = 22 + 3 * p)) ∨ ∃ j, j < k.2.1 0 1 ∧ i = 32 + j := by
  rcases h with h | ⟨h, -⟩ | ⟨h, -⟩ | ⟨p, h1, h3, h | h | ⟨h, -⟩⟩ | h
  · exact Or.inl (by omega)
  · exact Or.inl (by omega)
  · exact Or.inl (by omega)
  · exact Or.inr (Or.inl ⟨p, h1, h3, Or.inl h⟩)
  · exact Or.inr (Or.inl ⟨p, h1, h3, Or.inr (Or.inl h)⟩)
  · exact Or.inr (Or.inl ⟨p, h1, h3, Or.inr (Or.inr h)⟩)
  · exact Or.inr (Or.inr h)
end STC
