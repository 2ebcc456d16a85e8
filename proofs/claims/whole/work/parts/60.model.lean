/-! the reference's state -/
section MODEL
abbrev MS : Type := Nat → Nat → Int32
def fxM (g : GE) (a : Nat → Nat) (k : MS) : Nat → va_E
  | 0 => .inr (9, [.int (k 0 0), .ref (a 1), .ref (a 2), .int (k 0 1), .int (k 0 2), .ref (a 3), .ref (a 4), .ref (a 5), .int (k 0 3), .ref (a 6), .ref (a 7), .ref (a 8), .ref (a 9), .ref (a 10), .ref (a 11), .ref (a 12), .ref (a 13), .ref (a 14), .ref (a 15), .ref (a 16), .int (k 0 4)])
  | 1 => .inl (g.2.1 0, 4, .inl (k 1))
  | 2 => .inl (g.2.1 0, 4, .inl (k 2))
  | 3 => .inl (g.2.1 0, 20, .inl (k 3))
  | 4 => .inl (g.2.1 0, 20, .inl (k 4))
  | 5 => .inl (g.2.1 0, 20, .inl (k 5))
  | 6 => .inl (g.2.1 0, 60, .inl (k 6))
  | 7 => .inl (g.2.1 0, 60, .inl (k 7))
  | 8 => .inl (g.2.1 0, 60, .inl (k 8))
  | 9 => .inl (g.2.1 0, 60, .inl (k 9))
  | 10 => .inl (g.2.1 0, 60, .inl (k 10))
  | 11 => .inl (g.2.1 0, 60, .inl (k 11))
  | 12 => .inl (g.2.1 0, 60, .inl (k 12))
  | 13 => .inl (g.2.1 0, 1095, .inl (k 13))
  | 14 => .inl (g.2.1 1, 365, .inl (k 14))
  | 15 => .inl (g.2.1 0, 365, .inl (k 15))
  | 16 => .inl (g.2.1 0, 366, .inl (k 16))
  | _ + 17 => .inr (0, [])
abbrev MW (g : GE) (a : Nat → Nat) (k : MS) (L : List Nat) (f : Nat → va_E) : Prop := FW (fun i => i < 17) (fxM g a k) a L f
theorem MW.fo1 (g : GE) (a : Nat → Nat) (k : MS) (x : Nat → Int32) : ∀ j, j ≠ 1 → fxM g a (va_up k 1 x) j = fxM g a k j := by
  intro j h
  match j, h with
  | 0, _ => rfl
  | 1, h => exact absurd rfl h
  | 2, _ => rfl
  | 3, _ => rfl
  | 4, _ => rfl
  | 5, _ => rfl
  | 6, _ => rfl
  | 7, _ => rfl
  | 8, _ => rfl
  | 9, _ => rfl
  | 10, _ => rfl
  | 11, _ => rfl
  | 12, _ => rfl
  | 13, _ => rfl
  | 14, _ => rfl
  | 15, _ => rfl
  | 16, _ => rfl
  | j + 17, _ => rfl
theorem MW.a1 {g : GE} {a : Nat → Nat} {k : MS} {L : List Nat} {f : Nat → va_E} (h : MW g a k L f) (x : Nat → Int32) : MW g a (va_up k 1 x) L (va_up f (a 1) (.inl (g.2.1 0, 4, .inl x))) := FW.set h 1 (by decide) (fun _ h => h) rfl (MW.fo1 g a k x)
theorem MW.fo2 (g : GE) (a : Nat → Nat) (k : MS) (x : Nat → Int32) : ∀ j, j ≠ 2 → fxM g a (va_up k 2 x) j = fxM g a k j := by
  intro j h
  match j, h with
  | 0, _ => rfl
  | 1, _ => rfl
  | 2, h => exact absurd rfl h
  | 3, _ => rfl
  | 4, _ => rfl
  | 5, _ => rfl
  | 6, _ => rfl
  | 7, _ => rfl
  | 8, _ => rfl
  | 9, _ => rfl
  | 10, _ => rfl
  | 11, _ => rfl
  | 12, _ => rfl
  | 13, _ => rfl
  | 14, _ => rfl
  | 15, _ => rfl
  | 16, _ => rfl
  | j + 17, _ => rfl
theorem MW.a2 {g : GE} {a : Nat → Nat} {k : MS} {L : List Nat} {f : Nat → va_E} (h : MW g a k L f) (x : Nat → Int32) : MW g a (va_up k 2 x) L (va_up f (a 2) (.inl (g.2.1 0, 4, .inl x))) := FW.set h 2 (by decide) (fun _ h => h) rfl (MW.fo2 g a k x)
theorem MW.fo3 (g : GE) (a : Nat → Nat) (k : MS) (x : Nat → Int32) : ∀ j, j ≠ 3 → fxM g a (va_up k 3 x) j = fxM g a k j := by
  intro j h
  match j, h with
  | 0, _ => rfl
  | 1, _ => rfl
  | 2, _ => rfl
  | 3, h => exact absurd rfl h
  | 4, _ => rfl
  | 5, _ => rfl
  | 6, _ => rfl
  | 7, _ => rfl
  | 8, _ => rfl
  | 9, _ => rfl
  | 10, _ => rfl
  | 11, _ => rfl
  | 12, _ => rfl
  | 13, _ => rfl
  | 14, _ => rfl
  | 15, _ => rfl
  | 16, _ => rfl
  | j + 17, _ => rfl
theorem MW.a3 {g : GE} {a : Nat → Nat} {k : MS} {L : List Nat} {f : Nat → va_E} (h : MW g a k L f) (x : Nat → Int32) : MW g a (va_up k 3 x) L (va_up f (a 3) (.inl (g.2.1 0, 20, .inl x))) := FW.set h 3 (by decide) (fun _ h => h) rfl (MW.fo3 g a k x)
theorem MW.fo4 (g : GE) (a : Nat → Nat) (k : MS) (x : Nat → Int32) : ∀ j, j ≠ 4 → fxM g a (va_up k 4 x) j = fxM g a k j := by
  intro j h
  match j, h with
  | 0, _ => rfl
  | 1, _ => rfl
  | 2, _ => rfl
  | 3, _ => rfl
  | 4, h => exact absurd rfl h
  | 5, _ => rfl
  | 6, _ => rfl
  | 7, _ => rfl
  | 8, _ => rfl
  | 9, _ => rfl
  | 10, _ => rfl
  | 11, _ => rfl
  | 12, _ => rfl
  | 13, _ => rfl
  | 14, _ => rfl
  | 15, _ => rfl
  | 16, _ => rfl
  | j + 17, _ => rfl
theorem MW.a4 {g : GE} {a : Nat → Nat} {k : MS} {L : List Nat} {f : Nat → va_E} (h : MW g a k L f) (x : Nat → Int32) : MW g a (va_up k 4 x) L (va_up f (a 4) (.inl (g.2.1 0, 20, .inl x))) := FW.set h 4 (by decide) (fun _ h => h) rfl (MW.fo4 g a k x)
theorem MW.fo5 (g : GE) (a : Nat → Nat) (k : MS) (x : Nat → Int32) : ∀ j, j ≠ 5 → fxM g a (va_up k 5 x) j = fxM g a k j := by
  intro j h
  match j, h with
  | 0, _ => rfl
  | 1, _ => rfl
  | 2, _ => rfl
  | 3, _ => rfl
  | 4, _ => rfl
  | 5, h => exact absurd rfl h
  | 6, _ => rfl
  | 7, _ => rfl
  | 8, _ => rfl
  | 9, _ => rfl
  | 10, _ => rfl
  | 11, _ => rfl
  | 12, _ => rfl
  | 13, _ => rfl
  | 14, _ => rfl
  | 15, _ => rfl
  | 16, _ => rfl
  | j + 17, _ => rfl
theorem MW.a5 {g : GE} {a : Nat → Nat} {k : MS} {L : List Nat} {f : Nat → va_E} (h : MW g a k L f) (x : Nat → Int32) : MW g a (va_up k 5 x) L (va_up f (a 5) (.inl (g.2.1 0, 20, .inl x))) := FW.set h 5 (by decide) (fun _ h => h) rfl (MW.fo5 g a k x)
theorem MW.fo6 (g : GE) (a : Nat → Nat) (k : MS) (x : Nat → Int32) : ∀ j, j ≠ 6 → fxM g a (va_up k 6 x) j = fxM g a k j := by
  intro j h
  match j, h with
  | 0, _ => rfl
  | 1, _ => rfl
  | 2, _ => rfl
  | 3, _ => rfl
  | 4, _ => rfl
  | 5, _ => rfl
  | 6, h => exact absurd rfl h
  | 7, _ => rfl
  | 8, _ => rfl
  | 9, _ => rfl
  | 10, _ => rfl
  | 11, _ => rfl
  | 12, _ => rfl
  | 13, _ => rfl
  | 14, _ => rfl
  | 15, _ => rfl
  | 16, _ => rfl
  | j + 17, _ => rfl
theorem MW.a6 {g : GE} {a : Nat → Nat} {k : MS} {L : List Nat} {f : Nat → va_E} (h : MW g a k L f) (x : Nat → Int32) : MW g a (va_up k 6 x) L (va_up f (a 6) (.inl (g.2.1 0, 60, .inl x))) := FW.set h 6 (by decide) (fun _ h => h) rfl (MW.fo6 g a k x)
theorem MW.fo7 (g : GE) (a : Nat → Nat) (k : MS) (x : Nat → Int32) : ∀ j, j ≠ 7 → fxM g a (va_up k 7 x) j = fxM g a k j := by
  intro j h
  match j, h with
  | 0, _ => rfl
  | 1, _ => rfl
  | 2, _ => rfl
  | 3, _ => rfl
  | 4, _ => rfl
  | 5, _ => rfl
  | 6, _ => rfl
  | 7, h => exact absurd rfl h
  | 8, _ => rfl
  | 9, _ => rfl
  | 10, _ => rfl
  | 11, _ => rfl
  | 12, _ => rfl
  | 13, _ => rfl
  | 14, _ => rfl
  | 15, _ => rfl
  | 16, _ => rfl
  | j + 17, _ => rfl
theorem MW.a7 {g : GE} {a : Nat → Nat} {k : MS} {L : List Nat} {f : Nat → va_E} (h : MW g a k L f) (x : Nat → Int32) : MW g a (va_up k 7 x) L (va_up f (a 7) (.inl (g.2.1 0, 60, .inl x))) := FW.set h 7 (by decide) (fun _ h => h) rfl (MW.fo7 g a k x)
theorem MW.fo8 (g : GE) (a : Nat → Nat) (k : MS) (x : Nat → Int32) : ∀ j, j ≠ 8 → fxM g a (va_up k 8 x) j = fxM g a k j := by
  intro j h
  match j, h with
  | 0, _ => rfl
  | 1, _ => rfl
  | 2, _ => rfl
  | 3, _ => rfl
  | 4, _ => rfl
  | 5, _ => rfl
  | 6, _ => rfl
  | 7, _ => rfl
  | 8, h => exact absurd rfl h
  | 9, _ => rfl
  | 10, _ => rfl
  | 11, _ => rfl
  | 12, _ => rfl
  | 13, _ => rfl
  | 14, _ => rfl
  | 15, _ => rfl
  | 16, _ => rfl
  | j + 17, _ => rfl
theorem MW.a8 {g : GE} {a : Nat → Nat} {k : MS} {L : List Nat} {f : Nat → va_E} (h : MW g a k L f) (x : Nat → Int32) : MW g a (va_up k 8 x) L (va_up f (a 8) (.inl (g.2.1 0, 60, .inl x))) := FW.set h 8 (by decide) (fun _ h => h) rfl (MW.fo8 g a k x)
theorem MW.fo9 (g : GE) (a : Nat → Nat) (k : MS) (x : Nat → Int32) : ∀ j, j ≠ 9 → fxM g a (va_up k 9 x) j = fxM g a k j := by
  intro j h
  match j, h with
  | 0, _ => rfl
  | 1, _ => rfl
  | 2, _ => rfl
  | 3, _ => rfl
  | 4, _ => rfl
  | 5, _ => rfl
  | 6, _ => rfl
  | 7, _ => rfl
  | 8, _ => rfl
  | 9, h => exact absurd rfl h
  | 10, _ => rfl
  | 11, _ => rfl
  | 12, _ => rfl
  | 13, _ => rfl
  | 14, _ => rfl
  | 15, _ => rfl
  | 16, _ => rfl
  | j + 17, _ => rfl
theorem MW.a9 {g : GE} {a : Nat → Nat} {k : MS} {L : List Nat} {f : Nat → va_E} (h : MW g a k L f) (x : Nat → Int32) : MW g a (va_up k 9 x) L (va_up f (a 9) (.inl (g.2.1 0, 60, .inl x))) := FW.set h 9 (by decide) (fun _ h => h) rfl (MW.fo9 g a k x)
theorem MW.fo10 (g : GE) (a : Nat → Nat) (k : MS) (x : Nat → Int32) : ∀ j, j ≠ 10 → fxM g a (va_up k 10 x) j = fxM g a k j := by
  intro j h
  match j, h with
  | 0, _ => rfl
  | 1, _ => rfl
  | 2, _ => rfl
  | 3, _ => rfl
  | 4, _ => rfl
  | 5, _ => rfl
  | 6, _ => rfl
  | 7, _ => rfl
  | 8, _ => rfl
  | 9, _ => rfl
  | 10, h => exact absurd rfl h
  | 11, _ => rfl
  | 12, _ => rfl
  | 13, _ => rfl
  | 14, _ => rfl
  | 15, _ => rfl
  | 16, _ => rfl
  | j + 17, _ => rfl
theorem MW.a10 {g : GE} {a : Nat → Nat} {k : MS} {L : List Nat} {f : Nat → va_E} (h : MW g a k L f) (x : Nat → Int32) : MW g a (va_up k 10 x) L (va_up f (a 10) (.inl (g.2.1 0, 60, .inl x))) := FW.set h 10 (by decide) (fun _ h => h) rfl (MW.fo10 g a k x)
theorem MW.fo11 (g : GE) (a : Nat → Nat) (k : MS) (x : Nat → Int32) : ∀ j, j ≠ 11 → fxM g a (va_up k 11 x) j = fxM g a k j := by
  intro j h
  match j, h with
  | 0, _ => rfl
  | 1, _ => rfl
  | 2, _ => rfl
  | 3, _ => rfl
  | 4, _ => rfl
  | 5, _ => rfl
  | 6, _ => rfl
  | 7, _ => rfl
  | 8, _ => rfl
  | 9, _ => rfl
  | 10, _ => rfl
  | 11, h => exact absurd rfl h
  | 12, _ => rfl
  | 13, _ => rfl
  | 14, _ => rfl
  | 15, _ => rfl
  | 16, _ => rfl
  | j + 17, _ => rfl
theorem MW.a11 {g : GE} {a : Nat → Nat} {k : MS} {L : List Nat} {f : Nat → va_E} (h : MW g a k L f) (x : Nat → Int32) : MW g a (va_up k 11 x) L (va_up f (a 11) (.inl (g.2.1 0, 60, .inl x))) := FW.set h 11 (by decide) (fun _ h => h) rfl (MW.fo11 g a k x)
theorem MW.fo12 (g : GE) (a : Nat → Nat) (k : MS) (x : Nat → Int32) : ∀ j, j ≠ 12 → fxM g a (va_up k 12 x) j = fxM g a k j := by
  intro j h
  match j, h with
  | 0, _ => rfl
  | 1, _ => rfl
  | 2, _ => rfl
  | 3, _ => rfl
  | 4, _ => rfl
  | 5, _ => rfl
  | 6, _ => rfl
  | 7, _ => rfl
  | 8, _ => rfl
  | 9, _ => rfl
  | 10, _ => rfl
  | 11, _ => rfl
  | 12, h => exact absurd rfl h
  | 13, _ => rfl
  | 14, _ => rfl
  | 15, _ => rfl
  | 16, _ => rfl
  | j + 17, _ => rfl
theorem MW.a12 {g : GE} {a : Nat → Nat} {k : MS} {L : List Nat} {f : Nat → va_E} (h : MW g a k L f) (x : Nat → Int32) : MW g a (va_up k 12 x) L (va_up f (a 12) (.inl (g.2.1 0, 60, .inl x))) := FW.set h 12 (by decide) (fun _ h => h) rfl (MW.fo12 g a k x)
theorem MW.fo13 (g : GE) (a : Nat → Nat) (k : MS) (x : Nat → Int32) : ∀ j, j ≠ 13 → fxM g a (va_up k 13 x) j = fxM g a k j := by
  intro j h
  match j, h with
  | 0, _ => rfl
  | 1, _ => rfl
  | 2, _ => rfl
  | 3, _ => rfl
  | 4, _ => rfl
  | 5, _ => rfl
  | 6, _ => rfl
  | 7, _ => rfl
  | 8, _ => rfl
  | 9, _ => rfl
  | 10, _ => rfl
  | 11, _ => rfl
  | 12, _ => rfl
  | 13, h => exact absurd rfl h
  | 14, _ => rfl
  | 15, _ => rfl
  | 16, _ => rfl
  | j + 17, _ => rfl
theorem MW.a13 {g : GE} {a : Nat → Nat} {k : MS} {L : List Nat} {f : Nat → va_E} (h : MW g a k L f) (x : Nat → Int32) : MW g a (va_up k 13 x) L (va_up f (a 13) (.inl (g.2.1 0, 1095, .inl x))) := FW.set h 13 (by decide) (fun _ h => h) rfl (MW.fo13 g a k x)
theorem MW.fo14 (g : GE) (a : Nat → Nat) (k : MS) (x : Nat → Int32) : ∀ j, j ≠ 14 → fxM g a (va_up k 14 x) j = fxM g a k j := by
  intro j h
  match j, h with
  | 0, _ => rfl
  | 1, _ => rfl
  | 2, _ => rfl
  | 3, _ => rfl
  | 4, _ => rfl
  | 5, _ => rfl
  | 6, _ => rfl
  | 7, _ => rfl
  | 8, _ => rfl
  | 9, _ => rfl
  | 10, _ => rfl
  | 11, _ => rfl
  | 12, _ => rfl
  | 13, _ => rfl
  | 14, h => exact absurd rfl h
  | 15, _ => rfl
  | 16, _ => rfl
  | j + 17, _ => rfl
theorem MW.a14 {g : GE} {a : Nat → Nat} {k : MS} {L : List Nat} {f : Nat → va_E} (h : MW g a k L f) (x : Nat → Int32) : MW g a (va_up k 14 x) L (va_up f (a 14) (.inl (g.2.1 1, 365, .inl x))) := FW.set h 14 (by decide) (fun _ h => h) rfl (MW.fo14 g a k x)
theorem MW.fo15 (g : GE) (a : Nat → Nat) (k : MS) (x : Nat → Int32) : ∀ j, j ≠ 15 → fxM g a (va_up k 15 x) j = fxM g a k j := by
  intro j h
  match j, h with
  | 0, _ => rfl
  | 1, _ => rfl
  | 2, _ => rfl
  | 3, _ => rfl
  | 4, _ => rfl
  | 5, _ => rfl
  | 6, _ => rfl
  | 7, _ => rfl
  | 8, _ => rfl
  | 9, _ => rfl
  | 10, _ => rfl
  | 11, _ => rfl
  | 12, _ => rfl
  | 13, _ => rfl
  | 14, _ => rfl
  | 15, h => exact absurd rfl h
  | 16, _ => rfl
  | j + 17, _ => rfl
theorem MW.a15 {g : GE} {a : Nat → Nat} {k : MS} {L : List Nat} {f : Nat → va_E} (h : MW g a k L f) (x : Nat → Int32) : MW g a (va_up k 15 x) L (va_up f (a 15) (.inl (g.2.1 0, 365, .inl x))) := FW.set h 15 (by decide) (fun _ h => h) rfl (MW.fo15 g a k x)
theorem MW.fo16 (g : GE) (a : Nat → Nat) (k : MS) (x : Nat → Int32) : ∀ j, j ≠ 16 → fxM g a (va_up k 16 x) j = fxM g a k j := by
  intro j h
  match j, h with
  | 0, _ => rfl
  | 1, _ => rfl
  | 2, _ => rfl
  | 3, _ => rfl
  | 4, _ => rfl
  | 5, _ => rfl
  | 6, _ => rfl
  | 7, _ => rfl
  | 8, _ => rfl
  | 9, _ => rfl
  | 10, _ => rfl
  | 11, _ => rfl
  | 12, _ => rfl
  | 13, _ => rfl
  | 14, _ => rfl
  | 15, _ => rfl
  | 16, h => exact absurd rfl h
  | j + 17, _ => rfl
theorem MW.a16 {g : GE} {a : Nat → Nat} {k : MS} {L : List Nat} {f : Nat → va_E} (h : MW g a k L f) (x : Nat → Int32) : MW g a (va_up k 16 x) L (va_up f (a 16) (.inl (g.2.1 0, 366, .inl x))) := FW.set h 16 (by decide) (fun _ h => h) rfl (MW.fo16 g a k x)
theorem MW.fs0 (g : GE) (a : Nat → Nat) (k : MS) (x : Int32) : ∀ i, i ≠ 0 → fxM g a (va_up k 0 (upd (k 0) 0 x)) i = fxM g a k i := by
  intro i h
  match i, h with
  | 0, h => exact absurd rfl h
  | 1, _ => rfl
  | 2, _ => rfl
  | 3, _ => rfl
  | 4, _ => rfl
  | 5, _ => rfl
  | 6, _ => rfl
  | 7, _ => rfl
  | 8, _ => rfl
  | 9, _ => rfl
  | 10, _ => rfl
  | 11, _ => rfl
  | 12, _ => rfl
  | 13, _ => rfl
  | 14, _ => rfl
  | 15, _ => rfl
  | 16, _ => rfl
  | i + 17, _ => rfl
theorem MW.s0 {g : GE} {a : Nat → Nat} {k : MS} {L : List Nat} {f : Nat → va_E} (h : MW g a k L f) (x : Int32) : MW g a (va_up k 0 (upd (k 0) 0 x)) L (va_up f (a 0) (.inr (9, [.int x, .ref (a 1), .ref (a 2), .int (k 0 1), .int (k 0 2), .ref (a 3), .ref (a 4), .ref (a 5), .int (k 0 3), .ref (a 6), .ref (a 7), .ref (a 8), .ref (a 9), .ref (a 10), .ref (a 11), .ref (a 12), .ref (a 13), .ref (a 14), .ref (a 15), .ref (a 16), .int (k 0 4)]))) := FW.set h 0 (by decide) (fun _ h => h) rfl (MW.fs0 g a k x)
theorem MW.fs1 (g : GE) (a : Nat → Nat) (k : MS) (x : Int32) : ∀ i, i ≠ 0 → fxM g a (va_up k 0 (upd (k 0) 1 x)) i = fxM g a k i := by
  intro i h
  match i, h with
  | 0, h => exact absurd rfl h
  | 1, _ => rfl
  | 2, _ => rfl
  | 3, _ => rfl
  | 4, _ => rfl
  | 5, _ => rfl
  | 6, _ => rfl
  | 7, _ => rfl
  | 8, _ => rfl
  | 9, _ => rfl
  | 10, _ => rfl
  | 11, _ => rfl
  | 12, _ => rfl
  | 13, _ => rfl
  | 14, _ => rfl
  | 15, _ => rfl
  | 16, _ => rfl
  | i + 17, _ => rfl
theorem MW.s1 {g : GE} {a : Nat → Nat} {k : MS} {L : List Nat} {f : Nat → va_E} (h : MW g a k L f) (x : Int32) : MW g a (va_up k 0 (upd (k 0) 1 x)) L (va_up f (a 0) (.inr (9, [.int (k 0 0), .ref (a 1), .ref (a 2), .int x, .int (k 0 2), .ref (a 3), .ref (a 4), .ref (a 5), .int (k 0 3), .ref (a 6), .ref (a 7), .ref (a 8), .ref (a 9), .ref (a 10), .ref (a 11), .ref (a 12), .ref (a 13), .ref (a 14), .ref (a 15), .ref (a 16), .int (k 0 4)]))) := FW.set h 0 (by decide) (fun _ h => h) rfl (MW.fs1 g a k x)
theorem MW.fs2 (g : GE) (a : Nat → Nat) (k : MS) (x : Int32) : ∀ i, i ≠ 0 → fxM g a (va_up k 0 (upd (k 0) 2 x)) i = fxM g a k i := by
  intro i h
  match i, h with
  | 0, h => exact absurd rfl h
  | 1, _ => rfl
  | 2, _ => rfl
  | 3, _ => rfl
  | 4, _ => rfl
  | 5, _ => rfl
  | 6, _ => rfl
  | 7, _ => rfl
  | 8, _ => rfl
  | 9, _ => rfl
  | 10, _ => rfl
  | 11, _ => rfl
  | 12, _ => rfl
  | 13, _ => rfl
  | 14, _ => rfl
  | 15, _ => rfl
  | 16, _ => rfl
  | i + 17, _ => rfl
theorem MW.s2 {g : GE} {a : Nat → Nat} {k : MS} {L : List Nat} {f : Nat → va_E} (h : MW g a k L f) (x : Int32) : MW g a (va_up k 0 (upd (k 0) 2 x)) L (va_up f (a 0) (.inr (9, [.int (k 0 0), .ref (a 1), .ref (a 2), .int (k 0 1), .int x, .ref (a 3), .ref (a 4), .ref (a 5), .int (k 0 3), .ref (a 6), .ref (a 7), .ref (a 8), .ref (a 9), .ref (a 10), .ref (a 11), .ref (a 12), .ref (a 13), .ref (a 14), .ref (a 15), .ref (a 16), .int (k 0 4)]))) := FW.set h 0 (by decide) (fun _ h => h) rfl (MW.fs2 g a k x)
theorem MW.fs3 (g : GE) (a : Nat → Nat) (k : MS) (x : Int32) : ∀ i, i ≠ 0 → fxM g a (va_up k 0 (upd (k 0) 3 x)) i = fxM g a k i := by
  intro i h
  match i, h with
  | 0, h => exact absurd rfl h
  | 1, _ => rfl
  | 2, _ => rfl
  | 3, _ => rfl
  | 4, _ => rfl
  | 5, _ => rfl
  | 6, _ => rfl
  | 7, _ => rfl
  | 8, _ => rfl
  | 9, _ => rfl
  | 10, _ => rfl
  | 11, _ => rfl
  | 12, _ => rfl
  | 13, _ => rfl
  | 14, _ => rfl
  | 15, _ => rfl
  | 16, _ => rfl
  | i + 17, _ => rfl
theorem MW.s3 {g : GE} {a : Nat → Nat} {k : MS} {L : List Nat} {f : Nat → va_E} (h : MW g a k L f) (x : Int32) : MW g a (va_up k 0 (upd (k 0) 3 x)) L (va_up f (a 0) (.inr (9, [.int (k 0 0), .ref (a 1), .ref (a 2), .int (k 0 1), .int (k 0 2), .ref (a 3), .ref (a 4), .ref (a 5), .int x, .ref (a 6), .ref (a 7), .ref (a 8), .ref (a 9), .ref (a 10), .ref (a 11), .ref (a 12), .ref (a 13), .ref (a 14), .ref (a 15), .ref (a 16), .int (k 0 4)]))) := FW.set h 0 (by decide) (fun _ h => h) rfl (MW.fs3 g a k x)
theorem MW.fs4 (g : GE) (a : Nat → Nat) (k : MS) (x : Int32) : ∀ i, i ≠ 0 → fxM g a (va_up k 0 (upd (k 0) 4 x)) i = fxM g a k i := by
  intro i h
  match i, h with
  | 0, h => exact absurd rfl h
  | 1, _ => rfl
  | 2, _ => rfl
  | 3, _ => rfl
  | 4, _ => rfl
  | 5, _ => rfl
  | 6, _ => rfl
  | 7, _ => rfl
  | 8, _ => rfl
  | 9, _ => rfl
  | 10, _ => rfl
  | 11, _ => rfl
  | 12, _ => rfl
  | 13, _ => rfl
  | 14, _ => rfl
  | 15, _ => rfl
  | 16, _ => rfl
  | i + 17, _ => rfl
theorem MW.s4 {g : GE} {a : Nat → Nat} {k : MS} {L : List Nat} {f : Nat → va_E} (h : MW g a k L f) (x : Int32) : MW g a (va_up k 0 (upd (k 0) 4 x)) L (va_up f (a 0) (.inr (9, [.int (k 0 0), .ref (a 1), .ref (a 2), .int (k 0 1), .int (k 0 2), .ref (a 3), .ref (a 4), .ref (a 5), .int (k 0 3), .ref (a 6), .ref (a 7), .ref (a 8), .ref (a 9), .ref (a 10), .ref (a 11), .ref (a 12), .ref (a 13), .ref (a 14), .ref (a 15), .ref (a 16), .int x]))) := FW.set h 0 (by decide) (fun _ h => h) rfl (MW.fs4 g a k x)
abbrev inP (x lo hi : Int32) : Prop := lo.toInt ≤ x.toInt ∧ x.toInt ≤ hi.toInt
set_option maxHeartbeats 4000000 in
set_option maxRecDepth 100000 in
theorem m_isIn (l : Launch) (g : GE) (L : List Nat) (f : Nat → va_E)  (x lo hi : Int32) : Mi l yX7_isIn wsX7_isIn (rmH 0 0 0) g L f [.int x, .int lo, .int hi] (fun r u => r = b2i (inP x lo hi) ∧ u = (L, f)) 0 0 := by
  intro sz
  refine Met.ofW (cc := cX7_isIn) (maxL := 3) (ret := (some .boolean)) (by decide) rfl ?_
  intro p e s m args below meth c s₁ B hml hv
  obtain ⟨rfl, hv⟩ := hv
  have hx := B.exec
  have hb := B.bytes
  have hr := B.returns
  have hts := atoms_spec (ws := wsX7_isIn) B.pre
  have hown : s.vm.findClass RX7 = some m.cls := findClass_of_methodNamed B.named
  have hlocks := B.notSynchronized
  obtain ⟨rfl, hw, hs⟩ := pm_begin hv
  generalize va_A (va_pl L f) s.heap.size = A at hw hs ⊢
  have CF := (⟨hx, hb, hml, hown, hts⟩ : CallFix p m c cX7_isIn 3 s _ wsX7_isIn RX7)
  have hl := lv_entry ([.int x, .int lo, .int hi]) (n := 3) (Nat.le_of_ble_eq_true rfl)
  rw [lg_entry_eq]
  generalize (lg_sl ([.int x, .int lo, .int hi]) ++ List.replicate (3 - (lg_sl ([.int x, .int lo, .int hi])).length) Slot.unset).toArray = ls at hl ⊢
  have hl : lv_has ls 3 [(0, .int x), (1, .int lo), (2, .int hi)] := hl
  refine lv_iload_n hx hb dX7_isIn_0 rfl (lv_at hl 0 rfl) ?_
  refine lv_iload_n hx hb dX7_isIn_1 rfl (lv_at hl 1 rfl) ?_
  refine lv_icmp_lt (tgt := 14) hx hb dX7_isIn_2 (by decide) (fun c_2 => ?_) (fun c_2 => ?_)
  · refine lv_iconst (v := 0) hx hb dX7_isIn_14 (by decide) ?_
    exact pr_i (v := 0) hx hb hr hlocks hw rfl ⟨Nat.le_of_ble_eq_true rfl, Nat.le_of_ble_eq_true rfl⟩ (⟨by rw [i32_lt] at c_2; exact b2i_f (fun h9 => by omega), rfl⟩) dX7_isIn_15
  · refine lv_iload_n hx hb dX7_isIn_5 rfl (lv_at hl 0 rfl) ?_
    refine lv_iload_n hx hb dX7_isIn_6 rfl (lv_at hl 2 rfl) ?_
    refine lv_icmp_gt (tgt := 14) hx hb dX7_isIn_7 (by decide) (fun c_7 => ?_) (fun c_7 => ?_)
    · refine lv_iconst (v := 0) hx hb dX7_isIn_14 (by decide) ?_
      exact pr_i (v := 0) hx hb hr hlocks hw rfl ⟨Nat.le_of_ble_eq_true rfl, Nat.le_of_ble_eq_true rfl⟩ (⟨by rw [i32_lt] at c_2; rw [i32_lt] at c_7; exact b2i_f (fun h9 => by omega), rfl⟩) dX7_isIn_15
    · refine lv_iconst (v := 1) hx hb dX7_isIn_10 (by decide) ?_
      refine lv_goto (tgt := 15) hx hb dX7_isIn_11 (by decide) ?_
      exact pr_i (v := 1) hx hb hr hlocks hw rfl ⟨Nat.le_of_ble_eq_true rfl, Nat.le_of_ble_eq_true rfl⟩ (⟨by rw [i32_lt] at c_2; rw [i32_lt] at c_7; exact b2i_t ⟨by omega, by omega⟩, rfl⟩) dX7_isIn_15

theorem b2i_01 (P : Prop) [Decidable P] : b2i P = 0 ∨ b2i P = 1 := by
  unfold b2i
  split
  · exact Or.inr rfl
  · exact Or.inl rfl
abbrev mDay (x : Int32) : Prop := inP x 0 364
abbrev mFld (x : Int32) : Prop := inP x 0 2
abbrev mPol (k : MS) (x : Int32) : Prop := inP x 0 (k 0 0 - 1)
abbrev mChg (k : MS) (x : Int32) : Prop := inP x 0 (k 0 3 - 1)
set_option maxHeartbeats 4000000 in
set_option maxRecDepth 100000 in
theorem m_isDay (l : Launch) (g : GE) (L : List Nat) (f : Nat → va_E)  (x : Int32) : Mi l yX7_isDay wsX7_isDay (rmH 1 0 0) g L f [.int x] (fun r u => r = b2i (mDay x) ∧ u = (L, f)) 0 0 := by
  intro sz
  refine Met.ofW (cc := cX7_isDay) (maxL := 1) (ret := (some .boolean)) (by decide) rfl ?_
  intro p e s m args below meth c s₁ B hml hv
  obtain ⟨rfl, hv⟩ := hv
  have hx := B.exec
  have hb := B.bytes
  have hr := B.returns
  have hts := atoms_spec (ws := wsX7_isDay) B.pre
  have hown : s.vm.findClass RX7 = some m.cls := findClass_of_methodNamed B.named
  have hlocks := B.notSynchronized
  obtain ⟨rfl, hw, hs⟩ := pm_begin hv
  generalize va_A (va_pl L f) s.heap.size = A at hw hs ⊢
  have CF := (⟨hx, hb, hml, hown, hts⟩ : CallFix p m c cX7_isDay 1 s _ wsX7_isDay RX7)
  have hl := lv_entry ([.int x]) (n := 1) (Nat.le_of_ble_eq_true rfl)
  rw [lg_entry_eq]
  generalize (lg_sl ([.int x]) ++ List.replicate (1 - (lg_sl ([.int x])).length) Slot.unset).toArray = ls at hl ⊢
  have hl : lv_has ls 1 [(0, .int x)] := hl
  refine lv_iload_n hx hb dX7_isDay_0 rfl (lv_at hl 0 rfl) ?_
  refine lv_iconst (v := 0) hx hb dX7_isDay_1 (by decide) ?_
  refine lv_sipush (v := 364) hx hb dX7_isDay_2 (by decide) ?_
  refine pc_i hw (va_runS (As := [.int x, .int 0, .int 364]) (rest := []) CF (m_isIn l g L _ x 0 364 _) (va_cwS 3 hts gX7_isDay_X7_isIn rfl rfl rfl (by decide +kernel) ⟨Nat.le_of_ble_eq_true rfl, Nat.le_of_ble_eq_true rfl⟩) (pm_preS hw hs) rfl rfl hl.1 rfl (lv_room (Nat.le_of_ble_eq_true rfl)) dX7_isDay_5 ⟨Nat.le_of_ble_eq_true rfl, Nat.le_of_ble_eq_true rfl⟩) (fun r L1 f1 H locs hp hw => ?_)
  obtain ⟨hE_5, hu⟩ := hp
  obtain rfl : _ = L1 := (congrArg Prod.fst hu).symm
  obtain rfl : _ = f1 := (congrArg Prod.snd hu).symm
  generalize r = r_5 at hE_5 ⊢
  exact pr_i (v := r_5) hx hb hr hlocks hw (hE_5 ▸ nar_01 (b2i_01 _)) ⟨Nat.le_of_ble_eq_true rfl, Nat.le_of_ble_eq_true rfl⟩ (⟨hE_5, rfl⟩) dX7_isDay_8

set_option maxHeartbeats 4000000 in
set_option maxRecDepth 100000 in
theorem m_isField (l : Launch) (g : GE) (L : List Nat) (f : Nat → va_E)  (x : Int32) : Mi l yX7_isField wsX7_isField (rmH 1 0 0) g L f [.int x] (fun r u => r = b2i (mFld x) ∧ u = (L, f)) 0 0 := by
  intro sz
  refine Met.ofW (cc := cX7_isField) (maxL := 1) (ret := (some .boolean)) (by decide) rfl ?_
  intro p e s m args below meth c s₁ B hml hv
  obtain ⟨rfl, hv⟩ := hv
  have hx := B.exec
  have hb := B.bytes
  have hr := B.returns
  have hts := atoms_spec (ws := wsX7_isField) B.pre
  have hown : s.vm.findClass RX7 = some m.cls := findClass_of_methodNamed B.named
  have hlocks := B.notSynchronized
  obtain ⟨rfl, hw, hs⟩ := pm_begin hv
  generalize va_A (va_pl L f) s.heap.size = A at hw hs ⊢
  have CF := (⟨hx, hb, hml, hown, hts⟩ : CallFix p m c cX7_isField 1 s _ wsX7_isField RX7)
  have hl := lv_entry ([.int x]) (n := 1) (Nat.le_of_ble_eq_true rfl)
  rw [lg_entry_eq]
  generalize (lg_sl ([.int x]) ++ List.replicate (1 - (lg_sl ([.int x])).length) Slot.unset).toArray = ls at hl ⊢
  have hl : lv_has ls 1 [(0, .int x)] := hl
  refine lv_iload_n hx hb dX7_isField_0 rfl (lv_at hl 0 rfl) ?_
  refine lv_iconst (v := 0) hx hb dX7_isField_1 (by decide) ?_
  refine lv_iconst (v := 2) hx hb dX7_isField_2 (by decide) ?_
  refine pc_i hw (va_runS (As := [.int x, .int 0, .int 2]) (rest := []) CF (m_isIn l g L _ x 0 2 _) (va_cwS 3 hts gX7_isField_X7_isIn rfl rfl rfl (by decide +kernel) ⟨Nat.le_of_ble_eq_true rfl, Nat.le_of_ble_eq_true rfl⟩) (pm_preS hw hs) rfl rfl hl.1 rfl (lv_room (Nat.le_of_ble_eq_true rfl)) dX7_isField_3 ⟨Nat.le_of_ble_eq_true rfl, Nat.le_of_ble_eq_true rfl⟩) (fun r L1 f1 H locs hp hw => ?_)
  obtain ⟨hE_3, hu⟩ := hp
  obtain rfl : _ = L1 := (congrArg Prod.fst hu).symm
  obtain rfl : _ = f1 := (congrArg Prod.snd hu).symm
  generalize r = r_3 at hE_3 ⊢
  exact pr_i (v := r_3) hx hb hr hlocks hw (hE_3 ▸ nar_01 (b2i_01 _)) ⟨Nat.le_of_ble_eq_true rfl, Nat.le_of_ble_eq_true rfl⟩ (⟨hE_3, rfl⟩) dX7_isField_6

set_option maxHeartbeats 4000000 in
set_option maxRecDepth 100000 in
theorem m_isPolicy (l : Launch) (g : GE) (L : List Nat) (f : Nat → va_E) (a : Nat → Nat) (k : MS) (hk : MW g a k L f) (x : Int32) : Mi l yX7_isPolicy wsX7_isPolicy (rmH 1 0 0) g L f [.ref (a 0), .int x] (fun r u => r = b2i (mPol k x) ∧ u = (L, f)) 0 0 := by
  intro sz
  refine Met.ofW (cc := cX7_isPolicy) (maxL := 2) (ret := (some .boolean)) (by decide) rfl ?_
  intro p e s m args below meth c s₁ B hml hv
  obtain ⟨rfl, hv⟩ := hv
  have hx := B.exec
  have hb := B.bytes
  have hr := B.returns
  have hts := atoms_spec (ws := wsX7_isPolicy) B.pre
  have hown : s.vm.findClass RX7 = some m.cls := findClass_of_methodNamed B.named
  have hlocks := B.notSynchronized
  obtain ⟨rfl, hw, hs⟩ := pm_begin hv
  generalize va_A (va_pl L f) s.heap.size = A at hw hs ⊢
  have CF := (⟨hx, hb, hml, hown, hts⟩ : CallFix p m c cX7_isPolicy 2 s _ wsX7_isPolicy RX7)
  have hin_X7 : ∀ w ∈ wsX70, w ∈ wsX7_isPolicy := by decide +kernel
  have hl := lv_entry ([.ref (a 0), .int x]) (n := 2) (Nat.le_of_ble_eq_true rfl)
  rw [lg_entry_eq]
  generalize (lg_sl ([.ref (a 0), .int x]) ++ List.replicate (2 - (lg_sl ([.ref (a 0), .int x])).length) Slot.unset).toArray = ls at hl ⊢
  have hl : lv_has ls 2 [(0, .ref (a 0)), (1, .int x)] := hl
  refine lv_iload_n hx hb dX7_isPolicy_0 rfl (lv_at hl 1 rfl) ?_
  refine lv_iconst (v := 0) hx hb dX7_isPolicy_1 (by decide) ?_
  refine lv_aload_n hx hb dX7_isPolicy_2 rfl (lv_at hl 0 rfl) ?_
  refine pm_get (ci := 9) (v := .int (k 0 0)) (C := RX7) (T := TX7) (N := 21) hx hb hts hin_X7 hown hw (hk.q (i := 0) (by decide)) (hk.f (i := 0) (by decide)) rfl 0 (by decide) (hts (.fieldLink RX7 67 "BackdaterModel" "policies" "I") (by decide +kernel)) (fun _ h9 => h9) rfl dX7_isPolicy_3 ?_
  refine lv_iconst (v := 1) hx hb dX7_isPolicy_6 (by decide) ?_
  refine lv_isub hx hb dX7_isPolicy_7 ?_
  refine pc_i hw (va_runS (As := [.int x, .int 0, .int ((k 0 0) - 1)]) (rest := []) CF (m_isIn l g L _ x 0 ((k 0 0) - 1) _) (va_cwS 3 hts gX7_isPolicy_X7_isIn rfl rfl rfl (by decide +kernel) ⟨Nat.le_of_ble_eq_true rfl, Nat.le_of_ble_eq_true rfl⟩) (pm_preS hw hs) rfl rfl hl.1 rfl (lv_room (Nat.le_of_ble_eq_true rfl)) dX7_isPolicy_8 ⟨Nat.le_of_ble_eq_true rfl, Nat.le_of_ble_eq_true rfl⟩) (fun r L1 f1 H locs hp hw => ?_)
  obtain ⟨hE_8, hu⟩ := hp
  obtain rfl : _ = L1 := (congrArg Prod.fst hu).symm
  obtain rfl : _ = f1 := (congrArg Prod.snd hu).symm
  generalize r = r_8 at hE_8 ⊢
  exact pr_i (v := r_8) hx hb hr hlocks hw (hE_8 ▸ nar_01 (b2i_01 _)) ⟨Nat.le_of_ble_eq_true rfl, Nat.le_of_ble_eq_true rfl⟩ (⟨hE_8, rfl⟩) dX7_isPolicy_11

set_option maxHeartbeats 4000000 in
set_option maxRecDepth 100000 in
theorem m_thrown (l : Launch) (g : GE) (L : List Nat) (f : Nat → va_E) (a : Nat → Nat) (k : MS) (hk : MW g a k L f)  : Mi l yX7_thrown wsX7_thrown (rmH 0 0 0) g L f [.ref (a 0)] (fun r u => r = k 0 4 ∧ u = (L, f)) 0 0 := by
  intro sz
  refine Met.ofW (cc := cX7_thrown) (maxL := 1) (ret := (some .int)) (by decide) rfl ?_
  intro p e s m args below meth c s₁ B hml hv
  obtain ⟨rfl, hv⟩ := hv
  have hx := B.exec
  have hb := B.bytes
  have hr := B.returns
  have hts := atoms_spec (ws := wsX7_thrown) B.pre
  have hown : s.vm.findClass RX7 = some m.cls := findClass_of_methodNamed B.named
  have hlocks := B.notSynchronized
  obtain ⟨rfl, hw, hs⟩ := pm_begin hv
  generalize va_A (va_pl L f) s.heap.size = A at hw hs ⊢
  have CF := (⟨hx, hb, hml, hown, hts⟩ : CallFix p m c cX7_thrown 1 s _ wsX7_thrown RX7)
  have hin_X7 : ∀ w ∈ wsX70, w ∈ wsX7_thrown := by decide +kernel
  have hl := lv_entry ([.ref (a 0)]) (n := 1) (Nat.le_of_ble_eq_true rfl)
  rw [lg_entry_eq]
  generalize (lg_sl ([.ref (a 0)]) ++ List.replicate (1 - (lg_sl ([.ref (a 0)])).length) Slot.unset).toArray = ls at hl ⊢
  have hl : lv_has ls 1 [(0, .ref (a 0))] := hl
  refine lv_aload_n hx hb dX7_thrown_0 rfl (lv_at hl 0 rfl) ?_
  refine pm_get (ci := 9) (v := .int (k 0 4)) (C := RX7) (T := TX7) (N := 21) hx hb hts hin_X7 hown hw (hk.q (i := 0) (by decide)) (hk.f (i := 0) (by decide)) rfl 20 (by decide) (hts (.fieldLink RX7 59 "BackdaterModel" "thrown" "I") (by decide +kernel)) (fun _ h9 => h9) rfl dX7_thrown_1 ?_
  exact pr_i (v := (k 0 4)) hx hb hr hlocks hw rfl ⟨Nat.le_of_ble_eq_true rfl, Nat.le_of_ble_eq_true rfl⟩ (⟨rfl, rfl⟩) dX7_thrown_4

set_option maxHeartbeats 4000000 in
set_option maxRecDepth 100000 in
theorem m_bounded (l : Launch) (g : GE) (L : List Nat) (f : Nat → va_E)  (x : Int32) : Mi l yX7_bounded wsX7_bounded (rmH 0 0 0) g L f [.int x] (fun r u => r = (if x < 0 then 0 else if 20 < x then 20 else x) ∧ u = (L, f)) 0 0 := by
  intro sz
  refine Met.ofW (cc := cX7_bounded) (maxL := 1) (ret := (some .int)) (by decide) rfl ?_
  intro p e s m args below meth c s₁ B hml hv
  obtain ⟨rfl, hv⟩ := hv
  have hx := B.exec
  have hb := B.bytes
  have hr := B.returns
  have hts := atoms_spec (ws := wsX7_bounded) B.pre
  have hown : s.vm.findClass RX7 = some m.cls := findClass_of_methodNamed B.named
  have hlocks := B.notSynchronized
  obtain ⟨rfl, hw, hs⟩ := pm_begin hv
  generalize va_A (va_pl L f) s.heap.size = A at hw hs ⊢
  have CF := (⟨hx, hb, hml, hown, hts⟩ : CallFix p m c cX7_bounded 1 s _ wsX7_bounded RX7)
  have hl := lv_entry ([.int x]) (n := 1) (Nat.le_of_ble_eq_true rfl)
  rw [lg_entry_eq]
  generalize (lg_sl ([.int x]) ++ List.replicate (1 - (lg_sl ([.int x])).length) Slot.unset).toArray = ls at hl ⊢
  have hl : lv_has ls 1 [(0, .int x)] := hl
  refine lv_iload_n hx hb dX7_bounded_0 rfl (lv_at hl 0 rfl) ?_
  refine lv_if_ge (tgt := 8) hx hb dX7_bounded_1 (by decide) (fun c_1 => ?_) (fun c_1 => ?_)
  · have h1 : ¬ x < 0 := by rw [i32_lt]; rw [i32_le] at c_1; omega
    refine lv_iload_n hx hb dX7_bounded_8 rfl (lv_at hl 0 rfl) ?_
    refine lv_bipush (v := 20) hx hb dX7_bounded_9 (by decide) ?_
    refine lv_icmp_le (tgt := 19) hx hb dX7_bounded_11 (by decide) (fun c_11 => ?_) (fun c_11 => ?_)
    · have h2 : ¬ 20 < x := by rw [i32_lt]; rw [i32_le] at c_11; omega
      refine lv_iload_n hx hb dX7_bounded_19 rfl (lv_at hl 0 rfl) ?_
      exact pr_i (v := x) hx hb hr hlocks hw rfl ⟨Nat.le_of_ble_eq_true rfl, Nat.le_of_ble_eq_true rfl⟩ (⟨((if_neg h1).trans (if_neg h2)).symm, rfl⟩) dX7_bounded_20
    · have h2 : 20 < x := by rw [i32_lt]; rw [i32_le] at c_11; omega
      refine lv_bipush (v := 20) hx hb dX7_bounded_14 (by decide) ?_
      refine lv_goto (tgt := 20) hx hb dX7_bounded_16 (by decide) ?_
      exact pr_i (v := 20) hx hb hr hlocks hw rfl ⟨Nat.le_of_ble_eq_true rfl, Nat.le_of_ble_eq_true rfl⟩ (⟨((if_neg h1).trans (if_pos h2)).symm, rfl⟩) dX7_bounded_20
  · have h1 : x < 0 := by rw [i32_lt]; rw [i32_le] at c_1; omega
    refine lv_iconst (v := 0) hx hb dX7_bounded_4 (by decide) ?_
    refine lv_goto (tgt := 20) hx hb dX7_bounded_5 (by decide) ?_
    exact pr_i (v := 0) hx hb hr hlocks hw rfl ⟨Nat.le_of_ble_eq_true rfl, Nat.le_of_ble_eq_true rfl⟩ (⟨(if_pos h1).symm, rfl⟩) dX7_bounded_20

end MODEL
