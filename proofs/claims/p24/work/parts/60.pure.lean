/-! the numbers that the answers are told by (pure) -/
section PURE
abbrev MS : Type := Nat → Nat → Int32
abbrev inP (x lo hi : Int32) : Prop := lo.toInt ≤ x.toInt ∧ x.toInt ≤ hi.toInt
theorem b2i_01 (P : Prop) [Decidable P] : b2i P = 0 ∨ b2i P = 1 := by
  unfold b2i
  split
  · exact Or.inr rfl
  · exact Or.inl rfl
abbrev mDay (x : Int32) : Prop := inP x 0 364
abbrev mFld (x : Int32) : Prop := inP x 0 2
abbrev mPol (k : MS) (x : Int32) : Prop := inP x 0 (k 0 0 - 1)
abbrev mChg (k : MS) (x : Int32) : Prop := inP x 0 (k 0 3 - 1)
abbrev mS (k : MS) (c j : Nat) (x : Int32) : MS := va_up k c (upd (k c) j x)
abbrev mT (k : MS) (t : Int32) : MS := mS k 0 4 t
/-- the first demand that fails, by its number -/
def exT : List (Int32 × Prop) → Int32 → Prop
  | [], _ => False
  | x :: r, t => (¬ x.2 ∧ t = x.1) ∨ (x.2 ∧ exT r t)
def MInv (k : MS) (p0 t0 n0 : Nat) : Prop := (k 0 0 = nI p0 ∧ k 0 2 = nI t0 ∧ k 0 3 = nI n0) ∧ p0 ≤ 4 ∧ t0 ≤ 20 ∧ n0 ≤ 60
abbrev knM (k : MS) (c : Nat) (d : Int32) : Prop := (k 11 c).toInt ≤ d.toInt ∧ ((k 12 c).toInt < 0 ∨ d.toInt < (k 12 c).toInt)
theorem nI_ne {m n : Nat} (hm : m < 2 ^ 31) (hn : n < 2 ^ 31) : nI m = nI n ↔ m = n := nI_eq hm hn
theorem nI_s1 (n : Nat) : nI n + 1 - 1 = nI n := by
  rw [nI_1]
  exact nI_i1 (Nat.succ_pos n)
abbrev mTell (k : MS) (n0 : Nat) (x kd y z w : Int32) : MS := (mS (mS (mS (mS (mS (mS (mS (mS (mT k 0) 6 n0 x) 7 n0 kd) 8 n0 y) 9 n0 z) 10 n0 w) 11 n0 (k 0 1)) 12 n0 (-1)) 0 3 (k 0 3 + 1))
theorem ixM {x m : Int32} {n : Nat} (hm : m = nI n) (hn : n ≤ 60) (h : inP x 0 (m - 1)) : ∃ c, c < n ∧ x = nI c := by
  subst hm
  obtain ⟨h1, h2⟩ := h
  rcases pk_ix x (n := n) (by omega) with q | q | ⟨c, hc, rfl⟩
  · rw [i32_lt] at q
    omega
  · rw [i32_le, nI_toInt (by omega)] at q
    rcases Nat.eq_zero_or_pos n with rfl | hp
    · have : (nI 0 - 1).toInt = -1 := by decide
      omega
    · rw [nI_i1 hp, nI_toInt (by omega)] at h2
      omega
  · exact ⟨c, hc, rfl⟩
theorem ixM' {m : Int32} {n c : Nat} (hm : m = nI n) (hn : n ≤ 60) (h : c < n) : inP (nI c) 0 (m - 1) := by
  subst hm
  rw [inP, nI_i1 (by omega), nI_toInt (by omega), nI_toInt (by omega), i32_0]
  omega
theorem mT_mT (k : MS) (s t : Int32) : mT (mT k s) t = mT k t := by
  show va_up (va_up k 0 (upd (k 0) 4 s)) 0 (upd (va_up k 0 (upd (k 0) 4 s) 0) 4 t) = va_up k 0 (upd (k 0) 4 t)
  rw [va_up_up, pu_s]
  congr 1
  funext i
  unfold upd
  by_cases h : i = 4
  · rw [if_pos h, if_pos h]
  · rw [if_neg h, if_neg h, if_neg h]
/-- change o counts for change j -/
abbrev laMB (k : MS) (j o : Nat) : Prop := k 6 o = k 6 j ∧ knM k o (k 0 1) ∧ (k 9 j).toInt < (k 9 o).toInt
def laM (k : MS) (j : Nat) : Nat → Nat
  | 0 => 0
  | q + 1 => laM k j q + if laMB k j q then 1 else 0
/-- which tariff weighs: the last one of those told latest -/
def bst (k : MS) (y d : Int32) : Nat → Option Nat
  | 0 => none
  | q + 1 => if (k 3 q = y ∧ (k 5 q).toInt ≤ d.toInt) ∧ ∀ b, bst k y d q = some b → (k 5 b).toInt ≤ (k 5 q).toInt then some q else bst k y d q
theorem bst_lt (k : MS) (y d : Int32) : ∀ q b, bst k y d q = some b → b < q
  | 0, _, h => by cases h
  | q + 1, b, h => by
    rw [bst] at h
    split at h
    · cases h
      exact Nat.lt_succ_self q
    · exact Nat.lt_succ_of_lt (bst_lt k y d q b h)
abbrev bndM (x : Int32) : Int32 := if x < 0 then 0 else if 20 < x then 20 else x
abbrev wgM (k : MS) (t0 : Nat) (y d : Int32) : Int32 := match bst k y d t0 with | none => 1 | some b => k 4 b
abbrev wIx (k : MS) (c : Nat) : Nat := (k 8 c).toNatClampNeg
def layM (k : MS) (st : VS) (c : Nat) : VS := (if k 7 c = 0 then upd st.1 (wIx k c) (k 10 c) else if k 7 c = 1 then upd st.1 (wIx k c) (bndM (st.1 (wIx k c) + k 10 c)) else st.1, if k 7 c = 3 then 1 else if k 7 c = 2 then 0 else st.2)
abbrev hitM (k : MS) (i : Nat) (kn : Int32) (d c : Nat) : Prop := k 6 c = nI i ∧ k 9 c = nI d ∧ knM k c kn
def dayM (k : MS) (i : Nat) (kn : Int32) (d : Nat) (st : VS) : Nat → VS
  | 0 => st
  | q + 1 => if hitM k i kn d q then layM k (dayM k i kn d st q) q else dayM k i kn d st q
def goM (k : MS) (i : Nat) (kn : Int32) (n0 : Nat) : Nat → VS
  | 0 => (fun _ => 0, 1)
  | d + 1 => dayM k i kn d (goM k i kn n0 d) n0
def itM (k : MS) (i t0 d : Nat) (v : Nat → Int32) : Nat → Int32
  | 0 => k 1 i
  | f + 1 => itM k i t0 d v f + v f * wgM k t0 (nI f) (nI d)
abbrev rtM (k : MS) (i : Nat) (kn : Int32) (n0 t0 d : Nat) : Int32 := if (goM k i kn n0 (d + 1)).2 = 0 then 0 else itM k i t0 d (goM k i kn n0 (d + 1)).1 3
def gK (k : MS) (R C T S : Nat → Int32) : MS := va_up (va_up (va_up (va_up k 13 R) 14 C) 15 T) 16 S
theorem gK_id (k : MS) : gK k (k 13) (k 14) (k 15) (k 16) = k := by
  unfold gK
  rw [va_up_id]
  show va_up (va_up (va_up k 14 (k 14)) 15 (k 15)) 16 (k 16) = k
  rw [va_up_id, va_up_id, va_up_id]
theorem bst_gK (k : MS) (R C T S : Nat → Int32) (y d : Int32) : ∀ q, bst (gK k R C T S) y d q = bst k y d q
  | 0 => rfl
  | q + 1 => by
    rw [bst, bst, bst_gK k R C T S y d q]
    rfl
theorem go01 {k : MS} {st : VS} {c : Nat} (h : st.2 = 0 ∨ st.2 = 1) : (layM k st c).2 = 0 ∨ (layM k st c).2 = 1 := by
  unfold layM
  dsimp only
  split
  · exact Or.inr rfl
  · split
    · exact Or.inl rfl
    · exact h
theorem day01 {k : MS} {i : Nat} {kn : Int32} {d : Nat} {st : VS} (h : st.2 = 0 ∨ st.2 = 1) : ∀ q, (dayM k i kn d st q).2 = 0 ∨ (dayM k i kn d st q).2 = 1
  | 0 => h
  | q + 1 => by
    rw [dayM]
    split
    · exact go01 (day01 h q)
    · exact day01 h q
theorem goM01 (k : MS) (i : Nat) (kn : Int32) (n0 : Nat) : ∀ d, (goM k i kn n0 d).2 = 0 ∨ (goM k i kn n0 d).2 = 1
  | 0 => Or.inr rfl
  | d + 1 => day01 (goM01 k i kn n0 d) n0
theorem fld_ex {y : Int32} (h : mFld y) : ∃ f, f < 3 ∧ y = nI f := by
  rcases fld_ix (x := y) ⟨h.1, by have h2 : y.toInt ≤ 2 := h.2; omega⟩ with e | e | e
  · exact ⟨0, by decide, e⟩
  · exact ⟨1, by decide, e⟩
  · exact ⟨2, by decide, e⟩
abbrev whP (k : MS) (n0 : Nat) : Prop := ∀ c, c < n0 → ∃ w, w < 3 ∧ k 8 c = nI w
abbrev knI (k : MS) (kn : Int32) : Prop := inP kn 0 (k 0 1)
theorem cnt_le (T : Nat → Int32) : ∀ n, cntS T n ≤ n
  | 0 => Nat.le_refl 0
  | n + 1 => by
    have := cnt_le T n
    rw [cntS]
    split <;> omega
def m0 : MS := fun _ _ => 0
end PURE
