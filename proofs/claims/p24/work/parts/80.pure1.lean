/-! what the reference's days don't look at -/
section PURE1
theorem dayM_T (k : MS) (t : Int32) (i : Nat) (kn : Int32) (d : Nat) (st : VS) : ∀ q, dayM (mT k t) i kn d st q = dayM k i kn d st q
  | 0 => rfl
  | q + 1 => by
    rw [dayM, dayM, dayM_T k t i kn d st q]
    rfl
theorem goM_T (k : MS) (t : Int32) (i : Nat) (kn : Int32) (n0 : Nat) : ∀ d, goM (mT k t) i kn n0 d = goM k i kn n0 d
  | 0 => rfl
  | d + 1 => by
    rw [goM, goM, goM_T k t i kn n0 d, dayM_T]
theorem bst_T (k : MS) (t : Int32) (y d : Int32) : ∀ q, bst (mT k t) y d q = bst k y d q
  | 0 => rfl
  | q + 1 => by
    rw [bst, bst, bst_T k t y d q]
    rfl
theorem itM_T (k : MS) (t : Int32) (i t0 d : Nat) (v : Nat → Int32) : ∀ f, itM (mT k t) i t0 d v f = itM k i t0 d v f
  | 0 => rfl
  | f + 1 => by
    rw [itM, itM, itM_T k t i t0 d v f, wgM, wgM, bst_T]
    rfl
theorem rtM_T (k : MS) (t : Int32) (i : Nat) (kn : Int32) (n0 t0 d : Nat) : rtM (mT k t) i kn n0 t0 d = rtM k i kn n0 t0 d := by
  rw [rtM, rtM, goM_T, itM_T]
/-- counts of starts look at the days ahead alone -/
theorem cntS_c {T T' : Nat → Int32} : ∀ n, (∀ d, d < n → T d = T' d) → cntS T n = cntS T' n
  | 0, _ => rfl
  | n + 1, h => by
    have e : isSt T n ↔ isSt T' n := by
      unfold isSt
      rw [h n (Nat.lt_succ_self n)]
      rcases Nat.eq_zero_or_pos n with rfl | hp
      · simp
      · rw [h (n - 1) (by omega)]
    rw [cntS, cntS, cntS_c n (fun d hd => h d (Nat.lt_succ_of_lt hd))]
    by_cases hs : isSt T n
    · rw [if_pos hs, if_pos (e.mp hs)]
    · rw [if_neg hs, if_neg (fun q => hs (e.mpr q))]
end PURE1
