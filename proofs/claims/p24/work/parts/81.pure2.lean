/-! the class's year: each day's version is the one laid from nothing -/
section PURE2
theorem layS_two (k : KS) (kn d d' : Int32) (h : d.toInt ≤ d'.toInt) : ∀ (O : List Nat) (st : VS), (layS k kn d' (O.drop (layS k kn d O st).2) (layS k kn d O st).1).1 = (layS k kn d' O st).1 ∧ (layS k kn d O st).2 + (layS k kn d' (O.drop (layS k kn d O st).2) (layS k kn d O st).1).2 = (layS k kn d' O st).2
  | [], st => ⟨rfl, rfl⟩
  | j :: O, st => by
    by_cases hj : (k.1 13 j).toInt ≤ d.toInt
    · have ih := layS_two k kn d d' h O (if knB k j kn then s_lay st (k.2.1 2 j) (k.1 12 j) (k.1 14 j) else st)
      have e1 : layS k kn d (j :: O) st = ((layS k kn d O (if knB k j kn then s_lay st (k.2.1 2 j) (k.1 12 j) (k.1 14 j) else st)).1, (layS k kn d O (if knB k j kn then s_lay st (k.2.1 2 j) (k.1 12 j) (k.1 14 j) else st)).2 + 1) := by
        rw [layS, if_pos hj]
      have e2 : layS k kn d' (j :: O) st = ((layS k kn d' O (if knB k j kn then s_lay st (k.2.1 2 j) (k.1 12 j) (k.1 14 j) else st)).1, (layS k kn d' O (if knB k j kn then s_lay st (k.2.1 2 j) (k.1 12 j) (k.1 14 j) else st)).2 + 1) := by
        rw [layS, if_pos (by omega)]
      rw [e1, e2]
      dsimp only
      rw [List.drop_succ_cons]
      exact ⟨ih.1, by rw [← ih.2]; omega⟩
    · have e1 : layS k kn d (j :: O) st = (st, 0) := by rw [layS, if_neg hj]
      rw [e1]
      dsimp only
      rw [List.drop_zero]
      exact ⟨rfl, by omega⟩
theorem vsAt_eq (k : KS) (i : Nat) (kn : Int32) : ∀ n, n + 1 < 2 ^ 31 → vsAt k i kn (n + 1) = layS k kn (nI n) (k.2.2.2 i) (fun _ => 0, 1)
  | 0, _ => by
    rw [vsAt, vsAt]
    dsimp only
    rw [List.drop_zero, Nat.zero_add]
  | n + 1, h => by
    have ih := vsAt_eq k i kn n (by omega)
    have h2 := layS_two k kn (nI n) (nI (n + 1)) (by rw [nI_toInt (by omega), nI_toInt (by omega)]; omega) (k.2.2.2 i) (fun _ => 0, 1)
    rw [vsAt, ih]
    exact Prod.ext h2.1 h2.2
theorem yRate_ver (k : KS) (i : Nat) (kn : Int32) {d : Nat} (hd : d < 365) : yRate k i kn d = rateV k i (verS k i (nI d) kn) d := by
  show rateV k i (vsAt k i kn (d + 1)).1 d = _
  rw [vsAt_eq k i kn d (by omega)]
/-- by days and by the year: the same sum -/
theorem dSum_y (k : KS) (i : Nat) (kn : Int32) (h0 : k.1 3 0 = 0) : ∀ n, n ≤ 365 → dSum k i kn n = ySum k i kn n
  | 0, _ => h0.symm
  | n + 1, h => by
    rw [dSum, ySum, dSum_y k i kn h0 n (by omega), yRate_ver k i kn (by omega)]
/-- sums that begin with nothing and grow by the same rates are the same -/
theorem sum_same (k : KS) (i : Nat) (kn : Int32) (h0 : k.1 3 0 = 0) {T S : Nat → Int32} (hS0 : S 0 = 0) (hS : ∀ d, d < 365 → S (d + 1) = S d + T d) (hT : ∀ d, d < 365 → T d = yRate k i kn d) : ∀ n, n ≤ 365 → S n = ySum k i kn n
  | 0, _ => hS0.trans h0.symm
  | n + 1, h => by
    rw [ySum, hS n (by omega), hT n (by omega), sum_same k i kn h0 hS0 hS hT n (by omega)]
end PURE2
