/-! the order of a policy's changes, by days; laying them in is the reference's walk -/
section PURE3
theorem filt_t {P : Nat → Bool} {q : Nat} (h : P q = true) : [q].filter P = [q] := by rw [List.filter_cons_of_pos h, List.filter_nil]
theorem filt_f {P : Nat → Bool} {q : Nat} (h : P q = false) : [q].filter P = [] := by rw [List.filter_cons_of_neg (by rw [h]; decide), List.filter_nil]
/-- the changes of policy i that hold from day d, among the first n -/
def dyL (pl : Nat → Nat) (fr : Nat → Int32) (i d n : Nat) : List Nat := (List.range n).filter (fun j => decide (pl j = i ∧ fr j = nI d))
/-- those of the days ahead of d, day by day -/
def ordL (pl : Nat → Nat) (fr : Nat → Int32) (i n : Nat) : Nat → List Nat
  | 0 => []
  | d + 1 => ordL pl fr i n d ++ dyL pl fr i d n
/-- those of the year -/
def ordY (pl : Nat → Nat) (fr : Nat → Int32) (i n : Nat) : List Nat := ordL pl fr i n 365
theorem dyL_mem {pl : Nat → Nat} {fr : Nat → Int32} {i d n j : Nat} : j ∈ dyL pl fr i d n ↔ j < n ∧ pl j = i ∧ fr j = nI d := by
  unfold dyL
  rw [List.mem_filter, List.mem_range, decide_eq_true_iff]
theorem ordL_mem {pl : Nat → Nat} {fr : Nat → Int32} {i n j : Nat} : ∀ e, j ∈ ordL pl fr i n e → ∃ d, d < e ∧ j < n ∧ pl j = i ∧ fr j = nI d
  | 0, h => absurd h List.not_mem_nil
  | e + 1, h => by
    rcases List.mem_append.mp h with h | h
    · obtain ⟨d, h1, h2⟩ := ordL_mem e h
      exact ⟨d, by omega, h2⟩
    · exact ⟨e, by omega, dyL_mem.mp h⟩
theorem ordL_split (pl : Nat → Nat) (fr : Nat → Int32) (i n x : Nat) : ∀ e, ∃ T, ordL pl fr i n (x + e) = ordL pl fr i n x ++ T ∧ ∀ j, j ∈ T → ∃ d, x ≤ d ∧ d < x + e ∧ fr j = nI d
  | 0 => ⟨[], (List.append_nil _).symm, fun j h => absurd h List.not_mem_nil⟩
  | e + 1 => by
    obtain ⟨T, h1, h2⟩ := ordL_split pl fr i n x e
    refine ⟨T ++ dyL pl fr i (x + e) n, ?_, fun j hj => ?_⟩
    · show ordL pl fr i n (x + e) ++ dyL pl fr i (x + e) n = _
      rw [h1, List.append_assoc]
    · rcases List.mem_append.mp hj with h | h
      · obtain ⟨d, a, b, c⟩ := h2 j h
        exact ⟨d, a, by omega, c⟩
      · exact ⟨x + e, by omega, by omega, (dyL_mem.mp h).2.2⟩
theorem ordY_split (pl : Nat → Nat) (fr : Nat → Int32) (i n : Nat) {x : Nat} (hx : x ≤ 365) : ∃ T, ordY pl fr i n = ordL pl fr i n x ++ T ∧ ∀ j, j ∈ T → ∃ d, x ≤ d ∧ d < 365 ∧ fr j = nI d := by
  obtain ⟨T, h1, h2⟩ := ordL_split pl fr i n x (365 - x)
  rw [show x + (365 - x) = 365 by omega] at h1 h2
  exact ⟨T, h1, h2⟩
def layF (k : KS) (kn : Int32) : List Nat → VS → VS
  | [], st => st
  | j :: O, st => layF k kn O (if knB k j kn then s_lay st (k.2.1 2 j) (k.1 12 j) (k.1 14 j) else st)
theorem layF_app (k : KS) (kn : Int32) : ∀ (A B : List Nat) (st : VS), layF k kn (A ++ B) st = layF k kn B (layF k kn A st)
  | [], _, _ => rfl
  | _ :: A, B, _ => layF_app k kn A B _
theorem layS_split {k : KS} {kn d : Int32} : ∀ (A B : List Nat) (st : VS), (∀ j, j ∈ A → (k.1 13 j).toInt ≤ d.toInt) → (∀ j, j ∈ B → d.toInt < (k.1 13 j).toInt) → (layS k kn d (A ++ B) st).1 = layF k kn A st
  | [], [], st, _, _ => rfl
  | [], j :: B, st, _, hB => by
    have h := hB j List.mem_cons_self
    show (layS k kn d (j :: B) st).1 = st
    rw [layS, if_neg (by omega)]
  | j :: A, B, st, hA, hB => by
    have h := hA j List.mem_cons_self
    show (layS k kn d (j :: (A ++ B)) st).1 = _
    rw [layS, if_pos h]
    exact layS_split A B _ (fun q hq => hA q (List.mem_cons_of_mem _ hq)) hB
theorem ver_F {k : KS} {i d : Nat} {kn : Int32} (hO : k.2.2.2 i = ordY (k.2.1 1) (k.1 13) i (kC k)) (hd : d < 365) : verS k i (nI d) kn = layF k kn (ordL (k.2.1 1) (k.1 13) i (kC k) (d + 1)) (fun _ => 0, 1) := by
  obtain ⟨T, h1, h2⟩ := ordY_split (k.2.1 1) (k.1 13) i (kC k) (x := d + 1) (by omega)
  show (layS k kn (nI d) (k.2.2.2 i) (fun _ => 0, 1)).1 = _
  rw [hO, h1]
  refine layS_split _ _ _ (fun j hj => ?_) (fun j hj => ?_)
  · obtain ⟨q, a, -, -, b⟩ := ordL_mem _ hj
    rw [b, nI_toInt (by omega), nI_toInt (by omega)]
    omega
  · obtain ⟨q, a, b, c⟩ := h2 j hj
    rw [c, nI_toInt (by omega), nI_toInt (by omega)]
    omega
/-- a change of the class and the reference's of that number -/
def ChR (k : KS) (m : MS) (j : Nat) : Prop :=
  (m 6 j = nI (k.2.1 1 j) ∧ m 7 j = nI (k.2.1 2 j)) ∧ (m 9 j = k.1 13 j ∧ m 10 j = k.1 14 j) ∧ (m 11 j = k.1 15 j ∧ m 12 j = k.1 16 j) ∧ (k.2.1 1 j < 4 ∧ k.2.1 2 j < 4) ∧ (k.2.1 2 j < 2 → k.1 12 j = m 8 j) ∧ (∃ w, w < 3 ∧ m 8 j = nI w) ∧ dayP (k.1 13 j) ∧ -1 ≤ (k.1 16 j).toInt ∧ (k.2.1 2 j = 0 → 0 ≤ (k.1 14 j).toInt ∧ (k.1 14 j).toInt ≤ 20)
theorem kn_iff {k : KS} {m : MS} {j : Nat} (h : ChR k m j) (kn : Int32) : knB k j kn ↔ knM m j kn := by
  obtain ⟨-, -, ⟨h1, h2⟩, -, -, -, -, h3, -⟩ := h
  show ((k.1 15 j).toInt ≤ kn.toInt ∧ ((k.1 16 j).toInt = -1 ∨ kn.toInt < (k.1 16 j).toInt)) ↔ ((m 11 j).toInt ≤ kn.toInt ∧ ((m 12 j).toInt < 0 ∨ kn.toInt < (m 12 j).toInt))
  rw [h1, h2]
  constructor <;> rintro ⟨a, b⟩ <;> refine ⟨a, ?_⟩ <;> omega
theorem bnd_eq (x : Int32) : s_bnd x = bndM x := by
  show (if 20 < (if x < 0 then 0 else x) then 20 else (if x < 0 then 0 else x)) = if x < 0 then 0 else if 20 < x then 20 else x
  by_cases h : x < 0
  · rw [if_pos h, if_pos h, if_neg (by decide)]
  · rw [if_neg h, if_neg h]
theorem lay_eq {k : KS} {m : MS} {j : Nat} (h : ChR k m j) (st : VS) : s_lay st (k.2.1 2 j) (k.1 12 j) (k.1 14 j) = layM m st j := by
  obtain ⟨⟨-, h7⟩, ⟨-, h10⟩, -, ⟨-, hk4⟩, hf, ⟨w, hw, h8⟩, -⟩ := h
  have hix : wIx m j = w := by
    show (m 8 j).toNatClampNeg = w
    rw [h8, nI_clamp (by omega)]
  have hfl : 0 ≤ (nI w).toInt ∧ (nI w).toInt < 3 := by
    rw [nI_toInt (by omega)]
    omega
  have d1 : ¬ nI 1 = 0 := by decide
  have d2 : ¬ nI 2 = 0 := by decide
  have d3 : ¬ nI 3 = 0 := by decide
  have d4 : ¬ nI 0 = 3 := by decide
  have d5 : ¬ nI 1 = 3 := by decide
  have d6 : ¬ nI 2 = 3 := by decide
  have d7 : ¬ nI 0 = 2 := by decide
  have d8 : ¬ nI 1 = 2 := by decide
  have d9 : ¬ nI 2 = 1 := by decide
  have d10 : ¬ nI 3 = 1 := by decide
  unfold layM
  rw [hix, h7, h10]
  rcases (show k.2.1 2 j = 0 ∨ k.2.1 2 j = 1 ∨ k.2.1 2 j = 2 ∨ k.2.1 2 j = 3 by omega) with e | e | e | e
  · rw [hf (by omega), h8, e, s_lay, if_pos rfl, s_put, if_pos hfl, nI_clamp (by omega), if_pos (show nI 0 = 0 from rfl), if_neg d4, if_neg d7]
  · rw [hf (by omega), h8, e, s_lay, if_neg (by decide), if_pos rfl, s_put, if_pos hfl, s_val, if_pos hfl, nI_clamp (by omega), if_neg d1, if_pos (show nI 1 = 1 from rfl), if_neg d5, if_neg d8, bnd_eq]
  · rw [e, s_lay, if_neg (by decide), if_neg (by decide), if_neg (by decide), if_neg d2, if_neg d9, if_neg d6, if_pos (show nI 2 = 2 from rfl)]
  · rw [e, s_lay, if_neg (by decide), if_neg (by decide), if_pos rfl, if_neg d3, if_neg d10, if_pos (show nI 3 = 3 from rfl)]
theorem dayM_F {k : KS} {m : MS} {n i d : Nat} {kn : Int32} (hC : ∀ j, j < n → ChR k m j) (hi : i < 4) (st : VS) : ∀ q, q ≤ n → dayM m i kn d st q = layF k kn (dyL (k.2.1 1) (k.1 13) i d q) st
  | 0, _ => rfl
  | q + 1, hq => by
    have ih := dayM_F (d := d) (kn := kn) hC hi st q (by omega)
    have hc := hC q (by omega)
    have e : dyL (k.2.1 1) (k.1 13) i d (q + 1) = dyL (k.2.1 1) (k.1 13) i d q ++ [q].filter (fun j => decide (k.2.1 1 j = i ∧ k.1 13 j = nI d)) := by
      unfold dyL
      rw [List.range_succ, List.filter_append]
    rw [dayM, e, layF_app, ← ih]
    have h6 : m 6 q = nI i ↔ k.2.1 1 q = i := by
      rw [hc.1.1]
      exact nI_eq (by have := hc.2.2.2.1.1; omega) (by omega)
    by_cases hp : k.2.1 1 q = i ∧ k.1 13 q = nI d
    · rw [filt_t (P := fun j => decide (k.2.1 1 j = i ∧ k.1 13 j = nI d)) (decide_eq_true hp)]
      show _ = (if knB k q kn then s_lay _ _ _ _ else _)
      by_cases hk : knB k q kn
      · rw [if_pos hk, if_pos (show hitM m i kn d q from ⟨h6.mpr hp.1, hc.2.1.1.trans hp.2, (kn_iff hc kn).mp hk⟩), lay_eq hc]
      · rw [if_neg hk, if_neg (fun h => hk ((kn_iff hc kn).mpr h.2.2))]
    · rw [filt_f (P := fun j => decide (k.2.1 1 j = i ∧ k.1 13 j = nI d)) (decide_eq_false hp), if_neg (fun h => hp ⟨h6.mp h.1, hc.2.1.1.symm.trans h.2.1⟩)]
      rfl
theorem goM_F {k : KS} {m : MS} {n i : Nat} {kn : Int32} (hC : ∀ j, j < n → ChR k m j) (hi : i < 4) : ∀ d, goM m i kn n d = layF k kn (ordL (k.2.1 1) (k.1 13) i n d) (fun _ => 0, 1)
  | 0 => rfl
  | d + 1 => by
    rw [goM, goM_F hC hi d, dayM_F hC hi _ n (Nat.le_refl n), ordL, layF_app]
theorem ver_go {k : KS} {m : MS} {i d : Nat} {kn : Int32} (hC : ∀ j, j < kC k → ChR k m j) (hi : i < 4) (hO : k.2.2.2 i = ordY (k.2.1 1) (k.1 13) i (kC k)) (hd : d < 365) : verS k i (nI d) kn = goM m i kn (kC k) (d + 1) := by
  rw [ver_F hO hd, goM_F hC hi]
end PURE3
