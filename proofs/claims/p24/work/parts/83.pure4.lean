/-! counts over the order; a new change in the order -/
section PURE4
theorem cnt_two (p q r : Nat → Bool) : ∀ l : List Nat, (∀ x, x ∈ l → (r x = (p x || q x)) ∧ ¬ (p x = true ∧ q x = true)) → (l.filter r).length = (l.filter p).length + (l.filter q).length
  | [], _ => rfl
  | x :: l, h => by
    have ih := cnt_two p q r l (fun y hy => h y (List.mem_cons_of_mem _ hy))
    obtain ⟨h1, h2⟩ := h x List.mem_cons_self
    cases hp : p x with
    | true =>
      have hq : q x = false := by
        cases hq : q x with
        | true => exact absurd ⟨hp, hq⟩ h2
        | false => rfl
      have hr : r x = true := by rw [h1, hp]; rfl
      rw [List.filter_cons_of_pos hr, List.filter_cons_of_pos hp, List.filter_cons_of_neg (by rw [hq]; decide), List.length_cons, List.length_cons]
      omega
    | false =>
      cases hq : q x with
      | true =>
        have hr : r x = true := by rw [h1, hp, hq]; rfl
        rw [List.filter_cons_of_pos hr, List.filter_cons_of_pos hq, List.filter_cons_of_neg (by rw [hp]; decide), List.length_cons, List.length_cons]
        omega
      | false =>
        have hr : r x = false := by rw [h1, hp, hq]; rfl
        rw [List.filter_cons_of_neg (by rw [hr]; decide), List.filter_cons_of_neg (by rw [hp]; decide), List.filter_cons_of_neg (by rw [hq]; decide)]
        exact ih
theorem ordL_cnt {pl : Nat → Nat} {fr : Nat → Int32} {i n : Nat} (B : Nat → Prop) [hdB : DecidablePred B] (h0 : ∀ j, j < n → dayP (fr j)) : ∀ e, e ≤ 365 → ((ordL pl fr i n e).filter (fun o => decide (B o))).length = ((List.range n).filter (fun o => decide (B o ∧ pl o = i ∧ (fr o).toInt < (e : Int)))).length
  | 0, _ => by
    have e : (List.range n).filter (fun o => decide (B o ∧ pl o = i ∧ (fr o).toInt < ((0 : Nat) : Int))) = [] := List.filter_eq_nil_iff.mpr (fun o ho => by
      have h9 := (h0 o (List.mem_range.mp ho)).1
      rw [decide_eq_true_iff]
      rintro ⟨-, -, h⟩
      omega)
    rw [e]
    rfl
  | e + 1, he => by
    rw [ordL, List.filter_append, List.length_append, ordL_cnt B h0 e (by omega)]
    unfold dyL
    rw [List.filter_filter]
    symm
    refine cnt_two _ _ _ _ (fun x hx => ?_)
    have hq : fr x = nI e ↔ (fr x).toInt = (e : Int) := by rw [← Int32.toInt_inj, nI_toInt (by omega)]
    have h1 : (fr x).toInt < ((e + 1 : Nat) : Int) ↔ (fr x).toInt < (e : Int) ∨ (fr x).toInt = (e : Int) := by omega
    have h2 : (fr x).toInt < (e : Int) → ¬ (fr x).toInt = (e : Int) := by omega
    constructor
    · rw [Bool.eq_iff_iff, Bool.or_eq_true, Bool.and_eq_true, decide_eq_true_iff, decide_eq_true_iff, decide_eq_true_iff, decide_eq_true_iff, h1, hq]
      constructor
      · rintro ⟨a, b, c | c⟩
        · exact Or.inl ⟨a, b, c⟩
        · exact Or.inr ⟨a, b, c⟩
      · rintro (⟨a, b, c⟩ | ⟨a, b, c⟩)
        · exact ⟨a, b, Or.inl c⟩
        · exact ⟨a, b, Or.inr c⟩
    · rw [Bool.and_eq_true, decide_eq_true_iff, decide_eq_true_iff, decide_eq_true_iff, hq]
      rintro ⟨⟨-, -, a⟩, -, -, b⟩
      exact h2 a b
theorem laM_cnt (m : MS) (j : Nat) : ∀ q, laM m j q = ((List.range q).filter (fun o => decide (laMB m j o))).length
  | 0 => rfl
  | q + 1 => by
    rw [laM, laM_cnt m j q, List.range_succ, List.filter_append, List.length_append]
    congr 1
    by_cases h : laMB m j q
    · rw [if_pos h, filt_t (P := fun o => decide (laMB m j o)) (decide_eq_true h)]
      rfl
    · rw [if_neg h, filt_f (P := fun o => decide (laMB m j o)) (decide_eq_false h)]
      rfl
theorem rng_cut (P : Nat → Bool) (j : Nat) (h : ∀ o, j ≤ o → P o = false) : ∀ e, (List.range (j + e)).filter P = (List.range j).filter P
  | 0 => rfl
  | e + 1 => by
    rw [← Nat.add_assoc, List.range_succ, List.filter_append, rng_cut P j h e, filt_f (P := P) (h (j + e) (by omega)), List.append_nil]
theorem la_eq {k : KS} {m : MS} {n j : Nat} (hC : ∀ j, j < n → ChR k m j) (hj : j < n) (ht : m 0 1 = k.1 0 0) : laC k j (ordY (k.2.1 1) (k.1 13) (k.2.1 1 j) n) = laM m j j := by
  have hday : ∀ q, q < n → dayP (k.1 13 q) := fun q hq => (hC q hq).2.2.2.2.2.2.1
  unfold laC ordY
  rw [ordL_cnt (fun o => laB k j o) hday 365 (Nat.le_refl _), laM_cnt]
  have e : (List.range n).filter (fun o => decide (laB k j o ∧ k.2.1 1 o = k.2.1 1 j ∧ (k.1 13 o).toInt < ((365 : Nat) : Int))) = (List.range n).filter (fun o => decide (o < j ∧ laMB m j o)) := by
    refine List.filter_congr (fun o ho => ?_)
    have ho := List.mem_range.mp ho
    have co := hC o ho
    have cj := hC j hj
    have h6 : m 6 o = m 6 j ↔ k.2.1 1 o = k.2.1 1 j := by
      rw [co.1.1, cj.1.1]
      exact nI_eq (by have := co.2.2.2.1.1; omega) (by have := cj.2.2.2.1.1; omega)
    have hk := kn_iff co (k.1 0 0)
    have hd := (hday o ho).2
    rw [Bool.eq_iff_iff, decide_eq_true_iff, decide_eq_true_iff]
    show ((o < j ∧ (k.1 13 j).toInt < (k.1 13 o).toInt ∧ knB k o (k.1 0 0)) ∧ k.2.1 1 o = k.2.1 1 j ∧ (k.1 13 o).toInt < ((365 : Nat) : Int)) ↔ o < j ∧ (m 6 o = m 6 j ∧ knM m o (m 0 1) ∧ (m 9 j).toInt < (m 9 o).toInt)
    rw [h6, ht, cj.2.1.1, co.2.1.1, hk]
    constructor
    · rintro ⟨⟨a, b, c⟩, d, -⟩
      exact ⟨a, d, c, b⟩
    · rintro ⟨a, d, c, b⟩
      exact ⟨⟨a, b, c⟩, d, by omega⟩
  rw [e, show n = j + (n - j) by omega, rng_cut _ j (fun o ho => by rw [decide_eq_false_iff_not]; rintro ⟨h, -⟩; omega)]
  congr 1
  refine List.filter_congr (fun o ho => ?_)
  have ho := List.mem_range.mp ho
  rw [Bool.eq_iff_iff, decide_eq_true_iff, decide_eq_true_iff]
  exact ⟨fun h => h.2, fun h => ⟨ho, h⟩⟩
/-- the place of a new change: behind those from its day or earlier -/
theorem insP_app {v : Nat → Int32} {x : Int32} {A B : List Nat} (hA : ∀ j, j ∈ A → (v j).toInt ≤ x.toInt) (hB : ∀ j, j ∈ B → x.toInt < (v j).toInt) : ∀ q, q ≤ B.length → insP v x (A ++ B) (A.length + q) = A.length
  | 0, _ => by
    rcases Nat.eq_zero_or_pos A.length with h0 | h0
    · rw [Nat.add_zero, h0]
      rfl
    · have hlt : A.length - 1 < A.length := by omega
      refine insP_st (o := A[A.length - 1]) h0 ?_ (fun h => ?_)
      · rw [Nat.add_zero, List.getElem?_append_left hlt, List.getElem?_eq_getElem hlt]
      · have := hA _ (List.getElem_mem hlt)
        omega
  | q + 1, hq => by
    have hlt : q < B.length := by omega
    have h1 : (A ++ B)[A.length + (q + 1) - 1]? = some B[q] := by
      rw [show A.length + (q + 1) - 1 = A.length + q by omega, List.getElem?_append_right (by omega), show A.length + q - A.length = q by omega, List.getElem?_eq_getElem hlt]
    rw [insP_go (by omega) h1 (hB _ (List.getElem_mem hlt)), show A.length + (q + 1) - 1 = A.length + q by omega]
    exact insP_app hA hB q (by omega)
theorem insO_app {v : Nat → Int32} {x : Int32} {n : Nat} {A B : List Nat} (hA : ∀ j, j ∈ A → (v j).toInt ≤ x.toInt) (hB : ∀ j, j ∈ B → x.toInt < (v j).toInt) : insO v x n (A ++ B) = A ++ n :: B := by
  unfold insO
  rw [List.length_append, insP_app hA hB B.length (Nat.le_refl _), List.take_left, List.drop_left]
theorem dyL_new (pl : Nat → Nat) (fr : Nat → Int32) (i n : Nat) (x : Int32) (p d : Nat) : dyL (va_up pl n i) (upd fr n x) p d (n + 1) = dyL pl fr p d n ++ (if i = p ∧ x = nI d then [n] else []) := by
  unfold dyL
  rw [List.range_succ, List.filter_append]
  congr 1
  · refine List.filter_congr (fun o ho => ?_)
    have ho := List.mem_range.mp ho
    rw [pu_n (by omega) rfl, upd_n (by omega)]
  · by_cases h : i = p ∧ x = nI d
    · rw [if_pos h]
      refine filt_t ?_
      rw [decide_eq_true_iff, pu_s, upd_s]
      exact h
    · rw [if_neg h]
      refine filt_f ?_
      rw [decide_eq_false_iff_not, pu_s, upd_s]
      exact h
theorem ordL_oth (pl : Nat → Nat) (fr : Nat → Int32) (i n : Nat) (x : Int32) (p : Nat) (hp : p ≠ i) : ∀ e, ordL (va_up pl n i) (upd fr n x) p (n + 1) e = ordL pl fr p n e
  | 0 => rfl
  | e + 1 => by
    rw [ordL, ordL, ordL_oth pl fr i n x p hp e, dyL_new, if_neg (fun h => hp h.1.symm), List.append_nil]
theorem ordL_ahead (pl : Nat → Nat) (fr : Nat → Int32) (i n x : Nat) (hx : x < 365) : ∀ e, e ≤ x → ordL (va_up pl n i) (upd fr n (nI x)) i (n + 1) e = ordL pl fr i n e
  | 0, _ => rfl
  | e + 1, he => by
    rw [ordL, ordL, ordL_ahead pl fr i n x hx e (by omega), dyL_new, if_neg (fun h => by have := (nI_eq (by omega) (by omega)).mp h.2; omega), List.append_nil]
theorem ordL_behind (pl : Nat → Nat) (fr : Nat → Int32) (i n x : Nat) (hx : x < 365) : ∀ q, x + 1 + q ≤ 365 → ∃ T, ordL pl fr i n (x + 1 + q) = ordL pl fr i n (x + 1) ++ T ∧ ordL (va_up pl n i) (upd fr n (nI x)) i (n + 1) (x + 1 + q) = ordL pl fr i n (x + 1) ++ n :: T ∧ ∀ j, j ∈ T → ∃ d, x + 1 ≤ d ∧ d < 365 ∧ fr j = nI d
  | 0, _ => by
    refine ⟨[], (List.append_nil _).symm, ?_, fun j h => absurd h List.not_mem_nil⟩
    rw [Nat.add_zero, ordL, ordL, ordL_ahead pl fr i n x hx x (Nat.le_refl x), dyL_new, if_pos ⟨rfl, rfl⟩, List.append_assoc]
  | q + 1, hq => by
    obtain ⟨T, h1, h2, h3⟩ := ordL_behind pl fr i n x hx q (by omega)
    refine ⟨T ++ dyL pl fr i (x + 1 + q) n, ?_, ?_, fun j hj => ?_⟩
    · show ordL pl fr i n (x + 1 + q) ++ dyL pl fr i (x + 1 + q) n = _
      rw [h1, List.append_assoc]
    · show ordL (va_up pl n i) (upd fr n (nI x)) i (n + 1) (x + 1 + q) ++ dyL (va_up pl n i) (upd fr n (nI x)) i (x + 1 + q) (n + 1) = _
      rw [h2, dyL_new, if_neg (fun h => by have := (nI_eq (by omega) (by omega)).mp h.2; omega), List.append_nil, List.append_assoc, List.cons_append]
    · rcases List.mem_append.mp hj with h | h
      · exact h3 j h
      · exact ⟨x + 1 + q, by omega, by omega, (dyL_mem.mp h).2.2⟩
theorem ordY_new (pl : Nat → Nat) (fr : Nat → Int32) (i n x : Nat) (hx : x < 365) : ordY (va_up pl n i) (upd fr n (nI x)) i (n + 1) = insO fr (nI x) n (ordY pl fr i n) := by
  obtain ⟨T, h1, h2, h3⟩ := ordL_behind pl fr i n x hx (364 - x) (by omega)
  rw [show x + 1 + (364 - x) = 365 by omega] at h1 h2
  have e1 : ordY pl fr i n = _ := h1
  have e2 : ordY (va_up pl n i) (upd fr n (nI x)) i (n + 1) = _ := h2
  rw [e1, e2]
  refine (insO_app (fun j hj => ?_) (fun j hj => ?_)).symm
  · obtain ⟨q, a, -, -, b⟩ := ordL_mem _ hj
    rw [b, nI_toInt (by omega), nI_toInt (by omega)]
    omega
  · obtain ⟨q, a, b, c⟩ := h3 j hj
    rw [c, nI_toInt (by omega), nI_toInt (by omega)]
    omega
theorem ordY_oth (pl : Nat → Nat) (fr : Nat → Int32) (i n : Nat) (x : Int32) {p : Nat} (hp : p ≠ i) : ordY (va_up pl n i) (upd fr n x) p (n + 1) = ordY pl fr p n := ordL_oth pl fr i n x p hp 365
theorem ordL_none (pl : Nat → Nat) (fr : Nat → Int32) (p n : Nat) (h : ∀ j, j < n → pl j ≠ p) : ∀ e, ordL pl fr p n e = []
  | 0 => rfl
  | e + 1 => by
    rw [ordL, ordL_none pl fr p n h e, List.nil_append]
    unfold dyL
    refine List.filter_eq_nil_iff.mpr (fun j hj => ?_)
    rw [decide_eq_true_iff]
    exact fun q => h j (List.mem_range.mp hj) q.1
theorem ordY_none {pl : Nat → Nat} {fr : Nat → Int32} {p n : Nat} (h : ∀ j, j < n → pl j ≠ p) : ordY pl fr p n = [] := ordL_none pl fr p n h 365
end PURE4
