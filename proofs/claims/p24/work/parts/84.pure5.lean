/-! tariffs, rates, the premium -/
section PURE5
theorem bst_c {m m' : MS} (y d : Int32) : ∀ q, (∀ j, j < q → m' 3 j = m 3 j ∧ m' 5 j = m 5 j) → bst m' y d q = bst m y d q
  | 0, _ => rfl
  | q + 1, h => by
    have ih := bst_c y d q (fun j hj => h j (by omega))
    have e := h q (by omega)
    have hb : (∀ b, bst m' y d q = some b → (m' 5 b).toInt ≤ (m' 5 q).toInt) ↔ (∀ b, bst m y d q = some b → (m 5 b).toInt ≤ (m 5 q).toInt) := by
      rw [ih, e.2]
      constructor
      · intro g b hb
        have h2 := g b hb
        rw [(h b (by have := bst_lt m y d q b hb; omega)).2] at h2
        exact h2
      · intro g b hb
        rw [(h b (by have := bst_lt m y d q b hb; omega)).2]
        exact g b hb
    by_cases hc : (m 3 q = y ∧ (m 5 q).toInt ≤ d.toInt) ∧ ∀ b, bst m y d q = some b → (m 5 b).toInt ≤ (m 5 q).toInt
    · rw [bst, bst, if_pos hc, if_pos ⟨by rw [e.1, e.2]; exact hc.1, hb.mpr hc.2⟩]
    · rw [bst, bst, if_neg hc, if_neg (fun h9 => hc ⟨by rw [← e.1, ← e.2]; exact h9.1, hb.mp h9.2⟩), ih]
def sgM (m : MS) (t0 : Nat) (y d : Int32) : Int32 := match bst m y d t0 with | none => 0 | some b => m 5 b
theorem sgM_n {m : MS} {t0 : Nat} {y d : Int32} (h : bst m y d t0 = none) : sgM m t0 y d = 0 := by
  unfold sgM
  rw [h]
theorem sgM_s {m : MS} {t0 b : Nat} {y d : Int32} (h : bst m y d t0 = some b) : sgM m t0 y d = m 5 b := by
  unfold sgM
  rw [h]
theorem wgM_n {m : MS} {t0 : Nat} {y d : Int32} (h : bst m y d t0 = none) : wgM m t0 y d = 1 := by
  unfold wgM
  rw [h]
theorem wgM_s {m : MS} {t0 b : Nat} {y d : Int32} (h : bst m y d t0 = some b) : wgM m t0 y d = m 4 b := by
  unfold wgM
  rw [h]
/-- a new tariff weighs where the one that weighed isn't of a later day -/
theorem bst_new {m m' : MS} {t0 : Nat} (hc : ∀ j, j < t0 → m' 3 j = m 3 j ∧ m' 5 j = m 5 j) (h0 : 0 ≤ (m' 5 t0).toInt) (Y D : Int32) : bst m' Y D (t0 + 1) = if (m' 3 t0 = Y ∧ (m' 5 t0).toInt ≤ D.toInt) ∧ (sgM m t0 Y D).toInt ≤ (m' 5 t0).toInt then some t0 else bst m Y D t0 := by
  have hb : (∀ b, bst m' Y D t0 = some b → (m' 5 b).toInt ≤ (m' 5 t0).toInt) ↔ (sgM m t0 Y D).toInt ≤ (m' 5 t0).toInt := by
    rw [bst_c Y D t0 hc]
    rcases hq : bst m Y D t0 with _ | b
    · rw [sgM_n hq]
      exact ⟨fun _ => by rw [i32_0]; exact h0, fun _ b h => by cases h⟩
    · rw [sgM_s hq]
      have e := (hc b (bst_lt m Y D t0 b hq)).2
      exact ⟨fun g => by rw [← e]; exact g b rfl, fun g b' h => by cases h; rw [e]; exact g⟩
  by_cases h : (m' 3 t0 = Y ∧ (m' 5 t0).toInt ≤ D.toInt) ∧ (sgM m t0 Y D).toInt ≤ (m' 5 t0).toInt
  · rw [bst, if_pos h, if_pos ⟨h.1, hb.mpr h.2⟩]
  · rw [bst, if_neg h, if_neg (fun h9 => h ⟨h9.1, hb.mp h9.2⟩), bst_c Y D t0 hc]
/-- the values' bounds -/
def vOK (st : VS) : Prop := ∀ f, ∃ a : Nat, a ≤ 20 ∧ st.1 f = nI a
theorem vOK_0 : vOK (fun _ => 0, 1) := fun _ => ⟨0, by omega, rfl⟩
theorem bnd_ok (x : Int32) : ∃ a : Nat, a ≤ 20 ∧ bndM x = nI a := by
  show ∃ a : Nat, a ≤ 20 ∧ (if x < 0 then 0 else if 20 < x then 20 else x) = nI a
  by_cases h : x < 0
  · exact ⟨0, by omega, if_pos h⟩
  · rw [if_neg h]
    by_cases h2 : 20 < x
    · exact ⟨20, by omega, if_pos h2⟩
    · rw [if_neg h2]
      obtain ⟨j, hj, e⟩ := nI_of2 (x := x) (M := 20) (n := 20) rfl h (by rw [i32_le]; rw [i32_lt] at h2; omega)
      exact ⟨j, hj, e⟩
theorem layM_ok {m : MS} {st : VS} {c : Nat} (ok : vOK st) (h : m 7 c = 0 → ∃ a : Nat, a ≤ 20 ∧ m 10 c = nI a) : vOK (layM m st c) := by
  intro f
  show ∃ a : Nat, a ≤ 20 ∧ (if m 7 c = 0 then upd st.1 (wIx m c) (m 10 c) else if m 7 c = 1 then upd st.1 (wIx m c) (bndM (st.1 (wIx m c) + m 10 c)) else st.1) f = nI a
  by_cases h0 : m 7 c = 0
  · rw [if_pos h0]
    by_cases hf : f = wIx m c
    · rw [hf, upd_s]
      exact h h0
    · rw [upd_n hf]
      exact ok f
  · rw [if_neg h0]
    by_cases h1 : m 7 c = 1
    · rw [if_pos h1]
      by_cases hf : f = wIx m c
      · rw [hf, upd_s]
        exact bnd_ok _
      · rw [upd_n hf]
        exact ok f
    · rw [if_neg h1]
      exact ok f
theorem dayM_ok {m : MS} {i d n : Nat} {kn : Int32} {st : VS} (ok : vOK st) (h : ∀ c, c < n → m 7 c = 0 → ∃ a : Nat, a ≤ 20 ∧ m 10 c = nI a) : ∀ q, q ≤ n → vOK (dayM m i kn d st q)
  | 0, _ => ok
  | q + 1, hq => by
    have ih := dayM_ok (i := i) (d := d) (kn := kn) ok h q (by omega)
    rw [dayM]
    by_cases hh : hitM m i kn d q
    · rw [if_pos hh]
      exact layM_ok ih (h q (by omega))
    · rw [if_neg hh]
      exact ih
theorem goM_ok {m : MS} {i n : Nat} {kn : Int32} (h : ∀ c, c < n → m 7 c = 0 → ∃ a : Nat, a ≤ 20 ∧ m 10 c = nI a) : ∀ d, vOK (goM m i kn n d)
  | 0 => vOK_0
  | d + 1 => by
    rw [goM]
    exact dayM_ok (goM_ok h d) h n (Nat.le_refl n)
theorem itM_ok {m : MS} {i t0 d : Nat} {v : Nat → Int32} {b : Nat} (hb : m 1 i = nI b) (hb2 : b ≤ 1000) (hv : ∀ f, ∃ a : Nat, a ≤ 20 ∧ v f = nI a) (hw : ∀ f, f < 3 → ∃ w : Nat, w ≤ 100 ∧ wgM m t0 (nI f) (nI d) = nI w) : ∀ q, q ≤ 3 → ∃ N : Nat, N ≤ 1000 + 2000 * q ∧ itM m i t0 d v q = nI N
  | 0, _ => ⟨b, by omega, hb⟩
  | q + 1, hq => by
    obtain ⟨N, h1, h2⟩ := itM_ok (d := d) hb hb2 hv hw q (by omega)
    obtain ⟨a, h3, h4⟩ := hv q
    obtain ⟨w, h5, h6⟩ := hw q (by omega)
    have hm : a * w ≤ 20 * 100 := Nat.mul_le_mul h3 h5
    refine ⟨N + a * w, by omega, ?_⟩
    rw [itM, h2, h4, h6, pk_mul, nI_add]
theorem rt_ok {m : MS} {i n t0 d : Nat} {kn : Int32} (h : ∀ c, c < n → m 7 c = 0 → ∃ a : Nat, a ≤ 20 ∧ m 10 c = nI a) {b : Nat} (hb : m 1 i = nI b) (hb2 : b ≤ 1000) (hw : ∀ f, f < 3 → ∃ w : Nat, w ≤ 100 ∧ wgM m t0 (nI f) (nI d) = nI w) : 0 ≤ (rtM m i kn n t0 d).toInt := by
  show 0 ≤ (if (goM m i kn n (d + 1)).2 = 0 then 0 else itM m i t0 d (goM m i kn n (d + 1)).1 3 : Int32).toInt
  by_cases h0 : (goM m i kn n (d + 1)).2 = 0
  · rw [if_pos h0, i32_0]
    exact Int.le_refl 0
  · rw [if_neg h0]
    obtain ⟨N, h1, h2⟩ := itM_ok hb hb2 (goM_ok (i := i) (kn := kn) h (d + 1)) hw 3 (Nat.le_refl 3)
    rw [h2, nI_toInt (by omega)]
    omega
/-! the premium: the segments' charges make up the year's -/
theorem endD_nx {rt : Nat → Int32} {n : Nat} (hn : n < 365) : endD rt n = endS rt (rt n) (365 - (n + 1)) (n + 1) := endS_t (i := n) hn rfl
theorem endD_same {rt : Nat → Int32} {n : Nat} (hn : n + 1 < 365) (e : rt (n + 1) = rt n) : endD rt n = endD rt (n + 1) := by
  rw [endD_nx (by omega)]
  show _ = endS rt (rt (n + 1)) (365 - (n + 1)) (n + 1)
  rw [e]
theorem endD_diff {rt : Nat → Int32} {n : Nat} (hn : n + 1 < 365) (e : ¬ rt (n + 1) = rt n) : endD rt n = n + 1 := by
  rw [endD_nx (by omega)]
  exact endS_f hn e
theorem endD_last {rt : Nat → Int32} : endD rt 364 = 365 := by
  rw [endD_nx (by omega)]
  rfl
def xE (rt : Nat → Int32) : Nat → Nat
  | 0 => 0
  | n + 1 => if rt n = 0 then n + 1 else endD rt n
theorem xE_at {rt : Nat → Int32} : ∀ {n : Nat}, n < 365 → (∀ p, n = p + 1 → rt p = 0 ∨ ¬ rt (p + 1) = rt p) → xE rt n = n
  | 0, _, _ => rfl
  | p + 1, hn, h => by
    rw [xE]
    by_cases h0 : rt p = 0
    · rw [if_pos h0]
    · rw [if_neg h0]
      exact endD_diff hn ((h p rfl).resolve_left h0)
theorem tel32 (a b c : Int32) : a - b + (c - a) = c - b := by grind
theorem sumP_tel {rt sm : Nat → Int32} (hz : ∀ d, d < 365 → 0 ≤ (rt d).toInt) (hs : ∀ d, d < 365 → sm (d + 1) = sm d + rt d) : ∀ n, n ≤ 365 → sumP rt sm n = sm (xE rt n) / 365 - sm 0 / 365
  | 0, _ => by
    rw [sumP, xE, Int32.sub_self]
  | n + 1, hn => by
    have ih := sumP_tel hz hs n (by omega)
    have hzn := hz n (by omega)
    by_cases h0 : rt n = 0
    · have hns : ¬ isSt rt n := by
        rintro ⟨h, -⟩
        rw [h0, i32_0] at h
        omega
      have hx : xE rt n = n := xE_at (by omega) (fun p hp => by
        subst hp
        by_cases h1 : rt p = 0
        · exact Or.inl h1
        · exact Or.inr (fun h2 => h1 (h2.symm.trans h0)))
      rw [sumP, if_neg hns, ih, hx, xE, if_pos h0, hs n (by omega), h0, Int32.add_zero]
    · have hpos : 0 < (rt n).toInt := by
        rcases Int.lt_or_le 0 (rt n).toInt with h | h
        · exact h
        · exact absurd (Int32.toInt_inj.mp (show (rt n).toInt = (0 : Int32).toInt by rw [i32_0]; omega)) h0
      by_cases hst : isSt rt n
      · have hx : xE rt n = n := xE_at (by omega) (fun p hp => by
          subst hp
          rcases hst.2 with h | h
          · omega
          · exact Or.inr (fun h2 => h h2.symm))
        rw [sumP, if_pos hst, ih, hx, xE, if_neg h0, tel32]
      · have hst2 : ¬ (n = 0 ∨ rt (n - 1) ≠ rt n) := fun h => hst ⟨hpos, h⟩
        obtain ⟨p, rfl⟩ : ∃ p, n = p + 1 := ⟨n - 1, by omega⟩
        have he : rt (p + 1) = rt p := by
          rcases Classical.em (rt (p + 1) = rt p) with h | h
          · exact h
          · exact absurd (Or.inr (fun h2 => h h2.symm)) hst2
        rw [sumP, if_neg hst, ih, xE, xE, if_neg h0, if_neg (by rw [← he]; exact h0), endD_same (by omega) he]
theorem sumP_all {rt sm : Nat → Int32} (hz : ∀ d, d < 365 → 0 ≤ (rt d).toInt) (hs : ∀ d, d < 365 → sm (d + 1) = sm d + rt d) (h0 : sm 0 = 0) : sumP rt sm 365 = sm 365 / 365 := by
  have hx : xE rt 365 = 365 := by
    show (if rt 364 = 0 then 365 else endD rt 364) = 365
    by_cases h : rt 364 = 0
    · rw [if_pos h]
    · rw [if_neg h, endD_last]
  rw [sumP_tel hz hs 365 (Nat.le_refl _), hx, h0]
  exact Int32.sub_zero _
/-- the day behind a segment is what the reference finds -/
theorem endD_un {rt T : Nat → Int32} {d e : Nat} (hT : ∀ j, j < 365 → rt j = T j) (hd : d < 365) (h1 : e ≤ 365) (h2 : d ≤ e) (h3 : ∀ j, d ≤ j → j < e → T j = T d) (h4 : e = 365 ∨ ¬ T e = T d) : endD rt d = e := by
  have key : ∀ q, d + q ≤ e → endD rt d = endS rt (rt d) (365 - (d + q)) (d + q) := by
    intro q
    induction q with
    | zero => intro _; rfl
    | succ q ih =>
      intro hq
      rw [ih (by omega)]
      exact endS_t (i := d) (by omega) (by rw [hT _ (by omega), hT d hd]; exact h3 _ (by omega) (by omega))
  rw [key (e - d) (by omega), show d + (e - d) = e by omega]
  rcases Nat.lt_or_ge e 365 with h | h
  · exact endS_f h (by rw [hT e h, hT d hd]; exact h4.resolve_left (by omega))
  · obtain rfl : e = 365 := by omega
    rfl
theorem isYr.rt {k : KS} {i : Nat} {kn : Int32} {rt sm : Nat → Int32} (h : isYr k i kn rt sm) {d : Nat} (hd : d < 365) : rt d = yRate k i kn d := by
  rw [h.1]
  exact if_pos hd
theorem isYr.sm {k : KS} {i : Nat} {kn : Int32} {rt sm : Nat → Int32} (h : isYr k i kn rt sm) {d : Nat} (hd : d ≤ 365) : sm d = ySum k i kn d := by
  rw [h.2]
  exact if_pos (by omega)
end PURE5
