/-! how the tie is kept where a call changes something -/
section UPD
theorem TrR.c {k k' : KS} {m m' : MS} {t0 : Nat} (hk : ∀ c, 4 ≤ c → c < 10 → k'.1 c = k.1 c) (hm : m' 3 = m 3 ∧ m' 4 = m 4 ∧ m' 5 = m 5) (h : TrR k m t0) : TrR k' m' t0 := by
  have e : ∀ y d, bst m' y d t0 = bst m y d t0 := fun y d => bst_c y d t0 (fun j _ => ⟨by rw [hm.1], by rw [hm.2.2]⟩)
  refine ⟨fun c d hc hd => ?_, fun b hb => ?_⟩
  · obtain ⟨h1, h2⟩ := h.1 c d hc hd
    rw [hk (4 + c) (by omega) (by omega), hk (7 + c) (by omega) (by omega), h1, h2]
    rcases hq : bst m (nI c) (nI d) t0 with _ | b
    · rw [sgM_n hq, sgM_n ((e _ _).trans hq), wgM_n hq, wgM_n ((e _ _).trans hq)]
      exact ⟨rfl, rfl⟩
    · rw [sgM_s hq, sgM_s ((e _ _).trans hq), wgM_s hq, wgM_s ((e _ _).trans hq), hm.2.1, hm.2.2]
      exact ⟨rfl, rfl⟩
  · rw [hm.2.1, hm.2.2]
    exact h.2 b hb
theorem ChR.c {k k' : KS} {m m' : MS} {j : Nat} (h1 : k'.2.1 1 j = k.2.1 1 j) (h2 : k'.2.1 2 j = k.2.1 2 j) (hk : ∀ c, 12 ≤ c → c < 17 → k'.1 c j = k.1 c j) (hm : ∀ c, 6 ≤ c → c ≤ 12 → m' c j = m c j) (h : ChR k m j) : ChR k' m' j := by
  unfold ChR at h ⊢
  rw [h1, h2, hk 12 (by decide) (by decide), hk 13 (by decide) (by decide), hk 14 (by decide) (by decide), hk 15 (by decide) (by decide), hk 16 (by decide) (by decide), hm 6 (by decide) (by decide), hm 7 (by decide) (by decide), hm 8 (by decide) (by decide), hm 9 (by decide) (by decide), hm 10 (by decide) (by decide), hm 11 (by decide) (by decide), hm 12 (by decide) (by decide)]
  exact h
theorem mS_n {m : MS} {c j c' : Nat} {x : Int32} (h : c' ≠ c) : mS m c j x c' = m c' := pu_n h rfl
theorem mS_s {m : MS} {c j : Nat} {x : Int32} : mS m c j x c = upd (m c) j x := pu_s
theorem kW_n {k : KS} {c j c' : Nat} {x : Int32} (h : c' ≠ c) : (kW k c j x).1 c' = k.1 c' := pu_n h rfl
theorem kW_s {k : KS} {c j : Nat} {x : Int32} : (kW k c j x).1 c = upd (k.1 c) j x := pu_s
/-- pass -/
theorem Rel.pass {k : KS} {m : MS} {t0 n : Nat} {x : Int32} (h : Rel k m t0 n) (hn : n ≤ 512) (hx : 1 ≤ x.toInt ∧ x.toInt ≤ 100) : Rel (kW k 0 0 (k.1 0 0 + x)) (mS (mT m 0) 0 1 (m 0 1 + x)) t0 (n + 1) := by
  obtain ⟨h1, h2, h3, h4, h5, h6⟩ := h
  obtain ⟨A, hA, eA⟩ := nI_of (x := k.1 0 0) (by rw [i32_lt, i32_0]; have := h2.2.1; omega)
  obtain ⟨X, hX, eX⟩ := nI_of (x := x) (by rw [i32_lt, i32_0]; omega)
  have hA2 : A ≤ 100 * n := by
    have := h2.2.2
    rw [eA, nI_toInt hA] at this
    omega
  have hX2 : X ≤ 100 := by
    have := hx.2
    rw [eX, nI_toInt hX] at this
    omega
  have eAX : k.1 0 0 + x = nI (A + X) := by rw [eA, eX, nI_add]
  refine ⟨?_, ⟨⟨?_, ?_, ?_⟩, ?_, ?_⟩, ?_, fun j hj => ?_, h5, ?_⟩
  · unfold MInv at h1 ⊢
    rw [mS_s, upd_n (by decide), upd_n (by decide), upd_n (by decide), (mSm.t m 0).1 0 (by decide), (mSm.t m 0).1 2 (by decide), (mSm.t m 0).1 3 (by decide)]
    exact h1
  · rw [mS_s, kW_s, upd_s, upd_s, h2.1.1]
  · rw [kW_s, upd_n (by decide)]
    exact h2.1.2.1
  · rw [kW_n (by decide)]
    exact h2.1.2.2
  · rw [kW_s, upd_s, eAX, nI_toInt (by omega)]
    omega
  · rw [kW_s, upd_s, eAX, nI_toInt (by omega)]
    omega
  · unfold PoR
    rw [kW_n (by decide), kW_n (by decide), mS_n (by decide), mS_n (by decide), (mSm.t m 0).2 1 (by decide) (by decide), (mSm.t m 0).2 2 (by decide) (by decide)]
    exact h3
  · exact (h4 j hj).c (k := k) (m := m) rfl rfl (fun c h1 h2 => by rw [kW_n (by omega)]) (fun c h1 h2 => by rw [mS_n (by omega), (mSm.t m 0).2 c (by omega) (by omega)])
  · exact h6.c (fun c h1 h2 => kW_n (by omega)) ⟨by rw [mS_n (by decide), (mSm.t m 0).2 3 (by decide) (by decide)], by rw [mS_n (by decide), (mSm.t m 0).2 4 (by decide) (by decide)], by rw [mS_n (by decide), (mSm.t m 0).2 5 (by decide) (by decide)]⟩
/-- takeBack -/
theorem Rel.take {k : KS} {m : MS} {t0 n j : Nat} (h : Rel k m t0 n) : Rel (kW k 16 j (k.1 0 0)) (mS (mT (mT m 0) 0) 12 j (m 0 1)) t0 (n + 1) := by
  obtain ⟨h1, h2, h3, h4, h5, h6⟩ := h
  have hm : mSm m (mT (mT m 0) 0) := (mSm.t m 0).tr (mSm.t _ 0)
  refine ⟨?_, ⟨⟨?_, ?_, ?_⟩, ?_, ?_⟩, ?_, fun q hq => ?_, fun i hi => ?_, ?_⟩
  · unfold MInv at h1 ⊢
    rw [mS_n (by decide), hm.1 0 (by decide), hm.1 2 (by decide), hm.1 3 (by decide)]
    exact h1
  · rw [mS_n (by decide), kW_n (by decide), hm.1 1 (by decide)]
    exact h2.1.1
  · rw [kW_n (by decide)]
    exact h2.1.2.1
  · rw [kW_n (by decide)]
    exact h2.1.2.2
  · rw [kW_n (by decide)]
    exact h2.2.1
  · rw [kW_n (by decide)]
    have := h2.2.2
    omega
  · unfold PoR
    rw [kW_n (by decide), kW_n (by decide), mS_n (by decide), mS_n (by decide), hm.2 1 (by decide) (by decide), hm.2 2 (by decide) (by decide)]
    exact h3
  · have hq4 := h4 q hq
    by_cases hqj : q = j
    · subst hqj
      unfold ChR at hq4 ⊢
      have k12 : (kW k 16 q (k.1 0 0)).1 12 = k.1 12 := kW_n (by decide)
      have k13 : (kW k 16 q (k.1 0 0)).1 13 = k.1 13 := kW_n (by decide)
      have k14 : (kW k 16 q (k.1 0 0)).1 14 = k.1 14 := kW_n (by decide)
      have k15 : (kW k 16 q (k.1 0 0)).1 15 = k.1 15 := kW_n (by decide)
      have k16 : (kW k 16 q (k.1 0 0)).1 16 q = k.1 0 0 := by rw [kW_s, upd_s]
      have n12 : mS (mT (mT m 0) 0) 12 q (m 0 1) 12 q = m 0 1 := by rw [mS_s, upd_s]
      have mc : ∀ c, 6 ≤ c → c < 12 → mS (mT (mT m 0) 0) 12 q (m 0 1) c = m c := fun c a1 a2 => (mS_n (by omega)).trans (hm.2 c (by omega) (by omega))
      rw [k12, k13, k14, k15, k16, n12, mc 6 (by decide) (by decide), mc 7 (by decide) (by decide), mc 8 (by decide) (by decide), mc 9 (by decide) (by decide), mc 10 (by decide) (by decide), mc 11 (by decide) (by decide)]
      obtain ⟨q1, q2, q3, q4, q5, q6, q7, q8, q9⟩ := hq4
      exact ⟨q1, q2, ⟨q3.1, h2.1.1⟩, q4, q5, q6, q7, by have := h2.2.1; omega, q9⟩
    · refine hq4.c (k := k) (m := m) rfl rfl (fun c h1 h2 => ?_) (fun c h1 h2 => ?_)
      · by_cases hc : c = 16
        · subst hc
          rw [kW_s, upd_n hqj]
        · rw [kW_n hc]
      · by_cases hc : c = 12
        · subst hc
          rw [mS_s, upd_n hqj, hm.2 12 (by decide) (by decide)]
        · rw [mS_n hc, hm.2 c (by omega) (by omega)]
  · show k.2.2.2 i = ordY (k.2.1 1) ((kW k 16 j (k.1 0 0)).1 13) i (kC k)
    rw [kW_n (by decide)]
    exact h5 i hi
  · exact h6.c (fun c h1 h2 => kW_n (by omega)) ⟨by rw [mS_n (by decide), hm.2 3 (by decide) (by decide)], by rw [mS_n (by decide), hm.2 4 (by decide) (by decide)], by rw [mS_n (by decide), hm.2 5 (by decide) (by decide)]⟩
/-- bill -/
theorem Rel.bill {k : KS} {m m1 : MS} {t0 n i : Nat} {v : Int32} (h : Rel k m t0 n) (hi : i < kP k) (hm : mSm m m1) : Rel (kW k 11 i v) (mS m1 2 i v) t0 (n + 1) := by
  obtain ⟨h1, h2, h3, h4, h5, h6⟩ := h
  refine ⟨?_, ⟨⟨?_, ?_, ?_⟩, ?_, ?_⟩, ⟨fun q hq => ?_, fun q hq => ?_⟩, fun q hq => ?_, fun p hp => ?_, ?_⟩
  · unfold MInv at h1 ⊢
    rw [mS_n (by decide), hm.1 0 (by decide), hm.1 2 (by decide), hm.1 3 (by decide)]
    exact h1
  · rw [mS_n (by decide), kW_n (by decide), hm.1 1 (by decide)]
    exact h2.1.1
  · rw [kW_n (by decide)]
    exact h2.1.2.1
  · rw [kW_n (by decide)]
    exact h2.1.2.2
  · rw [kW_n (by decide)]
    exact h2.2.1
  · rw [kW_n (by decide)]
    have := h2.2.2
    omega
  · rw [kW_n (by decide), kW_s, mS_n (by decide), mS_s, hm.2 1 (by decide) (by decide), hm.2 2 (by decide) (by decide)]
    obtain ⟨⟨q1, q2⟩, q3⟩ := h3.1 q hq
    refine ⟨⟨q1, ?_⟩, q3⟩
    by_cases hqi : q = i
    · subst hqi
      rw [upd_s, upd_s]
    · rw [upd_n hqi, upd_n hqi, q2]
  · have hq : kP k ≤ q := hq
    rw [mS_s, hm.2 2 (by decide) (by decide), upd_n (by omega)]
    exact h3.2 q hq
  · exact (h4 q hq).c (k := k) (m := m) rfl rfl (fun c h1 h2 => by rw [kW_n (by omega)]) (fun c h1 h2 => by rw [mS_n (by omega), hm.2 c (by omega) (by omega)])
  · show k.2.2.2 p = ordY (k.2.1 1) ((kW k 11 i v).1 13) p (kC k)
    rw [kW_n (by decide)]
    exact h5 p hp
  · exact h6.c (fun c h1 h2 => kW_n (by omega)) ⟨by rw [mS_n (by decide), hm.2 3 (by decide) (by decide)], by rw [mS_n (by decide), hm.2 4 (by decide) (by decide)], by rw [mS_n (by decide), hm.2 5 (by decide) (by decide)]⟩
/-- open -/
theorem kOpen_v {k : KS} {ba mm : Int32} {c : Nat} {r : Nat → Option Nat} {q : Nat} (h1 : q ≠ 10) (h2 : q ≠ 11) (h3 : q ≠ 17) : (kOpen k ba mm c r).1 q = k.1 q := by
  show va_up (kPol k ba).1 17 _ q = _
  rw [pu_n h3 rfl]
  show (if q = 10 then _ else if q = 11 then _ else if q = 17 then _ else k.1 q) = _
  rw [if_neg h1, if_neg h2, if_neg h3]
theorem Rel.opened {a : Nat → Nat} {k : KS} {m : MS} {t0 n : Nat} {x mm : Int32} {c : Nat} {r : Nat → Option Nat} (hi : Iv a k) (h : Rel k m t0 n) (h4' : kP k < 4) (hx : 1 ≤ x.toInt ∧ x.toInt ≤ 1000) : Rel (kOpen k x mm c r) (mS (mS (mT m 0) 1 (kP k) x) 0 0 (m 0 0 + 1)) t0 (n + 1) := by
  obtain ⟨h1, h2, h3, h4, h5, h6⟩ := h
  have hm := mSm.t m 0
  have e10 : (kOpen k x mm c r).1 10 = upd (k.1 10) (kP k) x := rfl
  have e11 : (kOpen k x mm c r).1 11 = upd (k.1 11) (kP k) 0 := rfl
  have eP : kP (kOpen k x mm c r) = kP k + 1 := rfl
  have eC : kC (kOpen k x mm c r) = kC k := rfl
  have e1 : (kOpen k x mm c r).2.1 1 = k.2.1 1 := rfl
  have e2 : (kOpen k x mm c r).2.1 2 = k.2.1 2 := rfl
  have eo : (kOpen k x mm c r).2.2.2 = va_up k.2.2.2 (kP k) [] := rfl
  refine ⟨?_, ⟨⟨?_, ?_, ?_⟩, ?_, ?_⟩, ⟨fun q hq => ?_, fun q hq => ?_⟩, fun q hq => ?_, fun p hp => ?_, ?_⟩
  · unfold MInv at h1 ⊢
    rw [mS_s, upd_s, upd_n (by decide), upd_n (by decide), mS_n (by decide), hm.1 2 (by decide), hm.1 3 (by decide), eP, eC]
    exact ⟨⟨by rw [h1.1.1, nI_1], h1.1.2.1, h1.1.2.2⟩, by omega, h1.2.2.1, h1.2.2.2⟩
  · rw [mS_s, upd_n (by decide), mS_n (by decide), hm.1 1 (by decide), kOpen_v (by decide) (by decide) (by decide)]
    exact h2.1.1
  · rw [kOpen_v (by decide) (by decide) (by decide)]
    exact h2.1.2.1
  · rw [kOpen_v (by decide) (by decide) (by decide)]
    exact h2.1.2.2
  · rw [kOpen_v (by decide) (by decide) (by decide)]
    exact h2.2.1
  · rw [kOpen_v (by decide) (by decide) (by decide)]
    have := h2.2.2
    omega
  · rw [e10, e11, mS_n (by decide), mS_s, mS_n (by decide), mS_n (by decide), hm.2 1 (by decide) (by decide), hm.2 2 (by decide) (by decide)]
    by_cases hqi : q = kP k
    · subst hqi
      rw [upd_s, upd_s, upd_s, h3.2 _ (Nat.le_refl _)]
      exact ⟨⟨rfl, rfl⟩, hx⟩
    · rw [upd_n hqi, upd_n hqi, upd_n hqi]
      rw [eP] at hq
      exact h3.1 q (by omega)
  · rw [eP] at hq
    rw [mS_n (by decide), mS_n (by decide), hm.2 2 (by decide) (by decide)]
    exact h3.2 q (by omega)
  · exact (h4 q hq).c (k := k) (m := m) (by rw [e1]) (by rw [e2]) (fun c h1 h2 => by rw [kOpen_v (by omega) (by omega) (by omega)]) (fun c h1 h2 => by rw [mS_n (by omega), mS_n (by omega), hm.2 c (by omega) (by omega)])
  · rw [eP] at hp
    rw [eo, e1, eC, kOpen_v (by decide) (by decide) (by decide)]
    by_cases hpi : p = kP k
    · subst hpi
      rw [pu_s]
      exact (ordY_none (fun j hj => by have := (hi.2.2.2.2.2.2.2 j hj).1; omega)).symm
    · rw [pu_n hpi rfl]
      exact h5 p (by omega)
  · exact h6.c (fun c h1 h2 => kOpen_v (by omega) (by omega) (by omega)) ⟨by rw [mS_n (by decide), mS_n (by decide), hm.2 3 (by decide) (by decide)], by rw [mS_n (by decide), mS_n (by decide), hm.2 4 (by decide) (by decide)], by rw [mS_n (by decide), mS_n (by decide), hm.2 5 (by decide) (by decide)]⟩
/-- setWeight -/
theorem kTel_v {k : KS} {c d q : Nat} {w : Int32} (h0 : q ≠ 0) (h1 : q ≠ 4 + c) (h2 : q ≠ 7 + c) : (kTel k c w d).1 q = k.1 q := pu_n h0 (pu_n h2 (pu_n h1 rfl))
theorem Rel.tariff {k : KS} {m : MS} {t0 n c d : Nat} {w : Int32} (h : Rel k m t0 n) (ht : t0 < 20) (hc : c < 3) (hd : d < 365) (hw : 0 ≤ w.toInt ∧ w.toInt ≤ 100) : Rel (kTel k c w d) (mS (mS (mS (mS (mT m 0) 3 t0 (nI c)) 4 t0 w) 5 t0 (nI d)) 0 2 (m 0 2 + 1)) (t0 + 1) (n + 1) := by
  obtain ⟨h1, h2, h3, h4, h5, h6⟩ := h
  have hm := mSm.t m 0
  have g3 : mS (mS (mS (mS (mT m 0) 3 t0 (nI c)) 4 t0 w) 5 t0 (nI d)) 0 2 (m 0 2 + 1) 3 = upd (m 3) t0 (nI c) := by
    rw [mS_n (by decide), mS_n (by decide), mS_n (by decide), mS_s, hm.2 3 (by decide) (by decide)]
  have g4 : mS (mS (mS (mS (mT m 0) 3 t0 (nI c)) 4 t0 w) 5 t0 (nI d)) 0 2 (m 0 2 + 1) 4 = upd (m 4) t0 w := by
    rw [mS_n (by decide), mS_n (by decide), mS_s, mS_n (by decide), hm.2 4 (by decide) (by decide)]
  have g5 : mS (mS (mS (mS (mT m 0) 3 t0 (nI c)) 4 t0 w) 5 t0 (nI d)) 0 2 (m 0 2 + 1) 5 = upd (m 5) t0 (nI d) := by
    rw [mS_n (by decide), mS_s, mS_n (by decide), mS_n (by decide), hm.2 5 (by decide) (by decide)]
  have go : ∀ q, 1 ≤ q → q ≤ 12 → q ≠ 3 → q ≠ 4 → q ≠ 5 → mS (mS (mS (mS (mT m 0) 3 t0 (nI c)) 4 t0 w) 5 t0 (nI d)) 0 2 (m 0 2 + 1) q = m q := fun q a1 a2 a3 a4 a5 => by
    rw [mS_n (by omega), mS_n a5, mS_n a4, mS_n a3, hm.2 q a1 a2]
  have g0 : ∀ j, j < 4 → j ≠ 2 → mS (mS (mS (mS (mT m 0) 3 t0 (nI c)) 4 t0 w) 5 t0 (nI d)) 0 2 (m 0 2 + 1) 0 j = m 0 j := fun j a1 a2 => by
    rw [mS_s, upd_n a2, mS_n (by decide), mS_n (by decide), mS_n (by decide), hm.1 j a1]
  have g02 : mS (mS (mS (mS (mT m 0) 3 t0 (nI c)) 4 t0 w) 5 t0 (nI d)) 0 2 (m 0 2 + 1) 0 2 = m 0 2 + 1 := by rw [mS_s, upd_s]
  generalize mS (mS (mS (mS (mT m 0) 3 t0 (nI c)) 4 t0 w) 5 t0 (nI d)) 0 2 (m 0 2 + 1) = m' at g3 g4 g5 go g0 g02
  have hk0 : ∀ j, j ≠ 1 → (kTel k c w d).1 0 j = k.1 0 j := fun j hj => by
    show (kW _ 0 1 (k.1 0 1 + 1)).1 0 j = _
    rw [kW_s, upd_n hj]
    show va_up (va_up k.1 (4 + c) _) (7 + c) _ 0 j = _
    rw [pu_n (by omega) (pu_n (by omega) rfl)]
  have hk01 : (kTel k c w d).1 0 1 = k.1 0 1 + 1 := by
    show (kW _ 0 1 (k.1 0 1 + 1)).1 0 1 = _
    rw [kW_s, upd_s]
  refine ⟨?_, ⟨⟨?_, ?_, ?_⟩, ?_, ?_⟩, ?_, fun q hq => ?_, fun p hp => ?_, fun c2 d2 hc2 hd2 => ?_, fun b hb => ?_⟩
  · unfold MInv at h1 ⊢
    rw [g0 0 (by decide) (by decide), g02, g0 3 (by decide) (by decide)]
    exact ⟨⟨h1.1.1, by rw [h1.1.2.1, nI_1], h1.1.2.2⟩, h1.2.1, by omega, h1.2.2.2⟩
  · rw [g0 1 (by decide) (by decide), hk0 0 (by decide)]
    exact h2.1.1
  · rw [hk01, h2.1.2.1, nI_1]
  · rw [kTel_v (by decide) (by omega) (by omega)]
    exact h2.1.2.2
  · rw [hk0 0 (by decide)]
    exact h2.2.1
  · rw [hk0 0 (by decide)]
    have := h2.2.2
    omega
  · unfold PoR
    rw [kTel_v (by decide) (by omega) (by omega), kTel_v (by decide) (by omega) (by omega), go 1 (by decide) (by decide) (by decide) (by decide) (by decide), go 2 (by decide) (by decide) (by decide) (by decide) (by decide)]
    exact h3
  · exact (h4 q hq).c (k := k) (m := m) rfl rfl (fun c9 h1 h2 => by rw [kTel_v (by omega) (by omega) (by omega)]) (fun c9 h1 h2 => by rw [go c9 (by omega) (by omega) (by omega) (by omega) (by omega)])
  · show k.2.2.2 p = ordY (k.2.1 1) ((kTel k c w d).1 13) p (kC k)
    rw [kTel_v (by decide) (by omega) (by omega)]
    exact h5 p hp
  · obtain ⟨o1, o2⟩ := h6.1 c2 d2 hc2 hd2
    have hb := bst_new (m := m) (m' := m') (t0 := t0) (fun j hj => ⟨by rw [g3, upd_n (by omega)], by rw [g5, upd_n (by omega)]⟩) (by rw [g5, upd_s, nI_toInt (by omega)]; omega) (nI c2) (nI d2)
    rw [g3, g5, upd_s, upd_s, nI_toInt (by omega), nI_toInt (by omega)] at hb
    have hk4 : ∀ q, q < 3 → (kTel k c w d).1 (4 + q) = if q = c then telG (k.1 (4 + c)) (k.1 (7 + c)) w d 365 else k.1 (4 + q) := fun q hq => by
      show va_up (va_up (va_up k.1 (4 + c) _) (7 + c) _) 0 _ (4 + q) = _
      rw [pu_n (by omega) (pu_n (by omega) rfl)]
      by_cases hqc : q = c
      · subst hqc
        rw [if_pos rfl, pu_s]
      · rw [if_neg hqc, pu_n (by omega) rfl]
    have hk7 : ∀ q, q < 3 → (kTel k c w d).1 (7 + q) = if q = c then telG (k.1 (7 + c)) (k.1 (7 + c)) (nI d) d 365 else k.1 (7 + q) := fun q hq => by
      show va_up (va_up (va_up k.1 (4 + c) _) (7 + c) _) 0 _ (7 + q) = _
      rw [pu_n (by omega) rfl]
      by_cases hqc : q = c
      · subst hqc
        rw [if_pos rfl, pu_s]
      · rw [if_neg hqc, pu_n (by omega) (pu_n (by omega) rfl)]
    rw [hk4 c2 hc2, hk7 c2 hc2]
    by_cases hcond : c = c2 ∧ d ≤ d2 ∧ (sgM m t0 (nI c2) (nI d2)).toInt ≤ (d : Int)
    · obtain ⟨e1, e2, e3⟩ := hcond
      subst e1
      rw [if_pos ⟨⟨rfl, by omega⟩, e3⟩] at hb
      rw [if_pos rfl, if_pos rfl, wgM_s hb, sgM_s hb, g4, g5, upd_s, upd_s]
      rw [← o2] at e3
      exact ⟨if_pos ⟨hd2, e2, e3⟩, if_pos ⟨hd2, e2, e3⟩⟩
    · have hn : ¬ ((nI c = nI c2 ∧ (d : Int) ≤ (d2 : Int)) ∧ (sgM m t0 (nI c2) (nI d2)).toInt ≤ (d : Int)) := by
        rintro ⟨⟨e1, e2⟩, e3⟩
        exact hcond ⟨(nI_eq (by omega) (by omega)).mp e1, by omega, e3⟩
      rw [if_neg hn] at hb
      have ew : wgM m' (t0 + 1) (nI c2) (nI d2) = wgM m t0 (nI c2) (nI d2) ∧ sgM m' (t0 + 1) (nI c2) (nI d2) = sgM m t0 (nI c2) (nI d2) := by
        rcases hq : bst m (nI c2) (nI d2) t0 with _ | b
        · rw [wgM_n hq, wgM_n (hb.trans hq), sgM_n hq, sgM_n (hb.trans hq)]
          exact ⟨rfl, rfl⟩
        · have hbl := bst_lt m _ _ t0 b hq
          rw [wgM_s hq, wgM_s (hb.trans hq), sgM_s hq, sgM_s (hb.trans hq), g4, g5, upd_n (by omega), upd_n (by omega)]
          exact ⟨rfl, rfl⟩
      rw [ew.1, ew.2]
      by_cases hcc : c2 = c
      · subst hcc
        rw [if_pos rfl, if_pos rfl]
        have hn2 : ¬ (d2 < 365 ∧ d ≤ d2 ∧ (k.1 (7 + c2) d2).toInt ≤ (d : Int)) := by
          rintro ⟨-, e2, e3⟩
          rw [o2] at e3
          exact hcond ⟨rfl, e2, e3⟩
        exact ⟨(if_neg hn2).trans o1, (if_neg hn2).trans o2⟩
      · rw [if_neg hcc, if_neg hcc]
        exact ⟨o1, o2⟩
  · rw [g4, g5]
    by_cases hbt : b = t0
    · subst hbt
      rw [upd_s, upd_s]
      exact ⟨hw, by show 0 ≤ (nI d).toInt ∧ (nI d).toInt ≤ 364; rw [nI_toInt (by omega)]; omega⟩
    · rw [upd_n hbt, upd_n hbt]
      exact h6.2 b (by omega)
/-- a change is told -/
theorem kTold_v {k : KS} {i kd : Nat} {fl fr am m1 m2 : Int32} {c1 c2 : Nat} {r1 r2 : Nat → Option Nat} {q : Nat} (h : q < 12) : (kTold k i kd fl fr am m1 m2 c1 c2 r1 r2).1 q = k.1 q := by
  show va_up (va_up (kChg k i kd fl fr am _).1 17 _) 17 _ q = _
  rw [pu_n (by omega) (pu_n (by omega) rfl)]
  show (if q = 12 then _ else if q = 13 then _ else if q = 14 then _ else if q = 15 then _ else if q = 16 then _ else k.1 q) = _
  rw [if_neg (by omega), if_neg (by omega), if_neg (by omega), if_neg (by omega), if_neg (by omega)]
theorem Rel.told {k : KS} {m : MS} {t0 n i kd : Nat} {fl am y m1 m2 : Int32} {x c1 c2 : Nat} {r1 r2 : Nat → Option Nat} (h : Rel k m t0 n) (hi : i < kP k) (hkd : kd < 4) (h60 : kC k < 60) (hx : x < 365) (hfl : kd < 2 → fl = y) (hy : ∃ w, w < 3 ∧ y = nI w) (ham : kd = 0 → 0 ≤ am.toInt ∧ am.toInt ≤ 20) : Rel (kTold k i kd fl (nI x) am m1 m2 c1 c2 r1 r2) (mTell m (kC k) (nI i) (nI kd) y (nI x) am) t0 (n + 1) := by
  have hp4 := h.p4 hi
  obtain ⟨h1, h2, h3, h4, h5, h6⟩ := h
  have hm := mSm.t m 0
  have gq : ∀ q, 1 ≤ q → q < 6 → mTell m (kC k) (nI i) (nI kd) y (nI x) am q = m q := fun q a1 a2 => by
    show mS (mS (mS (mS (mS (mS (mS (mS (mT m 0) 6 (kC k) (nI i)) 7 (kC k) (nI kd)) 8 (kC k) y) 9 (kC k) (nI x)) 10 (kC k) am) 11 (kC k) (m 0 1)) 12 (kC k) (-1)) 0 3 (m 0 3 + 1) q = _
    rw [mS_n (by omega), mS_n (by omega), mS_n (by omega), mS_n (by omega), mS_n (by omega), mS_n (by omega), mS_n (by omega), mS_n (by omega), hm.2 q a1 (by omega)]
  have gc : ∀ q, 6 ≤ q → q ≤ 12 → ∀ j, j ≠ kC k → mTell m (kC k) (nI i) (nI kd) y (nI x) am q j = m q j := fun q a1 a2 j hj => by
    show mS (mS (mS (mS (mS (mS (mS (mS (mT m 0) 6 (kC k) (nI i)) 7 (kC k) (nI kd)) 8 (kC k) y) 9 (kC k) (nI x)) 10 (kC k) am) 11 (kC k) (m 0 1)) 12 (kC k) (-1)) 0 3 (m 0 3 + 1) q j = _
    rw [mS_n (by omega)]
    have st : ∀ (m9 : MS) (c : Nat) (v : Int32), mS m9 c (kC k) v q j = m9 q j := fun m9 c v => by
      by_cases hc : q = c
      · subst hc
        rw [mS_s, upd_n hj]
      · rw [mS_n hc]
    rw [st, st, st, st, st, st, st, hm.2 q (by omega) (by omega)]
  have g0 : ∀ j, j < 3 → mTell m (kC k) (nI i) (nI kd) y (nI x) am 0 j = m 0 j := fun j hj => by
    show mS (mS (mS (mS (mS (mS (mS (mS (mT m 0) 6 (kC k) (nI i)) 7 (kC k) (nI kd)) 8 (kC k) y) 9 (kC k) (nI x)) 10 (kC k) am) 11 (kC k) (m 0 1)) 12 (kC k) (-1)) 0 3 (m 0 3 + 1) 0 j = _
    rw [mS_s, upd_n (by omega), mS_n (by decide), mS_n (by decide), mS_n (by decide), mS_n (by decide), mS_n (by decide), mS_n (by decide), mS_n (by decide), hm.1 j (by omega)]
  have g03 : mTell m (kC k) (nI i) (nI kd) y (nI x) am 0 3 = m 0 3 + 1 := by
    show mS (mS (mS (mS (mS (mS (mS (mS (mT m 0) 6 (kC k) (nI i)) 7 (kC k) (nI kd)) 8 (kC k) y) 9 (kC k) (nI x)) 10 (kC k) am) 11 (kC k) (m 0 1)) 12 (kC k) (-1)) 0 3 (m 0 3 + 1) 0 3 = _
    rw [mS_s, upd_s]
  have gn : mTell m (kC k) (nI i) (nI kd) y (nI x) am 6 (kC k) = nI i ∧ mTell m (kC k) (nI i) (nI kd) y (nI x) am 7 (kC k) = nI kd ∧ mTell m (kC k) (nI i) (nI kd) y (nI x) am 8 (kC k) = y ∧ mTell m (kC k) (nI i) (nI kd) y (nI x) am 9 (kC k) = nI x ∧ mTell m (kC k) (nI i) (nI kd) y (nI x) am 10 (kC k) = am ∧ mTell m (kC k) (nI i) (nI kd) y (nI x) am 11 (kC k) = m 0 1 ∧ mTell m (kC k) (nI i) (nI kd) y (nI x) am 12 (kC k) = -1 := by
    unfold mTell
    refine ⟨?_, ?_, ?_, ?_, ?_, ?_, ?_⟩
    · rw [mS_n (by decide), mS_n (by decide), mS_n (by decide), mS_n (by decide), mS_n (by decide), mS_n (by decide), mS_n (by decide), mS_s, upd_s]
    · rw [mS_n (by decide), mS_n (by decide), mS_n (by decide), mS_n (by decide), mS_n (by decide), mS_n (by decide), mS_s, upd_s]
    · rw [mS_n (by decide), mS_n (by decide), mS_n (by decide), mS_n (by decide), mS_n (by decide), mS_s, upd_s]
    · rw [mS_n (by decide), mS_n (by decide), mS_n (by decide), mS_n (by decide), mS_s, upd_s]
    · rw [mS_n (by decide), mS_n (by decide), mS_n (by decide), mS_s, upd_s]
    · rw [mS_n (by decide), mS_n (by decide), mS_s, upd_s]
    · rw [mS_n (by decide), mS_s, upd_s]
  generalize mTell m (kC k) (nI i) (nI kd) y (nI x) am = m' at gq gc g0 g03 gn
  have e12 : (kTold k i kd fl (nI x) am m1 m2 c1 c2 r1 r2).1 12 = upd (k.1 12) (kC k) fl := rfl
  have e13 : (kTold k i kd fl (nI x) am m1 m2 c1 c2 r1 r2).1 13 = upd (k.1 13) (kC k) (nI x) := rfl
  have e14 : (kTold k i kd fl (nI x) am m1 m2 c1 c2 r1 r2).1 14 = upd (k.1 14) (kC k) am := rfl
  have e15 : (kTold k i kd fl (nI x) am m1 m2 c1 c2 r1 r2).1 15 = upd (k.1 15) (kC k) (k.1 0 0) := rfl
  have e16 : (kTold k i kd fl (nI x) am m1 m2 c1 c2 r1 r2).1 16 = upd (k.1 16) (kC k) (-1) := rfl
  have eP : kP (kTold k i kd fl (nI x) am m1 m2 c1 c2 r1 r2) = kP k := rfl
  have eC : kC (kTold k i kd fl (nI x) am m1 m2 c1 c2 r1 r2) = kC k + 1 := rfl
  have f1 : (kTold k i kd fl (nI x) am m1 m2 c1 c2 r1 r2).2.1 1 = va_up (k.2.1 1) (kC k) i := rfl
  have f2 : (kTold k i kd fl (nI x) am m1 m2 c1 c2 r1 r2).2.1 2 = va_up (k.2.1 2) (kC k) kd := rfl
  have fo : (kTold k i kd fl (nI x) am m1 m2 c1 c2 r1 r2).2.2.2 = va_up k.2.2.2 i (insO (k.1 13) (nI x) (kC k) (k.2.2.2 i)) := rfl
  have ev : ∀ q, q < 12 → (kTold k i kd fl (nI x) am m1 m2 c1 c2 r1 r2).1 q = k.1 q := fun q hq => kTold_v hq
  generalize kTold k i kd fl (nI x) am m1 m2 c1 c2 r1 r2 = k' at e12 e13 e14 e15 e16 eP eC f1 f2 fo ev
  refine ⟨?_, ⟨⟨?_, ?_, ?_⟩, ?_, ?_⟩, ?_, fun j hj => ?_, fun p hp => ?_, ?_⟩
  · unfold MInv at h1 ⊢
    rw [g0 0 (by decide), g0 2 (by decide), g03, eP, eC]
    exact ⟨⟨h1.1.1, h1.1.2.1, by rw [h1.1.2.2, nI_1]⟩, h1.2.1, h1.2.2.1, by omega⟩
  · rw [g0 1 (by decide), ev 0 (by decide)]
    exact h2.1.1
  · rw [ev 0 (by decide)]
    exact h2.1.2.1
  · rw [ev 3 (by decide)]
    exact h2.1.2.2
  · rw [ev 0 (by decide)]
    exact h2.2.1
  · rw [ev 0 (by decide)]
    have := h2.2.2
    omega
  · unfold PoR
    rw [ev 10 (by decide), ev 11 (by decide), gq 1 (by decide) (by decide), gq 2 (by decide) (by decide), eP]
    exact h3
  · rw [eC] at hj
    by_cases hjn : j = kC k
    · subst hjn
      unfold ChR
      rw [e12, e13, e14, e15, e16, f1, f2, gn.1, gn.2.1, gn.2.2.1, gn.2.2.2.1, gn.2.2.2.2.1, gn.2.2.2.2.2.1, gn.2.2.2.2.2.2, upd_s, upd_s, upd_s, upd_s, upd_s, pu_s, pu_s]
      refine ⟨⟨rfl, rfl⟩, ⟨rfl, rfl⟩, ⟨h2.1.1, rfl⟩, ⟨hp4, hkd⟩, hfl, hy, ?_, by decide, ham⟩
      show 0 ≤ (nI x).toInt ∧ (nI x).toInt ≤ 364
      rw [nI_toInt (by omega)]
      omega
    · refine (h4 j (by omega)).c (k := k) (m := m) (by rw [f1, pu_n hjn rfl]) (by rw [f2, pu_n hjn rfl]) (fun c a1 a2 => ?_) (fun c a1 a2 => gc c a1 a2 j hjn)
      rcases c5 a1 a2 with rfl | rfl | rfl | rfl | rfl
      · rw [e12, upd_n hjn]
      · rw [e13, upd_n hjn]
      · rw [e14, upd_n hjn]
      · rw [e15, upd_n hjn]
      · rw [e16, upd_n hjn]
  · rw [eP] at hp
    rw [fo, f1, e13, eC]
    by_cases hpi : p = i
    · subst hpi
      rw [pu_s, ordY_new _ _ _ _ _ hx, ← h5 p hp]
    · rw [pu_n hpi rfl, ordY_oth _ _ _ _ _ hpi]
      exact h5 p hp
  · exact h6.c (fun c a1 a2 => ev c (by omega)) ⟨gq 3 (by decide) (by decide), gq 4 (by decide) (by decide), gq 5 (by decide) (by decide)⟩
end UPD
