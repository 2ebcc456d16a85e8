/-! what ties the two states -/
section REL
def PoR (k : KS) (m : MS) : Prop := (∀ i, i < kP k → (k.1 10 i = m 1 i ∧ k.1 11 i = m 2 i) ∧ 1 ≤ (m 1 i).toInt ∧ (m 1 i).toInt ≤ 1000) ∧ ∀ i, kP k ≤ i → m 2 i = 0
def TrR (k : KS) (m : MS) (t0 : Nat) : Prop := (∀ c d, c < 3 → d < 365 → k.1 (4 + c) d = wgM m t0 (nI c) (nI d) ∧ k.1 (7 + c) d = sgM m t0 (nI c) (nI d)) ∧ ∀ b, b < t0 → (0 ≤ (m 4 b).toInt ∧ (m 4 b).toInt ≤ 100) ∧ dayP (m 5 b)
def Rel (k : KS) (m : MS) (t0 n : Nat) : Prop :=
  MInv m (kP k) t0 (kC k) ∧ ((m 0 1 = k.1 0 0 ∧ k.1 0 1 = nI t0 ∧ k.1 3 0 = 0) ∧ 0 ≤ (k.1 0 0).toInt ∧ (k.1 0 0).toInt ≤ 100 * (n : Int)) ∧ PoR k m ∧ (∀ j, j < kC k → ChR k m j) ∧ (∀ i, i < kP k → k.2.2.2 i = ordY (k.2.1 1) (k.1 13) i (kC k)) ∧ TrR k m t0
/-- states that differ in what each call lays out anew alone -/
def kSm (k k' : KS) : Prop := k'.2 = k.2 ∧ (k'.1 0 0 = k.1 0 0 ∧ k'.1 0 1 = k.1 0 1 ∧ k'.1 3 0 = k.1 3 0) ∧ ∀ c, 4 ≤ c → k'.1 c = k.1 c
def mSm (m m' : MS) : Prop := (∀ j, j < 4 → m' 0 j = m 0 j) ∧ ∀ c, 1 ≤ c → c ≤ 12 → m' c = m c
theorem mSm.rf (m : MS) : mSm m m := ⟨fun _ _ => rfl, fun _ _ _ => rfl⟩
theorem mSm.tr {m m' m'' : MS} (h : mSm m m') (h' : mSm m' m'') : mSm m m'' := ⟨fun j hj => (h'.1 j hj).trans (h.1 j hj), fun c h1 h2 => (h'.2 c h1 h2).trans (h.2 c h1 h2)⟩
theorem mSm.t (m : MS) (t : Int32) : mSm m (mT m t) := by
  refine ⟨fun j hj => ?_, fun c h1 h2 => pu_n (by omega) rfl⟩
  show va_up m 0 (upd (m 0) 4 t) 0 j = m 0 j
  rw [pu_s, upd_n (by omega)]
theorem mSm.g (m : MS) (R C T S : Nat → Int32) : mSm m (gK m R C T S) := by
  refine ⟨fun j hj => ?_, fun c h1 h2 => ?_⟩
  · have e : gK m R C T S 0 = m 0 := pu_n (by decide) (pu_n (by decide) (pu_n (by decide) (pu_n (by decide) rfl)))
    rw [e]
  · exact pu_n (by omega) (pu_n (by omega) (pu_n (by omega) (pu_n (by omega) rfl)))
theorem mT_4 (m : MS) (t : Int32) : mT m t 0 4 = t := by
  show va_up m 0 (upd (m 0) 4 t) 0 4 = t
  rw [pu_s, upd_s]
theorem gK_4 (m : MS) (R C T S : Nat → Int32) : gK m R C T S 0 4 = m 0 4 := by
  have e : gK m R C T S 0 = m 0 := pu_n (by decide) (pu_n (by decide) (pu_n (by decide) (pu_n (by decide) rfl)))
  rw [e]
theorem kSm.rf (k : KS) : kSm k k := ⟨rfl, ⟨rfl, rfl, rfl⟩, fun _ _ => rfl⟩
theorem kSm.scr (k : KS) (st : VS) (rt sm : Nat → Int32) (h : sm 0 = k.1 3 0) : kSm k (kScr k st rt sm) := by
  refine ⟨rfl, ⟨?_, ?_, ?_⟩, fun c hc => ?_⟩
  · show va_up (va_up (va_up (va_up k.1 2 rt) 3 sm) 1 st.1) 0 (upd (va_up (va_up (va_up k.1 2 rt) 3 sm) 1 st.1 0) 2 st.2) 0 0 = _
    rw [pu_s, upd_n (by decide), pu_n (by decide) (pu_n (by decide) (pu_n (by decide) rfl))]
  · show va_up (va_up (va_up (va_up k.1 2 rt) 3 sm) 1 st.1) 0 (upd (va_up (va_up (va_up k.1 2 rt) 3 sm) 1 st.1 0) 2 st.2) 0 1 = _
    rw [pu_s, upd_n (by decide), pu_n (by decide) (pu_n (by decide) (pu_n (by decide) rfl))]
  · rw [kScr_3, h]
  · exact pu_n (by omega) (pu_n (by omega) (pu_n (by omega) (pu_n (by omega) rfl)))
theorem sgM_c {m m' : MS} {t0 : Nat} (h : mSm m m') (y d : Int32) : sgM m' t0 y d = sgM m t0 y d ∧ wgM m' t0 y d = wgM m t0 y d := by
  have e : bst m' y d t0 = bst m y d t0 := bst_c y d t0 (fun j _ => ⟨by rw [h.2 3 (by decide) (by decide)], by rw [h.2 5 (by decide) (by decide)]⟩)
  rcases hq : bst m y d t0 with _ | b
  · rw [sgM_n hq, sgM_n (e.trans hq), wgM_n hq, wgM_n (e.trans hq)]
    exact ⟨rfl, rfl⟩
  · rw [sgM_s hq, sgM_s (e.trans hq), wgM_s hq, wgM_s (e.trans hq), h.2 5 (by decide) (by decide), h.2 4 (by decide) (by decide)]
    exact ⟨rfl, rfl⟩
theorem ChR.sm {k k' : KS} {m m' : MS} {j : Nat} (hk : kSm k k') (hm : mSm m m') (h : ChR k m j) : ChR k' m' j := by
  obtain ⟨v, q⟩ := k
  obtain ⟨v', q'⟩ := k'
  obtain ⟨h1, h2, h3⟩ := hk
  dsimp only at h1 h2 h3
  subst h1
  unfold ChR at h ⊢
  dsimp only at h ⊢
  rw [h3 12 (by decide), h3 13 (by decide), h3 14 (by decide), h3 15 (by decide), h3 16 (by decide), hm.2 6 (by decide) (by decide), hm.2 7 (by decide) (by decide), hm.2 8 (by decide) (by decide), hm.2 9 (by decide) (by decide), hm.2 10 (by decide) (by decide), hm.2 11 (by decide) (by decide), hm.2 12 (by decide) (by decide)]
  exact h
theorem Rel.sm {k k' : KS} {m m' : MS} {t0 n n' : Nat} (hk : kSm k k') (hm : mSm m m') (hn : n ≤ n') (h : Rel k m t0 n) : Rel k' m' t0 n' := by
  obtain ⟨h1, h2, h3, h4, h5, h6, h7⟩ := h
  have e2 : k'.2 = k.2 := hk.1
  have eP : kP k' = kP k := by
    show k'.2.1 0 0 = k.2.1 0 0
    rw [e2]
  have eC : kC k' = kC k := by
    show k'.2.1 0 1 = k.2.1 0 1
    rw [e2]
  refine ⟨?_, ?_, ?_, ?_, ?_, ?_, ?_⟩
  · unfold MInv at h1 ⊢
    rw [eP, eC, hm.1 0 (by decide), hm.1 2 (by decide), hm.1 3 (by decide)]
    exact h1
  · rw [hm.1 1 (by decide), hk.2.1.1, hk.2.1.2.1, hk.2.1.2.2]
    exact ⟨h2.1, h2.2.1, by have := h2.2.2; omega⟩
  · unfold PoR
    rw [eP, hk.2.2 10 (by decide), hk.2.2 11 (by decide), hm.2 1 (by decide) (by decide), hm.2 2 (by decide) (by decide)]
    exact h3
  · intro j hj
    rw [eC] at hj
    exact (h4 j hj).sm hk hm
  · intro i hi
    rw [eP] at hi
    rw [eC, e2, hk.2.2 13 (by decide)]
    exact h5 i hi
  · intro c d hc hd
    rw [hk.2.2 (4 + c) (by omega), hk.2.2 (7 + c) (by omega), (sgM_c hm _ _).1, (sgM_c hm _ _).2]
    exact h6 c d hc hd
  · intro b hb
    rw [hm.2 4 (by decide) (by decide), hm.2 5 (by decide) (by decide)]
    exact h7 b hb
theorem Rel.more {k : KS} {m : MS} {t0 n : Nat} (h : Rel k m t0 n) : Rel k m t0 (n + 1) := h.sm (kSm.rf k) (mSm.rf m) (Nat.le_succ n)
theorem Iv.sm {a : Nat → Nat} {k k' : KS} (hk : kSm k k') (h : Iv a k) : Iv a k' := by
  obtain ⟨v, q⟩ := k
  obtain ⟨v', q'⟩ := k'
  obtain ⟨h1, -, -⟩ := hk
  dsimp only at h1
  subst h1
  exact h
theorem IvL.sm {k k' : KS} (hk : kSm k k') (h : IvL k) : IvL k' := by
  obtain ⟨v, q⟩ := k
  obtain ⟨v', q'⟩ := k'
  obtain ⟨h1, -, -⟩ := hk
  dsimp only at h1
  subst h1
  exact h
/-- the demands, told twice -/
theorem Rel.pol {k : KS} {m : MS} {t0 n : Nat} (h : Rel k m t0 n) (x : Int32) : mPol m x ↔ polP k x := by
  have hp := h.1.2.1
  show ((0 : Int32).toInt ≤ x.toInt ∧ x.toInt ≤ (m 0 0 - 1).toInt) ↔ (0 ≤ x.toInt ∧ x.toInt < (kP k : Nat))
  rw [h.1.1.1, i32_0]
  rcases Nat.eq_zero_or_pos (kP k) with h0 | h0
  · rw [h0, show (nI 0 - 1).toInt = -1 from rfl]
    omega
  · rw [nI_i1 h0, nI_toInt (by omega)]
    omega
theorem Rel.chg {k : KS} {m : MS} {t0 n : Nat} (h : Rel k m t0 n) (x : Int32) : mChg m x ↔ chgP k x := by
  have hp := h.1.2.2.2
  show ((0 : Int32).toInt ≤ x.toInt ∧ x.toInt ≤ (m 0 3 - 1).toInt) ↔ (0 ≤ x.toInt ∧ x.toInt < (kC k : Nat))
  rw [h.1.1.2.2, i32_0]
  rcases Nat.eq_zero_or_pos (kC k) with h0 | h0
  · rw [h0, show (nI 0 - 1).toInt = -1 from rfl]
    omega
  · rw [nI_i1 h0, nI_toInt (by omega)]
    omega
theorem fld_iff (y : Int32) : mFld y ↔ fldP y := by
  show ((0 : Int32).toInt ≤ y.toInt ∧ y.toInt ≤ (2 : Int32).toInt) ↔ (0 ≤ y.toInt ∧ y.toInt < 3)
  rw [i32_0, show (2 : Int32).toInt = 2 from rfl]
  omega
theorem day_iff (y : Int32) : mDay y ↔ dayP y := by
  show ((0 : Int32).toInt ≤ y.toInt ∧ y.toInt ≤ (364 : Int32).toInt) ↔ (0 ≤ y.toInt ∧ y.toInt ≤ 364)
  rw [i32_0, show (364 : Int32).toInt = 364 from rfl]
theorem Rel.kn {k : KS} {m : MS} {t0 n : Nat} (h : Rel k m t0 n) (y : Int32) : knI m y ↔ knP k y := by
  show ((0 : Int32).toInt ≤ y.toInt ∧ y.toInt ≤ (m 0 1).toInt) ↔ (0 ≤ y.toInt ∧ y.toInt ≤ (k.1 0 0).toInt)
  rw [i32_0, h.2.1.1.1]
theorem fld0 : mFld 0 := (fld_iff 0).mpr ⟨by decide, by decide⟩
theorem day0 : mDay 0 := (day_iff 0).mpr ⟨by decide, by decide⟩
theorem Rel.kn0 {k : KS} {m : MS} {t0 n : Nat} (h : Rel k m t0 n) : knI m (m 0 1) := (h.kn _).mpr ⟨by rw [h.2.1.1.1]; exact h.2.1.2.1, by rw [h.2.1.1.1]; exact Int.le_refl _⟩
theorem Rel.wh {k : KS} {m : MS} {t0 n : Nat} (h : Rel k m t0 n) : whP m (kC k) := fun c hc => (h.2.2.2.1 c hc).2.2.2.2.2.1
theorem Rel.p4 {k : KS} {m : MS} {t0 n i : Nat} (h : Rel k m t0 n) (hi : i < kP k) : i < 4 := Nat.lt_of_lt_of_le hi h.1.2.1
theorem Rel.ver {k : KS} {m : MS} {t0 n i d : Nat} {kn : Int32} (h : Rel k m t0 n) (hi : i < kP k) (hd : d < 365) : verS k i (nI d) kn = goM m i kn (kC k) (d + 1) := ver_go h.2.2.2.1 (h.p4 hi) (h.2.2.2.2.1 i hi) hd
theorem Rel.rate {k : KS} {m : MS} {t0 n i d : Nat} {kn : Int32} (h : Rel k m t0 n) (hi : i < kP k) (hd : d < 365) : rateV k i (verS k i (nI d) kn) d = rtM m i kn (kC k) t0 d := by
  rw [h.ver hi hd]
  generalize hst : goM m i kn (kC k) (d + 1) = st
  show (if st.2 = 0 then (0 : Int32) else k.1 10 i + st.1 0 * k.1 4 d + st.1 1 * k.1 5 d + st.1 2 * k.1 6 d) = (if (goM m i kn (kC k) (d + 1)).2 = 0 then (0 : Int32) else itM m i t0 d (goM m i kn (kC k) (d + 1)).1 3)
  rw [hst]
  have w0 := (h.2.2.2.2.2.1 0 d (by decide) hd).1
  have w1 := (h.2.2.2.2.2.1 1 d (by decide) hd).1
  have w2 := (h.2.2.2.2.2.1 2 d (by decide) hd).1
  have e : itM m i t0 d st.1 3 = m 1 i + st.1 0 * wgM m t0 (nI 0) (nI d) + st.1 1 * wgM m t0 (nI 1) (nI d) + st.1 2 * wgM m t0 (nI 2) (nI d) := rfl
  rw [e, ← w0, ← w1, ← w2, ← (h.2.2.1.1 i hi).1.1]
theorem Rel.pos {k : KS} {m : MS} {t0 n i d : Nat} {kn : Int32} (h : Rel k m t0 n) (hi : i < kP k) : 0 ≤ (rtM m i kn (kC k) t0 d).toInt := by
  obtain ⟨-, hb1, hb2⟩ := h.2.2.1.1 i hi
  obtain ⟨b, hb, e⟩ := nI_of2 (x := m 1 i) (M := 1000) (n := 1000) rfl (by rw [i32_lt, i32_0]; omega) (by rw [i32_le, show (1000 : Int32).toInt = 1000 from rfl]; omega)
  refine rt_ok (b := b) (fun c hc h7 => ?_) e hb (fun f hf => ?_)
  · have hC := h.2.2.2.1 c hc
    have e7 : k.2.1 2 c = 0 := by
      rw [hC.1.2] at h7
      exact (nI_eq (by have := hC.2.2.2.1.2; omega) (by decide)).mp (h7.trans nI_0.symm)
    obtain ⟨h8, h9⟩ := hC.2.2.2.2.2.2.2.2 e7
    rw [hC.2.1.2]
    exact nI_of2 (M := 20) (n := 20) rfl (by rw [i32_lt, i32_0]; omega) (by rw [i32_le, show (20 : Int32).toInt = 20 from rfl]; omega)
  · rcases hq : bst m (nI f) (nI d) t0 with _ | b9
    · exact ⟨1, by omega, wgM_n hq⟩
    · obtain ⟨⟨h8, h9⟩, -⟩ := h.2.2.2.2.2.2 b9 (bst_lt m _ _ t0 b9 hq)
      obtain ⟨w, hw, ew⟩ := nI_of2 (x := m 4 b9) (M := 100) (n := 100) rfl (by rw [i32_lt, i32_0]; omega) (by rw [i32_le, show (100 : Int32).toInt = 100 from rfl]; omega)
      exact ⟨w, hw, (wgM_s hq).trans ew⟩
/-- the class's year holds the reference's rates -/
theorem Rel.yr {k : KS} {m : MS} {t0 n i : Nat} {kn : Int32} {rt sm : Nat → Int32} (h : Rel k m t0 n) (hi : i < kP k) (hy : isYr k i kn rt sm) : ∀ d, d < 365 → rt d = rtM m i kn (kC k) t0 d := fun d hd => by
  rw [hy.rt hd, yRate_ver k i kn hd, h.rate hi hd]
theorem Rel.sums {k : KS} {m : MS} {t0 n i : Nat} {kn : Int32} {rt sm T S : Nat → Int32} (h : Rel k m t0 n) (hi : i < kP k) (hy : isYr k i kn rt sm) (hS0 : S 0 = 0) (hS : ∀ d, d < 365 → S (d + 1) = S d + T d) (hT : ∀ d, d < 365 → T d = rtM m i kn (kC k) t0 d) : ∀ d, d ≤ 365 → sm d = S d := fun d hd => by
  rw [hy.sm hd, sum_same k i kn h.2.1.1.2.2 hS0 hS (fun d hd => by rw [hT d hd, ← h.rate hi hd, yRate_ver k i kn hd]) d hd]
theorem Rel.prem {k : KS} {m : MS} {t0 n i : Nat} {kn : Int32} {rt sm T S : Nat → Int32} (h : Rel k m t0 n) (hi : i < kP k) (hy : isYr k i kn rt sm) (hS0 : S 0 = 0) (hS : ∀ d, d < 365 → S (d + 1) = S d + T d) (hT : ∀ d, d < 365 → T d = rtM m i kn (kC k) t0 d) : sumP rt sm 365 = S 365 / 365 := by
  have e := h.sums hi hy hS0 hS hT
  rw [sumP_all (fun d hd => by rw [h.yr hi hy d hd]; exact h.pos hi) (fun d hd => by rw [e (d + 1) (by omega), e d (by omega), hS d hd, hT d hd, h.yr hi hy d hd]) (by rw [e 0 (by omega), hS0]), e 365 (Nat.le_refl _)]
theorem Rel.days {k : KS} {m : MS} {t0 n i : Nat} {kn : Int32} {T S : Nat → Int32} (h : Rel k m t0 n) (hi : i < kP k) (hS0 : S 0 = 0) (hS : ∀ d, d < 365 → S (d + 1) = S d + T d) (hT : ∀ d, d < 365 → T d = rtM m i kn (kC k) t0 d) : dSum k i kn 365 = S 365 := by
  rw [dSum_y k i kn h.2.1.1.2.2 365 (Nat.le_refl _), sum_same k i kn h.2.1.1.2.2 hS0 hS (fun d hd => by rw [hT d hd, ← h.rate hi hd, yRate_ver k i kn hd]) 365 (Nat.le_refl _)]
/-- which demand fails first, in numbers -/
theorem exT_one {t t' : Int32} : ∀ l : List (Int32 × Prop), exT l t → exT l t' → t = t'
  | [], h, _ => h.elim
  | x :: l, h, h' => by
    rcases h with ⟨a, b⟩ | ⟨a, b⟩
    · rcases h' with ⟨c, d⟩ | ⟨c, d⟩
      · rw [b, d]
      · exact absurd c a
    · rcases h' with ⟨c, d⟩ | ⟨c, d⟩
      · exact absurd a c
      · exact exT_one l b d
theorem exT_no {t : Int32} : ∀ l : List (Int32 × Prop), (∀ x, x ∈ l → x.2) → ¬ exT l t
  | [], _, h => h
  | x :: l, ha, h => by
    rcases h with ⟨a, -⟩ | ⟨-, b⟩
    · exact a (ha x List.mem_cons_self)
    · exact exT_no l (fun y hy => ha y (List.mem_cons_of_mem _ hy)) b
def allT : List (Int32 × Prop) → Prop
  | [] => True
  | x :: l => x.2 ∧ allT l
theorem exT_nn {t : Int32} : ∀ {l : List (Int32 × Prop)}, exT l t → allT l → False
  | [], h, _ => h
  | x :: l, h, ha => by
    rcases h with ⟨a, -⟩ | ⟨-, b⟩
    · exact a ha.1
    · exact exT_nn b ha.2
theorem exT_and {c t : Int32} {p q : Prop} {l : List (Int32 × Prop)} (h : exT ((c, p ∧ q) :: l) t) : exT ((c, p) :: (c, q) :: l) t := by
  show (¬ p ∧ t = c) ∨ (p ∧ ((¬ q ∧ t = c) ∨ (q ∧ exT l t)))
  rcases h with ⟨a, b⟩ | ⟨a, b⟩
  · by_cases hp : p
    · exact Or.inr ⟨hp, Or.inl ⟨fun hq => a ⟨hp, hq⟩, b⟩⟩
    · exact Or.inl ⟨hp, b⟩
  · exact Or.inr ⟨a.1, Or.inr ⟨a.2, b⟩⟩
theorem exT_cons {c t : Int32} {p q : Prop} {l l' : List (Int32 × Prop)} (h : exT ((c, p) :: l) t) (hpq : p ↔ q) (hl : exT l t → exT l' t) : exT ((c, q) :: l') t := by
  rcases h with ⟨a, b⟩ | ⟨a, b⟩
  · exact Or.inl ⟨fun hq => a (hpq.mpr hq), b⟩
  · exact Or.inr ⟨hpq.mp a, hl b⟩
theorem exT_true {c t : Int32} {p : Prop} {l : List (Int32 × Prop)} (h : exT ((c, p) :: l) t) (hp : p) : exT l t := h.elim (fun h => absurd hp h.1) (fun h => h.2)
/-- the exceptions' numbers -/
def cdE (codes : List (String × Int32)) : List (String × Prop) → List (Int32 × Prop) → Prop
  | [], [] => True
  | x :: D, y :: D' => ((∀ r, (x.1, r) ∈ codes → r = y.1) ∧ (x.2 ↔ y.2)) ∧ cdE codes D D'
  | _, _ => False
theorem exL_T {E : String} {r : Int32} {codes : List (String × Int32)} (hc : (E, r) ∈ codes) : ∀ (D : List (String × Prop)) (D' : List (Int32 × Prop)), exL D E → cdE codes D D' → exT D' r
  | [], [], h, _ => h
  | [], _ :: _, _, h => h.elim
  | _ :: _, [], _, h => h.elim
  | x :: D, y :: D', hE, h => by
    rcases hE with ⟨a, b⟩ | ⟨a, b⟩
    · exact Or.inl ⟨fun hy => a (h.1.2.mpr hy), h.1.1 r (b ▸ hc)⟩
    · exact Or.inr ⟨h.1.2.mp a, exL_T hc D D' b h.2⟩
end REL
