/-! one call: what the class answered and what the reference answered -/
section JOINT
/-- how the class's answer came to the law -/
def WrQ (post : Int32 → PE → Prop) (ex : String → PE → Prop) (codes : List (String × Int32)) (La : List Nat) (f1 : Nat → va_E) (ro : Nat → Int64) (r : Int32) : Prop := (r = 0 ∧ ∃ v, post v (La, f1) ∧ ro 0 = v.toInt64) ∨ ∃ E, ex E (La, f1) ∧ (E, r) ∈ codes
/-- the two states behind a call -/
def Jn (g : GE) (a0 : Nat) (am : Nat → Nat) (La Lm : List Nat) (f1 : Nat → va_E) (u : PE) (n : Nat) (r : Int32) : Prop := u.1 = Lm ∧ ∃ (a : Nat → Nat) (k : KS) (m : MS) (t0 : Nat), a 0 = a0 ∧ (CW g a k La f1 ∧ Iv a k ∧ IvL k) ∧ MW g am m Lm u.2 ∧ Rel k m t0 n ∧ m 0 4 = r
theorem Jn.q {g : GE} {a am : Nat → Nat} {k : KS} {m m' : MS} {L La Lm : List Nat} {f1 : Nat → va_E} {u : PE} {t0 n : Nat} {r : Int32} (hi : Iv a k) (hL : IvL k) (hR : Rel k m t0 n) (hc : ScrP g a k L (La, f1)) (hm : ScM g am m' Lm u) (hs : mSm m m') (h4 : m' 0 4 = r) : Jn g (a 0) am La Lm f1 u (n + 1) r := by
  obtain ⟨st, rt, sm, h0, hu, hk⟩ := hc
  obtain rfl : La = L := hu
  exact ⟨hm.1, a, kScr k st rt sm, m', t0, rfl, ⟨hk, hi.sm (kSm.scr k st rt sm h0), hL.sm (kSm.scr k st rt sm h0)⟩, hm.2, hR.sm (kSm.scr k st rt sm h0) hs (Nat.le_succ n), h4⟩
theorem mSm.gt (m : MS) (R C T S : Nat → Int32) (t : Int32) : mSm m (gK (mT m t) R C T S) := (mSm.t m t).tr (mSm.g _ R C T S)
theorem gT_4 (m : MS) (R C T S : Nat → Int32) (t : Int32) : gK (mT m t) R C T S 0 4 = t := (gK_4 _ R C T S).trans (mT_4 m t)
theorem gdC.TS {m : MS} {i n0 t0 : Nat} {kn : Int32} {C T S : Nat → Int32} (h : gdC (mT m 0) i kn n0 t0 365 C T S) : (∀ d, d < 365 → T d = rtM m i kn n0 t0 d) ∧ S 0 = 0 ∧ ∀ d, d < 365 → S (d + 1) = S d + T d := ⟨fun d hd => (h.2.1 d hd).trans (rtM_T m 0 i kn n0 t0 d), h.2.2⟩
theorem pol_at {a : Nat → Nat} {k : KS} {x : Int32} {i : Nat} (hi : Iv a k) (h : i < kP k) (hx : x = nI i) : polP k x := hx ▸ pol_ok hi h
theorem pol_un {a : Nat → Nat} {k : KS} {x : Int32} {i i' : Nat} (hi : Iv a k) (h : i < kP k) (h' : i' < kP k) (hx : x = nI i) (hx' : x = nI i') : i' = i := by
  have h4 := hi.1.1
  exact ((nI_eq (by omega) (by omega)).mp (hx.symm.trans hx')).symm
theorem chg_at {a : Nat → Nat} {k : KS} {x : Int32} {i : Nat} (hi : Iv a k) (h : i < kC k) (hx : x = nI i) : chgP k x := hx ▸ chg_ok hi h
theorem chg_un {a : Nat → Nat} {k : KS} {x : Int32} {i i' : Nat} (hi : Iv a k) (h : i < kC k) (h' : i' < kC k) (hx : x = nI i) (hx' : x = nI i') : i' = i := by
  have h4 := hi.1.2
  exact ((nI_eq (by omega) (by omega)).mp (hx.symm.trans hx')).symm
theorem day_at {x : Int32} {d : Nat} (h : d < 365) (hx : x = nI d) : dayP x := by
  subst hx
  show 0 ≤ (nI d).toInt ∧ (nI d).toInt ≤ 364
  rw [nI_toInt (by omega)]
  omega
theorem day_un {x : Int32} {d d' : Nat} (h : d < 365) (h' : d' < 365) (hx : x = nI d) (hx' : x = nI d') : d' = d := ((nI_eq (by omega) (by omega)).mp (hx.symm.trans hx')).symm
theorem fld_at {x : Int32} {d : Nat} (h : d < 3) (hx : x = nI d) : fldP x := by
  subst hx
  show 0 ≤ (nI d).toInt ∧ (nI d).toInt < 3
  rw [nI_toInt (by omega)]
  omega
theorem in_iff (x lo hi : Int32) : inP x lo hi ↔ lo.toInt ≤ x.toInt ∧ x.toInt ≤ hi.toInt := Iff.rfl
theorem b2i_iff {P : Prop} [Decidable P] : b2i P ≠ 0 ↔ P := ⟨fun h => b2i_ne0 h, fun h => by rw [b2i, if_pos h]; decide⟩
theorem n60 {k : KS} {m : MS} {t0 n : Nat} (h : Rel k m t0 n) : ¬ kC k = 60 ↔ kC k < 60 := by
  have := h.1.2.2.2
  omega
theorem sal_val {v : Nat → Int32} {f : Nat} (h : f < 3) : s_val v (nI f) = v f := by
  rw [s_val, if_pos (fld_at h rfl), nI_clamp (by omega)]

theorem mTell_4 (m : MS) (n0 : Nat) (x kd y z w : Int32) : mTell m n0 x kd y z w 0 4 = 0 := by
  show mS (mS (mS (mS (mS (mS (mS (mS (mT m 0) 6 n0 x) 7 n0 kd) 8 n0 y) 9 n0 z) 10 n0 w) 11 n0 (m 0 1)) 12 n0 (-1)) 0 3 (m 0 3 + 1) 0 4 = 0
  rw [mS_s, upd_n (by decide), mS_n (by decide), mS_n (by decide), mS_n (by decide), mS_n (by decide), mS_n (by decide), mS_n (by decide), mS_n (by decide), mT_4]
theorem addsub (a b : Int32) : a + (b - a) = b := by grind
theorem kSm.bill (k : KS) (i : Nat) (v : Int32) (st : VS) (rt sm : Nat → Int32) : (kScr (kW k 11 i v) st rt sm).2 = k.2 := rfl
theorem Iv.bl {a : Nat → Nat} {k k' : KS} (hk : k'.2 = k.2) (h : Iv a k) : Iv a k' := by
  obtain ⟨v, q⟩ := k
  obtain ⟨v', q'⟩ := k'
  dsimp only at hk
  subst hk
  exact h
theorem IvL.bl {k k' : KS} (hk : k'.2 = k.2) (h : IvL k) : IvL k' := by
  obtain ⟨v, q⟩ := k
  obtain ⟨v', q'⟩ := k'
  dsimp only at hk
  subst hk
  exact h

set_option maxHeartbeats 2000000 in
theorem j_open {g : GE} {a am : Nat → Nat} {k : KS} {m : MS} {L La Lm : List Nat} {f1 : Nat → va_E} {u : PE} {ro : Nat → Int64} {t0 n : Nat} {r b x : Int32} (hi : Iv a k) (hL : IvL k) (hR : Rel k m t0 n) (HW : WrQ (fun r u => (1 ≤ x.toInt ∧ x.toInt ≤ 1000) ∧ kP k < 4 ∧ r = nI (kP k) ∧ OpnP g a k L x u) (fun E u => exL [("java/lang/IllegalArgumentException", 1 ≤ x.toInt ∧ x.toInt ≤ 1000), ("java/lang/IllegalStateException", kP k < 4)] E ∧ ScrP g a k L u) [("java/lang/IllegalArgumentException", 1), ("java/lang/IllegalStateException", 2)] La f1 ro r) (HM : (fun r u => (∃ t, exT [(1, inP x 1 1000), (2, ¬ (kP k) = 4)] t ∧ ScM g am (mT m t) Lm u) ∨ (inP x 1 1000 ∧ ¬ (kP k) = 4 ∧ r = nI (kP k) ∧ ScM g am (mS (mS (mT m 0) 1 (kP k) x) 0 0 (m 0 0 + 1)) Lm u)) b u) : Jn g (a 0) am La Lm f1 u (n + 1) r ∧ (r = 0 → ro 0 = b.toInt64) := by
  have h4 : ¬ kP k = 4 ↔ kP k < 4 := by
    have := hR.1.2.1
    omega
  rcases HW with ⟨rfl, v, hp, hv⟩ | ⟨E, ⟨he, hsc⟩, hcd⟩
  · obtain ⟨h1, h2, rfl, h3⟩ := hp
    have hall : allT [(1, 1 ≤ x.toInt ∧ x.toInt ≤ 1000), (2, kP k < 4)] := And.intro (h1) (And.intro (h2) (trivial))
    rcases HM with ⟨t, ht, hm⟩ | ⟨q1, q2, rfl, hm⟩
    · exact (exT_nn (show exT [(1, 1 ≤ x.toInt ∧ x.toInt ≤ 1000), (2, kP k < 4)] t from exT_cons ht Iff.rfl (fun h => exT_cons h h4 id)) hall).elim
    · obtain ⟨h5, a9, mm, c, rr, ha, hk, hi9, hl9⟩ := h3
      exact ⟨⟨hm.1, a9, _, _, t0, ha, ⟨hk, hi9, hl9⟩, hm.2, hR.opened hi h2 h1, by rw [mS_s, upd_n (by decide), mS_n (by decide), mT_4]⟩, fun _ => hv⟩
  · have hr : exT [(1, 1 ≤ x.toInt ∧ x.toInt ≤ 1000), (2, kP k < 4)] r := exL_T hcd _ [(1, 1 ≤ x.toInt ∧ x.toInt ≤ 1000), (2, kP k < 4)] he (And.intro (And.intro (by intro r h; simpa using h) Iff.rfl) (And.intro (And.intro (by intro r h; simpa using h) Iff.rfl) (trivial)))
    have hr0 : r ≠ 0 := (by decide : ∀ x ∈ ([("java/lang/IllegalArgumentException", 1), ("java/lang/IllegalStateException", 2)] : List (String × Int32)), x.2 ≠ 0) (E, r) hcd
    rcases HM with ⟨t, ht, hm⟩ | ⟨q1, q2, rfl, hm⟩
    · have et : r = t := exT_one _ hr (show exT [(1, 1 ≤ x.toInt ∧ x.toInt ≤ 1000), (2, kP k < 4)] t from exT_cons ht Iff.rfl (fun h => exT_cons h h4 id))
      exact ⟨Jn.q hi hL hR hsc hm (mSm.t m _) ((mT_4 m _).trans et.symm), fun h0 => absurd h0 hr0⟩
    · exact (exT_nn hr (And.intro (q1) (And.intro (h4.mp q2) (trivial)))).elim

set_option maxHeartbeats 2000000 in
theorem j_setWeight {g : GE} {a am : Nat → Nat} {k : KS} {m : MS} {L La Lm : List Nat} {f1 : Nat → va_E} {u : PE} {ro : Nat → Int64} {t0 n : Nat} {r b y w z : Int32} (hi : Iv a k) (hL : IvL k) (hR : Rel k m t0 n) (HW : WrQ (fun r u => ∃ c d, c < 3 ∧ y = nI c ∧ wgtP w ∧ d < 365 ∧ z = nI d ∧ (k.1 0 1).toInt < 20 ∧ r = k.1 0 1 + 1 ∧ u.1 = L ∧ CW g a (kTel k c w d) L u.2) (fun E u => exL [("java/lang/IndexOutOfBoundsException", fldP y), ("java/lang/IllegalArgumentException", wgtP w), ("java/lang/IllegalArgumentException", dayP z), ("java/lang/IllegalStateException", (k.1 0 1).toInt < 20)] E ∧ ScrP g a k L u) [("java/lang/IndexOutOfBoundsException", 1), ("java/lang/IllegalArgumentException", 2), ("java/lang/IllegalStateException", 3)] La f1 ro r) (HM : (fun r u => (∃ t, exT [(1, mFld y), (2, inP w 0 100 ∧ mDay z), (3, ¬ t0 = 20)] t ∧ ScM g am (mT m t) Lm u) ∨ (mFld y ∧ (inP w 0 100 ∧ mDay z) ∧ ¬ t0 = 20 ∧ r = nI t0 + 1 ∧ ScM g am (mS (mS (mS (mS (mT m 0) 3 t0 y) 4 t0 w) 5 t0 z) 0 2 (m 0 2 + 1)) Lm u)) b u) : Jn g (a 0) am La Lm f1 u (n + 1) r ∧ (r = 0 → ro 0 = b.toInt64) := by
  have h20 := hR.1.2.2.1
  have h4 : ¬ t0 = 20 ↔ (k.1 0 1).toInt < 20 := by
    rw [hR.2.1.1.2.1, nI_toInt (by omega)]
    omega
  rcases HW with ⟨rfl, v, hp, hv⟩ | ⟨E, ⟨he, hsc⟩, hcd⟩
  · obtain ⟨c, d, h1, hy, h2, h3, hz, h5, rfl, hu, hk⟩ := hp
    have hall : allT [(1, fldP y), (2, wgtP w), (2, dayP z), (3, (k.1 0 1).toInt < 20)] := And.intro (fld_at h1 hy) (And.intro (h2) (And.intro (day_at h3 hz) (And.intro (h5) (trivial))))
    rcases HM with ⟨t, ht, hm⟩ | ⟨q1, ⟨q2, q3⟩, q4, rfl, hm⟩
    · exact (exT_nn (show exT [(1, fldP y), (2, wgtP w), (2, dayP z), (3, (k.1 0 1).toInt < 20)] t from exT_cons ht (fld_iff y) (fun h => exT_cons (exT_and h) Iff.rfl (fun h => exT_cons h (day_iff z) (fun h => exT_cons h h4 id)))) hall).elim
    · subst hy
      subst hz
      obtain rfl : La = L := hu
      refine ⟨⟨hm.1, a, _, _, t0 + 1, rfl, ⟨hk, hi, hL⟩, hm.2, hR.tariff (by omega) h1 h3 h2, by rw [mS_s, upd_n (by decide), mS_n (by decide), mS_n (by decide), mS_n (by decide), mT_4]⟩, fun _ => ?_⟩
      rw [hv, hR.2.1.1.2.1]
  · have hr : exT [(1, fldP y), (2, wgtP w), (2, dayP z), (3, (k.1 0 1).toInt < 20)] r := exL_T hcd _ [(1, fldP y), (2, wgtP w), (2, dayP z), (3, (k.1 0 1).toInt < 20)] he (And.intro (And.intro (by intro r h; simpa using h) Iff.rfl) (And.intro (And.intro (by intro r h; simpa using h) Iff.rfl) (And.intro (And.intro (by intro r h; simpa using h) Iff.rfl) (And.intro (And.intro (by intro r h; simpa using h) Iff.rfl) (trivial)))))
    have hr0 : r ≠ 0 := (by decide : ∀ x ∈ ([("java/lang/IndexOutOfBoundsException", 1), ("java/lang/IllegalArgumentException", 2), ("java/lang/IllegalStateException", 3)] : List (String × Int32)), x.2 ≠ 0) (E, r) hcd
    rcases HM with ⟨t, ht, hm⟩ | ⟨q1, ⟨q2, q3⟩, q4, rfl, hm⟩
    · have et : r = t := exT_one _ hr (show exT [(1, fldP y), (2, wgtP w), (2, dayP z), (3, (k.1 0 1).toInt < 20)] t from exT_cons ht (fld_iff y) (fun h => exT_cons (exT_and h) Iff.rfl (fun h => exT_cons h (day_iff z) (fun h => exT_cons h h4 id))))
      exact ⟨Jn.q hi hL hR hsc hm (mSm.t m _) ((mT_4 m _).trans et.symm), fun h0 => absurd h0 hr0⟩
    · exact (exT_nn hr (And.intro ((fld_iff _).mp q1) (And.intro (q2) (And.intro ((day_iff _).mp q3) (And.intro (h4.mp q4) (trivial)))))).elim

set_option maxHeartbeats 2000000 in
theorem j_pass {g : GE} {a am : Nat → Nat} {k : KS} {m : MS} {L La Lm : List Nat} {f1 : Nat → va_E} {u : PE} {ro : Nat → Int64} {t0 n : Nat} {r b x : Int32} (hi : Iv a k) (hL : IvL k) (hR : Rel k m t0 n) (hn : n ≤ 512) (HW : WrQ (fun r u => (1 ≤ x.toInt ∧ x.toInt ≤ 100) ∧ r = k.1 0 0 + x ∧ u.1 = L ∧ CW g a (kW k 0 0 (k.1 0 0 + x)) L u.2) (fun E u => exL [("java/lang/IllegalArgumentException", 1 ≤ x.toInt ∧ x.toInt ≤ 100)] E ∧ ScrP g a k L u) [("java/lang/IllegalArgumentException", 1)] La f1 ro r) (HM : (fun r u => (∃ t, exT [(1, inP x 1 100)] t ∧ ScM g am (mT m t) Lm u) ∨ (inP x 1 100 ∧ r = m 0 1 + x ∧ ScM g am (mS (mT m 0) 0 1 (m 0 1 + x)) Lm u)) b u) : Jn g (a 0) am La Lm f1 u (n + 1) r ∧ (r = 0 → ro 0 = b.toInt64) := by
  rcases HW with ⟨rfl, v, hp, hv⟩ | ⟨E, ⟨he, hsc⟩, hcd⟩
  · obtain ⟨h1, rfl, hu, hk⟩ := hp
    have hall : allT [(1, 1 ≤ x.toInt ∧ x.toInt ≤ 100)] := And.intro (h1) (trivial)
    rcases HM with ⟨t, ht, hm⟩ | ⟨q1, rfl, hm⟩
    · exact (exT_nn (show exT [(1, 1 ≤ x.toInt ∧ x.toInt ≤ 100)] t from exT_cons ht Iff.rfl id) hall).elim
    · obtain rfl : La = L := hu
      refine ⟨⟨hm.1, a, _, _, t0, rfl, ⟨hk, hi, hL⟩, hm.2, hR.pass hn h1, by rw [mS_s, upd_n (by decide), mT_4]⟩, fun _ => ?_⟩
      rw [hv, hR.2.1.1.1]
  · have hr : exT [(1, 1 ≤ x.toInt ∧ x.toInt ≤ 100)] r := exL_T hcd _ [(1, 1 ≤ x.toInt ∧ x.toInt ≤ 100)] he (And.intro (And.intro (by intro r h; simpa using h) Iff.rfl) (trivial))
    have hr0 : r ≠ 0 := (by decide : ∀ x ∈ ([("java/lang/IllegalArgumentException", 1)] : List (String × Int32)), x.2 ≠ 0) (E, r) hcd
    rcases HM with ⟨t, ht, hm⟩ | ⟨q1, rfl, hm⟩
    · have et : r = t := exT_one _ hr (show exT [(1, 1 ≤ x.toInt ∧ x.toInt ≤ 100)] t from exT_cons ht Iff.rfl id)
      exact ⟨Jn.q hi hL hR hsc hm (mSm.t m _) ((mT_4 m _).trans et.symm), fun h0 => absurd h0 hr0⟩
    · exact (exT_nn hr (And.intro (q1) (trivial))).elim

set_option maxHeartbeats 2000000 in
theorem j_change {g : GE} {a am : Nat → Nat} {k : KS} {m : MS} {L La Lm : List Nat} {f1 : Nat → va_E} {u : PE} {ro : Nat → Int64} {t0 n : Nat} {r b x y z w : Int32} (hi : Iv a k) (hL : IvL k) (hR : Rel k m t0 n) (HW : WrQ (fun r u => ∃ i, i < kP k ∧ x = nI i ∧ fldP y ∧ dayP z ∧ (0 ≤ w.toInt ∧ w.toInt ≤ 20) ∧ kC k < 60 ∧ r = nI (kC k) ∧ TolP g a k L i 0 y z w u) (fun E u => exL [("java/lang/IndexOutOfBoundsException", polP k x), ("java/lang/IndexOutOfBoundsException", fldP y), ("java/lang/IllegalArgumentException", dayP z), ("java/lang/IllegalArgumentException", 0 ≤ w.toInt ∧ w.toInt ≤ 20), ("java/lang/IllegalStateException", kC k < 60)] E ∧ ScrP g a k L u) [("java/lang/IndexOutOfBoundsException", 1), ("java/lang/IllegalArgumentException", 2), ("java/lang/IllegalStateException", 3)] La f1 ro r) (HM : (fun r u => (∃ t, exT [(1, mPol m x ∧ mFld y), (2, mDay z ∧ (b2i (inP w 0 20)) ≠ 0), (3, ¬ (kC k) = 60)] t ∧ ScM g am (mT m t) Lm u) ∨ ((mPol m x ∧ mFld y) ∧ (mDay z ∧ (b2i (inP w 0 20)) ≠ 0) ∧ ¬ (kC k) = 60 ∧ r = nI (kC k) ∧ ScM g am (mTell m (kC k) x 0 y z w) Lm u)) b u) : Jn g (a 0) am La Lm f1 u (n + 1) r ∧ (r = 0 → ro 0 = b.toInt64) := by
  rcases HW with ⟨rfl, v, hp, hv⟩ | ⟨E, ⟨he, hsc⟩, hcd⟩
  · obtain ⟨i, h1, hx, h2, h3, h5, h6, rfl, h7⟩ := hp
    have hall : allT [(1, polP k x), (1, fldP y), (2, dayP z), (2, 0 ≤ w.toInt ∧ w.toInt ≤ 20), (3, kC k < 60)] := And.intro (pol_at hi h1 hx) (And.intro (h2) (And.intro (h3) (And.intro (h5) (And.intro (h6) (trivial)))))
    rcases HM with ⟨t, ht, hm⟩ | ⟨⟨q1, q2⟩, ⟨q3, q4⟩, q5, rfl, hm⟩
    · exact (exT_nn (show exT [(1, polP k x), (1, fldP y), (2, dayP z), (2, 0 ≤ w.toInt ∧ w.toInt ≤ 20), (3, kC k < 60)] t from exT_cons (exT_and ht) (hR.pol x) (fun h => exT_cons h (fld_iff y) (fun h => exT_cons (exT_and h) (day_iff z) (fun h => exT_cons h b2i_iff (fun h => exT_cons h (n60 hR) id))))) hall).elim
    · subst hx
      obtain ⟨d, hd, rfl⟩ := day_ix h3
      obtain ⟨hs, a9, m1, m2, c1, c2, r1, r2, ha, hk, hi9, hl9⟩ := h7
      exact ⟨⟨hm.1, a9, _, _, t0, ha, ⟨hk, hi9, hl9⟩, hm.2, hR.told h1 (by decide) h6 hd (fun _ => rfl) (fld_ex q2) (fun _ => h5), mTell_4 _ _ _ _ _ _ _⟩, fun _ => hv⟩
  · have hr : exT [(1, polP k x), (1, fldP y), (2, dayP z), (2, 0 ≤ w.toInt ∧ w.toInt ≤ 20), (3, kC k < 60)] r := exL_T hcd _ [(1, polP k x), (1, fldP y), (2, dayP z), (2, 0 ≤ w.toInt ∧ w.toInt ≤ 20), (3, kC k < 60)] he (And.intro (And.intro (by intro r h; simpa using h) Iff.rfl) (And.intro (And.intro (by intro r h; simpa using h) Iff.rfl) (And.intro (And.intro (by intro r h; simpa using h) Iff.rfl) (And.intro (And.intro (by intro r h; simpa using h) Iff.rfl) (And.intro (And.intro (by intro r h; simpa using h) Iff.rfl) (trivial))))))
    have hr0 : r ≠ 0 := (by decide : ∀ x ∈ ([("java/lang/IndexOutOfBoundsException", 1), ("java/lang/IllegalArgumentException", 2), ("java/lang/IllegalStateException", 3)] : List (String × Int32)), x.2 ≠ 0) (E, r) hcd
    rcases HM with ⟨t, ht, hm⟩ | ⟨⟨q1, q2⟩, ⟨q3, q4⟩, q5, rfl, hm⟩
    · have et : r = t := exT_one _ hr (show exT [(1, polP k x), (1, fldP y), (2, dayP z), (2, 0 ≤ w.toInt ∧ w.toInt ≤ 20), (3, kC k < 60)] t from exT_cons (exT_and ht) (hR.pol x) (fun h => exT_cons h (fld_iff y) (fun h => exT_cons (exT_and h) (day_iff z) (fun h => exT_cons h b2i_iff (fun h => exT_cons h (n60 hR) id)))))
      exact ⟨Jn.q hi hL hR hsc hm (mSm.t m _) ((mT_4 m _).trans et.symm), fun h0 => absurd h0 hr0⟩
    · exact (exT_nn hr (And.intro ((hR.pol _).mp q1) (And.intro ((fld_iff _).mp q2) (And.intro ((day_iff _).mp q3) (And.intro (b2i_iff.mp q4) (And.intro ((n60 hR).mp q5) (trivial))))))).elim

set_option maxHeartbeats 2000000 in
theorem j_add {g : GE} {a am : Nat → Nat} {k : KS} {m : MS} {L La Lm : List Nat} {f1 : Nat → va_E} {u : PE} {ro : Nat → Int64} {t0 n : Nat} {r b x y z w : Int32} (hi : Iv a k) (hL : IvL k) (hR : Rel k m t0 n) (HW : WrQ (fun r u => ∃ i, i < kP k ∧ x = nI i ∧ fldP y ∧ dayP z ∧ (-20 ≤ w.toInt ∧ w.toInt ≤ 20) ∧ kC k < 60 ∧ r = nI (kC k) ∧ TolP g a k L i 1 y z w u) (fun E u => exL [("java/lang/IndexOutOfBoundsException", polP k x), ("java/lang/IndexOutOfBoundsException", fldP y), ("java/lang/IllegalArgumentException", dayP z), ("java/lang/IllegalArgumentException", -20 ≤ w.toInt ∧ w.toInt ≤ 20), ("java/lang/IllegalStateException", kC k < 60)] E ∧ ScrP g a k L u) [("java/lang/IndexOutOfBoundsException", 1), ("java/lang/IllegalArgumentException", 2), ("java/lang/IllegalStateException", 3)] La f1 ro r) (HM : (fun r u => (∃ t, exT [(1, mPol m x ∧ mFld y), (2, mDay z ∧ (b2i (inP w (-20) 20)) ≠ 0), (3, ¬ (kC k) = 60)] t ∧ ScM g am (mT m t) Lm u) ∨ ((mPol m x ∧ mFld y) ∧ (mDay z ∧ (b2i (inP w (-20) 20)) ≠ 0) ∧ ¬ (kC k) = 60 ∧ r = nI (kC k) ∧ ScM g am (mTell m (kC k) x 1 y z w) Lm u)) b u) : Jn g (a 0) am La Lm f1 u (n + 1) r ∧ (r = 0 → ro 0 = b.toInt64) := by
  rcases HW with ⟨rfl, v, hp, hv⟩ | ⟨E, ⟨he, hsc⟩, hcd⟩
  · obtain ⟨i, h1, hx, h2, h3, h5, h6, rfl, h7⟩ := hp
    have hall : allT [(1, polP k x), (1, fldP y), (2, dayP z), (2, -20 ≤ w.toInt ∧ w.toInt ≤ 20), (3, kC k < 60)] := And.intro (pol_at hi h1 hx) (And.intro (h2) (And.intro (h3) (And.intro (h5) (And.intro (h6) (trivial)))))
    rcases HM with ⟨t, ht, hm⟩ | ⟨⟨q1, q2⟩, ⟨q3, q4⟩, q5, rfl, hm⟩
    · exact (exT_nn (show exT [(1, polP k x), (1, fldP y), (2, dayP z), (2, -20 ≤ w.toInt ∧ w.toInt ≤ 20), (3, kC k < 60)] t from exT_cons (exT_and ht) (hR.pol x) (fun h => exT_cons h (fld_iff y) (fun h => exT_cons (exT_and h) (day_iff z) (fun h => exT_cons h b2i_iff (fun h => exT_cons h (n60 hR) id))))) hall).elim
    · subst hx
      obtain ⟨d, hd, rfl⟩ := day_ix h3
      obtain ⟨hs, a9, m1, m2, c1, c2, r1, r2, ha, hk, hi9, hl9⟩ := h7
      exact ⟨⟨hm.1, a9, _, _, t0, ha, ⟨hk, hi9, hl9⟩, hm.2, hR.told h1 (by decide) h6 hd (fun _ => rfl) (fld_ex q2) (fun h => absurd h (by decide)), mTell_4 _ _ _ _ _ _ _⟩, fun _ => hv⟩
  · have hr : exT [(1, polP k x), (1, fldP y), (2, dayP z), (2, -20 ≤ w.toInt ∧ w.toInt ≤ 20), (3, kC k < 60)] r := exL_T hcd _ [(1, polP k x), (1, fldP y), (2, dayP z), (2, -20 ≤ w.toInt ∧ w.toInt ≤ 20), (3, kC k < 60)] he (And.intro (And.intro (by intro r h; simpa using h) Iff.rfl) (And.intro (And.intro (by intro r h; simpa using h) Iff.rfl) (And.intro (And.intro (by intro r h; simpa using h) Iff.rfl) (And.intro (And.intro (by intro r h; simpa using h) Iff.rfl) (And.intro (And.intro (by intro r h; simpa using h) Iff.rfl) (trivial))))))
    have hr0 : r ≠ 0 := (by decide : ∀ x ∈ ([("java/lang/IndexOutOfBoundsException", 1), ("java/lang/IllegalArgumentException", 2), ("java/lang/IllegalStateException", 3)] : List (String × Int32)), x.2 ≠ 0) (E, r) hcd
    rcases HM with ⟨t, ht, hm⟩ | ⟨⟨q1, q2⟩, ⟨q3, q4⟩, q5, rfl, hm⟩
    · have et : r = t := exT_one _ hr (show exT [(1, polP k x), (1, fldP y), (2, dayP z), (2, -20 ≤ w.toInt ∧ w.toInt ≤ 20), (3, kC k < 60)] t from exT_cons (exT_and ht) (hR.pol x) (fun h => exT_cons h (fld_iff y) (fun h => exT_cons (exT_and h) (day_iff z) (fun h => exT_cons h b2i_iff (fun h => exT_cons h (n60 hR) id)))))
      exact ⟨Jn.q hi hL hR hsc hm (mSm.t m _) ((mT_4 m _).trans et.symm), fun h0 => absurd h0 hr0⟩
    · exact (exT_nn hr (And.intro ((hR.pol _).mp q1) (And.intro ((fld_iff _).mp q2) (And.intro ((day_iff _).mp q3) (And.intro (b2i_iff.mp q4) (And.intro ((n60 hR).mp q5) (trivial))))))).elim

set_option maxHeartbeats 2000000 in
theorem j_cancel {g : GE} {a am : Nat → Nat} {k : KS} {m : MS} {L La Lm : List Nat} {f1 : Nat → va_E} {u : PE} {ro : Nat → Int64} {t0 n : Nat} {r b x z : Int32} (hi : Iv a k) (hL : IvL k) (hR : Rel k m t0 n) (HW : WrQ (fun r u => ∃ i, i < kP k ∧ x = nI i ∧ dayP z ∧ kC k < 60 ∧ r = nI (kC k) ∧ TolP g a k L i 2 (-1) z 0 u) (fun E u => exL [("java/lang/IndexOutOfBoundsException", polP k x), ("java/lang/IllegalArgumentException", dayP z), ("java/lang/IllegalStateException", kC k < 60)] E ∧ ScrP g a k L u) [("java/lang/IndexOutOfBoundsException", 1), ("java/lang/IllegalArgumentException", 2), ("java/lang/IllegalStateException", 3)] La f1 ro r) (HM : (fun r u => (∃ t, exT [(1, mPol m x ∧ mFld 0), (2, mDay z ∧ (1 : Int32) ≠ 0), (3, ¬ (kC k) = 60)] t ∧ ScM g am (mT m t) Lm u) ∨ ((mPol m x ∧ mFld 0) ∧ (mDay z ∧ (1 : Int32) ≠ 0) ∧ ¬ (kC k) = 60 ∧ r = nI (kC k) ∧ ScM g am (mTell m (kC k) x 2 0 z 0) Lm u)) b u) : Jn g (a 0) am La Lm f1 u (n + 1) r ∧ (r = 0 → ro 0 = b.toInt64) := by
  rcases HW with ⟨rfl, v, hp, hv⟩ | ⟨E, ⟨he, hsc⟩, hcd⟩
  · obtain ⟨i, h1, hx, h3, h6, rfl, h7⟩ := hp
    have hall : allT [(1, polP k x), (2, dayP z), (3, kC k < 60)] := And.intro (pol_at hi h1 hx) (And.intro (h3) (And.intro (h6) (trivial)))
    rcases HM with ⟨t, ht, hm⟩ | ⟨⟨q1, q2⟩, ⟨q3, q4⟩, q5, rfl, hm⟩
    · exact (exT_nn (show exT [(1, polP k x), (2, dayP z), (3, kC k < 60)] t from exT_cons (exT_and ht) (hR.pol x) (fun h => exT_cons (exT_and (exT_true h fld0)) (day_iff z) (fun h => exT_cons (exT_true h (by decide)) (n60 hR) id))) hall).elim
    · subst hx
      obtain ⟨d, hd, rfl⟩ := day_ix h3
      obtain ⟨hs, a9, m1, m2, c1, c2, r1, r2, ha, hk, hi9, hl9⟩ := h7
      exact ⟨⟨hm.1, a9, _, _, t0, ha, ⟨hk, hi9, hl9⟩, hm.2, hR.told (kd := 2) h1 (by decide) h6 hd (fun h => absurd h (by decide)) ⟨0, by decide, rfl⟩ (fun h => absurd h (by decide)), mTell_4 _ _ _ _ _ _ _⟩, fun _ => hv⟩
  · have hr : exT [(1, polP k x), (2, dayP z), (3, kC k < 60)] r := exL_T hcd _ [(1, polP k x), (2, dayP z), (3, kC k < 60)] he (And.intro (And.intro (by intro r h; simpa using h) Iff.rfl) (And.intro (And.intro (by intro r h; simpa using h) Iff.rfl) (And.intro (And.intro (by intro r h; simpa using h) Iff.rfl) (trivial))))
    have hr0 : r ≠ 0 := (by decide : ∀ x ∈ ([("java/lang/IndexOutOfBoundsException", 1), ("java/lang/IllegalArgumentException", 2), ("java/lang/IllegalStateException", 3)] : List (String × Int32)), x.2 ≠ 0) (E, r) hcd
    rcases HM with ⟨t, ht, hm⟩ | ⟨⟨q1, q2⟩, ⟨q3, q4⟩, q5, rfl, hm⟩
    · have et : r = t := exT_one _ hr (show exT [(1, polP k x), (2, dayP z), (3, kC k < 60)] t from exT_cons (exT_and ht) (hR.pol x) (fun h => exT_cons (exT_and (exT_true h fld0)) (day_iff z) (fun h => exT_cons (exT_true h (by decide)) (n60 hR) id)))
      exact ⟨Jn.q hi hL hR hsc hm (mSm.t m _) ((mT_4 m _).trans et.symm), fun h0 => absurd h0 hr0⟩
    · exact (exT_nn hr (And.intro ((hR.pol _).mp q1) (And.intro ((day_iff _).mp q3) (And.intro ((n60 hR).mp q5) (trivial))))).elim

set_option maxHeartbeats 2000000 in
theorem j_reinstate {g : GE} {a am : Nat → Nat} {k : KS} {m : MS} {L La Lm : List Nat} {f1 : Nat → va_E} {u : PE} {ro : Nat → Int64} {t0 n : Nat} {r b x z : Int32} (hi : Iv a k) (hL : IvL k) (hR : Rel k m t0 n) (HW : WrQ (fun r u => ∃ i, i < kP k ∧ x = nI i ∧ dayP z ∧ kC k < 60 ∧ r = nI (kC k) ∧ TolP g a k L i 3 (-1) z 0 u) (fun E u => exL [("java/lang/IndexOutOfBoundsException", polP k x), ("java/lang/IllegalArgumentException", dayP z), ("java/lang/IllegalStateException", kC k < 60)] E ∧ ScrP g a k L u) [("java/lang/IndexOutOfBoundsException", 1), ("java/lang/IllegalArgumentException", 2), ("java/lang/IllegalStateException", 3)] La f1 ro r) (HM : (fun r u => (∃ t, exT [(1, mPol m x ∧ mFld 0), (2, mDay z ∧ (1 : Int32) ≠ 0), (3, ¬ (kC k) = 60)] t ∧ ScM g am (mT m t) Lm u) ∨ ((mPol m x ∧ mFld 0) ∧ (mDay z ∧ (1 : Int32) ≠ 0) ∧ ¬ (kC k) = 60 ∧ r = nI (kC k) ∧ ScM g am (mTell m (kC k) x 3 0 z 0) Lm u)) b u) : Jn g (a 0) am La Lm f1 u (n + 1) r ∧ (r = 0 → ro 0 = b.toInt64) := by
  rcases HW with ⟨rfl, v, hp, hv⟩ | ⟨E, ⟨he, hsc⟩, hcd⟩
  · obtain ⟨i, h1, hx, h3, h6, rfl, h7⟩ := hp
    have hall : allT [(1, polP k x), (2, dayP z), (3, kC k < 60)] := And.intro (pol_at hi h1 hx) (And.intro (h3) (And.intro (h6) (trivial)))
    rcases HM with ⟨t, ht, hm⟩ | ⟨⟨q1, q2⟩, ⟨q3, q4⟩, q5, rfl, hm⟩
    · exact (exT_nn (show exT [(1, polP k x), (2, dayP z), (3, kC k < 60)] t from exT_cons (exT_and ht) (hR.pol x) (fun h => exT_cons (exT_and (exT_true h fld0)) (day_iff z) (fun h => exT_cons (exT_true h (by decide)) (n60 hR) id))) hall).elim
    · subst hx
      obtain ⟨d, hd, rfl⟩ := day_ix h3
      obtain ⟨hs, a9, m1, m2, c1, c2, r1, r2, ha, hk, hi9, hl9⟩ := h7
      exact ⟨⟨hm.1, a9, _, _, t0, ha, ⟨hk, hi9, hl9⟩, hm.2, hR.told (kd := 3) h1 (by decide) h6 hd (fun h => absurd h (by decide)) ⟨0, by decide, rfl⟩ (fun h => absurd h (by decide)), mTell_4 _ _ _ _ _ _ _⟩, fun _ => hv⟩
  · have hr : exT [(1, polP k x), (2, dayP z), (3, kC k < 60)] r := exL_T hcd _ [(1, polP k x), (2, dayP z), (3, kC k < 60)] he (And.intro (And.intro (by intro r h; simpa using h) Iff.rfl) (And.intro (And.intro (by intro r h; simpa using h) Iff.rfl) (And.intro (And.intro (by intro r h; simpa using h) Iff.rfl) (trivial))))
    have hr0 : r ≠ 0 := (by decide : ∀ x ∈ ([("java/lang/IndexOutOfBoundsException", 1), ("java/lang/IllegalArgumentException", 2), ("java/lang/IllegalStateException", 3)] : List (String × Int32)), x.2 ≠ 0) (E, r) hcd
    rcases HM with ⟨t, ht, hm⟩ | ⟨⟨q1, q2⟩, ⟨q3, q4⟩, q5, rfl, hm⟩
    · have et : r = t := exT_one _ hr (show exT [(1, polP k x), (2, dayP z), (3, kC k < 60)] t from exT_cons (exT_and ht) (hR.pol x) (fun h => exT_cons (exT_and (exT_true h fld0)) (day_iff z) (fun h => exT_cons (exT_true h (by decide)) (n60 hR) id)))
      exact ⟨Jn.q hi hL hR hsc hm (mSm.t m _) ((mT_4 m _).trans et.symm), fun h0 => absurd h0 hr0⟩
    · exact (exT_nn hr (And.intro ((hR.pol _).mp q1) (And.intro ((day_iff _).mp q3) (And.intro ((n60 hR).mp q5) (trivial))))).elim

set_option maxHeartbeats 2000000 in
theorem j_takeBack {g : GE} {a am : Nat → Nat} {k : KS} {m : MS} {L La Lm : List Nat} {f1 : Nat → va_E} {u : PE} {ro : Nat → Int64} {t0 n : Nat} {r b x : Int32} (hi : Iv a k) (hL : IvL k) (hR : Rel k m t0 n) (HW : WrQ (fun r u => ∃ j, j < kC k ∧ x = nI j ∧ k.1 16 j = -1 ∧ r = k.1 15 j ∧ u.1 = L ∧ CW g a (kW k 16 j (k.1 0 0)) L u.2) (fun E u => exL [("java/lang/IndexOutOfBoundsException", chgP k x), ("java/lang/IllegalStateException", ∀ j, j < kC k → x = nI j → k.1 16 j = -1)] E ∧ ScrP g a k L u) [("java/lang/IndexOutOfBoundsException", 1), ("java/lang/IllegalStateException", 2)] La f1 ro r) (HM : (fun r u => (∃ t, exT [(1, mChg m x), (2, ∀ c, c < (kC k) → x = nI c → (m 12 c).toInt < 0)] t ∧ ScM g am (mT m t) Lm u) ∨ ∃ c, c < (kC k) ∧ x = nI c ∧ (m 12 c).toInt < 0 ∧ r = m 11 c ∧ ScM g am (mS (mT (mT m 0) 0) 12 c (m 0 1)) Lm u) b u) : Jn g (a 0) am La Lm f1 u (n + 1) r ∧ (r = 0 → ro 0 = b.toInt64) := by
  have htk : (∀ c, c < kC k → x = nI c → (m 12 c).toInt < 0) ↔ ∀ j, j < kC k → x = nI j → k.1 16 j = -1 := by
    constructor
    · intro h j hj hx
      have h1 := h j hj hx
      have hc := hR.2.2.2.1 j hj
      rw [hc.2.2.1.2] at h1
      have h2 := hc.2.2.2.2.2.2.2.1
      exact Int32.toInt_inj.mp (by rw [i32_m1]; omega)
    · intro h j hj hx
      have h1 := h j hj hx
      rw [(hR.2.2.2.1 j hj).2.2.1.2, h1]
      decide
  rcases HW with ⟨rfl, v, hp, hv⟩ | ⟨E, ⟨he, hsc⟩, hcd⟩
  · obtain ⟨j, h1, hx, h2, rfl, hu, hk⟩ := hp
    have hall : allT [(1, chgP k x), (2, ∀ j, j < kC k → x = nI j → k.1 16 j = -1)] := And.intro (chg_at hi h1 hx) (And.intro (fun j2 h8 h9 => by rw [chg_un hi h1 h8 hx h9]; exact h2) (trivial))
    rcases HM with ⟨t, ht, hm⟩ | ⟨c, q1, qx, q2, rfl, hm⟩
    · exact (exT_nn (show exT [(1, chgP k x), (2, ∀ j, j < kC k → x = nI j → k.1 16 j = -1)] t from exT_cons ht (hR.chg x) (fun h => exT_cons h htk id)) hall).elim
    · obtain rfl := chg_un hi h1 q1 hx qx
      obtain rfl : La = L := hu
      refine ⟨⟨hm.1, a, _, _, t0, rfl, ⟨hk, hi, hL⟩, hm.2, hR.take, by rw [mS_n (by decide), mT_4]⟩, fun _ => ?_⟩
      rw [hv, (hR.2.2.2.1 _ h1).2.2.1.1]
  · have hr : exT [(1, chgP k x), (2, ∀ j, j < kC k → x = nI j → k.1 16 j = -1)] r := exL_T hcd _ [(1, chgP k x), (2, ∀ j, j < kC k → x = nI j → k.1 16 j = -1)] he (And.intro (And.intro (by intro r h; simpa using h) Iff.rfl) (And.intro (And.intro (by intro r h; simpa using h) Iff.rfl) (trivial)))
    have hr0 : r ≠ 0 := (by decide : ∀ x ∈ ([("java/lang/IndexOutOfBoundsException", 1), ("java/lang/IllegalStateException", 2)] : List (String × Int32)), x.2 ≠ 0) (E, r) hcd
    rcases HM with ⟨t, ht, hm⟩ | ⟨c, q1, qx, q2, rfl, hm⟩
    · have et : r = t := exT_one _ hr (show exT [(1, chgP k x), (2, ∀ j, j < kC k → x = nI j → k.1 16 j = -1)] t from exT_cons ht (hR.chg x) (fun h => exT_cons h htk id))
      exact ⟨Jn.q hi hL hR hsc hm (mSm.t m _) ((mT_4 m _).trans et.symm), fun h0 => absurd h0 hr0⟩
    · exact (exT_nn hr (And.intro (chg_at hi q1 qx) (And.intro (htk.mp (fun j2 h8 h9 => by rw [chg_un hi q1 h8 qx h9]; exact q2)) (trivial)))).elim

set_option maxHeartbeats 2000000 in
theorem j_laidAnew {f : Nat → va_E} {g : GE} {a am : Nat → Nat} {k : KS} {m : MS} {L La Lm : List Nat} {f1 : Nat → va_E} {u : PE} {ro : Nat → Int64} {t0 n : Nat} {r b x : Int32} (hi : Iv a k) (hL : IvL k) (hR : Rel k m t0 n) (hk : CW g a k L f) (HW : WrQ (fun r u => ∃ j, j < kC k ∧ x = nI j ∧ r = nI (laC k j (k.2.2.2 (k.2.1 1 j))) ∧ u = (L, f)) (fun E u => exL [("java/lang/IndexOutOfBoundsException", chgP k x)] E ∧ ScrP g a k L u) [("java/lang/IndexOutOfBoundsException", 1)] La f1 ro r) (HM : (fun r u => (¬ mChg m x ∧ ScM g am (mT m 1) Lm u) ∨ ∃ c, c < (kC k) ∧ x = nI c ∧ r = nI (laM m c c) ∧ ScM g am (mT m 0) Lm u) b u) : Jn g (a 0) am La Lm f1 u (n + 1) r ∧ (r = 0 → ro 0 = b.toInt64) := by
  rcases HW with ⟨rfl, v, hp, hv⟩ | ⟨E, ⟨he, hsc⟩, hcd⟩
  · obtain ⟨j, h1, hx, rfl, hu⟩ := hp
    have hall : allT [(1, chgP k x)] := And.intro (chg_at hi h1 hx) (trivial)
    rcases HM with ⟨ht, hm⟩ | ⟨c, q1, qx, rfl, hm⟩
    · exact (exT_nn (show exT [(1, chgP k x)] 1 from Or.inl ⟨fun h => ht ((hR.chg x).mpr h), rfl⟩) hall).elim
    · obtain rfl := chg_un hi h1 q1 hx qx
      obtain ⟨rfl, rfl⟩ := Prod.mk.inj hu
      refine ⟨⟨hm.1, a, k, _, t0, rfl, ⟨hk, hi, hL⟩, hm.2, hR.sm (kSm.rf k) (mSm.t m 0) (Nat.le_succ n), mT_4 m 0⟩, fun _ => ?_⟩
      rw [hv, hR.2.2.2.2.1 _ (hi.2.2.2.2.2.2.2 _ h1).1, la_eq hR.2.2.2.1 h1 hR.2.1.1.1]
  · have hr : exT [(1, chgP k x)] r := exL_T hcd _ [(1, chgP k x)] he (And.intro (And.intro (by intro r h; simpa using h) Iff.rfl) (trivial))
    have hr0 : r ≠ 0 := (by decide : ∀ x ∈ ([("java/lang/IndexOutOfBoundsException", 1)] : List (String × Int32)), x.2 ≠ 0) (E, r) hcd
    rcases HM with ⟨ht, hm⟩ | ⟨c, q1, qx, rfl, hm⟩
    · have et : r = 1 := exT_one _ hr (show exT [(1, chgP k x)] 1 from Or.inl ⟨fun h => ht ((hR.chg x).mpr h), rfl⟩)
      exact ⟨Jn.q hi hL hR hsc hm (mSm.t m _) ((mT_4 m _).trans et.symm), fun h0 => absurd h0 hr0⟩
    · exact (exT_nn hr (And.intro (chg_at hi q1 qx) (trivial))).elim

set_option maxHeartbeats 2000000 in
theorem j_value {g : GE} {a am : Nat → Nat} {k : KS} {m : MS} {L La Lm : List Nat} {f1 : Nat → va_E} {u : PE} {ro : Nat → Int64} {t0 n : Nat} {r b x y z kn : Int32} (hi : Iv a k) (hL : IvL k) (hR : Rel k m t0 n) (HW : WrQ (fun r u => ∃ i, i < kP k ∧ x = nI i ∧ fldP y ∧ dayP z ∧ knP k kn ∧ r = s_val (verS k i z kn).1 y ∧ ScrP g a k L u) (fun E u => exL [("java/lang/IndexOutOfBoundsException", polP k x), ("java/lang/IndexOutOfBoundsException", fldP y), ("java/lang/IllegalArgumentException", dayP z), ("java/lang/IllegalArgumentException", knP k kn)] E ∧ ScrP g a k L u) [("java/lang/IndexOutOfBoundsException", 1), ("java/lang/IllegalArgumentException", 2)] La f1 ro r) (HM : (fun r u => (∃ t, exT [(1, mPol m x ∧ mFld y), (2, mDay z ∧ knI m kn)] t ∧ ScM g am (mT m t) Lm u) ∨ ∃ i d f9 T S, i < (kP k) ∧ x = nI i ∧ f9 < 3 ∧ y = nI f9 ∧ d < 365 ∧ z = nI d ∧ knI m kn ∧ r = (goM (mT m 0) i kn (kC k) (d + 1)).1 f9 ∧ GoP g am (mT m 0) i kn (kC k) t0 Lm u T S) b u) : Jn g (a 0) am La Lm f1 u (n + 1) r ∧ (r = 0 → ro 0 = b.toInt64) := by
  rcases HW with ⟨rfl, v, hp, hv⟩ | ⟨E, ⟨he, hsc⟩, hcd⟩
  · obtain ⟨i, h1, hx, h2, h3, h5, rfl, hsc⟩ := hp
    have hall : allT [(1, polP k x), (1, fldP y), (2, dayP z), (2, knP k kn)] := And.intro (pol_at hi h1 hx) (And.intro (h2) (And.intro (h3) (And.intro (h5) (trivial))))
    rcases HM with ⟨t, ht, hm⟩ | ⟨i2, d, f9, T, S, q1, qx, q2, qy, q3, qz, q4, rfl, R, C, qV, qC, hm⟩
    · exact (exT_nn (show exT [(1, polP k x), (1, fldP y), (2, dayP z), (2, knP k kn)] t from exT_cons (exT_and ht) (hR.pol x) (fun h => exT_cons h (fld_iff y) (fun h => exT_cons (exT_and h) (day_iff z) (fun h => exT_cons h (hR.kn kn) id)))) hall).elim
    · obtain rfl := pol_un hi h1 q1 hx qx
      subst qy
      subst qz
      refine ⟨Jn.q hi hL hR hsc hm (mSm.gt m R C T S 0) (gT_4 m R C T S 0), fun _ => ?_⟩
      rw [hv, sal_val q2, goM_T, hR.ver h1 q3]
  · have hr : exT [(1, polP k x), (1, fldP y), (2, dayP z), (2, knP k kn)] r := exL_T hcd _ [(1, polP k x), (1, fldP y), (2, dayP z), (2, knP k kn)] he (And.intro (And.intro (by intro r h; simpa using h) Iff.rfl) (And.intro (And.intro (by intro r h; simpa using h) Iff.rfl) (And.intro (And.intro (by intro r h; simpa using h) Iff.rfl) (And.intro (And.intro (by intro r h; simpa using h) Iff.rfl) (trivial)))))
    have hr0 : r ≠ 0 := (by decide : ∀ x ∈ ([("java/lang/IndexOutOfBoundsException", 1), ("java/lang/IllegalArgumentException", 2)] : List (String × Int32)), x.2 ≠ 0) (E, r) hcd
    rcases HM with ⟨t, ht, hm⟩ | ⟨i2, d, f9, T, S, q1, qx, q2, qy, q3, qz, q4, rfl, R, C, qV, qC, hm⟩
    · have et : r = t := exT_one _ hr (show exT [(1, polP k x), (1, fldP y), (2, dayP z), (2, knP k kn)] t from exT_cons (exT_and ht) (hR.pol x) (fun h => exT_cons h (fld_iff y) (fun h => exT_cons (exT_and h) (day_iff z) (fun h => exT_cons h (hR.kn kn) id))))
      exact ⟨Jn.q hi hL hR hsc hm (mSm.t m _) ((mT_4 m _).trans et.symm), fun h0 => absurd h0 hr0⟩
    · exact (exT_nn hr (And.intro (pol_at hi q1 qx) (And.intro (fld_at q2 qy) (And.intro (day_at q3 qz) (And.intro ((hR.kn _).mp q4) (trivial)))))).elim

set_option maxHeartbeats 2000000 in
theorem j_isCovered {g : GE} {a am : Nat → Nat} {k : KS} {m : MS} {L La Lm : List Nat} {f1 : Nat → va_E} {u : PE} {ro : Nat → Int64} {t0 n : Nat} {r b x z kn : Int32} (hi : Iv a k) (hL : IvL k) (hR : Rel k m t0 n) (HW : WrQ (fun r u => ∃ i, i < kP k ∧ x = nI i ∧ dayP z ∧ knP k kn ∧ r = (verS k i z kn).2 ∧ ScrP g a k L u) (fun E u => exL [("java/lang/IndexOutOfBoundsException", polP k x), ("java/lang/IllegalArgumentException", dayP z), ("java/lang/IllegalArgumentException", knP k kn)] E ∧ ScrP g a k L u) [("java/lang/IndexOutOfBoundsException", 1), ("java/lang/IllegalArgumentException", 2)] La f1 ro r) (HM : (fun r u => (r = 0 ∧ (∃ t, exT [(1, mPol m x ∧ mFld 0), (2, mDay z ∧ knI m kn)] t ∧ ScM g am (mT m t) Lm u)) ∨ ∃ i d T S, i < (kP k) ∧ x = nI i ∧ d < 365 ∧ z = nI d ∧ knI m kn ∧ r = (goM (mT m 0) i kn (kC k) (d + 1)).2 ∧ GoP g am (mT m 0) i kn (kC k) t0 Lm u T S) b u) : Jn g (a 0) am La Lm f1 u (n + 1) r ∧ (r = 0 → ro 0 = b.toInt64) := by
  rcases HW with ⟨rfl, v, hp, hv⟩ | ⟨E, ⟨he, hsc⟩, hcd⟩
  · obtain ⟨i, h1, hx, h3, h5, rfl, hsc⟩ := hp
    have hall : allT [(1, polP k x), (2, dayP z), (2, knP k kn)] := And.intro (pol_at hi h1 hx) (And.intro (h3) (And.intro (h5) (trivial)))
    rcases HM with ⟨rfl, t, ht, hm⟩ | ⟨i2, d, T, S, q1, qx, q3, qz, q4, rfl, R, C, qV, qC, hm⟩
    · exact (exT_nn (show exT [(1, polP k x), (2, dayP z), (2, knP k kn)] t from exT_cons (exT_and ht) (hR.pol x) (fun h => exT_cons (exT_and (exT_true h fld0)) (day_iff z) (fun h => exT_cons h (hR.kn kn) id))) hall).elim
    · obtain rfl := pol_un hi h1 q1 hx qx
      subst qz
      refine ⟨Jn.q hi hL hR hsc hm (mSm.gt m R C T S 0) (gT_4 m R C T S 0), fun _ => ?_⟩
      rw [hv, goM_T, hR.ver h1 q3]
  · have hr : exT [(1, polP k x), (2, dayP z), (2, knP k kn)] r := exL_T hcd _ [(1, polP k x), (2, dayP z), (2, knP k kn)] he (And.intro (And.intro (by intro r h; simpa using h) Iff.rfl) (And.intro (And.intro (by intro r h; simpa using h) Iff.rfl) (And.intro (And.intro (by intro r h; simpa using h) Iff.rfl) (trivial))))
    have hr0 : r ≠ 0 := (by decide : ∀ x ∈ ([("java/lang/IndexOutOfBoundsException", 1), ("java/lang/IllegalArgumentException", 2)] : List (String × Int32)), x.2 ≠ 0) (E, r) hcd
    rcases HM with ⟨rfl, t, ht, hm⟩ | ⟨i2, d, T, S, q1, qx, q3, qz, q4, rfl, R, C, qV, qC, hm⟩
    · have et : r = t := exT_one _ hr (show exT [(1, polP k x), (2, dayP z), (2, knP k kn)] t from exT_cons (exT_and ht) (hR.pol x) (fun h => exT_cons (exT_and (exT_true h fld0)) (day_iff z) (fun h => exT_cons h (hR.kn kn) id)))
      exact ⟨Jn.q hi hL hR hsc hm (mSm.t m _) ((mT_4 m _).trans et.symm), fun h0 => absurd h0 hr0⟩
    · exact (exT_nn hr (And.intro (pol_at hi q1 qx) (And.intro (day_at q3 qz) (And.intro ((hR.kn _).mp q4) (trivial))))).elim

set_option maxHeartbeats 2000000 in
theorem j_rate {g : GE} {a am : Nat → Nat} {k : KS} {m : MS} {L La Lm : List Nat} {f1 : Nat → va_E} {u : PE} {ro : Nat → Int64} {t0 n : Nat} {r b x z kn : Int32} (hi : Iv a k) (hL : IvL k) (hR : Rel k m t0 n) (HW : WrQ (fun r u => ∃ i d, i < kP k ∧ x = nI i ∧ d < 365 ∧ z = nI d ∧ knP k kn ∧ r = rateV k i (verS k i (nI d) kn) d ∧ ScrP g a k L u) (fun E u => exL [("java/lang/IndexOutOfBoundsException", polP k x), ("java/lang/IllegalArgumentException", dayP z), ("java/lang/IllegalArgumentException", knP k kn)] E ∧ ScrP g a k L u) [("java/lang/IndexOutOfBoundsException", 1), ("java/lang/IllegalArgumentException", 2)] La f1 ro r) (HM : (fun r u => (∃ t, exT [(1, mPol m x ∧ mFld 0), (2, mDay z ∧ knI m kn)] t ∧ ScM g am (mT m t) Lm u) ∨ ∃ i d T S, i < (kP k) ∧ x = nI i ∧ d < 365 ∧ z = nI d ∧ knI m kn ∧ r = rtM (mT m 0) i kn (kC k) t0 d ∧ GoP g am (mT m 0) i kn (kC k) t0 Lm u T S) b u) : Jn g (a 0) am La Lm f1 u (n + 1) r ∧ (r = 0 → ro 0 = b.toInt64) := by
  rcases HW with ⟨rfl, v, hp, hv⟩ | ⟨E, ⟨he, hsc⟩, hcd⟩
  · obtain ⟨i, d0, h1, hx, h3, hz, h5, rfl, hsc⟩ := hp
    have hall : allT [(1, polP k x), (2, dayP z), (2, knP k kn)] := And.intro (pol_at hi h1 hx) (And.intro (day_at h3 hz) (And.intro (h5) (trivial)))
    rcases HM with ⟨t, ht, hm⟩ | ⟨i2, d, T, S, q1, qx, q3, qz, q4, rfl, R, C, qV, qC, hm⟩
    · exact (exT_nn (show exT [(1, polP k x), (2, dayP z), (2, knP k kn)] t from exT_cons (exT_and ht) (hR.pol x) (fun h => exT_cons (exT_and (exT_true h fld0)) (day_iff z) (fun h => exT_cons h (hR.kn kn) id))) hall).elim
    · obtain rfl := pol_un hi h1 q1 hx qx
      obtain rfl := day_un h3 q3 hz qz
      refine ⟨Jn.q hi hL hR hsc hm (mSm.gt m R C T S 0) (gT_4 m R C T S 0), fun _ => ?_⟩
      rw [hv, rtM_T, hR.rate h1 q3]
  · have hr : exT [(1, polP k x), (2, dayP z), (2, knP k kn)] r := exL_T hcd _ [(1, polP k x), (2, dayP z), (2, knP k kn)] he (And.intro (And.intro (by intro r h; simpa using h) Iff.rfl) (And.intro (And.intro (by intro r h; simpa using h) Iff.rfl) (And.intro (And.intro (by intro r h; simpa using h) Iff.rfl) (trivial))))
    have hr0 : r ≠ 0 := (by decide : ∀ x ∈ ([("java/lang/IndexOutOfBoundsException", 1), ("java/lang/IllegalArgumentException", 2)] : List (String × Int32)), x.2 ≠ 0) (E, r) hcd
    rcases HM with ⟨t, ht, hm⟩ | ⟨i2, d, T, S, q1, qx, q3, qz, q4, rfl, R, C, qV, qC, hm⟩
    · have et : r = t := exT_one _ hr (show exT [(1, polP k x), (2, dayP z), (2, knP k kn)] t from exT_cons (exT_and ht) (hR.pol x) (fun h => exT_cons (exT_and (exT_true h fld0)) (day_iff z) (fun h => exT_cons h (hR.kn kn) id)))
      exact ⟨Jn.q hi hL hR hsc hm (mSm.t m _) ((mT_4 m _).trans et.symm), fun h0 => absurd h0 hr0⟩
    · exact (exT_nn hr (And.intro (pol_at hi q1 qx) (And.intro (day_at q3 qz) (And.intro ((hR.kn _).mp q4) (trivial))))).elim

set_option maxHeartbeats 2000000 in
theorem j_segments {g : GE} {a am : Nat → Nat} {k : KS} {m : MS} {L La Lm : List Nat} {f1 : Nat → va_E} {u : PE} {ro : Nat → Int64} {t0 n : Nat} {r b x kn : Int32} (hi : Iv a k) (hL : IvL k) (hR : Rel k m t0 n) (HW : WrQ (fun r u => ∃ i rt sm, i < kP k ∧ x = nI i ∧ knP k kn ∧ isYr k i kn rt sm ∧ r = nI (cntS rt 365) ∧ ScrP g a k L u) (fun E u => exL [("java/lang/IndexOutOfBoundsException", polP k x), ("java/lang/IllegalArgumentException", knP k kn)] E ∧ ScrP g a k L u) [("java/lang/IndexOutOfBoundsException", 1), ("java/lang/IllegalArgumentException", 2)] La f1 ro r) (HM : (fun r u => (∃ t, exT [(1, mPol m x ∧ mFld 0), (2, mDay 0 ∧ knI m kn)] t ∧ ScM g am (mT m t) Lm u) ∨ ∃ i T S, i < (kP k) ∧ x = nI i ∧ knI m kn ∧ r = nI (cntS T 365) ∧ GoP g am (mT m 0) i kn (kC k) t0 Lm u T S) b u) : Jn g (a 0) am La Lm f1 u (n + 1) r ∧ (r = 0 → ro 0 = b.toInt64) := by
  rcases HW with ⟨rfl, v, hp, hv⟩ | ⟨E, ⟨he, hsc⟩, hcd⟩
  · obtain ⟨i, rt, sm, h1, hx, h5, hy, rfl, hsc⟩ := hp
    have hall : allT [(1, polP k x), (2, knP k kn)] := And.intro (pol_at hi h1 hx) (And.intro (h5) (trivial))
    rcases HM with ⟨t, ht, hm⟩ | ⟨i2, T, S, q1, qx, q4, rfl, R, C, qV, qC, hm⟩
    · exact (exT_nn (show exT [(1, polP k x), (2, knP k kn)] t from exT_cons (exT_and ht) (hR.pol x) (fun h => exT_cons (exT_true (exT_and (exT_true h fld0)) day0) (hR.kn kn) id)) hall).elim
    · obtain rfl := pol_un hi h1 q1 hx qx
      refine ⟨Jn.q hi hL hR hsc hm (mSm.gt m R C T S 0) (gT_4 m R C T S 0), fun _ => ?_⟩
      rw [hv, cntS_c 365 (fun d hd => (hR.yr h1 hy d hd).trans (qC.TS.1 d hd).symm)]
  · have hr : exT [(1, polP k x), (2, knP k kn)] r := exL_T hcd _ [(1, polP k x), (2, knP k kn)] he (And.intro (And.intro (by intro r h; simpa using h) Iff.rfl) (And.intro (And.intro (by intro r h; simpa using h) Iff.rfl) (trivial)))
    have hr0 : r ≠ 0 := (by decide : ∀ x ∈ ([("java/lang/IndexOutOfBoundsException", 1), ("java/lang/IllegalArgumentException", 2)] : List (String × Int32)), x.2 ≠ 0) (E, r) hcd
    rcases HM with ⟨t, ht, hm⟩ | ⟨i2, T, S, q1, qx, q4, rfl, R, C, qV, qC, hm⟩
    · have et : r = t := exT_one _ hr (show exT [(1, polP k x), (2, knP k kn)] t from exT_cons (exT_and ht) (hR.pol x) (fun h => exT_cons (exT_true (exT_and (exT_true h fld0)) day0) (hR.kn kn) id))
      exact ⟨Jn.q hi hL hR hsc hm (mSm.t m _) ((mT_4 m _).trans et.symm), fun h0 => absurd h0 hr0⟩
    · exact (exT_nn hr (And.intro (pol_at hi q1 qx) (And.intro ((hR.kn _).mp q4) (trivial)))).elim

set_option maxHeartbeats 2000000 in
theorem j_premium {g : GE} {a am : Nat → Nat} {k : KS} {m : MS} {L La Lm : List Nat} {f1 : Nat → va_E} {u : PE} {ro : Nat → Int64} {t0 n : Nat} {r b x kn : Int32} (hi : Iv a k) (hL : IvL k) (hR : Rel k m t0 n) (HW : WrQ (fun r u => ∃ i rt sm, i < kP k ∧ x = nI i ∧ knP k kn ∧ isYr k i kn rt sm ∧ r = (sumP rt sm 365) ∧ ScrP g a k L u) (fun E u => exL [("java/lang/IndexOutOfBoundsException", polP k x), ("java/lang/IllegalArgumentException", knP k kn)] E ∧ ScrP g a k L u) [("java/lang/IndexOutOfBoundsException", 1), ("java/lang/IllegalArgumentException", 2)] La f1 ro r) (HM : (fun r u => (r = 0 ∧ (∃ t, exT [(1, mPol m x ∧ mFld 0), (2, mDay 0 ∧ knI m kn)] t ∧ ScM g am (mT m t) Lm u)) ∨ ∃ i T S, i < (kP k) ∧ x = nI i ∧ knI m kn ∧ r = S 365 / 365 ∧ GoP g am (mT m 0) i kn (kC k) t0 Lm u T S) b u) : Jn g (a 0) am La Lm f1 u (n + 1) r ∧ (r = 0 → ro 0 = b.toInt64) := by
  rcases HW with ⟨rfl, v, hp, hv⟩ | ⟨E, ⟨he, hsc⟩, hcd⟩
  · obtain ⟨i, rt, sm, h1, hx, h5, hy, rfl, hsc⟩ := hp
    have hall : allT [(1, polP k x), (2, knP k kn)] := And.intro (pol_at hi h1 hx) (And.intro (h5) (trivial))
    rcases HM with ⟨rfl, t, ht, hm⟩ | ⟨i2, T, S, q1, qx, q4, rfl, R, C, qV, qC, hm⟩
    · exact (exT_nn (show exT [(1, polP k x), (2, knP k kn)] t from exT_cons (exT_and ht) (hR.pol x) (fun h => exT_cons (exT_true (exT_and (exT_true h fld0)) day0) (hR.kn kn) id)) hall).elim
    · obtain rfl := pol_un hi h1 q1 hx qx
      refine ⟨Jn.q hi hL hR hsc hm (mSm.gt m R C T S 0) (gT_4 m R C T S 0), fun _ => ?_⟩
      obtain ⟨hT, hS0, hS⟩ := qC.TS
      rw [hv, hR.prem h1 hy hS0 hS hT]
  · have hr : exT [(1, polP k x), (2, knP k kn)] r := exL_T hcd _ [(1, polP k x), (2, knP k kn)] he (And.intro (And.intro (by intro r h; simpa using h) Iff.rfl) (And.intro (And.intro (by intro r h; simpa using h) Iff.rfl) (trivial)))
    have hr0 : r ≠ 0 := (by decide : ∀ x ∈ ([("java/lang/IndexOutOfBoundsException", 1), ("java/lang/IllegalArgumentException", 2)] : List (String × Int32)), x.2 ≠ 0) (E, r) hcd
    rcases HM with ⟨rfl, t, ht, hm⟩ | ⟨i2, T, S, q1, qx, q4, rfl, R, C, qV, qC, hm⟩
    · have et : r = t := exT_one _ hr (show exT [(1, polP k x), (2, knP k kn)] t from exT_cons (exT_and ht) (hR.pol x) (fun h => exT_cons (exT_true (exT_and (exT_true h fld0)) day0) (hR.kn kn) id))
      exact ⟨Jn.q hi hL hR hsc hm (mSm.t m _) ((mT_4 m _).trans et.symm), fun h0 => absurd h0 hr0⟩
    · exact (exT_nn hr (And.intro (pol_at hi q1 qx) (And.intro ((hR.kn _).mp q4) (trivial)))).elim

set_option maxHeartbeats 2000000 in
theorem j_premiumByDays {g : GE} {a am : Nat → Nat} {k : KS} {m : MS} {L La Lm : List Nat} {f1 : Nat → va_E} {u : PE} {ro : Nat → Int64} {t0 n : Nat} {r b x kn : Int32} (hi : Iv a k) (hL : IvL k) (hR : Rel k m t0 n) (HW : WrQ (fun r u => ∃ i, i < kP k ∧ x = nI i ∧ knP k kn ∧ r = dSum k i kn 365 / 365 ∧ ScrP g a k L u) (fun E u => exL [("java/lang/IndexOutOfBoundsException", polP k x), ("java/lang/IllegalArgumentException", knP k kn)] E ∧ ScrP g a k L u) [("java/lang/IndexOutOfBoundsException", 1), ("java/lang/IllegalArgumentException", 2)] La f1 ro r) (HM : (fun r u => (r = 0 ∧ (∃ t, exT [(1, mPol m x ∧ mFld 0), (2, mDay 0 ∧ knI m kn)] t ∧ ScM g am (mT m t) Lm u)) ∨ ∃ i T S, i < (kP k) ∧ x = nI i ∧ knI m kn ∧ r = S 365 / 365 ∧ GoP g am (mT m 0) i kn (kC k) t0 Lm u T S) b u) : Jn g (a 0) am La Lm f1 u (n + 1) r ∧ (r = 0 → ro 0 = b.toInt64) := by
  rcases HW with ⟨rfl, v, hp, hv⟩ | ⟨E, ⟨he, hsc⟩, hcd⟩
  · obtain ⟨i, h1, hx, h5, rfl, hsc⟩ := hp
    have hall : allT [(1, polP k x), (2, knP k kn)] := And.intro (pol_at hi h1 hx) (And.intro (h5) (trivial))
    rcases HM with ⟨rfl, t, ht, hm⟩ | ⟨i2, T, S, q1, qx, q4, rfl, R, C, qV, qC, hm⟩
    · exact (exT_nn (show exT [(1, polP k x), (2, knP k kn)] t from exT_cons (exT_and ht) (hR.pol x) (fun h => exT_cons (exT_true (exT_and (exT_true h fld0)) day0) (hR.kn kn) id)) hall).elim
    · obtain rfl := pol_un hi h1 q1 hx qx
      refine ⟨Jn.q hi hL hR hsc hm (mSm.gt m R C T S 0) (gT_4 m R C T S 0), fun _ => ?_⟩
      obtain ⟨hT, hS0, hS⟩ := qC.TS
      rw [hv, hR.days h1 hS0 hS hT]
  · have hr : exT [(1, polP k x), (2, knP k kn)] r := exL_T hcd _ [(1, polP k x), (2, knP k kn)] he (And.intro (And.intro (by intro r h; simpa using h) Iff.rfl) (And.intro (And.intro (by intro r h; simpa using h) Iff.rfl) (trivial)))
    have hr0 : r ≠ 0 := (by decide : ∀ x ∈ ([("java/lang/IndexOutOfBoundsException", 1), ("java/lang/IllegalArgumentException", 2)] : List (String × Int32)), x.2 ≠ 0) (E, r) hcd
    rcases HM with ⟨rfl, t, ht, hm⟩ | ⟨i2, T, S, q1, qx, q4, rfl, R, C, qV, qC, hm⟩
    · have et : r = t := exT_one _ hr (show exT [(1, polP k x), (2, knP k kn)] t from exT_cons (exT_and ht) (hR.pol x) (fun h => exT_cons (exT_true (exT_and (exT_true h fld0)) day0) (hR.kn kn) id))
      exact ⟨Jn.q hi hL hR hsc hm (mSm.t m _) ((mT_4 m _).trans et.symm), fun h0 => absurd h0 hr0⟩
    · exact (exT_nn hr (And.intro (pol_at hi q1 qx) (And.intro ((hR.kn _).mp q4) (trivial)))).elim

set_option maxHeartbeats 2000000 in
theorem j_bill {g : GE} {a am : Nat → Nat} {k : KS} {m : MS} {L La Lm : List Nat} {f1 : Nat → va_E} {u : PE} {ro : Nat → Int64} {t0 n : Nat} {r b x : Int32} (hi : Iv a k) (hL : IvL k) (hR : Rel k m t0 n) (HW : WrQ (fun r u => ∃ i rt sm, i < kP k ∧ x = nI i ∧ isYr k i (k.1 0 0) rt sm ∧ r = ((sumP rt sm 365) - k.1 11 i) ∧ ScrP g a (kW k 11 i (k.1 11 i + ((sumP rt sm 365) - k.1 11 i))) L u) (fun E u => exL [("java/lang/IndexOutOfBoundsException", polP k x)] E ∧ ScrP g a k L u) [("java/lang/IndexOutOfBoundsException", 1)] La f1 ro r) (HM : (fun r u => (∃ t, exT [(1, mPol m x ∧ mFld 0), (2, mDay 0 ∧ knI m (m 0 1))] t ∧ ScM g am (mT m t) Lm u) ∨ ∃ i R C T S, i < (kP k) ∧ x = nI i ∧ r = S 365 / 365 - m 2 i ∧ gdC (mT m 0) i (m 0 1) (kC k) t0 365 C T S ∧ ScM g am (mS (gK (mT m 0) R C T S) 2 i (S 365 / 365)) Lm u) b u) : Jn g (a 0) am La Lm f1 u (n + 1) r ∧ (r = 0 → ro 0 = b.toInt64) := by
  rcases HW with ⟨rfl, v, hp, hv⟩ | ⟨E, ⟨he, hsc⟩, hcd⟩
  · obtain ⟨i, rt, sm, h1, hx, hy, rfl, hsc⟩ := hp
    have hall : allT [(1, polP k x)] := And.intro (pol_at hi h1 hx) (trivial)
    rcases HM with ⟨t, ht, hm⟩ | ⟨i2, R, C, T, S, q1, qx, rfl, qC, hm⟩
    · exact (exT_nn (show exT [(1, polP k x)] t from exT_cons (exT_and ht) (hR.pol x) (fun h => exT_true (exT_true (exT_and (exT_true h fld0)) day0) hR.kn0)) hall).elim
    · obtain rfl := pol_un hi h1 q1 hx qx
      obtain ⟨hT, hS0, hS⟩ := qC.TS
      rw [hR.2.1.1.1] at hT
      rw [hR.prem h1 hy hS0 hS hT, addsub] at hsc
      rw [hR.prem h1 hy hS0 hS hT, (hR.2.2.1.1 _ h1).1.2] at hv
      obtain ⟨st, rt9, sm9, h0, hu, hk9⟩ := hsc
      obtain rfl : La = L := hu
      exact ⟨⟨hm.1, a, _, _, t0, rfl, ⟨hk9, hi.bl (kSm.bill k _ _ st rt9 sm9), hL.bl (kSm.bill k _ _ st rt9 sm9)⟩, hm.2, (hR.bill h1 (mSm.gt m R C T S 0)).sm (kSm.scr _ st rt9 sm9 h0) (mSm.rf _) (Nat.le_refl _), by rw [mS_n (by decide), gT_4]⟩, fun _ => hv⟩
  · have hr : exT [(1, polP k x)] r := exL_T hcd _ [(1, polP k x)] he (And.intro (And.intro (by intro r h; simpa using h) Iff.rfl) (trivial))
    have hr0 : r ≠ 0 := (by decide : ∀ x ∈ ([("java/lang/IndexOutOfBoundsException", 1)] : List (String × Int32)), x.2 ≠ 0) (E, r) hcd
    rcases HM with ⟨t, ht, hm⟩ | ⟨i2, R, C, T, S, q1, qx, rfl, qC, hm⟩
    · have et : r = t := exT_one _ hr (show exT [(1, polP k x)] t from exT_cons (exT_and ht) (hR.pol x) (fun h => exT_true (exT_true (exT_and (exT_true h fld0)) day0) hR.kn0))
      exact ⟨Jn.q hi hL hR hsc hm (mSm.t m _) ((mT_4 m _).trans et.symm), fun h0 => absurd h0 hr0⟩
    · exact (exT_nn hr (And.intro (pol_at hi q1 qx) (trivial))).elim

set_option maxHeartbeats 2000000 in
theorem j_billed {g : GE} {a am : Nat → Nat} {k : KS} {m : MS} {L La Lm : List Nat} {f1 : Nat → va_E} {u : PE} {ro : Nat → Int64} {t0 n : Nat} {r b x : Int32} (hi : Iv a k) (hL : IvL k) (hR : Rel k m t0 n) (HW : WrQ (fun r u => ∃ i, i < kP k ∧ x = nI i ∧ r = k.1 11 i ∧ ScrP g a k L u) (fun E u => exL [("java/lang/IndexOutOfBoundsException", polP k x)] E ∧ ScrP g a k L u) [("java/lang/IndexOutOfBoundsException", 1)] La f1 ro r) (HM : (fun r u => (¬ mPol m x ∧ ScM g am (mT m 1) Lm u) ∨ ∃ i, i < (kP k) ∧ x = nI i ∧ r = m 2 i ∧ ScM g am (mT m 0) Lm u) b u) : Jn g (a 0) am La Lm f1 u (n + 1) r ∧ (r = 0 → ro 0 = b.toInt64) := by
  rcases HW with ⟨rfl, v, hp, hv⟩ | ⟨E, ⟨he, hsc⟩, hcd⟩
  · obtain ⟨i, h1, hx, rfl, hsc⟩ := hp
    have hall : allT [(1, polP k x)] := And.intro (pol_at hi h1 hx) (trivial)
    rcases HM with ⟨ht, hm⟩ | ⟨i2, q1, qx, rfl, hm⟩
    · exact (exT_nn (show exT [(1, polP k x)] 1 from Or.inl ⟨fun h => ht ((hR.pol x).mpr h), rfl⟩) hall).elim
    · obtain rfl := pol_un hi h1 q1 hx qx
      refine ⟨Jn.q hi hL hR hsc hm (mSm.t m 0) (mT_4 m 0), fun _ => ?_⟩
      rw [hv, (hR.2.2.1.1 _ h1).1.2]
  · have hr : exT [(1, polP k x)] r := exL_T hcd _ [(1, polP k x)] he (And.intro (And.intro (by intro r h; simpa using h) Iff.rfl) (trivial))
    have hr0 : r ≠ 0 := (by decide : ∀ x ∈ ([("java/lang/IndexOutOfBoundsException", 1)] : List (String × Int32)), x.2 ≠ 0) (E, r) hcd
    rcases HM with ⟨ht, hm⟩ | ⟨i2, q1, qx, rfl, hm⟩
    · have et : r = 1 := exT_one _ hr (show exT [(1, polP k x)] 1 from Or.inl ⟨fun h => ht ((hR.pol x).mpr h), rfl⟩)
      exact ⟨Jn.q hi hL hR hsc hm (mSm.t m _) ((mT_4 m _).trans et.symm), fun h0 => absurd h0 hr0⟩
    · exact (exT_nn hr (And.intro (pol_at hi q1 qx) (trivial))).elim

theorem isSt_c {T T' : Nat → Int32} {d : Nat} (h : ∀ j, j ≤ d → T j = T' j) : isSt T d ↔ isSt T' d := by
  unfold isSt
  rw [h d (Nat.le_refl d), h (d - 1) (by omega)]
theorem cntS_mono (T : Nat → Int32) {d : Nat} : ∀ e, cntS T d ≤ cntS T (d + e)
  | 0 => Nat.le_refl _
  | e + 1 => by
    have := cntS_mono T (d := d) e
    rw [← Nat.add_assoc, cntS]
    omega
theorem st_un {T : Nat → Int32} {d d' : Nat} (h : isSt T d) (h' : isSt T d') (he : cntS T d = cntS T d') : d = d' := by
  rcases Nat.lt_trichotomy d d' with q | q | q
  · have h1 := cntS_mono T (d := d + 1) (d' - (d + 1))
    rw [show d + 1 + (d' - (d + 1)) = d' by omega, cntS_t h] at h1
    omega
  · exact q
  · have h1 := cntS_mono T (d := d' + 1) (d - (d' + 1))
    rw [show d' + 1 + (d - (d' + 1)) = d by omega, cntS_t h'] at h1
    omega

set_option maxHeartbeats 2000000 in
theorem j_segmentStart {g : GE} {a am : Nat → Nat} {k : KS} {m : MS} {L La Lm : List Nat} {f1 : Nat → va_E} {u : PE} {ro : Nat → Int64} {t0 n : Nat} {r b x sg kn : Int32} (hi : Iv a k) (hL : IvL k) (hR : Rel k m t0 n) (HW : WrQ (fun r u => ∃ i d rt sm, i < kP k ∧ x = nI i ∧ knP k kn ∧ isYr k i kn rt sm ∧ segOf rt sg d ∧ r = nI d ∧ ScrP g a k L u) (fun E u => exL [("java/lang/IllegalArgumentException", knP k kn), ("java/lang/IndexOutOfBoundsException", polP k x), ("java/lang/IndexOutOfBoundsException", segP k x kn sg)] E ∧ ScrP g a k L u) [("java/lang/IllegalArgumentException", 1), ("java/lang/IndexOutOfBoundsException", 2)] La f1 ro r) (HM : (fun r u => (¬ knI m kn ∧ ScM g am (mT m 1) Lm u) ∨ (knI m kn ∧ ¬ mPol m x ∧ ScM g am (mT m 2) Lm u) ∨ (∃ i R C T S, i < (kP k) ∧ x = nI i ∧ knI m kn ∧ (∀ d, d < 365 → isSt T d → nI (cntS T d) ≠ sg) ∧ gdC (mT m 0) i kn (kC k) t0 365 C T S ∧ ScM g am (mT (gK (mT m 0) R C T S) 2) Lm u) ∨ ∃ i R C T S d, i < (kP k) ∧ x = nI i ∧ knI m kn ∧ d < 365 ∧ isSt T d ∧ nI (cntS T d) = sg ∧ r = nI d ∧ gdC (mT m 0) i kn (kC k) t0 365 C T S ∧ ScM g am (mT (gK (mT m 0) R C T S) 0) Lm u) b u) : Jn g (a 0) am La Lm f1 u (n + 1) r ∧ (r = 0 → ro 0 = b.toInt64) := by
  have hseg : ∀ i T, i < kP k → x = nI i → (∀ d, d < 365 → T d = rtM m i kn (kC k) t0 d) → (segP k x kn sg ↔ ∃ d, d < 365 ∧ isSt T d ∧ nI (cntS T d) = sg) := by
    intro i T h1 hx hT
    constructor
    · intro h
      obtain ⟨d, h2, h3, h4⟩ := h i _ _ h1 hx ⟨rfl, rfl⟩
      have e : ∀ d, d < 365 → yRates k i kn 365 d = T d := fun d hd => (hR.yr h1 ⟨rfl, rfl⟩ d hd).trans (hT d hd).symm
      exact ⟨d, h2, (isSt_c (fun j hj => e j (by omega))).mp h3, by rw [← cntS_c d (fun j hj => e j (by omega))]; exact h4⟩
    · rintro ⟨d, h2, h3, h4⟩ i2 rt sm h5 hx2 hy
      obtain rfl := pol_un hi h1 h5 hx hx2
      have e : ∀ d, d < 365 → rt d = T d := fun d hd => (hR.yr h5 hy d hd).trans (hT d hd).symm
      exact ⟨d, h2, (isSt_c (fun j hj => e j (by omega))).mpr h3, by rw [cntS_c d (fun j hj => e j (by omega))]; exact h4⟩
  -- the reference: refused, or found
  have HM2 : (∃ t m', exT [(1, knP k kn), (2, polP k x), (2, segP k x kn sg)] t ∧ t ≠ 0 ∧ mSm m m' ∧ m' 0 4 = t ∧ ScM g am m' Lm u) ∨ ∃ i R C T S d, i < kP k ∧ x = nI i ∧ knP k kn ∧ d < 365 ∧ isSt T d ∧ nI (cntS T d) = sg ∧ b = nI d ∧ gdC (mT m 0) i kn (kC k) t0 365 C T S ∧ ScM g am (mT (gK (mT m 0) R C T S) 0) Lm u := by
    rcases HM with ⟨h1, hm⟩ | ⟨h1, h2, hm⟩ | ⟨i, R, C, T, S, h1, hx, h2, h3, hC, hm⟩ | ⟨i, R, C, T, S, d, h1, hx, h2, h3, h5, h6, h7, hC, hm⟩
    · exact Or.inl ⟨1, _, Or.inl ⟨fun h => h1 ((hR.kn kn).mpr h), rfl⟩, by decide, mSm.t m 1, mT_4 m 1, hm⟩
    · exact Or.inl ⟨2, _, Or.inr ⟨(hR.kn kn).mp h1, Or.inl ⟨fun h => h2 ((hR.pol x).mpr h), rfl⟩⟩, by decide, mSm.t m 2, mT_4 m 2, hm⟩
    · exact Or.inl ⟨2, _, Or.inr ⟨(hR.kn kn).mp h2, Or.inr ⟨pol_at hi h1 hx, Or.inl ⟨fun h => by
        obtain ⟨d, h8, h9, h10⟩ := (hseg i T h1 hx hC.TS.1).mp h
        exact h3 d h8 h9 h10, rfl⟩⟩⟩, by decide, (mSm.gt m R C T S 0).tr (mSm.t _ 2), mT_4 _ 2, hm⟩
    · exact Or.inr ⟨i, R, C, T, S, d, h1, hx, (hR.kn kn).mp h2, h3, h5, h6, h7, hC, hm⟩
  rcases HW with ⟨rfl, v, hp, hv⟩ | ⟨E, ⟨he, hsc⟩, hcd⟩
  · obtain ⟨i, d, rt, sm, h1, hx, h5, hy, hsg, rfl, hsc⟩ := hp
    rcases HM2 with ⟨t, m', ht, -⟩ | ⟨i2, R, C, T, S, d2, q1, qx, q2, q3, q4, q5, q6, qC, hm⟩
    · have e : ∀ d, d < 365 → rt d = rtM m i kn (kC k) t0 d := hR.yr h1 hy
      exact (exT_nn ht (And.intro h5 (And.intro (pol_at hi h1 hx) (And.intro ((hseg i rt h1 hx e).mpr ⟨d, hsg⟩) trivial)))).elim
    · obtain rfl := pol_un hi h1 q1 hx qx
      have e : ∀ d, d < 365 → rt d = T d := fun d hd => (hR.yr h1 hy d hd).trans (qC.TS.1 d hd).symm
      have ed : d = d2 := st_un (T := T) ((isSt_c (fun j hj => e j (by have := hsg.1; omega))).mp hsg.2.1) q4 (by
        have e1 := cntS_c d (fun j hj => e j (by have := hsg.1; omega))
        have e2 := hsg.2.2.trans q5.symm
        rw [e1] at e2
        exact (nI_eq (by have := cntS_le T d; have := hsg.1; omega) (by have := cntS_le T d2; omega)).mp e2)
      subst ed
      refine ⟨Jn.q hi hL hR hsc hm ((mSm.gt m R C T S 0).tr (mSm.t _ 0)) (mT_4 _ 0), fun _ => ?_⟩
      rw [hv, q6]
  · have hr : exT [(1, knP k kn), (2, polP k x), (2, segP k x kn sg)] r := exL_T hcd _ [(1, knP k kn), (2, polP k x), (2, segP k x kn sg)] he (And.intro (And.intro (by intro r h; simpa using h) Iff.rfl) (And.intro (And.intro (by intro r h; simpa using h) Iff.rfl) (And.intro (And.intro (by intro r h; simpa using h) Iff.rfl) (trivial))))
    have hr0 : r ≠ 0 := (by decide : ∀ x ∈ ([("java/lang/IllegalArgumentException", 1), ("java/lang/IndexOutOfBoundsException", 2)] : List (String × Int32)), x.2 ≠ 0) (E, r) hcd
    rcases HM2 with ⟨t, m', ht, -, hs, h4, hm⟩ | ⟨i2, R, C, T, S, d2, q1, qx, q2, q3, q4, q5, q6, qC, hm⟩
    · have et : r = t := exT_one _ hr ht
      exact ⟨Jn.q hi hL hR hsc hm hs (h4.trans et.symm), fun h0 => absurd h0 hr0⟩
    · exact (exT_nn hr (And.intro q2 (And.intro (pol_at hi q1 qx) (And.intro ((hseg i2 T q1 qx qC.TS.1).mpr ⟨d2, q3, q4, q5⟩) trivial)))).elim

set_option maxHeartbeats 2000000 in
theorem j_segmentPremium {g : GE} {a am : Nat → Nat} {k : KS} {m : MS} {L La Lm : List Nat} {f1 : Nat → va_E} {u : PE} {ro : Nat → Int64} {t0 n : Nat} {r b x sg kn : Int32} (hi : Iv a k) (hL : IvL k) (hR : Rel k m t0 n) (HW : WrQ (fun r u => ∃ i d rt sm, i < kP k ∧ x = nI i ∧ knP k kn ∧ isYr k i kn rt sm ∧ segOf rt sg d ∧ r = (sm (endD rt d) / 365 - sm d / 365) ∧ ScrP g a k L u) (fun E u => exL [("java/lang/IllegalArgumentException", knP k kn), ("java/lang/IndexOutOfBoundsException", polP k x), ("java/lang/IndexOutOfBoundsException", segP k x kn sg)] E ∧ ScrP g a k L u) [("java/lang/IllegalArgumentException", 1), ("java/lang/IndexOutOfBoundsException", 2)] La f1 ro r) (HM : (fun r u => (¬ knI m kn ∧ ScM g am (mT m 1) Lm u) ∨ (knI m kn ∧ ¬ mPol m x ∧ ScM g am (mT m 2) Lm u) ∨ (∃ i R C T S, i < (kP k) ∧ x = nI i ∧ knI m kn ∧ (∀ d, d < 365 → isSt T d → nI (cntS T d) ≠ sg) ∧ gdC (mT m 0) i kn (kC k) t0 365 C T S ∧ ScM g am (mT (gK (mT m 0) R C T S) 2) Lm u) ∨ ∃ i R C T S d, i < (kP k) ∧ x = nI i ∧ knI m kn ∧ d < 365 ∧ isSt T d ∧ nI (cntS T d) = sg ∧ (∃ e9, e9 ≤ 365 ∧ d ≤ e9 ∧ (∀ j, d ≤ j → j < e9 → T j = T d) ∧ (e9 = 365 ∨ ¬ T e9 = T d) ∧ r = S e9 / 365 - S d / 365) ∧ gdC (mT m 0) i kn (kC k) t0 365 C T S ∧ ScM g am (mT (gK (mT m 0) R C T S) 0) Lm u) b u) : Jn g (a 0) am La Lm f1 u (n + 1) r ∧ (r = 0 → ro 0 = b.toInt64) := by
  have hseg : ∀ i T, i < kP k → x = nI i → (∀ d, d < 365 → T d = rtM m i kn (kC k) t0 d) → (segP k x kn sg ↔ ∃ d, d < 365 ∧ isSt T d ∧ nI (cntS T d) = sg) := by
    intro i T h1 hx hT
    constructor
    · intro h
      obtain ⟨d, h2, h3, h4⟩ := h i _ _ h1 hx ⟨rfl, rfl⟩
      have e : ∀ d, d < 365 → yRates k i kn 365 d = T d := fun d hd => (hR.yr h1 ⟨rfl, rfl⟩ d hd).trans (hT d hd).symm
      exact ⟨d, h2, (isSt_c (fun j hj => e j (by omega))).mp h3, by rw [← cntS_c d (fun j hj => e j (by omega))]; exact h4⟩
    · rintro ⟨d, h2, h3, h4⟩ i2 rt sm h5 hx2 hy
      obtain rfl := pol_un hi h1 h5 hx hx2
      have e : ∀ d, d < 365 → rt d = T d := fun d hd => (hR.yr h5 hy d hd).trans (hT d hd).symm
      exact ⟨d, h2, (isSt_c (fun j hj => e j (by omega))).mpr h3, by rw [cntS_c d (fun j hj => e j (by omega))]; exact h4⟩
  -- the reference: refused, or found
  have HM2 : (∃ t m', exT [(1, knP k kn), (2, polP k x), (2, segP k x kn sg)] t ∧ t ≠ 0 ∧ mSm m m' ∧ m' 0 4 = t ∧ ScM g am m' Lm u) ∨ ∃ i R C T S d, i < kP k ∧ x = nI i ∧ knP k kn ∧ d < 365 ∧ isSt T d ∧ nI (cntS T d) = sg ∧ (∃ e9, e9 ≤ 365 ∧ d ≤ e9 ∧ (∀ j, d ≤ j → j < e9 → T j = T d) ∧ (e9 = 365 ∨ ¬ T e9 = T d) ∧ b = S e9 / 365 - S d / 365) ∧ gdC (mT m 0) i kn (kC k) t0 365 C T S ∧ ScM g am (mT (gK (mT m 0) R C T S) 0) Lm u := by
    rcases HM with ⟨h1, hm⟩ | ⟨h1, h2, hm⟩ | ⟨i, R, C, T, S, h1, hx, h2, h3, hC, hm⟩ | ⟨i, R, C, T, S, d, h1, hx, h2, h3, h5, h6, h7, hC, hm⟩
    · exact Or.inl ⟨1, _, Or.inl ⟨fun h => h1 ((hR.kn kn).mpr h), rfl⟩, by decide, mSm.t m 1, mT_4 m 1, hm⟩
    · exact Or.inl ⟨2, _, Or.inr ⟨(hR.kn kn).mp h1, Or.inl ⟨fun h => h2 ((hR.pol x).mpr h), rfl⟩⟩, by decide, mSm.t m 2, mT_4 m 2, hm⟩
    · exact Or.inl ⟨2, _, Or.inr ⟨(hR.kn kn).mp h2, Or.inr ⟨pol_at hi h1 hx, Or.inl ⟨fun h => by
        obtain ⟨d, h8, h9, h10⟩ := (hseg i T h1 hx hC.TS.1).mp h
        exact h3 d h8 h9 h10, rfl⟩⟩⟩, by decide, (mSm.gt m R C T S 0).tr (mSm.t _ 2), mT_4 _ 2, hm⟩
    · exact Or.inr ⟨i, R, C, T, S, d, h1, hx, (hR.kn kn).mp h2, h3, h5, h6, h7, hC, hm⟩
  rcases HW with ⟨rfl, v, hp, hv⟩ | ⟨E, ⟨he, hsc⟩, hcd⟩
  · obtain ⟨i, d, rt, sm, h1, hx, h5, hy, hsg, rfl, hsc⟩ := hp
    rcases HM2 with ⟨t, m', ht, -⟩ | ⟨i2, R, C, T, S, d2, q1, qx, q2, q3, q4, q5, q6, qC, hm⟩
    · have e : ∀ d, d < 365 → rt d = rtM m i kn (kC k) t0 d := hR.yr h1 hy
      exact (exT_nn ht (And.intro h5 (And.intro (pol_at hi h1 hx) (And.intro ((hseg i rt h1 hx e).mpr ⟨d, hsg⟩) trivial)))).elim
    · obtain rfl := pol_un hi h1 q1 hx qx
      have e : ∀ d, d < 365 → rt d = T d := fun d hd => (hR.yr h1 hy d hd).trans (qC.TS.1 d hd).symm
      have ed : d = d2 := st_un (T := T) ((isSt_c (fun j hj => e j (by have := hsg.1; omega))).mp hsg.2.1) q4 (by
        have e1 := cntS_c d (fun j hj => e j (by have := hsg.1; omega))
        have e2 := hsg.2.2.trans q5.symm
        rw [e1] at e2
        exact (nI_eq (by have := cntS_le T d; have := hsg.1; omega) (by have := cntS_le T d2; omega)).mp e2)
      subst ed
      refine ⟨Jn.q hi hL hR hsc hm ((mSm.gt m R C T S 0).tr (mSm.t _ 0)) (mT_4 _ 0), fun _ => ?_⟩
      obtain ⟨e9, r1, r2, r3, r4, r5⟩ := q6
      obtain ⟨hT, hS0, hS⟩ := qC.TS
      have es := hR.sums h1 hy hS0 hS hT
      rw [hv, r5, endD_un e hsg.1 r1 r2 r3 r4, es e9 r1, es d (by have := hsg.1; omega)]
  · have hr : exT [(1, knP k kn), (2, polP k x), (2, segP k x kn sg)] r := exL_T hcd _ [(1, knP k kn), (2, polP k x), (2, segP k x kn sg)] he (And.intro (And.intro (by intro r h; simpa using h) Iff.rfl) (And.intro (And.intro (by intro r h; simpa using h) Iff.rfl) (And.intro (And.intro (by intro r h; simpa using h) Iff.rfl) (trivial))))
    have hr0 : r ≠ 0 := (by decide : ∀ x ∈ ([("java/lang/IllegalArgumentException", 1), ("java/lang/IndexOutOfBoundsException", 2)] : List (String × Int32)), x.2 ≠ 0) (E, r) hcd
    rcases HM2 with ⟨t, m', ht, -, hs, h4, hm⟩ | ⟨i2, R, C, T, S, d2, q1, qx, q2, q3, q4, q5, q6, qC, hm⟩
    · have et : r = t := exT_one _ hr ht
      exact ⟨Jn.q hi hL hR hsc hm hs (h4.trans et.symm), fun h0 => absurd h0 hr0⟩
    · exact (exT_nn hr (And.intro q2 (And.intro (pol_at hi q1 qx) (And.intro ((hseg i2 T q1 qx qC.TS.1).mpr ⟨d2, q3, q4, q5⟩) trivial)))).elim

end JOINT
