/-! plain numbers: what the answers come to -/
section PLAIN
/-- of, kind, which, from, number + 20, told, taken + 1 (0: not) -/
abbrev Chg : Type := Nat × Nat × Nat × Nat × Nat × Nat × Nat
abbrev Tar : Type := Nat × Nat × Nat
/-- today, tariffs, changes, bases, what was billed -/
abbrev CS : Type := Nat × List Tar × List Chg × List Nat × List Int32
abbrev V3 : Type := Nat × Nat × Nat × Bool
def numI (q : Nat) : Int32 := nI q - 20
def ChM (m : MS) (j : Nat) (c : Chg) : Prop := (m 6 j = nI c.1 ∧ m 7 j = nI c.2.1 ∧ m 8 j = nI c.2.2.1 ∧ m 9 j = nI c.2.2.2.1) ∧ m 10 j = numI c.2.2.2.2.1 ∧ m 11 j = nI c.2.2.2.2.2.1 ∧ m 12 j = nI c.2.2.2.2.2.2 - 1
def TaM (m : MS) (j : Nat) (t : Tar) : Prop := m 3 j = nI t.1 ∧ m 4 j = nI t.2.1 ∧ m 5 j = nI t.2.2
def okC (c : Chg) : Prop := (c.1 < 4 ∧ c.2.1 < 4 ∧ c.2.2.1 < 3 ∧ c.2.2.2.1 < 365) ∧ (c.2.2.2.2.1 ≤ 40 ∧ (c.2.1 = 0 → 20 ≤ c.2.2.2.2.1)) ∧ c.2.2.2.2.2.1 < 100000 ∧ c.2.2.2.2.2.2 < 100000
def okT (t : Tar) : Prop := t.1 < 3 ∧ t.2.1 ≤ 100 ∧ t.2.2 < 365
/-- m holds the numbers S -/
def MT (m : MS) (S : CS) : Prop := (m 0 1 = nI S.1 ∧ S.1 < 90000 ∧ S.2.2.2.2.length = S.2.2.2.1.length) ∧ (∀ (j : Nat) (t : Tar), S.2.1[j]? = some t → TaM m j t ∧ okT t) ∧ (∀ (j : Nat) (c : Chg), S.2.2.1[j]? = some c → ChM m j c ∧ okC c) ∧ (∀ (i : Nat) (b : Nat), S.2.2.2.1[i]? = some b → m 1 i = nI b ∧ b ≤ 1000) ∧ ∀ (i : Nat) (v : Int32), S.2.2.2.2[i]? = some v → m 2 i = v
def opS (S : CS) (b : Nat) : CS := (S.1, S.2.1, S.2.2.1, S.2.2.2.1 ++ [b], S.2.2.2.2 ++ [0])
def trS (S : CS) (f w d : Nat) : CS := (S.1, S.2.1 ++ [(f, w, d)], S.2.2)
def psS (S : CS) (x : Nat) : CS := (S.1 + x, S.2)
def teS (S : CS) (i kd f d q : Nat) : CS := (S.1, S.2.1, S.2.2.1 ++ [(i, kd, f, d, q, S.1, 0)], S.2.2.2)
def tkS (S : CS) (j : Nat) (c : Chg) : CS := (S.1, S.2.1, S.2.2.1.set j (c.1, c.2.1, c.2.2.1, c.2.2.2.1, c.2.2.2.2.1, c.2.2.2.2.2.1, S.1 + 1), S.2.2.2)
def blS (S : CS) (i : Nat) (v : Int32) : CS := (S.1, S.2.1, S.2.2.1, S.2.2.2.1, S.2.2.2.2.set i v)
theorem app_get {α : Type} {l : List α} {a t : α} {j : Nat} (h : (l ++ [a])[j]? = some t) : l[j]? = some t ∨ (j = l.length ∧ t = a) := by
  rcases Nat.lt_trichotomy j l.length with h1 | h1 | h1
  · rw [List.getElem?_append_left h1] at h
    exact Or.inl h
  · subst h1
    rw [List.getElem?_append_right (Nat.le_refl _), Nat.sub_self] at h
    exact Or.inr ⟨rfl, (Option.some.inj h).symm⟩
  · rw [List.getElem?_append_right (Nat.le_of_lt h1)] at h
    obtain ⟨k, hk⟩ : ∃ k, j - l.length = k + 1 := ⟨j - l.length - 1, by omega⟩
    rw [hk] at h
    cases h
theorem get_lt {α : Type} {l : List α} {t : α} {j : Nat} (h : l[j]? = some t) : j < l.length := (List.getElem?_eq_some_iff.mp h).1
theorem set_get {α : Type} {l : List α} {a t : α} {i j : Nat} (h : (l.set i a)[j]? = some t) : (j = i ∧ t = a) ∨ (j ≠ i ∧ l[j]? = some t) := by
  by_cases e : j = i
  · subst e
    have h1 : j < l.length := by
      have := get_lt h
      rwa [List.length_set] at this
    rw [List.getElem?_set_self h1] at h
    exact Or.inl ⟨rfl, (Option.some.inj h).symm⟩
  · rw [List.getElem?_set_ne (Ne.symm e)] at h
    exact Or.inr ⟨e, h⟩
theorem numI_toInt {q : Nat} (h : q ≤ 40) : (numI q).toInt = (q : Int) - 20 := pk_sub_toInt (a := q) (b := 20) (by omega) (by omega)
theorem numI_pos {q : Nat} (h : 20 ≤ q) : numI q = nI (q - 20) := pk_sub (a := q) (b := 20) h
theorem TaM.c {m m' : MS} {j : Nat} {t : Tar} (h3 : m' 3 j = m 3 j) (h4 : m' 4 j = m 4 j) (h5 : m' 5 j = m 5 j) (h : TaM m j t) : TaM m' j t := by
  unfold TaM at h ⊢
  rw [h3, h4, h5]
  exact h
theorem ChM.c {m m' : MS} {j : Nat} {c : Chg} (hr : ∀ r, 6 ≤ r → r ≤ 12 → m' r j = m r j) (h : ChM m j c) : ChM m' j c := by
  unfold ChM at h ⊢
  rw [hr 6 (by decide) (by decide), hr 7 (by decide) (by decide), hr 8 (by decide) (by decide), hr 9 (by decide) (by decide), hr 10 (by decide) (by decide), hr 11 (by decide) (by decide), hr 12 (by decide) (by decide)]
  exact h
theorem MT.cg {m m' : MS} {S : CS} (hm : mSm m m') (h : MT m S) : MT m' S := by
  obtain ⟨⟨h1, h2, h3⟩, h4, h5, h6, h7⟩ := h
  refine ⟨⟨by rw [hm.1 1 (by decide)]; exact h1, h2, h3⟩, fun j t ht => ⟨(h4 j t ht).1.c (by rw [hm.2 3 (by decide) (by decide)]) (by rw [hm.2 4 (by decide) (by decide)]) (by rw [hm.2 5 (by decide) (by decide)]), (h4 j t ht).2⟩, fun j c hc => ⟨(h5 j c hc).1.c (fun r h8 h9 => by rw [hm.2 r (by omega) h9]), (h5 j c hc).2⟩, fun i b hb => ⟨by rw [hm.2 1 (by decide) (by decide)]; exact (h6 i b hb).1, (h6 i b hb).2⟩, fun i v hv => by rw [hm.2 2 (by decide) (by decide)]; exact h7 i v hv⟩
theorem MT.m0 : MT m0 (0, [], [], [], []) := ⟨⟨rfl, by decide, rfl⟩, fun j t h => by simp at h, fun j t h => by simp at h, fun j t h => by simp at h, fun j t h => by simp at h⟩
theorem MT.op {m : MS} {S : CS} {b : Nat} (h : MT m S) (hb : b ≤ 1000) (h0 : m 2 S.2.2.2.1.length = 0) : MT (mOp m S.2.2.2.1.length (nI b)) (opS S b) := by
  obtain ⟨⟨h1, h2, h3⟩, h4, h5, h6, h7⟩ := h
  have r : ∀ c, 2 ≤ c → mOp m S.2.2.2.1.length (nI b) c = m c := fun c hc => by
    show mS (mS (mS m 0 4 0) 1 S.2.2.2.1.length (nI b)) 0 0 (m 0 0 + 1) c = m c
    rw [mS_n (by omega), mS_n (by omega), mS_n (by omega)]
  have r1 : mOp m S.2.2.2.1.length (nI b) 1 = upd (m 1) S.2.2.2.1.length (nI b) := by
    show mS (mS (mS m 0 4 0) 1 S.2.2.2.1.length (nI b)) 0 0 (m 0 0 + 1) 1 = _
    rw [mS_n (by omega), mS_s, mS_n (by omega)]
  have r0 : mOp m S.2.2.2.1.length (nI b) 0 1 = m 0 1 := by
    show mS (mS (mS m 0 4 0) 1 S.2.2.2.1.length (nI b)) 0 0 (m 0 0 + 1) 0 1 = _
    rw [mS_s, upd_n (by decide), mS_n (by decide), mS_s, upd_n (by decide)]
  refine ⟨⟨r0.trans h1, h2, ?_⟩, fun j t ht => ⟨(h4 j t ht).1.c (by rw [r 3 (by decide)]) (by rw [r 4 (by decide)]) (by rw [r 5 (by decide)]), (h4 j t ht).2⟩, fun j c hc => ⟨(h5 j c hc).1.c (fun q h8 h9 => by rw [r q (by omega)]), (h5 j c hc).2⟩, fun i b' hb' => ?_, fun i v hv => ?_⟩
  · show (S.2.2.2.2 ++ [0]).length = (S.2.2.2.1 ++ [b]).length
    rw [List.length_append, List.length_append, h3]
    rfl
  · rw [r1]
    rcases app_get hb' with e | ⟨rfl, rfl⟩
    · rw [upd_n (by have := get_lt e; omega)]
      exact h6 i b' e
    · exact ⟨upd_s, hb⟩
  · rw [r 2 (by decide)]
    rcases app_get hv with e | ⟨rfl, rfl⟩
    · exact h7 i v e
    · rw [h3]
      exact h0
theorem MT.tr {m : MS} {S : CS} {f w d : Nat} (h : MT m S) (hok : okT (f, w, d)) : MT (mTr m S.2.1.length (nI f) (nI w) (nI d)) (trS S f w d) := by
  obtain ⟨⟨h1, h2, h3⟩, h4, h5, h6, h7⟩ := h
  have r : ∀ c, c ≠ 0 → c ≠ 3 → c ≠ 4 → c ≠ 5 → mTr m S.2.1.length (nI f) (nI w) (nI d) c = m c := fun c a0 a3 a4 a5 => by
    show mS (mS (mS (mS (mS m 0 4 0) 3 S.2.1.length (nI f)) 4 S.2.1.length (nI w)) 5 S.2.1.length (nI d)) 0 2 (m 0 2 + 1) c = m c
    rw [mS_n a0, mS_n a5, mS_n a4, mS_n a3, mS_n a0]
  have r3 : mTr m S.2.1.length (nI f) (nI w) (nI d) 3 = upd (m 3) S.2.1.length (nI f) := by
    show mS (mS (mS (mS (mS m 0 4 0) 3 S.2.1.length (nI f)) 4 S.2.1.length (nI w)) 5 S.2.1.length (nI d)) 0 2 (m 0 2 + 1) 3 = _
    rw [mS_n (by decide), mS_n (by decide), mS_n (by decide), mS_s, mS_n (by decide)]
  have r4 : mTr m S.2.1.length (nI f) (nI w) (nI d) 4 = upd (m 4) S.2.1.length (nI w) := by
    show mS (mS (mS (mS (mS m 0 4 0) 3 S.2.1.length (nI f)) 4 S.2.1.length (nI w)) 5 S.2.1.length (nI d)) 0 2 (m 0 2 + 1) 4 = _
    rw [mS_n (by decide), mS_n (by decide), mS_s, mS_n (by decide), mS_n (by decide)]
  have r5 : mTr m S.2.1.length (nI f) (nI w) (nI d) 5 = upd (m 5) S.2.1.length (nI d) := by
    show mS (mS (mS (mS (mS m 0 4 0) 3 S.2.1.length (nI f)) 4 S.2.1.length (nI w)) 5 S.2.1.length (nI d)) 0 2 (m 0 2 + 1) 5 = _
    rw [mS_n (by decide), mS_s, mS_n (by decide), mS_n (by decide), mS_n (by decide)]
  have r0 : mTr m S.2.1.length (nI f) (nI w) (nI d) 0 1 = m 0 1 := by
    show mS (mS (mS (mS (mS m 0 4 0) 3 S.2.1.length (nI f)) 4 S.2.1.length (nI w)) 5 S.2.1.length (nI d)) 0 2 (m 0 2 + 1) 0 1 = _
    rw [mS_s, upd_n (by decide), mS_n (by decide), mS_n (by decide), mS_n (by decide), mS_s, upd_n (by decide)]
  refine ⟨⟨r0.trans h1, h2, h3⟩, fun j t ht => ?_, fun j c hc => ⟨(h5 j c hc).1.c (fun q h8 h9 => by rw [r q (by omega) (by omega) (by omega) (by omega)]), (h5 j c hc).2⟩, fun i b' hb' => by rw [r 1 (by decide) (by decide) (by decide) (by decide)]; exact h6 i b' hb', fun i v hv => by rw [r 2 (by decide) (by decide) (by decide) (by decide)]; exact h7 i v hv⟩
  rcases app_get ht with e | ⟨rfl, rfl⟩
  · have hj := get_lt e
    exact ⟨(h4 j t e).1.c (by rw [r3, upd_n (by omega)]) (by rw [r4, upd_n (by omega)]) (by rw [r5, upd_n (by omega)]), (h4 j t e).2⟩
  · exact ⟨⟨by rw [r3, upd_s], by rw [r4, upd_s], by rw [r5, upd_s]⟩, hok⟩
theorem MT.ps {m : MS} {S : CS} {x : Nat} (h : MT m S) (hx : S.1 + x < 90000) : MT (mPs m (nI x)) (psS S x) := by
  obtain ⟨⟨h1, h2, h3⟩, h4, h5, h6, h7⟩ := h
  have r : ∀ c, 1 ≤ c → mPs m (nI x) c = m c := fun c hc => by
    show mS (mS m 0 4 0) 0 1 (m 0 1 + nI x) c = m c
    rw [mS_n (by omega), mS_n (by omega)]
  have r0 : mPs m (nI x) 0 1 = nI (S.1 + x) := by
    show mS (mS m 0 4 0) 0 1 (m 0 1 + nI x) 0 1 = _
    rw [mS_s, upd_s, h1, nI_add]
  exact ⟨⟨r0, hx, h3⟩, fun j t ht => ⟨(h4 j t ht).1.c (by rw [r 3 (by decide)]) (by rw [r 4 (by decide)]) (by rw [r 5 (by decide)]), (h4 j t ht).2⟩, fun j c hc => ⟨(h5 j c hc).1.c (fun q h8 h9 => by rw [r q (by omega)]), (h5 j c hc).2⟩, fun i b' hb' => by rw [r 1 (by decide)]; exact h6 i b' hb', fun i v hv => by rw [r 2 (by decide)]; exact h7 i v hv⟩
theorem MT.te {m : MS} {S : CS} {i kd f d q : Nat} (h : MT m S) (hok : okC (i, kd, f, d, q, S.1, 0)) : MT (mTell m S.2.2.1.length (nI i) (nI kd) (nI f) (nI d) (numI q)) (teS S i kd f d q) := by
  obtain ⟨⟨h1, h2, h3⟩, h4, h5, h6, h7⟩ := h
  generalize hn : S.2.2.1.length = n
  have r : ∀ c, 1 ≤ c → c ≤ 5 → mTell m n (nI i) (nI kd) (nI f) (nI d) (numI q) c = m c := fun c a1 a2 => by
    show mS (mS (mS (mS (mS (mS (mS (mS (mS m 0 4 0) 6 n (nI i)) 7 n (nI kd)) 8 n (nI f)) 9 n (nI d)) 10 n (numI q)) 11 n (m 0 1)) 12 n (-1)) 0 3 (m 0 3 + 1) c = m c
    rw [mS_n (by omega), mS_n (by omega), mS_n (by omega), mS_n (by omega), mS_n (by omega), mS_n (by omega), mS_n (by omega), mS_n (by omega), mS_n (by omega)]
  have s6 : mTell m n (nI i) (nI kd) (nI f) (nI d) (numI q) 6 = upd (m 6) n (nI i) := by
    show mS (mS (mS (mS (mS (mS (mS (mS (mS m 0 4 0) 6 n (nI i)) 7 n (nI kd)) 8 n (nI f)) 9 n (nI d)) 10 n (numI q)) 11 n (m 0 1)) 12 n (-1)) 0 3 (m 0 3 + 1) 6 = _
    rw [mS_n (by decide), mS_n (by decide), mS_n (by decide), mS_n (by decide), mS_n (by decide), mS_n (by decide), mS_n (by decide), mS_s, mS_n (by decide)]
  have s7 : mTell m n (nI i) (nI kd) (nI f) (nI d) (numI q) 7 = upd (m 7) n (nI kd) := by
    show mS (mS (mS (mS (mS (mS (mS (mS (mS m 0 4 0) 6 n (nI i)) 7 n (nI kd)) 8 n (nI f)) 9 n (nI d)) 10 n (numI q)) 11 n (m 0 1)) 12 n (-1)) 0 3 (m 0 3 + 1) 7 = _
    rw [mS_n (by decide), mS_n (by decide), mS_n (by decide), mS_n (by decide), mS_n (by decide), mS_n (by decide), mS_s, mS_n (by decide), mS_n (by decide)]
  have s8 : mTell m n (nI i) (nI kd) (nI f) (nI d) (numI q) 8 = upd (m 8) n (nI f) := by
    show mS (mS (mS (mS (mS (mS (mS (mS (mS m 0 4 0) 6 n (nI i)) 7 n (nI kd)) 8 n (nI f)) 9 n (nI d)) 10 n (numI q)) 11 n (m 0 1)) 12 n (-1)) 0 3 (m 0 3 + 1) 8 = _
    rw [mS_n (by decide), mS_n (by decide), mS_n (by decide), mS_n (by decide), mS_n (by decide), mS_s, mS_n (by decide), mS_n (by decide), mS_n (by decide)]
  have s9 : mTell m n (nI i) (nI kd) (nI f) (nI d) (numI q) 9 = upd (m 9) n (nI d) := by
    show mS (mS (mS (mS (mS (mS (mS (mS (mS m 0 4 0) 6 n (nI i)) 7 n (nI kd)) 8 n (nI f)) 9 n (nI d)) 10 n (numI q)) 11 n (m 0 1)) 12 n (-1)) 0 3 (m 0 3 + 1) 9 = _
    rw [mS_n (by decide), mS_n (by decide), mS_n (by decide), mS_n (by decide), mS_s, mS_n (by decide), mS_n (by decide), mS_n (by decide), mS_n (by decide)]
  have s10 : mTell m n (nI i) (nI kd) (nI f) (nI d) (numI q) 10 = upd (m 10) n (numI q) := by
    show mS (mS (mS (mS (mS (mS (mS (mS (mS m 0 4 0) 6 n (nI i)) 7 n (nI kd)) 8 n (nI f)) 9 n (nI d)) 10 n (numI q)) 11 n (m 0 1)) 12 n (-1)) 0 3 (m 0 3 + 1) 10 = _
    rw [mS_n (by decide), mS_n (by decide), mS_n (by decide), mS_s, mS_n (by decide), mS_n (by decide), mS_n (by decide), mS_n (by decide), mS_n (by decide)]
  have s11 : mTell m n (nI i) (nI kd) (nI f) (nI d) (numI q) 11 = upd (m 11) n (m 0 1) := by
    show mS (mS (mS (mS (mS (mS (mS (mS (mS m 0 4 0) 6 n (nI i)) 7 n (nI kd)) 8 n (nI f)) 9 n (nI d)) 10 n (numI q)) 11 n (m 0 1)) 12 n (-1)) 0 3 (m 0 3 + 1) 11 = _
    rw [mS_n (by decide), mS_n (by decide), mS_s, mS_n (by decide), mS_n (by decide), mS_n (by decide), mS_n (by decide), mS_n (by decide), mS_n (by decide)]
  have s12 : mTell m n (nI i) (nI kd) (nI f) (nI d) (numI q) 12 = upd (m 12) n (-1) := by
    show mS (mS (mS (mS (mS (mS (mS (mS (mS m 0 4 0) 6 n (nI i)) 7 n (nI kd)) 8 n (nI f)) 9 n (nI d)) 10 n (numI q)) 11 n (m 0 1)) 12 n (-1)) 0 3 (m 0 3 + 1) 12 = _
    rw [mS_n (by decide), mS_s, mS_n (by decide), mS_n (by decide), mS_n (by decide), mS_n (by decide), mS_n (by decide), mS_n (by decide), mS_n (by decide)]
  have r0 : mTell m n (nI i) (nI kd) (nI f) (nI d) (numI q) 0 1 = m 0 1 := by
    show mS (mS (mS (mS (mS (mS (mS (mS (mS m 0 4 0) 6 n (nI i)) 7 n (nI kd)) 8 n (nI f)) 9 n (nI d)) 10 n (numI q)) 11 n (m 0 1)) 12 n (-1)) 0 3 (m 0 3 + 1) 0 1 = _
    rw [mS_s, upd_n (by decide), mS_n (by decide), mS_n (by decide), mS_n (by decide), mS_n (by decide), mS_n (by decide), mS_n (by decide), mS_n (by decide), mS_s, upd_n (by decide)]
  refine ⟨⟨r0.trans h1, h2, h3⟩, fun j t ht => ⟨(h4 j t ht).1.c (by rw [r 3 (by decide) (by decide)]) (by rw [r 4 (by decide) (by decide)]) (by rw [r 5 (by decide) (by decide)]), (h4 j t ht).2⟩, fun j c hc => ?_, fun i b' hb' => by rw [r 1 (by decide) (by decide)]; exact h6 i b' hb', fun i v hv => by rw [r 2 (by decide) (by decide)]; exact h7 i v hv⟩
  rcases app_get hc with e | ⟨e, rfl⟩
  · have hj : j ≠ n := by
      have := get_lt e
      omega
    refine ⟨(h5 j c e).1.c (fun z h8 h9 => ?_), (h5 j c e).2⟩
    rcases (show z = 6 ∨ z = 7 ∨ z = 8 ∨ z = 9 ∨ z = 10 ∨ z = 11 ∨ z = 12 by omega) with rfl | rfl | rfl | rfl | rfl | rfl | rfl
    · rw [s6, upd_n hj]
    · rw [s7, upd_n hj]
    · rw [s8, upd_n hj]
    · rw [s9, upd_n hj]
    · rw [s10, upd_n hj]
    · rw [s11, upd_n hj]
    · rw [s12, upd_n hj]
  · rw [hn] at e
    subst e
    exact ⟨⟨⟨by rw [s6, upd_s], by rw [s7, upd_s], by rw [s8, upd_s], by rw [s9, upd_s]⟩, by rw [s10, upd_s], by rw [s11, upd_s, h1], by rw [s12, upd_s]; rfl⟩, hok⟩
theorem MT.tk {m : MS} {S : CS} {j : Nat} {c : Chg} (h : MT m S) (hj : S.2.2.1[j]? = some c) : MT (mTk m j) (tkS S j c) := by
  obtain ⟨⟨h1, h2, h3⟩, h4, h5, h6, h7⟩ := h
  have r : ∀ z, 1 ≤ z → z ≤ 11 → mTk m j z = m z := fun z a1 a2 => by
    show mS (mS (mS m 0 4 0) 0 4 0) 12 j (m 0 1) z = m z
    rw [mS_n (by omega), mS_n (by omega), mS_n (by omega)]
  have s12 : mTk m j 12 = upd (m 12) j (m 0 1) := by
    show mS (mS (mS m 0 4 0) 0 4 0) 12 j (m 0 1) 12 = _
    rw [mS_s, mS_n (by decide), mS_n (by decide)]
  have r0 : mTk m j 0 1 = m 0 1 := by
    show mS (mS (mS m 0 4 0) 0 4 0) 12 j (m 0 1) 0 1 = _
    rw [mS_n (by decide), mS_s, upd_n (by decide), mS_s, upd_n (by decide)]
  refine ⟨⟨r0.trans h1, h2, h3⟩, fun j t ht => ⟨(h4 j t ht).1.c (by rw [r 3 (by decide) (by decide)]) (by rw [r 4 (by decide) (by decide)]) (by rw [r 5 (by decide) (by decide)]), (h4 j t ht).2⟩, fun j' c' hc' => ?_, fun i b' hb' => by rw [r 1 (by decide) (by decide)]; exact h6 i b' hb', fun i v hv => by rw [r 2 (by decide) (by decide)]; exact h7 i v hv⟩
  rcases set_get hc' with ⟨rfl, rfl⟩ | ⟨e, hc'⟩
  · obtain ⟨⟨⟨a1, a2, a3, a4⟩, a5, a6, a7⟩, b1, b2, b3, b4⟩ := h5 j' c hj
    refine ⟨⟨⟨by rw [r 6 (by decide) (by decide)]; exact a1, by rw [r 7 (by decide) (by decide)]; exact a2, by rw [r 8 (by decide) (by decide)]; exact a3, by rw [r 9 (by decide) (by decide)]; exact a4⟩, by rw [r 10 (by decide) (by decide)]; exact a5, by rw [r 11 (by decide) (by decide)]; exact a6, ?_⟩, b1, b2, b3, ?_⟩
    · rw [s12, upd_s, h1]
      show nI S.1 = nI (S.1 + 1) - 1
      rw [← nI_1]
      exact (nI_s1 S.1).symm
    · show S.1 + 1 < 100000
      omega
  · refine ⟨(h5 j' c' hc').1.c (fun z h8 h9 => ?_), (h5 j' c' hc').2⟩
    rcases (show z ≤ 11 ∨ z = 12 by omega) with h | rfl
    · rw [r z (by omega) h]
    · rw [s12, upd_n e]
theorem MT.bl {m : MS} {S : CS} {i : Nat} {v : Int32} (h : MT m S) : MT (mBl m i v) (blS S i v) := by
  obtain ⟨⟨h1, h2, h3⟩, h4, h5, h6, h7⟩ := h
  have r : ∀ z, z ≠ 2 → mBl m i v z = m z := fun z a1 => mS_n a1
  have s2 : mBl m i v 2 = upd (m 2) i v := mS_s
  refine ⟨⟨by rw [r 0 (by decide)]; exact h1, h2, by show (S.2.2.2.2.set i v).length = _; rw [List.length_set]; exact h3⟩, fun j t ht => ⟨(h4 j t ht).1.c (by rw [r 3 (by decide)]) (by rw [r 4 (by decide)]) (by rw [r 5 (by decide)]), (h4 j t ht).2⟩, fun j c hc => ⟨(h5 j c hc).1.c (fun q h8 h9 => by rw [r q (by omega)]), (h5 j c hc).2⟩, fun i b' hb' => by rw [r 1 (by decide)]; exact h6 i b' hb', fun j w hw => ?_⟩
  rw [s2]
  rcases set_get hw with ⟨rfl, rfl⟩ | ⟨e, hw⟩
  · rw [upd_s]
  · rw [upd_n e]
    exact h7 j w hw
end PLAIN
