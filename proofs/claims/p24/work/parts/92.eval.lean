/-! the plain numbers' answers -/
section EVAL
def getN (st : V3) (f : Nat) : Nat := match f with
  | 0 => st.1
  | 1 => st.2.1
  | _ => st.2.2.1
def putN (st : V3) (f v : Nat) : V3 := match f with
  | 0 => (v, st.2)
  | 1 => (st.1, v, st.2.2)
  | _ => (st.1, st.2.1, v, st.2.2.2)
def layN (st : V3) (c : Chg) : V3 := match c.2.1 with
  | 0 => putN st c.2.2.1 (c.2.2.2.2.1 - 20)
  | 1 => putN st c.2.2.1 (20 - (20 - (getN st c.2.2.1 + c.2.2.2.2.1 - 20)))
  | 2 => (st.1, st.2.1, st.2.2.1, false)
  | _ => (st.1, st.2.1, st.2.2.1, true)
def knN (kn : Nat) (c : Chg) : Bool := Nat.ble c.2.2.2.2.2.1 kn && (Nat.beq c.2.2.2.2.2.2 0 || Nat.blt (kn + 1) c.2.2.2.2.2.2)
def dayN (i kn d : Nat) : List Chg → V3 → V3
  | [], st => st
  | c :: C, st => dayN i kn d C (bif Nat.beq c.1 i && (Nat.beq c.2.2.2.1 d && knN kn c) then layN st c else st)
def goN (C : List Chg) (i kn : Nat) : Nat → V3
  | 0 => (0, 0, 0, true)
  | d + 1 => dayN i kn d C (goN C i kn d)
def wSt (f d : Nat) (a : Nat × Nat) (t : Tar) : Nat × Nat := bif Nat.beq t.1 f && (Nat.ble t.2.2 d && Nat.ble a.2 t.2.2) then (t.2.1, t.2.2) else a
def wN (f d : Nat) : List Tar → Nat × Nat → Nat
  | [], a => a.1
  | t :: T, a => wN f d T (wSt f d a t)
def rtN (T : List Tar) (b d : Nat) (q : V3) : Nat := bif q.2.2.2 then b + q.1 * wN 0 d T (1, 0) + q.2.1 * wN 1 d T (1, 0) + q.2.2.1 * wN 2 d T (1, 0) else 0
/-- rates in runs: how many days, which rate -/
def rOf : List (Nat × Nat) → Nat → Nat
  | [], _ => 0
  | r :: R, d => bif Nat.blt d r.1 then r.2 else rOf R (d - r.1)
def yrOK (C : List Chg) (T : List Tar) (b i kn : Nat) (R : List (Nat × Nat)) : Nat → Nat → V3 → Bool
  | 0, _, _ => true
  | n + 1, d, q => Nat.beq (rtN T b d (dayN i kn d C q)) (rOf R d) && yrOK C T b i kn R n (d + 1) (dayN i kn d C q)
def VT (st : VS) (q : V3) : Prop := (st.1 0 = nI q.1 ∧ st.1 1 = nI q.2.1 ∧ st.1 2 = nI q.2.2.1) ∧ st.2 = (if q.2.2.2 = true then 1 else 0) ∧ q.1 ≤ 20 ∧ q.2.1 ≤ 20 ∧ q.2.2.1 ≤ 20
theorem bnd_all : ∀ v : Nat, v < 21 → ∀ q : Nat, q < 41 → bndM (nI v + numI q) = nI (20 - (20 - (v + q - 20))) := by decide +kernel
theorem lay_set {m : MS} {st : VS} {q : V3} {j w : Nat} {x : Int32} {v : Nat} (h : VT st q) (hw : w < 3) (hx : x = nI v) (hv : v ≤ 20) : VT (upd st.1 w x, st.2) (putN q w v) := by
  obtain ⟨⟨h0, h1, h2⟩, h3, h4, h5, h6⟩ := h
  subst hx
  rcases (show w = 0 ∨ w = 1 ∨ w = 2 by omega) with rfl | rfl | rfl
  · exact ⟨⟨(show upd st.1 0 (nI v) 0 = nI v from upd_s), (show upd st.1 0 (nI v) 1 = nI q.2.1 from (upd_n (by decide)).trans h1), (show upd st.1 0 (nI v) 2 = nI q.2.2.1 from (upd_n (by decide)).trans h2)⟩, h3, hv, h5, h6⟩
  · exact ⟨⟨(show upd st.1 1 (nI v) 0 = nI q.1 from (upd_n (by decide)).trans h0), (show upd st.1 1 (nI v) 1 = nI v from upd_s), (show upd st.1 1 (nI v) 2 = nI q.2.2.1 from (upd_n (by decide)).trans h2)⟩, h3, h4, hv, h6⟩
  · exact ⟨⟨(show upd st.1 2 (nI v) 0 = nI q.1 from (upd_n (by decide)).trans h0), (show upd st.1 2 (nI v) 1 = nI q.2.1 from (upd_n (by decide)).trans h1), (show upd st.1 2 (nI v) 2 = nI v from upd_s)⟩, h3, h4, h5, hv⟩
theorem get_tie {st : VS} {q : V3} {w : Nat} (h : VT st q) (hw : w < 3) : st.1 w = nI (getN q w) ∧ getN q w ≤ 20 := by
  obtain ⟨⟨h0, h1, h2⟩, h3, h4, h5, h6⟩ := h
  rcases (show w = 0 ∨ w = 1 ∨ w = 2 by omega) with rfl | rfl | rfl
  · exact ⟨h0, h4⟩
  · exact ⟨h1, h5⟩
  · exact ⟨h2, h6⟩
theorem lay_tie {m : MS} {st : VS} {q : V3} {j : Nat} {c : Chg} (h : VT st q) (hc : ChM m j c) (ok : okC c) : VT (layM m st j) (layN q c) := by
  obtain ⟨⟨a6, a7, a8, a9⟩, a10, a11, a12⟩ := hc
  obtain ⟨⟨k1, k2, k3, k4⟩, ⟨k5, k6⟩, -⟩ := ok
  have hix : wIx m j = c.2.2.1 := by
    show (m 8 j).toNatClampNeg = c.2.2.1
    rw [a8, nI_clamp (by omega)]
  unfold layM
  rw [hix, a7, a10]
  unfold layN
  rcases (show c.2.1 = 0 ∨ c.2.1 = 1 ∨ c.2.1 = 2 ∨ c.2.1 = 3 by omega) with e | e | e | e
  · rw [e, if_pos (by decide), if_neg (by decide), if_neg (by decide)]
    exact lay_set (m := m) (j := j) h k3 (numI_pos (k6 e)) (by omega)
  · obtain ⟨g1, g2⟩ := get_tie h k3
    rw [e, if_neg (by decide), if_pos (by decide), if_neg (by decide), if_neg (by decide)]
    exact lay_set (m := m) (j := j) h k3 (by rw [g1]; exact bnd_all _ (by omega) _ (by omega)) (by omega)
  · rw [e, if_neg (by decide), if_neg (by decide), if_neg (by decide), if_pos (by decide)]
    exact ⟨h.1, by rfl, h.2.2⟩
  · rw [e, if_neg (by decide), if_neg (by decide), if_pos (by decide)]
    exact ⟨h.1, by rfl, h.2.2⟩
theorem kn_tie {m : MS} {j kn : Nat} {c : Chg} (hc : ChM m j c) (ok : okC c) (hkn : kn < 100000) : knM m j (nI kn) ↔ knN kn c = true := by
  obtain ⟨-, -, a11, a12⟩ := hc
  obtain ⟨-, -, k7, k8⟩ := ok
  show ((m 11 j).toInt ≤ (nI kn).toInt ∧ ((m 12 j).toInt < 0 ∨ (nI kn).toInt < (m 12 j).toInt)) ↔ _
  have e : (nI c.2.2.2.2.2.2 - 1).toInt = (c.2.2.2.2.2.2 : Int) - 1 := pk_sub_toInt (a := c.2.2.2.2.2.2) (b := 1) (by omega) (by omega)
  rw [a11, a12, nI_toInt (by omega), nI_toInt (by omega), e]
  unfold knN
  simp only [Bool.and_eq_true, Bool.or_eq_true, Nat.beq_eq, Nat.ble_eq, Nat.blt_eq]
  omega
theorem hit_tie {m : MS} {i d j kn : Nat} {c : Chg} (hc : ChM m j c) (ok : okC c) (hi : i < 4) (hd : d < 366) (hkn : kn < 100000) : hitM m i (nI kn) d j ↔ (Nat.beq c.1 i && (Nat.beq c.2.2.2.1 d && knN kn c)) = true := by
  have hk := kn_tie hc ok hkn
  obtain ⟨⟨a6, a7, a8, a9⟩, -⟩ := hc
  obtain ⟨⟨k1, k2, k3, k4⟩, -⟩ := ok
  show (m 6 j = nI i ∧ m 9 j = nI d ∧ knM m j (nI kn)) ↔ _
  rw [a6, a9, hk, nI_eq (by omega) (by omega), nI_eq (by omega) (by omega)]
  simp only [Bool.and_eq_true, Nat.beq_eq]
theorem day_tie {m : MS} {C : List Chg} {i d kn : Nat} (hC : ∀ (j : Nat) (c : Chg), C[j]? = some c → ChM m j c ∧ okC c) (hi : i < 4) (hd : d < 366) (hkn : kn < 100000) : ∀ (B A : List Chg) (st0 : VS) (q : V3), C = A ++ B → VT (dayM m i (nI kn) d st0 A.length) q → VT (dayM m i (nI kn) d st0 C.length) (dayN i kn d B q)
  | [], A, st0, q, e, h => by
    rw [List.append_nil] at e
    subst e
    exact h
  | c :: B, A, st0, q, e, h => by
    have hc := hC A.length c (by rw [e, List.getElem?_append_right (Nat.le_refl _), Nat.sub_self]; rfl)
    have e2 : C = (A ++ [c]) ++ B := by rw [e, List.append_assoc]; rfl
    refine day_tie hC hi hd hkn B (A ++ [c]) st0 _ e2 ?_
    rw [List.length_append, List.length_singleton, dayM]
    have ht := hit_tie hc.1 hc.2 hi hd hkn
    by_cases hh : (Nat.beq c.1 i && (Nat.beq c.2.2.2.1 d && knN kn c)) = true
    · rw [if_pos (ht.mpr hh), hh]
      exact lay_tie h hc.1 hc.2
    · rw [if_neg (fun h9 => hh (ht.mp h9)), Bool.eq_false_iff.mpr hh]
      exact h
theorem go_tie {m : MS} {C : List Chg} {i kn : Nat} (hC : ∀ (j : Nat) (c : Chg), C[j]? = some c → ChM m j c ∧ okC c) (hi : i < 4) (hkn : kn < 100000) : ∀ d, d ≤ 365 → VT (goM m i (nI kn) C.length d) (goN C i kn d)
  | 0, _ => ⟨⟨rfl, rfl, rfl⟩, rfl, Nat.zero_le 20, Nat.zero_le 20, Nat.zero_le 20⟩
  | d + 1, hd => day_tie hC hi (by omega) hkn C [] (goM m i (nI kn) C.length d) _ rfl (go_tie hC hi hkn d (by omega))
theorem wg_tie {m : MS} {T : List Tar} {f d : Nat} (hT : ∀ (j : Nat) (t : Tar), T[j]? = some t → TaM m j t ∧ okT t) (hf : f < 3) (hd : d < 365) : ∀ (B A : List Tar) (a : Nat × Nat), T = A ++ B → (wgM m A.length (nI f) (nI d) = nI a.1 ∧ sgM m A.length (nI f) (nI d) = nI a.2 ∧ a.2 < 365) → wgM m T.length (nI f) (nI d) = nI (wN f d B a)
  | [], A, a, e, h => by
    rw [List.append_nil] at e
    subst e
    exact h.1
  | t :: B, A, a, e, h => by
    have ht := hT A.length t (by rw [e, List.getElem?_append_right (Nat.le_refl _), Nat.sub_self]; rfl)
    have e2 : T = (A ++ [t]) ++ B := by rw [e, List.append_assoc]; rfl
    refine wg_tie hT hf hd B (A ++ [t]) _ e2 ?_
    rw [List.length_append, List.length_singleton]
    obtain ⟨⟨t3, t4, t5⟩, o1, o2, o3⟩ := ht
    obtain ⟨h1, h2, h3⟩ := h
    have hb := bst_new (m := m) (m' := m) (t0 := A.length) (fun _ _ => ⟨rfl, rfl⟩) (by rw [t5, nI_toInt (by omega)]; omega) (nI f) (nI d)
    rw [t3, t5, h2] at hb
    have hi : ((nI t.1 = nI f ∧ (nI t.2.2).toInt ≤ (nI d).toInt) ∧ (nI a.2).toInt ≤ (nI t.2.2).toInt) ↔ (Nat.beq t.1 f && (Nat.ble t.2.2 d && Nat.ble a.2 t.2.2)) = true := by
      rw [nI_toInt (by omega), nI_toInt (by omega), nI_toInt (by omega), nI_eq (by omega) (by omega)]
      simp only [Bool.and_eq_true, Nat.beq_eq, Nat.ble_eq]
      omega
    unfold wSt
    by_cases hh : (Nat.beq t.1 f && (Nat.ble t.2.2 d && Nat.ble a.2 t.2.2)) = true
    · rw [if_pos (hi.mpr hh)] at hb
      rw [hh]
      exact ⟨(wgM_s hb).trans t4, (sgM_s hb).trans t5, o3⟩
    · rw [if_neg (fun h9 => hh (hi.mp h9))] at hb
      rw [Bool.eq_false_iff.mpr hh]
      show wgM m (A.length + 1) (nI f) (nI d) = nI a.1 ∧ sgM m (A.length + 1) (nI f) (nI d) = nI a.2 ∧ a.2 < 365
      rw [← h1, ← h2]
      unfold wgM sgM
      rw [hb]
      exact ⟨rfl, rfl, h3⟩
theorem w_tie {m : MS} {T : List Tar} {f d : Nat} (hT : ∀ (j : Nat) (t : Tar), T[j]? = some t → TaM m j t ∧ okT t) (hf : f < 3) (hd : d < 365) : wgM m T.length (nI f) (nI d) = nI (wN f d T (1, 0)) := wg_tie hT hf hd T [] (1, 0) rfl ⟨rfl, rfl, by decide⟩
theorem rt_tie {m : MS} {S : CS} {i kn b d : Nat} (hM : MT m S) (hi : i < 4) (hb : S.2.2.2.1[i]? = some b) (hkn : kn < 100000) (hd : d < 365) : rtF m i (nI kn) S.2.2.1.length S.2.1.length d = nI (rtN S.2.1 b d (goN S.2.2.1 i kn (d + 1))) := by
  have hg := go_tie hM.2.2.1 hi hkn (d + 1) (by omega)
  have w0 := w_tie hM.2.1 (f := 0) (by decide) hd
  have w1 := w_tie hM.2.1 (f := 1) (by decide) hd
  have w2 := w_tie hM.2.1 (f := 2) (by decide) hd
  have hb1 := (hM.2.2.2.1 i b hb).1
  show (if (goM m i (nI kn) S.2.2.1.length (d + 1)).2 = 0 then (0 : Int32) else itM m i S.2.1.length d (goM m i (nI kn) S.2.2.1.length (d + 1)).1 3) = _
  generalize goM m i (nI kn) S.2.2.1.length (d + 1) = st at hg ⊢
  generalize goN S.2.2.1 i kn (d + 1) = q at hg ⊢
  obtain ⟨⟨g0, g1, g2⟩, g3, -⟩ := hg
  have e : itM m i S.2.1.length d st.1 3 = m 1 i + st.1 0 * wgM m S.2.1.length (nI 0) (nI d) + st.1 1 * wgM m S.2.1.length (nI 1) (nI d) + st.1 2 * wgM m S.2.1.length (nI 2) (nI d) := rfl
  rw [e, w0, w1, w2, g0, g1, g2, hb1, g3, pk_mul, pk_mul, pk_mul, nI_add, nI_add, nI_add]
  unfold rtN
  cases q.2.2.2
  · rfl
  · rfl
theorem yr_tie {C : List Chg} {T : List Tar} {b i kn : Nat} {R : List (Nat × Nat)} : ∀ n d, yrOK C T b i kn R n d (goN C i kn d) = true → ∀ e, d ≤ e → e < d + n → rtN T b e (goN C i kn (e + 1)) = rOf R e
  | 0, d, _, e, h1, h2 => by omega
  | n + 1, d, h, e, h1, h2 => by
    rw [yrOK, Bool.and_eq_true] at h
    rcases Nat.eq_or_lt_of_le h1 with rfl | h3
    · exact Nat.eq_of_beq_eq_true h.1
    · exact yr_tie n (d + 1) h.2 e h3 (by omega)
/-- T's rates are those of the runs -/
def YR (T : Nat → Int32) (r : Nat → Nat) : Prop := (∀ d, d < 365 → T d = nI (r d)) ∧ ∀ d, r d < 100000
theorem rOf_lt : ∀ {R : List (Nat × Nat)}, (R.all (fun r => Nat.blt r.2 100000)) = true → ∀ d, rOf R d < 100000
  | [], _, _ => by
    show 0 < 100000
    decide
  | r :: R, h, d => by
    rw [List.all_cons, Bool.and_eq_true, Nat.blt_eq] at h
    rw [rOf]
    cases Nat.blt d r.1
    · exact rOf_lt h.2 _
    · exact h.1
theorem yr_of {m : MS} {S : CS} {i kn b : Nat} {R : List (Nat × Nat)} (hM : MT m S) (hi : i < 4) (hb : S.2.2.2.1[i]? = some b) (hkn : kn < 100000) (hc : yrOK S.2.2.1 S.2.1 b i kn R 365 0 (0, 0, 0, true) = true) (hr : (R.all (fun r => Nat.blt r.2 100000)) = true) : YR (rtF m i (nI kn) S.2.2.1.length S.2.1.length) (rOf R) :=
  ⟨fun d hd => by rw [rt_tie hM hi hb hkn hd, yr_tie 365 0 hc d (Nat.zero_le d) (by omega)], rOf_lt hr⟩
def smF (r : Nat → Nat) : Nat → Nat
  | 0 => 0
  | n + 1 => smF r n + r n
def isR (r : Nat → Nat) (d : Nat) : Bool := Nat.blt 0 (r d) && (Nat.beq d 0 || !(Nat.beq (r (d - 1)) (r d)))
def cntF (r : Nat → Nat) : Nat → Nat
  | 0 => 0
  | n + 1 => cntF r n + bif isR r n then 1 else 0
/-- n days from s on have rate v -/
def samF (r : Nat → Nat) (v : Nat) : Nat → Nat → Bool
  | 0, _ => true
  | n + 1, s => Nat.beq (r s) v && samF r v n (s + 1)
theorem sm_tie {T : Nat → Int32} {r : Nat → Nat} (h : YR T r) : ∀ n, n ≤ 365 → SM T n = nI (smF r n)
  | 0, _ => rfl
  | n + 1, hn => by rw [SM, smF, sm_tie h n (by omega), h.1 n (by omega), nI_add]
theorem is_tie {T : Nat → Int32} {r : Nat → Nat} (h : YR T r) {d : Nat} (hd : d < 365) : isSt T d ↔ isR r d = true := by
  have h1 := h.2 d
  have h2 := h.2 (d - 1)
  show (0 < (T d).toInt ∧ (d = 0 ∨ T (d - 1) ≠ T d)) ↔ _
  rw [h.1 d hd, h.1 (d - 1) (by omega), nI_toInt (by omega), Ne, nI_eq (by omega) (by omega)]
  unfold isR
  simp only [Bool.and_eq_true, Bool.or_eq_true, Nat.beq_eq, Nat.blt_eq, Bool.not_eq_true', Bool.eq_false_iff, ne_eq]
  omega
theorem cnt_tie {T : Nat → Int32} {r : Nat → Nat} (h : YR T r) : ∀ n, n ≤ 365 → cntS T n = cntF r n
  | 0, _ => rfl
  | n + 1, hn => by
    have e := is_tie h (d := n) (by omega)
    rw [cntS, cntF, cnt_tie h n (by omega)]
    by_cases hs : isSt T n
    · rw [if_pos hs, e.mp hs]
      rfl
    · rw [if_neg hs, Bool.eq_false_iff.mpr (fun h9 => hs (e.mpr h9))]
      rfl
theorem sam_at {r : Nat → Nat} {v : Nat} : ∀ n s, samF r v n s = true → ∀ j, s ≤ j → j < s + n → r j = v
  | 0, s, _, j, h1, h2 => by omega
  | n + 1, s, h, j, h1, h2 => by
    rw [samF, Bool.and_eq_true] at h
    rcases Nat.eq_or_lt_of_le h1 with rfl | h3
    · exact Nat.eq_of_beq_eq_true h.1
    · exact sam_at n (s + 1) h.2 j h3 (by omega)
theorem seg_un {T : Nat → Int32} {sg : Int32} {d d' : Nat} (h : segOf T sg d) (h' : segOf T sg d') : d' = d := by
  have h1 := cnt_le T d
  have h2 := cnt_le T d'
  have h3 := h.1
  have h4 := h'.1
  exact (st_un h.2.1 h'.2.1 ((nI_eq (by omega) (by omega)).mp (h.2.2.trans h'.2.2.symm))).symm
/-- segment sg: from s to e, its premium -/
def sgOK (r : Nat → Nat) (sg s e : Nat) (v : Int32) : Prop := s < 365 ∧ isR r s = true ∧ cntF r s = sg ∧ (s < e ∧ e ≤ 365) ∧ samF r (r s) (e - s) s = true ∧ (e = 365 ∨ r e ≠ r s) ∧ nI (smF r e) / 365 - nI (smF r s) / 365 = v
theorem sg_of {T : Nat → Int32} {r : Nat → Nat} {sg s e : Nat} {v : Int32} (h : YR T r) (ok : sgOK r sg s e v) : segOf T (nI sg) s ∧ endD T s = e ∧ SM T (endD T s) / 365 - SM T s / 365 = v := by
  obtain ⟨h1, h2, h3, ⟨h4, h5⟩, h6, h7, h8⟩ := ok
  have hE : endD T s = e := by
    refine endD_un (T := T) (fun _ _ => rfl) h1 h5 (by omega) (fun j hj he => ?_) ?_
    · rw [h.1 j (by omega), h.1 s h1, sam_at _ _ h6 j hj (by omega)]
    · rcases h7 with h7 | h7
      · exact Or.inl h7
      · rcases Nat.eq_or_lt_of_le h5 with h9 | h9
        · exact Or.inl h9
        · refine Or.inr ?_
          have a1 := h.2 e
          have a2 := h.2 s
          rw [h.1 e h9, h.1 s h1, nI_eq (by omega) (by omega)]
          exact h7
  refine ⟨⟨h1, (is_tie h h1).mpr h2, by rw [cnt_tie h s (by omega), h3]⟩, hE, ?_⟩
  rw [hE, sm_tie h e h5, sm_tie h s (by omega)]
  exact h8
theorem pm_of {m : MS} {i c0 t0 : Nat} {kn v : Int32} {r : Nat → Nat} (h : YR (rtF m i kn c0 t0) r) (hv : nI (smF r 365) / 365 = v) : pmM m i kn c0 t0 = v := by
  unfold pmM
  rw [sm_tie h 365 (Nat.le_refl _)]
  exact hv
theorem cs_of {m : MS} {i c0 t0 v : Nat} {kn : Int32} {r : Nat → Nat} (h : YR (rtF m i kn c0 t0) r) (hv : cntF r 365 = v) : csM m i kn c0 t0 = v := by
  unfold csM
  rw [cnt_tie h 365 (Nat.le_refl _)]
  exact hv
/-- changes laid anew -/
def laN (C : List Chg) (kn : Nat) (cj : Chg) : Nat → Nat
  | 0 => 0
  | q + 1 => laN C kn cj q + match C[q]? with
    | some c => bif Nat.beq c.1 cj.1 && (knN kn c && Nat.blt cj.2.2.2.1 c.2.2.2.1) then 1 else 0
    | none => 0
theorem la_tie {m : MS} {S : CS} {j : Nat} {cj : Chg} (hM : MT m S) (hj : S.2.2.1[j]? = some cj) : ∀ q, q ≤ S.2.2.1.length → laM m j q = laN S.2.2.1 S.1 cj q
  | 0, _ => rfl
  | q + 1, hq => by
    obtain ⟨c, hc⟩ : ∃ c, S.2.2.1[q]? = some c := ⟨_, List.getElem?_eq_getElem (by omega)⟩
    obtain ⟨a1, a2⟩ := hM.2.2.1 q c hc
    obtain ⟨b1, b2⟩ := hM.2.2.1 j cj hj
    have hk := kn_tie a1 a2 (kn := S.1) (by have := hM.1.2.1; omega)
    have e : laMB m j q ↔ (Nat.beq c.1 cj.1 && (knN S.1 c && Nat.blt cj.2.2.2.1 c.2.2.2.1)) = true := by
      show (m 6 q = m 6 j ∧ knM m q (m 0 1) ∧ (m 9 j).toInt < (m 9 q).toInt) ↔ _
      have k1 := a2.1
      have k2 := b2.1
      rw [hM.1.1, hk, a1.1.1, b1.1.1, a1.1.2.2.2, b1.1.2.2.2, nI_eq (by omega) (by omega), nI_toInt (by omega), nI_toInt (by omega)]
      simp only [Bool.and_eq_true, Nat.beq_eq, Nat.blt_eq]
      rw [Int.ofNat_lt]
    rw [laM, laN, la_tie hM hj q (by omega), hc]
    by_cases hh : laMB m j q
    · rw [if_pos hh]
      dsimp only
      rw [e.mp hh]
      rfl
    · rw [if_neg hh]
      dsimp only
      rw [Bool.eq_false_iff.mpr (fun h9 => hh (e.mpr h9))]
      rfl
end EVAL
