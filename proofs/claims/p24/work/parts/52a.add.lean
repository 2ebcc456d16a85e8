/-! the family when something is added to it -/
section ADD
abbrev li (t : Nat) : Nat := if t = 0 then 1 else if t = 1 then 2 else 15 + 3 * t
abbrev ai (t : Nat) : Nat := if t = 0 then 17 else if t = 1 then 18 else 16 + 3 * t
theorem li_p (p : Nat) : li (2 + p) = 21 + 3 * p := by
  unfold li
  rw [if_neg (by omega), if_neg (by omega)]
  omega
theorem ai_p (p : Nat) : ai (2 + p) = 22 + 3 * p := by
  unfold ai
  rw [if_neg (by omega), if_neg (by omega)]
  omega
theorem ai_ge (t : Nat) : 17 ≤ ai t := by
  unfold ai
  split
  · omega
  · split <;> omega
theorem ai_le {t : Nat} (h : t < 6) : ai t < 32 := by
  unfold ai
  split
  · omega
  · split <;> omega
theorem ai_ne {t p : Nat} : 20 + 3 * p ≠ ai t ∧ 21 + 3 * p ≠ ai t := by
  unfold ai
  split
  · omega
  · split <;> omega
theorem ai_inj {t u : Nat} (h : ai t = ai u) : t = u := by
  unfold ai at h
  split at h <;> split at h <;> (try split at h) <;> (try split at h) <;> omega
/-- list t is as it was -/
def SmT (a a' : Nat → Nat) (k k' : KS) (t : Nat) : Prop := k'.1 17 t = k.1 17 t ∧ k'.2.1 4 t = k.2.1 4 t ∧ k'.2.1 3 t = k.2.1 3 t ∧ k'.2.2.1 t = k.2.2.1 t ∧ a' (ai t) = a (ai t)
def SmC (k k' : KS) (j : Nat) : Prop := k'.2.1 1 j = k.2.1 1 j ∧ k'.2.1 2 j = k.2.1 2 j ∧ ∀ c, 12 ≤ c → c < 17 → k'.1 c j = k.1 c j
theorem eLst_eq {g : GE} {a a' : Nat → Nat} {k k' : KS} {t : Nat} (h : SmT a a' k k' t) : eLst g a' k' t (ai t) = eLst g a k t (ai t) := by
  unfold eLst
  rw [h.1, h.2.1, h.2.2.1, h.2.2.2.2]
theorem eArr_eq {g : GE} {a a' : Nat → Nat} {k k' : KS} {t : Nat} (h : SmT a a' k k' t) : eArr g k' t = eArr g k t := by
  unfold eArr
  rw [h.2.1, h.2.2.2.1]
theorem fx_sameP (PP : Nat → Prop) {g : GE} {a a' : Nat → Nat} {k k' : KS} (H1 : ∀ j, j < 17 → a' j = a j) (H2 : ∀ p, p < 4 → PP p → a' (20 + 3 * p) = a (20 + 3 * p) ∧ a' (21 + 3 * p) = a (21 + 3 * p)) (H3 : ∀ c, c < 10 → k'.1 c = k.1 c) (HP : ∀ p, p < kP k → k'.1 10 p = k.1 10 p ∧ k'.1 11 p = k.1 11 p) (HC : ∀ j, j < kC k → SmC k k' j ∧ k.2.1 1 j < 4 ∧ PP (k.2.1 1 j)) (HPP : ∀ p, p < kP k → PP p) (j : Nat) (hj : domC k j) (HT : ∀ t, t < 6 → j = li t ∨ j = ai t → SmT a a' k k' t) : fxC g a' k' j = fxC g a k j := by
  have hr : ∀ b, b < 12 → row3 a' b = row3 a b := by
    intro b hb
    funext x
    unfold row3
    by_cases h : x < 3
    · rw [if_pos h, if_pos h, H1 _ (by omega)]
    · rw [if_neg h, if_neg h]
  rcases hj with h | ⟨rfl, -⟩ | ⟨rfl, -⟩ | ⟨p, hp, hp4, rfl | rfl | ⟨rfl, -⟩⟩ | ⟨i, hi, rfl⟩
  · match j, h with
    | 0, _ => simp only [fxC, H1 1 (by decide), H1 2 (by decide), H1 3 (by decide), H1 4 (by decide), H1 5 (by decide), H3 0 (by decide)]
    | 1, _ => exact eLst_eq (t := 0) (HT 0 (by decide) (Or.inl rfl))
    | 2, _ => exact eLst_eq (t := 1) (HT 1 (by decide) (Or.inl rfl))
    | 3, _ => simp only [fxC, H1 6 (by decide), H1 7 (by decide), H3 0 (by decide)]
    | 4, _ => simp only [fxC, H1 14 (by decide), H3 0 (by decide)]
    | 5, _ => simp only [fxC, H1 15 (by decide), H1 16 (by decide)]
    | 6, _ => simp only [fxC, hr 8 (by decide)]
    | 7, _ => simp only [fxC, hr 11 (by decide)]
    | 8, _ => simp only [fxC, H3 4 (by decide)]
    | 9, _ => simp only [fxC, H3 5 (by decide)]
    | 10, _ => simp only [fxC, H3 6 (by decide)]
    | 11, _ => simp only [fxC, H3 7 (by decide)]
    | 12, _ => simp only [fxC, H3 8 (by decide)]
    | 13, _ => simp only [fxC, H3 9 (by decide)]
    | 14, _ => simp only [fxC, H3 1 (by decide)]
    | 15, _ => simp only [fxC, H3 2 (by decide)]
    | 16, _ => simp only [fxC, H3 3 (by decide)]
    | n + 17, h => exact absurd h (by omega)
  · exact eArr_eq (t := 0) (HT 0 (by decide) (Or.inr rfl))
  · exact eArr_eq (t := 1) (HT 1 (by decide) (Or.inr rfl))
  · rw [fP g a' k' hp4, fP g a k hp4]
    unfold ePol
    rw [(H2 p hp4 (HPP p hp)).2, (HP p hp).1, (HP p hp).2]
  · rw [fPl g a' k' hp4, fPl g a k hp4, ← ai_p p]
    exact eLst_eq (HT (2 + p) (by omega) (Or.inl (li_p p).symm))
  · rw [fPa g a' k' hp4, fPa g a k hp4]
    exact eArr_eq (HT (2 + p) (by omega) (Or.inr (ai_p p).symm))
  · rw [fCh, fCh]
    obtain ⟨⟨h1, h2, h3⟩, h5, h6⟩ := HC i hi
    unfold eChg
    rw [h1, h2, (H2 _ h5 h6).1, h3 12 (by decide) (by decide), h3 13 (by decide) (by decide), h3 14 (by decide) (by decide), h3 15 (by decide) (by decide), h3 16 (by decide) (by decide)]
theorem fx_same {g : GE} {a a' : Nat → Nat} {k k' : KS} (H1 : ∀ j, j < 17 → a' j = a j) (H2 : ∀ p, p < 4 → a' (20 + 3 * p) = a (20 + 3 * p) ∧ a' (21 + 3 * p) = a (21 + 3 * p)) (H3 : ∀ c, c < 10 → k'.1 c = k.1 c) (HP : ∀ p, p < kP k → k'.1 10 p = k.1 10 p ∧ k'.1 11 p = k.1 11 p) (HC : ∀ j, j < kC k → SmC k k' j ∧ k.2.1 1 j < 4) (j : Nat) (hj : domC k j) (HT : ∀ t, t < 6 → j = li t ∨ j = ai t → SmT a a' k k' t) : fxC g a' k' j = fxC g a k j :=
  fx_sameP (fun _ => True) H1 (fun p h _ => H2 p h) H3 HP (fun j h => ⟨(HC j h).1, (HC j h).2, trivial⟩) (fun _ _ => trivial) j hj HT
theorem FW.repl {dom dom' : Nat → Prop} {fx fx' : Nat → va_E} {a : Nat → Nat} {L L' : List Nat} {f f' : Nat → va_E} {il ia ea : Nat} (h : FW dom fx a L f) (hL : ∀ b, b ∈ L → b ∈ L') (hil : dom il) (hea : ea ∈ L') (hf1 : f' (a il) = fx' il) (hf2 : f' ea = fx' ia) (hoth : ∀ b, b ∈ L → b ≠ a il → b ≠ ea → f' b = f b) (hcase : (dom ia ∧ ea = a ia) ∨ ea ∉ L) (hd : ∀ j, dom' j → j = ia ∨ dom j) (ho : ∀ j, dom j → j ≠ il → j ≠ ia → fx' j = fx j) : FW dom' fx' (va_up a ia ea) L' f' := by
  have key : ∀ j, dom j → j ≠ ia → a j ≠ ea := by
    intro j hj hn he
    rcases hcase with ⟨h1, h2⟩ | h2
    · exact hn (h.2 j ia hj h1 (he.trans h2))
    · exact h2 (he ▸ h.q hj)
  refine ⟨fun i hi => ?_, fun i j hi hj he => ?_⟩
  · by_cases e : i = ia
    · subst e
      rw [pu_s]
      exact ⟨hea, hf2⟩
    · have hdi : dom i := (hd i hi).resolve_left e
      rw [pu_n e rfl]
      refine ⟨hL _ (h.q hdi), ?_⟩
      by_cases e2 : i = il
      · subst e2
        exact hf1
      · rw [hoth _ (h.q hdi) (fun q => e2 (h.2 i il hdi hil q)) (key i hdi e), ho i hdi e2 e]
        exact h.f hdi
  · by_cases e : i = ia
    · subst e
      rw [pu_s] at he
      by_cases e2 : j = i
      · exact e2.symm
      · rw [pu_n e2 rfl] at he
        exact absurd he.symm (key j ((hd j hj).resolve_left e2) e2)
    · rw [pu_n e rfl] at he
      by_cases e2 : j = ia
      · subst e2
        rw [pu_s] at he
        exact absurd he (key i ((hd i hi).resolve_left e) e)
      · rw [pu_n e2 rfl] at he
        exact h.2 i j ((hd i hi).resolve_left e) ((hd j hj).resolve_left e2) he
theorem FW.ext {dom dom' : Nat → Prop} {fx fx' : Nat → va_E} {a : Nat → Nat} {L : List Nat} {f : Nat → va_E} {q i0 : Nat} {e : va_E} (h : FW dom fx a L f) (hq : q ∉ L) (hd : ∀ j, dom' j → j = i0 ∨ dom j) (he : fx' i0 = e) (ho : ∀ j, dom j → j ≠ i0 → fx' j = fx j) : FW dom' fx' (va_up a i0 q) (L ++ [q]) (va_up f q e) := by
  have key : ∀ j, dom j → a j ≠ q := fun j hj e9 => hq (e9 ▸ h.q hj)
  refine ⟨fun i hi => ?_, fun i j hi hj e9 => ?_⟩
  · by_cases e1 : i = i0
    · subst e1
      rw [pu_s, pu_s]
      exact ⟨List.mem_append_right _ (List.mem_singleton.mpr rfl), he.symm⟩
    · have hdi : dom i := (hd i hi).resolve_left e1
      rw [pu_n e1 rfl]
      refine ⟨List.mem_append_left _ (h.q hdi), ?_⟩
      rw [pu_n (key i hdi) rfl, ho i hdi e1]
      exact h.f hdi
  · by_cases e : i = i0
    · subst e
      rw [pu_s] at e9
      by_cases e2 : j = i
      · exact e2.symm
      · rw [pu_n e2 rfl] at e9
        exact absurd e9.symm (key j ((hd j hj).resolve_left e2))
    · rw [pu_n e rfl] at e9
      by_cases e2 : j = i0
      · subst e2
        rw [pu_s] at e9
        exact absurd e9 (key i ((hd i hi).resolve_left e))
      · rw [pu_n e2 rfl] at e9
        exact h.2 i j ((hd i hi).resolve_left e) ((hd j hj).resolve_left e2) e9
/-- a new change of policy i, not yet in a list; O is the order it will have -/
def kChg (k : KS) (i kd : Nat) (fl fr am : Int32) (O : List Nat) : KS :=
  (fun c => if c = 12 then upd (k.1 12) (kC k) fl else if c = 13 then upd (k.1 13) (kC k) fr else if c = 14 then upd (k.1 14) (kC k) am else if c = 15 then upd (k.1 15) (kC k) (k.1 0 0) else if c = 16 then upd (k.1 16) (kC k) (-1) else k.1 c,
   fun c => if c = 0 then va_up (k.2.1 0) 1 (kC k + 1) else if c = 1 then va_up (k.2.1 1) (kC k) i else if c = 2 then va_up (k.2.1 2) (kC k) kd else k.2.1 c, k.2.2.1, va_up k.2.2.2 i O)
theorem upd_s {f : Nat → Int32} {j : Nat} {x : Int32} : upd f j x j = x := if_pos rfl
theorem upd_n {f : Nat → Int32} {j i : Nat} {x : Int32} (h : i ≠ j) : upd f j x i = f i := if_neg h
theorem c5 {c : Nat} (h1 : 12 ≤ c) (h2 : c < 17) : c = 12 ∨ c = 13 ∨ c = 14 ∨ c = 15 ∨ c = 16 := by omega
theorem Iv.p4 {a : Nat → Nat} {k : KS} (h : Iv a k) {j : Nat} (hj : j < kC k) : k.2.1 1 j < 4 := Nat.lt_of_lt_of_le (h.2.2.2.2.2.2.2 j hj).1 h.1.1
theorem CW.chg {g : GE} {a : Nat → Nat} {k : KS} {L : List Nat} {f : Nat → va_E} (hk : CW g a k L f) (hi : Iv a k) {i : Nat} (h4 : i < 4) {q : Nat} (hq : q ∉ L) (kd : Nat) (fl fr am : Int32) (O : List Nat) : CW g (va_up a (32 + kC k) q) (kChg k i kd fl fr am O) (L ++ [q]) (va_up f q (.inr (3, [.int (nI (kC k)), .ref (a (20 + 3 * i)), .ref (g.2.2 kd), .int fl, .int fr, .int am, .int (k.1 0 0), .int (-1)]))) := by
  refine FW.ext hk hq ?_ ?_ ?_
  · rintro j (h | h | h | h | ⟨j, hj, rfl⟩)
    · exact Or.inr (Or.inl h)
    · exact Or.inr (Or.inr (Or.inl h))
    · exact Or.inr (Or.inr (Or.inr (Or.inl h)))
    · exact Or.inr (Or.inr (Or.inr (Or.inr (Or.inl h))))
    · have hj : j < kC k + 1 := hj
      by_cases e : j = kC k
      · exact Or.inl (e ▸ rfl)
      · exact Or.inr (dCh (by show j < kC k; omega))
  · rw [fCh]
    show (.inr (3, [.int (nI (kC k)), .ref (va_up a (32 + kC k) q (20 + 3 * va_up (k.2.1 1) (kC k) i (kC k))), .ref (g.2.2 (va_up (k.2.1 2) (kC k) kd (kC k))), .int (upd (k.1 12) (kC k) fl (kC k)), .int (upd (k.1 13) (kC k) fr (kC k)), .int (upd (k.1 14) (kC k) am (kC k)), .int (upd (k.1 15) (kC k) (k.1 0 0) (kC k)), .int (upd (k.1 16) (kC k) (-1) (kC k))]) : va_E) = _
    rw [upd_s, upd_s, upd_s, upd_s, upd_s, pu_s, pu_s, pu_n (by omega) rfl]
  · intro j hj hne
    refine fx_same (a := a) (k := k) (a' := va_up a (32 + kC k) q) (k' := kChg k i kd fl fr am O) (fun j hj => pu_n (by omega) rfl) (fun p hp => ⟨pu_n (by omega) rfl, pu_n (by omega) rfl⟩) (fun c hc => ?_) (fun p hp => ⟨rfl, rfl⟩) (fun j hj => ⟨⟨(show va_up (k.2.1 1) (kC k) i j = k.2.1 1 j from pu_n (by omega) rfl), (show va_up (k.2.1 2) (kC k) kd j = k.2.1 2 j from pu_n (by omega) rfl), fun c h1 h2 => ?_⟩, hi.p4 hj⟩) j hj (fun t ht _ => ⟨rfl, rfl, rfl, rfl, pu_n (by have := ai_le ht; omega) rfl⟩)
    · show (if c = 12 then _ else if c = 13 then _ else if c = 14 then _ else if c = 15 then _ else if c = 16 then _ else k.1 c) = k.1 c
      rw [if_neg (by omega), if_neg (by omega), if_neg (by omega), if_neg (by omega), if_neg (by omega)]
    · rcases c5 h1 h2 with rfl | rfl | rfl | rfl | rfl <;> exact upd_n (by omega)
/-- list t with one more -/
def kAdd (k : KS) (t : Nat) (m : Int32) (cap : Nat) (rf : Nat → Option Nat) : KS := (va_up k.1 17 (upd (k.1 17) t m), fun c => if c = 3 then va_up (k.2.1 3) t (k.2.1 3 t + 1) else if c = 4 then va_up (k.2.1 4) t cap else k.2.1 c, va_up k.2.2.1 t rf, k.2.2.2)
theorem fx_li (g : GE) (a : Nat → Nat) (k : KS) {t : Nat} (ht : t < 6) : fxC g a k (li t) = eLst g a k t (ai t) := by
  match t, ht with
  | 0, _ => rfl
  | 1, _ => rfl
  | 2, _ => rfl
  | 3, _ => rfl
  | 4, _ => rfl
  | 5, _ => rfl
theorem fx_ai (g : GE) (a : Nat → Nat) (k : KS) {t : Nat} (ht : t < 6) : fxC g a k (ai t) = eArr g k t := by
  match t, ht with
  | 0, _ => rfl
  | 1, _ => rfl
  | 2, _ => rfl
  | 3, _ => rfl
  | 4, _ => rfl
  | 5, _ => rfl
/-- list t is there -/
def hasT (k : KS) (t : Nat) : Prop := t = 0 ∨ t = 1 ∨ ∃ p, t = 2 + p ∧ p < 4 ∧ p < kP k
theorem hasT.lt {k : KS} {t : Nat} (h : hasT k t) : t < 6 := by
  rcases h with rfl | rfl | ⟨p, rfl, h, -⟩ <;> omega
theorem hasT.li {k : KS} {t : Nat} (h : hasT k t) : domC k (li t) := by
  rcases h with rfl | rfl | ⟨p, rfl, h, h2⟩
  · exact dC (by decide)
  · exact dC (by decide)
  · rw [li_p]
    exact dPl h2 h
theorem hasT.ai {k : KS} {t : Nat} (h : hasT k t) (hc : 0 < k.2.1 4 t) : domC k (ai t) := by
  rcases h with rfl | rfl | ⟨p, rfl, h, h2⟩
  · exact Or.inr (Or.inl ⟨rfl, hc⟩)
  · exact Or.inr (Or.inr (Or.inl ⟨rfl, hc⟩))
  · rw [ai_p]
    exact dPa h2 h hc
theorem CW.add {g : GE} {a : Nat → Nat} {k : KS} {L : List Nat} {f : Nat → va_E} (hk : CW g a k L f) {t : Nat} (ht : hasT k t) (h4 : kP k ≤ 4) (HC : ∀ j, j < kC k → k.2.1 1 j < 4) {u : PE} {m : Int32} {tg : Nat → Option Nat} (hne : g.2.2 4 ∉ L) (h : AddP g L f (a (li t)) m (lea g a k t (ai t)) (k.2.1 3 t) tg u) : ∃ ea cap rf, CW g (va_up a (ai t) ea) (kAdd k t m cap rf) u.1 u.2 ∧ (k.2.1 3 t + 1 ≤ cap ∧ cap ≤ 100) ∧ (∀ j, j < k.2.1 3 t + 1 → rf j = tg j) ∧ ∀ b, b ∈ L → b ∈ u.1 := by
  obtain ⟨ea, cap, rf, hL, h1, h2, h3, h5, h6, h7, h8⟩ := h
  refine ⟨ea, cap, rf, FW.repl hk hL ht.li h2 ?_ ?_ h7 ?_ ?_ ?_, h5, h6, hL⟩
  · rw [h1, fx_li g _ _ ht.lt]
    show _ = (.inr (2, [.int (upd (k.1 17) t m t), .ref (if va_up (k.2.1 4) t cap t = 0 then g.2.2 4 else va_up a (ai t) ea (ai t)), .int (nI (va_up (k.2.1 3) t (k.2.1 3 t + 1) t))]) : va_E)
    rw [upd_s, pu_s, pu_s, pu_s, if_neg (by omega)]
  · rw [h3, fx_ai g _ _ ht.lt]
    show _ = (.inl (g.2.1 2, va_up (k.2.1 4) t cap t, .inr (.inr (.inr (.inr (va_up k.2.2.1 t rf t))))) : va_E)
    rw [pu_s, pu_s]
  · rcases h8 with ⟨h8, h9⟩ | h8
    · by_cases hc : k.2.1 4 t = 0
      · rw [show lea g a k t (ai t) = g.2.2 4 from if_pos hc] at h9
        exact absurd h9 hne
      · exact Or.inl ⟨ht.ai (by omega), h8.trans (if_neg hc)⟩
    · exact Or.inr h8
  · have hcap : ∀ t', t' ≠ t → (kAdd k t m cap rf).2.1 4 t' = k.2.1 4 t' := fun t' h => pu_n h rfl
    rintro j (h | ⟨rfl, h⟩ | ⟨rfl, h⟩ | ⟨p, hp, hp4, rfl | rfl | ⟨rfl, h⟩⟩ | ⟨j, hj, rfl⟩)
    · exact Or.inr (Or.inl h)
    · by_cases e : 0 = t
      · exact Or.inl (e ▸ rfl)
      · rw [hcap 0 e] at h
        exact Or.inr (Or.inr (Or.inl ⟨rfl, h⟩))
    · by_cases e : 1 = t
      · exact Or.inl (e ▸ rfl)
      · rw [hcap 1 e] at h
        exact Or.inr (Or.inr (Or.inr (Or.inl ⟨rfl, h⟩)))
    · exact Or.inr (dP hp hp4)
    · exact Or.inr (dPl hp hp4)
    · by_cases e : 2 + p = t
      · exact Or.inl (e ▸ (ai_p p).symm)
      · rw [hcap (2 + p) e] at h
        exact Or.inr (dPa hp hp4 h)
    · exact Or.inr (dCh hj)
  · intro j hj hn1 hn2
    refine fx_same (a := a) (k := k) (a' := va_up a (ai t) ea) (k' := kAdd k t m cap rf) (fun j hj => (show va_up a (ai t) ea j = a j from pu_n (by have := ai_ge t; omega) rfl)) (fun p hp => ⟨pu_n ai_ne.1 rfl, pu_n ai_ne.2 rfl⟩) (fun c hc => (show va_up k.1 17 (upd (k.1 17) t m) c = k.1 c from pu_n (by omega) rfl)) (fun p hp => ⟨rfl, rfl⟩) (fun j hj => ⟨⟨rfl, rfl, fun c h1 h2 => ?_⟩, HC j hj⟩) j hj (fun t' ht' hor => ?_)
    · show va_up k.1 17 (upd (k.1 17) t m) c j = k.1 c j
      rw [pu_n (show c ≠ 17 by omega) rfl]
    · have hne' : t' ≠ t := by
        rintro rfl
        rcases hor with h | h
        · exact hn1 h
        · exact hn2 h
      exact ⟨upd_n hne', pu_n hne' rfl, pu_n hne' rfl, pu_n hne' rfl, pu_n (fun h => hne' (ai_inj h)) rfl⟩
theorem FW.ext2 {dom dom' : Nat → Prop} {fx fx' : Nat → va_E} {a : Nat → Nat} {L L' : List Nat} {f f' : Nat → va_E} {h0 q i0 i1 : Nat} (h : FW dom fx a L f) (hh : h0 ∉ L) (hq : q ∉ L) (hqh : q ≠ h0) (hL : ∀ b, b ∈ L → b ∈ L') (hh' : h0 ∈ L') (hq' : q ∈ L') (e0 : f' h0 = fx' i0) (e1 : f' q = fx' i1) (hoth : ∀ b, b ∈ L → f' b = f b) (hi : i0 ≠ i1) (hd : ∀ j, dom' j → j = i0 ∨ j = i1 ∨ dom j) (ho : ∀ j, dom j → j ≠ i0 → j ≠ i1 → fx' j = fx j) : FW dom' fx' (va_up (va_up a i0 h0) i1 q) L' f' := by
  have k0 : ∀ j, dom j → a j ≠ h0 := fun j hj e9 => hh (e9 ▸ h.q hj)
  have k1 : ∀ j, dom j → a j ≠ q := fun j hj e9 => hq (e9 ▸ h.q hj)
  have V1 : va_up (va_up a i0 h0) i1 q i1 = q := pu_s
  have V0 : va_up (va_up a i0 h0) i1 q i0 = h0 := pu_n hi pu_s
  have Vn : ∀ j, j ≠ i0 → j ≠ i1 → va_up (va_up a i0 h0) i1 q j = a j := fun j h1 h2 => pu_n h2 (pu_n h1 rfl)
  refine ⟨fun i hi' => ?_, fun i j hi' hj e9 => ?_⟩
  · by_cases c0 : i = i0
    · subst c0
      rw [V0]
      exact ⟨hh', e0⟩
    · by_cases c1 : i = i1
      · subst c1
        rw [V1]
        exact ⟨hq', e1⟩
      · have hdi : dom i := ((hd i hi').resolve_left c0).resolve_left c1
        rw [Vn i c0 c1]
        refine ⟨hL _ (h.q hdi), ?_⟩
        rw [hoth _ (h.q hdi), ho i hdi c0 c1]
        exact h.f hdi
  · by_cases c0 : i = i0
    · by_cases d0 : j = i0
      · rw [c0, d0]
      · rw [c0, V0] at e9
        by_cases d1 : j = i1
        · rw [d1, V1] at e9
          exact absurd e9.symm hqh
        · rw [Vn j d0 d1] at e9
          exact absurd e9.symm (k0 j (((hd j hj).resolve_left d0).resolve_left d1))
    · by_cases c1 : i = i1
      · by_cases d1 : j = i1
        · rw [c1, d1]
        · rw [c1, V1] at e9
          by_cases d0 : j = i0
          · rw [d0, V0] at e9
            exact absurd e9 hqh
          · rw [Vn j d0 d1] at e9
            exact absurd e9.symm (k1 j (((hd j hj).resolve_left d0).resolve_left d1))
      · have hdi : dom i := ((hd i hi').resolve_left c0).resolve_left c1
        rw [Vn i c0 c1] at e9
        by_cases d0 : j = i0
        · rw [d0, V0] at e9
          exact absurd e9 (k0 i hdi)
        · by_cases d1 : j = i1
          · rw [d1, V1] at e9
            exact absurd e9 (k1 i hdi)
          · rw [Vn j d0 d1] at e9
            exact h.2 i j hdi (((hd j hj).resolve_left d0).resolve_left d1) e9
/-- a new policy, not yet in the list -/
def kPol (k : KS) (ba : Int32) : KS :=
  (fun c => if c = 10 then upd (k.1 10) (kP k) ba else if c = 11 then upd (k.1 11) (kP k) 0 else if c = 17 then upd (k.1 17) (2 + kP k) 0 else k.1 c,
   fun c => if c = 0 then va_up (k.2.1 0) 0 (kP k + 1) else if c = 3 then va_up (k.2.1 3) (2 + kP k) 0 else if c = 4 then va_up (k.2.1 4) (2 + kP k) 0 else k.2.1 c, k.2.2.1, va_up k.2.2.2 (kP k) [])
theorem CW.pol {g : GE} {a : Nat → Nat} {k : KS} {L L' : List Nat} {f f' : Nat → va_E} (hk : CW g a k L f) (hi : Iv a k) (hp4 : kP k < 4) {h0 q : Nat} (ba : Int32) (hh : h0 ∉ L) (hq : q ∉ L) (hqh : q ≠ h0) (hL : ∀ b, b ∈ L → b ∈ L') (hh' : h0 ∈ L') (hq' : q ∈ L') (e0 : f' h0 = .inr (4, [.int ba, .ref q, .int 0])) (e1 : f' q = .inr (2, [.int 0, .ref (g.2.2 4), .int 0])) (hoth : ∀ b, b ∈ L → f' b = f b) : CW g (va_up (va_up a (20 + 3 * kP k) h0) (21 + 3 * kP k) q) (kPol k ba) L' f' := by
  refine FW.ext2 hk hh hq hqh hL hh' hq' ?_ ?_ hoth (by omega) ?_ ?_
  · rw [e0, fP g _ _ hp4]
    show _ = (.inr (4, [.int (upd (k.1 10) (kP k) ba (kP k)), .ref (va_up (va_up a (20 + 3 * kP k) h0) (21 + 3 * kP k) q (21 + 3 * kP k)), .int (upd (k.1 11) (kP k) 0 (kP k))]) : va_E)
    rw [upd_s, upd_s, pu_s]
  · rw [e1, fPl g _ _ hp4]
    show _ = (.inr (2, [.int (upd (k.1 17) (2 + kP k) 0 (2 + kP k)), .ref (if va_up (k.2.1 4) (2 + kP k) 0 (2 + kP k) = 0 then g.2.2 4 else va_up (va_up a (20 + 3 * kP k) h0) (21 + 3 * kP k) q (22 + 3 * kP k)), .int (nI (va_up (k.2.1 3) (2 + kP k) 0 (2 + kP k)))]) : va_E)
    rw [upd_s, pu_s, pu_s, if_pos rfl]
    rfl
  · have hcap : ∀ t, t ≠ 2 + kP k → (kPol k ba).2.1 4 t = k.2.1 4 t := fun t h => pu_n h rfl
    rintro j (h | ⟨rfl, h⟩ | ⟨rfl, h⟩ | ⟨p, hp, hp4', h⟩ | ⟨j, hj, rfl⟩)
    · exact Or.inr (Or.inr (Or.inl h))
    · rw [hcap 0 (by omega)] at h
      exact Or.inr (Or.inr (Or.inr (Or.inl ⟨rfl, h⟩)))
    · rw [hcap 1 (by omega)] at h
      exact Or.inr (Or.inr (Or.inr (Or.inr (Or.inl ⟨rfl, h⟩))))
    · have hp : p < kP k + 1 := hp
      by_cases e : p = kP k
      · subst e
        rcases h with rfl | rfl | ⟨rfl, h⟩
        · exact Or.inl rfl
        · exact Or.inr (Or.inl rfl)
        · rw [show (kPol k ba).2.1 4 (2 + kP k) = 0 from pu_s] at h
          exact absurd h (Nat.lt_irrefl 0)
      · rcases h with rfl | rfl | ⟨rfl, h⟩
        · exact Or.inr (Or.inr (dP (by show p < kP k; omega) hp4'))
        · exact Or.inr (Or.inr (dPl (by show p < kP k; omega) hp4'))
        · rw [hcap (2 + p) (by omega)] at h
          exact Or.inr (Or.inr (dPa (by show p < kP k; omega) hp4' h))
    · exact Or.inr (Or.inr (dCh hj))
  · intro j hj hn0 hn1
    refine fx_sameP (fun p => p < kP k) (a := a) (k := k) (a' := va_up (va_up a (20 + 3 * kP k) h0) (21 + 3 * kP k) q) (k' := kPol k ba) (fun j hj => pu_n (by omega) (pu_n (by omega) rfl)) (fun p hp hp2 => ⟨pu_n (by omega) (pu_n (by omega) rfl), pu_n (by omega) (pu_n (by omega) rfl)⟩) (fun c hc => ?_) (fun p hp => ⟨upd_n (by omega), upd_n (by omega)⟩) (fun j hj => ⟨⟨rfl, rfl, fun c h1 h2 => ?_⟩, hi.p4 hj, (hi.2.2.2.2.2.2.2 j hj).1⟩) (fun _ h => h) j hj (fun t ht hor => ?_)
    · show (if c = 10 then _ else if c = 11 then _ else if c = 17 then _ else k.1 c) = k.1 c
      rw [if_neg (by omega), if_neg (by omega), if_neg (by omega)]
    · show (if c = 10 then _ else if c = 11 then _ else if c = 17 then _ else k.1 c) j = k.1 c j
      rw [if_neg (by omega), if_neg (by omega), if_neg (by omega)]
    · have hne : t ≠ 2 + kP k := by
        rintro rfl
        rcases hor with h | h
        · exact hn1 (h.trans (li_p _))
        · rw [h, ai_p] at hj
          rcases hj with h | ⟨h, -⟩ | ⟨h, -⟩ | ⟨p, hp, -, h⟩ | ⟨j, -, h⟩
          · omega
          · omega
          · omega
          · have hp : p < kP k := hp
            omega
          · omega
      exact ⟨upd_n hne, pu_n hne rfl, pu_n hne rfl, rfl, pu_n ai_ne.2.symm (pu_n ai_ne.1.symm rfl)⟩
end ADD
