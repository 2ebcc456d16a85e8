/-! the reference goes through the days -/
section GOES
abbrev bndM (x : Int32) : Int32 := if x < 0 then 0 else if 20 < x then 20 else x
abbrev wgM (k : MS) (t0 : Nat) (y d : Int32) : Int32 := match bst k y d t0 with | none => 1 | some b => k 4 b
abbrev wIx (k : MS) (c : Nat) : Nat := (k 8 c).toNatClampNeg
def layM (k : MS) (st : VS) (c : Nat) : VS := (if k 7 c = 0 then upd st.1 (wIx k c) (k 10 c) else if k 7 c = 1 then upd st.1 (wIx k c) (bndM (st.1 (wIx k c) + k 10 c)) else st.1, if k 7 c = 3 then 1 else if k 7 c = 2 then 0 else st.2)
abbrev hitM (k : MS) (i : Nat) (kn : Int32) (d c : Nat) : Prop := k 6 c = nI i ∧ k 9 c = nI d ∧ knM k c kn
def dayM (k : MS) (i : Nat) (kn : Int32) (d : Nat) (st : VS) : Nat → VS
  | 0 => st
  | q + 1 => if hitM k i kn d q then layM k (dayM k i kn d st q) q else dayM k i kn d st q
def goM (k : MS) (i : Nat) (kn : Int32) (n0 : Nat) : Nat → VS
  | 0 => (fun _ => 0, 1)
  | d + 1 => dayM k i kn d (goM k i kn n0 d) n0
def itM (k : MS) (i t0 d : Nat) (v : Nat → Int32) : Nat → Int32
  | 0 => k 1 i
  | f + 1 => itM k i t0 d v f + v f * wgM k t0 (nI f) (nI d)
abbrev rtM (k : MS) (i : Nat) (kn : Int32) (n0 t0 d : Nat) : Int32 := if (goM k i kn n0 (d + 1)).2 = 0 then 0 else itM k i t0 d (goM k i kn n0 (d + 1)).1 3
def gK (k : MS) (R C T S : Nat → Int32) : MS := va_up (va_up (va_up (va_up k 13 R) 14 C) 15 T) 16 S
theorem gK_id (k : MS) : gK k (k 13) (k 14) (k 15) (k 16) = k := by
  unfold gK
  rw [va_up_id]
  show va_up (va_up (va_up k 14 (k 14)) 15 (k 15)) 16 (k 16) = k
  rw [va_up_id, va_up_id, va_up_id]
theorem gK_13 (k : MS) (R C T S X : Nat → Int32) : va_up (gK k R C T S) 13 X = gK k X C T S := by
  unfold gK
  rw [va_up_comm _ (show 16 ≠ 13 by decide), va_up_comm _ (show 15 ≠ 13 by decide), va_up_comm _ (show 14 ≠ 13 by decide), va_up_up]
theorem gK_14 (k : MS) (R C T S X : Nat → Int32) : va_up (gK k R C T S) 14 X = gK k R X T S := by
  unfold gK
  rw [va_up_comm _ (show 16 ≠ 14 by decide), va_up_comm _ (show 15 ≠ 14 by decide), va_up_up]
theorem gK_15 (k : MS) (R C T S X : Nat → Int32) : va_up (gK k R C T S) 15 X = gK k R C X S := by
  unfold gK
  rw [va_up_comm _ (show 16 ≠ 15 by decide), va_up_up]
theorem gK_16 (k : MS) (R C T S X : Nat → Int32) : va_up (gK k R C T S) 16 X = gK k R C T X := by
  unfold gK
  rw [va_up_up]
theorem bst_gK (k : MS) (R C T S : Nat → Int32) (y d : Int32) : ∀ q, bst (gK k R C T S) y d q = bst k y d q
  | 0 => rfl
  | q + 1 => by
    rw [bst, bst, bst_gK k R C T S y d q]
    rfl
theorem ix3 (n f : Nat) : 3 * nI n + nI f = nI (3 * n + f) := by
  show 3 * Int32.ofNat n + Int32.ofNat f = Int32.ofNat (3 * n + f)
  rw [Int32.ofNat_add, Int32.ofNat_mul]
  rfl
theorem ix3m {n : Nat} (f : Nat) (h : 0 < n) : 3 * nI n - 3 + nI f = nI (3 * (n - 1) + f) := by
  obtain ⟨m, rfl⟩ : ∃ m, n = m + 1 := ⟨n - 1, by omega⟩
  have e : 3 * nI (m + 1) = nI (3 * m) + 3 := by
    have := ix3 (m + 1) 0
    rw [show nI 0 = 0 from rfl, Int32.add_zero] at this
    rw [this, show 3 * (m + 1) + 0 = 3 * m + 3 by omega]
    show Int32.ofNat (3 * m + 3) = Int32.ofNat (3 * m) + 3
    rw [Int32.ofNat_add]
    rfl
  rw [e, Int32.add_sub_cancel]
  show Int32.ofNat (3 * m) + Int32.ofNat f = Int32.ofNat (3 * (m + 1 - 1) + f)
  rw [← Int32.ofNat_add]
  rfl
theorem go01 {k : MS} {st : VS} {c : Nat} (h : st.2 = 0 ∨ st.2 = 1) : (layM k st c).2 = 0 ∨ (layM k st c).2 = 1 := by
  unfold layM
  dsimp only
  split
  · exact Or.inr rfl
  · split
    · exact Or.inl rfl
    · exact h
theorem day01 {k : MS} {i : Nat} {kn : Int32} {d : Nat} {st : VS} (h : st.2 = 0 ∨ st.2 = 1) : ∀ q, (dayM k i kn d st q).2 = 0 ∨ (dayM k i kn d st q).2 = 1
  | 0 => h
  | q + 1 => by
    rw [dayM]
    split
    · exact go01 (day01 h q)
    · exact day01 h q
theorem goM01 (k : MS) (i : Nat) (kn : Int32) (n0 : Nat) : ∀ d, (goM k i kn n0 d).2 = 0 ∨ (goM k i kn n0 d).2 = 1
  | 0 => Or.inr rfl
  | d + 1 => day01 (goM01 k i kn n0 d) n0
theorem vnar01 {x : Int32} (h : x = 0 ∨ x = 1) : vp_nar .boolean x = x := by
  rcases h with rfl | rfl <;> rfl
/-- the rows behind n days -/
def gdV (k : MS) (i : Nat) (kn : Int32) (n0 n : Nat) (R : Nat → Int32) : Prop := ∀ d, d < n → ∀ f, f < 3 → R (3 * d + f) = (goM k i kn n0 (d + 1)).1 f
def gdC (k : MS) (i : Nat) (kn : Int32) (n0 t0 n : Nat) (C T S : Nat → Int32) : Prop := (∀ d, d < n → C d = (goM k i kn n0 (d + 1)).2) ∧ (∀ d, d < n → T d = rtM k i kn n0 t0 d) ∧ S 0 = 0 ∧ ∀ d, d < n → S (d + 1) = S d + T d
theorem gdV.up {k : MS} {i : Nat} {kn : Int32} {n0 n : Nat} {R : Nat → Int32} (h : gdV k i kn n0 n R) (f : Nat) (x : Int32) : gdV k i kn n0 n (upd R (3 * n + f) x) := fun d hd f' hf => by
  rw [upd_n (by omega)]
  exact h d hd f' hf
theorem gdV.next {k : MS} {i : Nat} {kn : Int32} {n0 n : Nat} {R : Nat → Int32} (h : gdV k i kn n0 n R) (h2 : ∀ f, f < 3 → R (3 * n + f) = (goM k i kn n0 (n + 1)).1 f) : gdV k i kn n0 (n + 1) R := fun d hd f hf => by
  by_cases e : d = n
  · subst e
    exact h2 f hf
  · exact h d (by omega) f hf
theorem gdC.next {k : MS} {i : Nat} {kn : Int32} {n0 t0 n : Nat} {C T S : Nat → Int32} (h : gdC k i kn n0 t0 n C T S) {c t : Int32} (hc : c = (goM k i kn n0 (n + 1)).2) (ht : t = rtM k i kn n0 t0 n) : gdC k i kn n0 t0 (n + 1) (upd C n c) (upd T n t) (upd S (n + 1) (S n + upd T n t n)) := by
  obtain ⟨h1, h2, h3, h4⟩ := h
  refine ⟨fun d hd => ?_, fun d hd => ?_, ?_, fun d hd => ?_⟩
  · by_cases e : d = n
    · subst e
      rw [upd_s, hc]
    · rw [upd_n e]
      exact h1 d (by omega)
  · by_cases e : d = n
    · subst e
      rw [upd_s, ht]
    · rw [upd_n e]
      exact h2 d (by omega)
  · rw [upd_n (by omega)]
    exact h3
  · by_cases e : d = n
    · subst e
      exact upd_s.trans (by rw [upd_n (i := d) (j := d + 1) (by omega)])
    · rw [upd_n (i := d + 1) (by omega), upd_n (i := d) (j := n + 1) (by omega), upd_n e]
      exact h4 d (by omega)
/-- what a change does to the row of its day -/
theorem lay_0 {k : MS} {st : VS} {c w n : Nat} {R : Nat → Int32} (hw : k 8 c = nI w) (hw3 : w < 3) (hr : ∀ f, f < 3 → R (3 * n + f) = st.1 f) (h : k 7 c = 0) : ∀ f, f < 3 → upd R (3 * n + w) (k 10 c) (3 * n + f) = (layM k st c).1 f := by
  intro f hf
  have e : wIx k c = w := by
    show (k 8 c).toNatClampNeg = w
    rw [hw]
    exact nI_clamp (by omega)
  unfold layM
  dsimp only
  rw [if_pos h, e]
  by_cases e1 : f = w
  · subst e1
    rw [upd_s, upd_s]
  · rw [upd_n (by omega), upd_n e1]
    exact hr f hf
theorem lay_1 {k : MS} {st : VS} {c w n : Nat} {R : Nat → Int32} (hw : k 8 c = nI w) (hw3 : w < 3) (hr : ∀ f, f < 3 → R (3 * n + f) = st.1 f) (h0 : ¬ k 7 c = 0) (h : k 7 c = 1) : ∀ f, f < 3 → upd R (3 * n + w) (bndM (R (3 * n + w) + k 10 c)) (3 * n + f) = (layM k st c).1 f := by
  intro f hf
  have e : wIx k c = w := by
    show (k 8 c).toNatClampNeg = w
    rw [hw]
    exact nI_clamp (by omega)
  unfold layM
  dsimp only
  rw [if_neg h0, if_pos h, e]
  by_cases e1 : f = w
  · subst e1
    rw [upd_s, upd_s, hr f hf]
  · rw [upd_n (by omega), upd_n e1]
    exact hr f hf
theorem lay_2 {k : MS} {st : VS} {c w n : Nat} {R : Nat → Int32} (hr : ∀ f, f < 3 → R (3 * n + f) = st.1 f) (h0 : ¬ k 7 c = 0) (h : ¬ k 7 c = 1) : ∀ f, f < 3 → upd R (3 * n + w) (R (3 * n + w)) (3 * n + f) = (layM k st c).1 f := by
  intro f hf
  unfold layM
  dsimp only
  rw [if_neg h0, if_neg h, upd_id]
  exact hr f hf

set_option maxHeartbeats 4000000 in
set_option maxRecDepth 100000 in
theorem m_goes (l : Launch) (g : GE) (L : List Nat) (f : Nat → va_E) (a : Nat → Nat) (k : MS) (hk : MW g a k L f) (p0 t0 n0 : Nat) (hI : MInv k p0 t0 n0) (i : Nat) (hi0 : i < p0) (kn : Int32) (hwh : ∀ c, c < n0 → ∃ w, w < 3 ∧ k 8 c = nI w) : Mv l yX7_goes wsX7_goes (rmH 1 0 0) g L f [.ref (a 0), .int (nI i), .int kn] (fun u => ∃ R C T S, gdV k i kn n0 365 R ∧ gdC k i kn n0 t0 365 C T S ∧ ScM g a (gK k R C T S) L u) 0 0 := by
  intro sz
  refine Met.ofW (cc := cX7_goes) (maxL := 7) (ret := none) (by decide) rfl ?_
  intro p e s m args below meth c s₁ B hml hv
  obtain ⟨rfl, hv⟩ := hv
  have hx := B.exec
  have hb := B.bytes
  have hr := B.returns
  have hts := atoms_spec (ws := wsX7_goes) B.pre
  have hown : s.vm.findClass RX7 = some m.cls := findClass_of_methodNamed B.named
  have hlocks := B.notSynchronized
  obtain ⟨rfl, hw, hs⟩ := pm_begin hv
  generalize va_A (va_pl L f) s.heap.size = A at hw hs ⊢
  have CF := (⟨hx, hb, hml, hown, hts⟩ : CallFix p m c cX7_goes 7 s _ wsX7_goes RX7)
  have hin_X7 : ∀ w ∈ wsX70, w ∈ wsX7_goes := by decide +kernel
  have hl := lv_entry ([.ref (a 0), .int (nI i), .int kn]) (n := 7) (Nat.le_of_ble_eq_true rfl)
  rw [lg_entry_eq]
  generalize (lg_sl ([.ref (a 0), .int (nI i), .int kn]) ++ List.replicate (7 - (lg_sl ([.ref (a 0), .int (nI i), .int kn])).length) Slot.unset).toArray = ls at hl ⊢
  have hl : lv_has ls 7 [(0, .ref (a 0)), (1, .int (nI i)), (2, .int kn)] := hl
  obtain ⟨⟨hp0, ht0, hn0⟩, hpl, htl, hnl⟩ := hI
  rw [← gK_id k] at hk
  refine lv_iconst (v := 1) hx hb dX7_goes_0 (by decide) ?_
  refine lv_istore_n (lv' := [(3, .int 1), (0, .ref (a 0)), (1, .int (nI i)), (2, .int kn)]) hx hb dX7_goes_1 rfl hl (by decide) rfl (fun ls hl => ?_)
  refine lv_aload_n hx hb dX7_goes_2 rfl (lv_at hl 1 rfl) ?_
  refine pm_get (ci := 9) (v := .ref (a 16)) (C := RX7) (T := TX7) (N := 21) hx hb hts hin_X7 hown hw (hk.q (i := 0) (by decide)) (hk.f (i := 0) (by decide)) rfl 19 (by decide) (hts (.fieldLink RX7 56 "BackdaterModel" "sum" "[I") (by decide +kernel)) (fun _ h9 => h9) rfl dX7_goes_3 ?_
  refine lv_iconst (v := 0) hx hb dX7_goes_6 (by decide) ?_
  refine lv_iconst (v := 0) hx hb dX7_goes_7 (by decide) ?_
  refine pm_iast (n := 366) (r := (k 16)) hx hb hw (hk.q (i := 16) (by decide)) (hk.f (i := 16) (by decide)) (j := 0) (nI_clamp (n := 0) (by decide)) (vp_in_nI (n := 0) (by decide) (by decide)) dX7_goes_8 (fun H locs hw => ?_)
  have hk := hk.a16 (upd (k 16) 0 0)
  rw [gK_16] at hk
  refine lv_iconst (v := 0) hx hb dX7_goes_9 (by decide) ?_
  refine lv_istore (lv' := [(4, .int 0), (3, .int 1), (0, .ref (a 0)), (1, .int (nI i)), (2, .int kn)]) hx hb dX7_goes_10 hl (by decide) rfl (fun ls hl => ?_)
  refine W_loop (σ := Nat × (Nat → Int32) × (Nat → Int32) × (Nat → Int32) × (Nat → Int32) × Int32) (fun ⟨n, R, C, T, S, on⟩ H locs ls => ∃ f1 : Nat → va_E, (n ≤ 365 ∧ on = (goM k i kn n0 n).2 ∧ gdV k i kn n0 n R ∧ gdC k i kn n0 t0 n C T S) ∧ MW g a (gK k R C T S) L f1 ∧ PW g A s H locs L f1 ∧ lv_has ls 7 [(4, .int (nI n)), (3, .int on), (0, .ref (a 0)), (1, .int (nI i)), (2, .int kn)]) (fun ⟨n, R, C, T, S, on⟩ => 365 - n) (0, k 13, k 14, k 15, upd (k 16) 0 0, 1) ⟨_, ⟨Nat.zero_le _, rfl, fun d hd => absurd hd (Nat.not_lt_zero d), fun d hd => absurd hd (Nat.not_lt_zero d), fun d hd => absurd hd (Nat.not_lt_zero d), upd_s, fun d hd => absurd hd (Nat.not_lt_zero d)⟩, hk, hw, lv_sub hl [0, 1, 2, 3, 4] rfl⟩ ?_
  rintro ⟨n, R, C, T, S, on⟩ H locs ls ⟨f1, ⟨hnl9, hon, hR, hC⟩, hk, hw, hl⟩ ih_12
  refine lv_iload hx hb dX7_goes_12 (lv_at hl 0 rfl) ?_
  refine lv_sipush (v := 365) hx hb dX7_goes_14 (by decide) ?_
  refine lv_icmp_ge (tgt := 337) hx hb dX7_goes_17 (by decide) (fun c_17 => ?_) (fun c_17 => ?_)
  · have hfin := (nI_leI (b := n) (a := 365) (by omega) (by omega)).mp (show nI 365 ≤ nI n from c_17)
    exact pr_v hx hb hr hlocks hw ⟨Nat.le_of_ble_eq_true rfl, Nat.le_of_ble_eq_true rfl⟩ (⟨R, C, T, S, (by have h9 : n = 365 := (by omega); rw [h9] at hR; exact hR), (by have h9 : n = 365 := (by omega); rw [h9] at hC; exact hC), rfl, hk⟩) dX7_goes_337
  · have hnd : n < 365 := by
      rcases Nat.lt_or_ge n 365 with h9 | h9
      · exact h9
      · exact absurd ((nI_leI (b := n) (a := 365) (by omega) (by omega)).mpr h9) (show ¬ nI 365 ≤ nI n from c_17)
    refine lv_iconst (v := 0) hx hb dX7_goes_20 (by decide) ?_
    refine lv_istore (lv' := [(5, .int 0), (4, .int (nI n)), (3, .int on), (0, .ref (a 0)), (1, .int (nI i)), (2, .int kn)]) hx hb dX7_goes_21 hl (by decide) rfl (fun ls hl => ?_)
    refine W_loop (σ := Nat × (Nat → Int32)) (fun ⟨f9, R⟩ H locs ls => ∃ f1 : Nat → va_E, (f9 ≤ 3 ∧ gdV k i kn n0 n R ∧ ∀ f, f < f9 → R (3 * n + f) = (goM k i kn n0 n).1 f) ∧ MW g a (gK k R C T S) L f1 ∧ PW g A s H locs L f1 ∧ lv_has ls 7 [(5, .int (nI f9)), (4, .int (nI n)), (3, .int on), (0, .ref (a 0)), (1, .int (nI i)), (2, .int kn)]) (fun ⟨f9, R⟩ => 3 - f9) (0, R) ⟨_, ⟨Nat.zero_le _, hR, fun f hf => absurd hf (Nat.not_lt_zero f)⟩, hk, hw, lv_sub hl [0, 1, 2, 3, 4, 5] rfl⟩ ?_
    rintro ⟨f9, R⟩ H locs ls ⟨f1, ⟨hf3, hR, hR2⟩, hk, hw, hl⟩ ih_23
    refine lv_iload hx hb dX7_goes_23 (lv_at hl 0 rfl) ?_
    refine lv_iconst (v := 3) hx hb dX7_goes_25 (by decide) ?_
    refine lv_icmp_ge (tgt := 70) hx hb dX7_goes_26 (by decide) (fun c_26 => ?_) (fun c_26 => ?_)
    · have hff := (nI_leI (b := f9) (a := 3) (by omega) (by omega)).mp (show nI 3 ≤ nI f9 from c_26)
      refine lv_iconst (v := 0) hx hb dX7_goes_70 (by decide) ?_
      refine lv_istore (lv' := [(5, .int 0), (4, .int (nI n)), (3, .int on), (0, .ref (a 0)), (1, .int (nI i)), (2, .int kn)]) hx hb dX7_goes_71 hl (by decide) rfl (fun ls hl => ?_)
      refine W_loop (σ := Nat × (Nat → Int32) × Int32) (fun ⟨q, R, on⟩ H locs ls => ∃ f1 : Nat → va_E, (q ≤ n0 ∧ gdV k i kn n0 n R ∧ (∀ f, f < 3 → R (3 * n + f) = (dayM k i kn n (goM k i kn n0 n) q).1 f) ∧ on = (dayM k i kn n (goM k i kn n0 n) q).2) ∧ MW g a (gK k R C T S) L f1 ∧ PW g A s H locs L f1 ∧ lv_has ls 7 [(5, .int (nI q)), (4, .int (nI n)), (3, .int on), (0, .ref (a 0)), (1, .int (nI i)), (2, .int kn)]) (fun ⟨q, R, on⟩ => n0 - q) (0, R, on) ⟨_, ⟨Nat.zero_le _, hR, fun f hf => hR2 f (by omega), hon⟩, hk, hw, lv_sub hl [0, 1, 2, 3, 4, 5] rfl⟩ ?_
      rintro ⟨q, R, on⟩ H locs ls ⟨f1, ⟨hql, hR, hR3, hon3⟩, hk, hw, hl⟩ ih_73
      refine lv_iload hx hb dX7_goes_73 (lv_at hl 0 rfl) ?_
      refine lv_aload_n hx hb dX7_goes_75 rfl (lv_at hl 3 rfl) ?_
      refine pm_get (ci := 9) (v := .int (k 0 3)) (C := RX7) (T := TX7) (N := 21) hx hb hts hin_X7 hown hw (hk.q (i := 0) (by decide)) (hk.f (i := 0) (by decide)) rfl 8 (by decide) (hts (.fieldLink RX7 86 "BackdaterModel" "changes" "I") (by decide +kernel)) (fun _ h9 => h9) rfl dX7_goes_76 ?_
      refine lv_icmp_ge (tgt := 233) hx hb dX7_goes_79 (by decide) (fun c_79 => ?_) (fun c_79 => ?_)
      · have hqf : q = n0 := by rw [hn0, nI_leI (by omega) (by omega)] at c_79; omega
        have hon4 : on = (goM k i kn n0 (n + 1)).2 := by
          rw [hon3, hqf]
          rfl
        have hR4 : ∀ f, f < 3 → R (3 * n + f) = (goM k i kn n0 (n + 1)).1 f := by
          intro f hf
          rw [hR3 f hf, hqf]
          rfl
        have hon3 := hon4
        have hR3 := hR4
        refine lv_aload_n hx hb dX7_goes_233 rfl (lv_at hl 3 rfl) ?_
        refine pm_get (ci := 9) (v := .ref (a 14)) (C := RX7) (T := TX7) (N := 21) hx hb hts hin_X7 hown hw (hk.q (i := 0) (by decide)) (hk.f (i := 0) (by decide)) rfl 17 (by decide) (hts (.fieldLink RX7 49 "BackdaterModel" "covered" "[Z") (by decide +kernel)) (fun _ h9 => h9) rfl dX7_goes_234 ?_
        refine lv_iload hx hb dX7_goes_237 (lv_at hl 1 rfl) ?_
        refine lv_iload_n hx hb dX7_goes_239 rfl (lv_at hl 2 rfl) ?_
        refine pm_zast (n := 365) (r := C) hx hb hw (hk.q (i := 14) (by decide)) (hk.f (i := 14) (by decide)) (j := n) (nI_clamp (by omega)) (vp_in_nI (by omega) (by decide)) dX7_goes_240 (fun H locs hw => ?_)
        have hk := hk.a14 (upd C n (vp_nar .boolean on))
        rw [gK_14] at hk
        refine lv_aload_n hx hb dX7_goes_241 rfl (lv_at hl 3 rfl) ?_
        refine pm_get (ci := 9) (v := .ref (a 1)) (C := RX7) (T := TX7) (N := 21) hx hb hts hin_X7 hown hw (hk.q (i := 0) (by decide)) (hk.f (i := 0) (by decide)) rfl 1 (by decide) (hts (.fieldLink RX7 7 "BackdaterModel" "base" "[I") (by decide +kernel)) (fun _ h9 => h9) rfl dX7_goes_242 ?_
        refine lv_iload_n hx hb dX7_goes_245 rfl (lv_at hl 4 rfl) ?_
        refine pm_iald (n := 4) (r := (k 1)) hx hb hw (hk.q (i := 1) (by decide)) (hk.f (i := 1) (by decide)) (j := i) (nI_clamp (by omega)) (vp_in_nI (by omega) (by decide)) dX7_goes_246 ?_
        refine lv_istore (lv' := [(5, .int ((k 1) i)), (4, .int (nI n)), (3, .int on), (0, .ref (a 0)), (1, .int (nI i)), (2, .int kn)]) hx hb dX7_goes_247 hl (by decide) rfl (fun ls hl => ?_)
        refine lv_iconst (v := 0) hx hb dX7_goes_249 (by decide) ?_
        refine lv_istore (lv' := [(6, .int 0), (5, .int ((k 1) i)), (4, .int (nI n)), (3, .int on), (0, .ref (a 0)), (1, .int (nI i)), (2, .int kn)]) hx hb dX7_goes_250 hl (by decide) rfl (fun ls hl => ?_)
        obtain ⟨CC, hCC⟩ : ∃ z, z = (upd C n (vp_nar .boolean on)) := ⟨_, rfl⟩
        rw [← hCC] at hk hw
        refine W_loop (σ := Nat × Int32) (fun ⟨f9, its⟩ H locs ls => ∃ f1 : Nat → va_E, (f9 ≤ 3 ∧ its = itM k i t0 n (goM k i kn n0 (n + 1)).1 f9) ∧ MW g a (gK k R CC T S) L f1 ∧ PW g A s H locs L f1 ∧ lv_has ls 7 [(6, .int (nI f9)), (5, .int its), (4, .int (nI n)), (3, .int on), (0, .ref (a 0)), (1, .int (nI i)), (2, .int kn)]) (fun ⟨f9, its⟩ => 3 - f9) (0, k 1 i) ⟨_, ⟨Nat.zero_le _, rfl⟩, hk, hw, lv_sub hl [0, 1, 2, 3, 4, 5, 6] rfl⟩ ?_
        rintro ⟨f9, its⟩ H locs ls ⟨f1, ⟨hf3, hits⟩, hk, hw, hl⟩ ih_252
        refine lv_iload hx hb dX7_goes_252 (lv_at hl 0 rfl) ?_
        refine lv_iconst (v := 3) hx hb dX7_goes_254 (by decide) ?_
        refine lv_icmp_ge (tgt := 290) hx hb dX7_goes_255 (by decide) (fun c_255 => ?_) (fun c_255 => ?_)
        · have hff := (nI_leI (b := f9) (a := 3) (by omega) (by omega)).mp (show nI 3 ≤ nI f9 from c_255)
          refine lv_aload_n hx hb dX7_goes_290 rfl (lv_at hl 4 rfl) ?_
          refine pm_get (ci := 9) (v := .ref (a 15)) (C := RX7) (T := TX7) (N := 21) hx hb hts hin_X7 hown hw (hk.q (i := 0) (by decide)) (hk.f (i := 0) (by decide)) rfl 18 (by decide) (hts (.fieldLink RX7 53 "BackdaterModel" "rate" "[I") (by decide +kernel)) (fun _ h9 => h9) rfl dX7_goes_291 ?_
          refine lv_iload hx hb dX7_goes_294 (lv_at hl 2 rfl) ?_
          refine lv_iload_n hx hb dX7_goes_296 rfl (lv_at hl 3 rfl) ?_
          refine lv_if_eq (tgt := 305) hx hb dX7_goes_297 (by decide) (fun c_297 => ?_) (fun c_297 => ?_)
          · have hrt : (0 : Int32) = rtM k i kn n0 t0 n := (if_pos (hon4.symm.trans c_297)).symm
            refine lv_iconst (v := 0) hx hb dX7_goes_305 (by decide) ?_
            refine pm_iast (n := 365) (r := T) hx hb hw (hk.q (i := 15) (by decide)) (hk.f (i := 15) (by decide)) (j := n) (nI_clamp (by omega)) (vp_in_nI (by omega) (by decide)) dX7_goes_306 (fun H locs hw => ?_)
            have hk := hk.a15 (upd T n 0)
            rw [gK_15] at hk
            refine lv_aload_n hx hb dX7_goes_307 rfl (lv_at hl 4 rfl) ?_
            refine pm_get (ci := 9) (v := .ref (a 16)) (C := RX7) (T := TX7) (N := 21) hx hb hts hin_X7 hown hw (hk.q (i := 0) (by decide)) (hk.f (i := 0) (by decide)) rfl 19 (by decide) (hts (.fieldLink RX7 56 "BackdaterModel" "sum" "[I") (by decide +kernel)) (fun _ h9 => h9) rfl dX7_goes_308 ?_
            refine lv_iload hx hb dX7_goes_311 (lv_at hl 2 rfl) ?_
            refine lv_iconst (v := 1) hx hb dX7_goes_313 (by decide) ?_
            refine lv_iadd hx hb dX7_goes_314 ?_
            refine lv_aload_n hx hb dX7_goes_315 rfl (lv_at hl 4 rfl) ?_
            refine pm_get (ci := 9) (v := .ref (a 16)) (C := RX7) (T := TX7) (N := 21) hx hb hts hin_X7 hown hw (hk.q (i := 0) (by decide)) (hk.f (i := 0) (by decide)) rfl 19 (by decide) (hts (.fieldLink RX7 56 "BackdaterModel" "sum" "[I") (by decide +kernel)) (fun _ h9 => h9) rfl dX7_goes_316 ?_
            refine lv_iload hx hb dX7_goes_319 (lv_at hl 2 rfl) ?_
            refine pm_iald (n := 366) (r := S) hx hb hw (hk.q (i := 16) (by decide)) (hk.f (i := 16) (by decide)) (j := n) (nI_clamp (by omega)) (vp_in_nI (by omega) (by decide)) dX7_goes_321 ?_
            refine lv_aload_n hx hb dX7_goes_322 rfl (lv_at hl 4 rfl) ?_
            refine pm_get (ci := 9) (v := .ref (a 15)) (C := RX7) (T := TX7) (N := 21) hx hb hts hin_X7 hown hw (hk.q (i := 0) (by decide)) (hk.f (i := 0) (by decide)) rfl 18 (by decide) (hts (.fieldLink RX7 53 "BackdaterModel" "rate" "[I") (by decide +kernel)) (fun _ h9 => h9) rfl dX7_goes_323 ?_
            refine lv_iload hx hb dX7_goes_326 (lv_at hl 2 rfl) ?_
            refine pm_iald (n := 365) (r := (upd T n 0)) hx hb hw (hk.q (i := 15) (by decide)) (hk.f (i := 15) (by decide)) (j := n) (nI_clamp (by omega)) (vp_in_nI (by omega) (by decide)) dX7_goes_328 ?_
            refine lv_iadd hx hb dX7_goes_329 ?_
            refine pm_iast (n := 366) (r := S) hx hb hw (hk.q (i := 16) (by decide)) (hk.f (i := 16) (by decide)) (j := (n + 1)) (by rw [nI_1 n]; exact nI_clamp (by omega)) (by rw [nI_1 n]; exact vp_in_nI (by omega) (by decide)) dX7_goes_330 (fun H locs hw => ?_)
            have hk := hk.a16 (upd S (n + 1) ((S n) + ((upd T n 0) n)))
            rw [gK_16] at hk
            refine lv_iinc (v := (nI (n + 1))) (lv' := [(4, .int (nI (n + 1))), (6, .int (nI f9)), (5, .int its), (3, .int on), (0, .ref (a 0)), (1, .int (nI i)), (2, .int kn)]) hx hb dX7_goes_331 hl (k := 2) rfl (nI_1 n) (by decide) rfl (fun ls hl => ?_)
            refine lv_goto (tgt := 12) hx hb dX7_goes_334 (by decide) ?_
            exact ih_12 (n + 1, R, CC, (upd T n 0), (upd S (n + 1) ((S n) + ((upd T n 0) n))), on) _ _ _ (by dsimp only; omega) ⟨_, ⟨by omega, hon3, hR.next hR3, by rw [hCC]; exact hC.next (by rw [hon3]; exact vnar01 (goM01 k i kn n0 (n + 1))) hrt⟩, hk, hw, lv_sub hl [0, 3, 4, 5, 6] rfl⟩
          · have hrt : its = rtM k i kn n0 t0 n := by
              have h9 : f9 = 3 := by omega
              rw [hits, h9]
              exact (if_neg (fun h8 => c_297 (hon4.trans h8))).symm
            refine lv_iload hx hb dX7_goes_300 (lv_at hl 1 rfl) ?_
            refine lv_goto (tgt := 306) hx hb dX7_goes_302 (by decide) ?_
            refine pm_iast (n := 365) (r := T) hx hb hw (hk.q (i := 15) (by decide)) (hk.f (i := 15) (by decide)) (j := n) (nI_clamp (by omega)) (vp_in_nI (by omega) (by decide)) dX7_goes_306 (fun H locs hw => ?_)
            have hk := hk.a15 (upd T n its)
            rw [gK_15] at hk
            refine lv_aload_n hx hb dX7_goes_307 rfl (lv_at hl 4 rfl) ?_
            refine pm_get (ci := 9) (v := .ref (a 16)) (C := RX7) (T := TX7) (N := 21) hx hb hts hin_X7 hown hw (hk.q (i := 0) (by decide)) (hk.f (i := 0) (by decide)) rfl 19 (by decide) (hts (.fieldLink RX7 56 "BackdaterModel" "sum" "[I") (by decide +kernel)) (fun _ h9 => h9) rfl dX7_goes_308 ?_
            refine lv_iload hx hb dX7_goes_311 (lv_at hl 2 rfl) ?_
            refine lv_iconst (v := 1) hx hb dX7_goes_313 (by decide) ?_
            refine lv_iadd hx hb dX7_goes_314 ?_
            refine lv_aload_n hx hb dX7_goes_315 rfl (lv_at hl 4 rfl) ?_
            refine pm_get (ci := 9) (v := .ref (a 16)) (C := RX7) (T := TX7) (N := 21) hx hb hts hin_X7 hown hw (hk.q (i := 0) (by decide)) (hk.f (i := 0) (by decide)) rfl 19 (by decide) (hts (.fieldLink RX7 56 "BackdaterModel" "sum" "[I") (by decide +kernel)) (fun _ h9 => h9) rfl dX7_goes_316 ?_
            refine lv_iload hx hb dX7_goes_319 (lv_at hl 2 rfl) ?_
            refine pm_iald (n := 366) (r := S) hx hb hw (hk.q (i := 16) (by decide)) (hk.f (i := 16) (by decide)) (j := n) (nI_clamp (by omega)) (vp_in_nI (by omega) (by decide)) dX7_goes_321 ?_
            refine lv_aload_n hx hb dX7_goes_322 rfl (lv_at hl 4 rfl) ?_
            refine pm_get (ci := 9) (v := .ref (a 15)) (C := RX7) (T := TX7) (N := 21) hx hb hts hin_X7 hown hw (hk.q (i := 0) (by decide)) (hk.f (i := 0) (by decide)) rfl 18 (by decide) (hts (.fieldLink RX7 53 "BackdaterModel" "rate" "[I") (by decide +kernel)) (fun _ h9 => h9) rfl dX7_goes_323 ?_
            refine lv_iload hx hb dX7_goes_326 (lv_at hl 2 rfl) ?_
            refine pm_iald (n := 365) (r := (upd T n its)) hx hb hw (hk.q (i := 15) (by decide)) (hk.f (i := 15) (by decide)) (j := n) (nI_clamp (by omega)) (vp_in_nI (by omega) (by decide)) dX7_goes_328 ?_
            refine lv_iadd hx hb dX7_goes_329 ?_
            refine pm_iast (n := 366) (r := S) hx hb hw (hk.q (i := 16) (by decide)) (hk.f (i := 16) (by decide)) (j := (n + 1)) (by rw [nI_1 n]; exact nI_clamp (by omega)) (by rw [nI_1 n]; exact vp_in_nI (by omega) (by decide)) dX7_goes_330 (fun H locs hw => ?_)
            have hk := hk.a16 (upd S (n + 1) ((S n) + ((upd T n its) n)))
            rw [gK_16] at hk
            refine lv_iinc (v := (nI (n + 1))) (lv' := [(4, .int (nI (n + 1))), (6, .int (nI f9)), (5, .int its), (3, .int on), (0, .ref (a 0)), (1, .int (nI i)), (2, .int kn)]) hx hb dX7_goes_331 hl (k := 2) rfl (nI_1 n) (by decide) rfl (fun ls hl => ?_)
            refine lv_goto (tgt := 12) hx hb dX7_goes_334 (by decide) ?_
            exact ih_12 (n + 1, R, CC, (upd T n its), (upd S (n + 1) ((S n) + ((upd T n its) n))), on) _ _ _ (by dsimp only; omega) ⟨_, ⟨by omega, hon3, hR.next hR3, by rw [hCC]; exact hC.next (by rw [hon3]; exact vnar01 (goM01 k i kn n0 (n + 1))) hrt⟩, hk, hw, lv_sub hl [0, 3, 4, 5, 6] rfl⟩
        · have hfl : f9 < 3 := by
            rcases Nat.lt_or_ge f9 3 with h9 | h9
            · exact h9
            · exact absurd ((nI_leI (b := f9) (a := 3) (by omega) (by omega)).mpr h9) (show ¬ nI 3 ≤ nI f9 from c_255)
          refine lv_iload hx hb dX7_goes_258 (lv_at hl 1 rfl) ?_
          refine lv_aload_n hx hb dX7_goes_260 rfl (lv_at hl 4 rfl) ?_
          refine pm_get (ci := 9) (v := .ref (a 13)) (C := RX7) (T := TX7) (N := 21) hx hb hts hin_X7 hown hw (hk.q (i := 0) (by decide)) (hk.f (i := 0) (by decide)) rfl 16 (by decide) (hts (.fieldLink RX7 46 "BackdaterModel" "value" "[I") (by decide +kernel)) (fun _ h9 => h9) rfl dX7_goes_261 ?_
          refine lv_iconst (v := 3) hx hb dX7_goes_264 (by decide) ?_
          refine lv_iload hx hb dX7_goes_265 (lv_at hl 2 rfl) ?_
          refine lv_imul hx hb dX7_goes_267 ?_
          refine lv_iload hx hb dX7_goes_268 (lv_at hl 0 rfl) ?_
          refine lv_iadd hx hb dX7_goes_270 ?_
          refine pm_iald (n := 1095) (r := R) hx hb hw (hk.q (i := 13) (by decide)) (hk.f (i := 13) (by decide)) (j := (3 * n + f9)) (by rw [ix3 n f9]; exact nI_clamp (by omega)) (by rw [ix3 n f9]; exact vp_in_nI (by omega) (by decide)) dX7_goes_271 ?_
          refine lv_aload_n hx hb dX7_goes_272 rfl (lv_at hl 4 rfl) ?_
          refine lv_iload hx hb dX7_goes_273 (lv_at hl 0 rfl) ?_
          refine lv_iload hx hb dX7_goes_275 (lv_at hl 2 rfl) ?_
          refine pc_i hw (va_runV (As := [.int (nI f9), .int (nI n)]) (rest := [.int (R (3 * n + f9)), .int its]) CF (m_weighs l g L _ a (gK k R CC T S) hk p0 t0 n0 ⟨⟨hp0, ht0, hn0⟩, hpl, htl, hnl⟩ (nI f9) (nI n) _) (cwV 2 hts gX7_goes_X7_weighs rfl rfl rfl (by decide +kernel) ⟨Nat.le_of_ble_eq_true rfl, Nat.le_of_ble_eq_true rfl⟩) (pm_preV hw hs (pm_recv hw (hk.q (i := 0) (by decide)) (hk.f (i := 0) (by decide)) rfl)) rfl rfl hl.1 rfl (lv_room (Nat.le_of_ble_eq_true rfl)) dX7_goes_277 ⟨Nat.le_of_ble_eq_true rfl, Nat.le_of_ble_eq_true rfl⟩) (fun r L1 f1 H locs hp hw => ?_)
          obtain ⟨hE_277, hu⟩ := hp
          obtain rfl : _ = L1 := (congrArg Prod.fst hu).symm
          obtain rfl : _ = f1 := (congrArg Prod.snd hu).symm
          rw [bst_gK] at hE_277
          have hE_277 : r = wgM k t0 (nI f9) (nI n) := hE_277
          generalize r = r_277 at hE_277 ⊢
          refine lv_imul hx hb dX7_goes_280 ?_
          refine lv_iadd hx hb dX7_goes_281 ?_
          refine lv_istore (lv' := [(5, .int (its + ((R (3 * n + f9)) * r_277))), (6, .int (nI f9)), (4, .int (nI n)), (3, .int on), (0, .ref (a 0)), (1, .int (nI i)), (2, .int kn)]) hx hb dX7_goes_282 hl (by decide) rfl (fun ls hl => ?_)
          refine lv_iinc (v := (nI (f9 + 1))) (lv' := [(6, .int (nI (f9 + 1))), (5, .int (its + ((R (3 * n + f9)) * r_277))), (4, .int (nI n)), (3, .int on), (0, .ref (a 0)), (1, .int (nI i)), (2, .int kn)]) hx hb dX7_goes_284 hl (k := 1) rfl (nI_1 f9) (by decide) rfl (fun ls hl => ?_)
          refine lv_goto (tgt := 252) hx hb dX7_goes_287 (by decide) ?_
          exact ih_252 (f9 + 1, (its + ((R (3 * n + f9)) * r_277))) _ _ _ (by dsimp only; omega) ⟨_, ⟨by omega, by rw [itM, hits, hE_277, hR3 f9 (by omega)]⟩, hk, hw, lv_sub hl [0, 1, 2, 3, 4, 5, 6] rfl⟩
      · have hqc : q < n0 := by rw [hn0, nI_leI (by omega) (by omega)] at c_79; omega
        refine lv_aload_n hx hb dX7_goes_82 rfl (lv_at hl 3 rfl) ?_
        refine pm_get (ci := 9) (v := .ref (a 6)) (C := RX7) (T := TX7) (N := 21) hx hb hts hin_X7 hown hw (hk.q (i := 0) (by decide)) (hk.f (i := 0) (by decide)) rfl 9 (by decide) (hts (.fieldLink RX7 25 "BackdaterModel" "of" "[I") (by decide +kernel)) (fun _ h9 => h9) rfl dX7_goes_83 ?_
        refine lv_iload hx hb dX7_goes_86 (lv_at hl 0 rfl) ?_
        refine pm_iald (n := 60) (r := (k 6)) hx hb hw (hk.q (i := 6) (by decide)) (hk.f (i := 6) (by decide)) (j := q) (nI_clamp (by omega)) (vp_in_nI (by omega) (by decide)) dX7_goes_88 ?_
        refine lv_iload_n hx hb dX7_goes_89 rfl (lv_at hl 4 rfl) ?_
        refine lv_icmp_ne (tgt := 227) hx hb dX7_goes_90 (by decide) (fun c_90 => ?_) (fun c_90 => ?_)
        · have hno : ¬ hitM k i kn n q := fun h9 => c_90 h9.1
          refine lv_iinc (v := (nI (q + 1))) (lv' := [(5, .int (nI (q + 1))), (4, .int (nI n)), (3, .int on), (0, .ref (a 0)), (1, .int (nI i)), (2, .int kn)]) hx hb dX7_goes_227 hl (k := 0) rfl (nI_1 q) (by decide) rfl (fun ls hl => ?_)
          refine lv_goto (tgt := 73) hx hb dX7_goes_230 (by decide) ?_
          exact ih_73 (q + 1, R, on) _ _ _ (by dsimp only; omega) ⟨_, ⟨by omega, hR, by rw [dayM, if_neg hno]; exact hR3, by rw [dayM, if_neg hno]; exact hon3⟩, hk, hw, lv_sub hl [0, 1, 2, 3, 4, 5] rfl⟩
        · have h90 : k 6 q = nI i := c_90
          refine lv_aload_n hx hb dX7_goes_93 rfl (lv_at hl 3 rfl) ?_
          refine pm_get (ci := 9) (v := .ref (a 9)) (C := RX7) (T := TX7) (N := 21) hx hb hts hin_X7 hown hw (hk.q (i := 0) (by decide)) (hk.f (i := 0) (by decide)) rfl 12 (by decide) (hts (.fieldLink RX7 34 "BackdaterModel" "from" "[I") (by decide +kernel)) (fun _ h9 => h9) rfl dX7_goes_94 ?_
          refine lv_iload hx hb dX7_goes_97 (lv_at hl 0 rfl) ?_
          refine pm_iald (n := 60) (r := (k 9)) hx hb hw (hk.q (i := 9) (by decide)) (hk.f (i := 9) (by decide)) (j := q) (nI_clamp (by omega)) (vp_in_nI (by omega) (by decide)) dX7_goes_99 ?_
          refine lv_iload hx hb dX7_goes_100 (lv_at hl 1 rfl) ?_
          refine lv_icmp_ne (tgt := 227) hx hb dX7_goes_102 (by decide) (fun c_102 => ?_) (fun c_102 => ?_)
          · have hno : ¬ hitM k i kn n q := fun h9 => c_102 h9.2.1
            refine lv_iinc (v := (nI (q + 1))) (lv' := [(5, .int (nI (q + 1))), (4, .int (nI n)), (3, .int on), (0, .ref (a 0)), (1, .int (nI i)), (2, .int kn)]) hx hb dX7_goes_227 hl (k := 0) rfl (nI_1 q) (by decide) rfl (fun ls hl => ?_)
            refine lv_goto (tgt := 73) hx hb dX7_goes_230 (by decide) ?_
            exact ih_73 (q + 1, R, on) _ _ _ (by dsimp only; omega) ⟨_, ⟨by omega, hR, by rw [dayM, if_neg hno]; exact hR3, by rw [dayM, if_neg hno]; exact hon3⟩, hk, hw, lv_sub hl [0, 1, 2, 3, 4, 5] rfl⟩
          · have h102 : k 9 q = nI n := c_102
            refine lv_aload_n hx hb dX7_goes_105 rfl (lv_at hl 3 rfl) ?_
            refine lv_iload hx hb dX7_goes_106 (lv_at hl 0 rfl) ?_
            refine lv_iload_n hx hb dX7_goes_108 rfl (lv_at hl 5 rfl) ?_
            refine pc_i hw (va_runV (As := [.int (nI q), .int kn]) (rest := []) CF (m_isKnown l g L _ a (gK k R C T S) hk q (by omega) kn _) (cwV 2 hts gX7_goes_X7_isKnown rfl rfl rfl (by decide +kernel) ⟨Nat.le_of_ble_eq_true rfl, Nat.le_of_ble_eq_true rfl⟩) (pm_preV hw hs (pm_recv hw (hk.q (i := 0) (by decide)) (hk.f (i := 0) (by decide)) rfl)) rfl rfl hl.1 rfl (lv_room (Nat.le_of_ble_eq_true rfl)) dX7_goes_109 ⟨Nat.le_of_ble_eq_true rfl, Nat.le_of_ble_eq_true rfl⟩) (fun r L1 f1 H locs hp hw => ?_)
            obtain ⟨hE_109, hu⟩ := hp
            obtain rfl : _ = L1 := (congrArg Prod.fst hu).symm
            obtain rfl : _ = f1 := (congrArg Prod.snd hu).symm
            have hE_109 : r = b2i (knM k q kn) := hE_109
            generalize r = r_109 at hE_109 ⊢
            refine lv_if_eq (tgt := 227) hx hb dX7_goes_112 (by decide) (fun c_112 => ?_) (fun c_112 => ?_)
            · have hno : ¬ hitM k i kn n q := fun h9 => b2i_eq0 (hE_109 ▸ c_112) h9.2.2
              refine lv_iinc (v := (nI (q + 1))) (lv' := [(5, .int (nI (q + 1))), (4, .int (nI n)), (3, .int on), (0, .ref (a 0)), (1, .int (nI i)), (2, .int kn)]) hx hb dX7_goes_227 hl (k := 0) rfl (nI_1 q) (by decide) rfl (fun ls hl => ?_)
              refine lv_goto (tgt := 73) hx hb dX7_goes_230 (by decide) ?_
              exact ih_73 (q + 1, R, on) _ _ _ (by dsimp only; omega) ⟨_, ⟨by omega, hR, by rw [dayM, if_neg hno]; exact hR3, by rw [dayM, if_neg hno]; exact hon3⟩, hk, hw, lv_sub hl [0, 1, 2, 3, 4, 5] rfl⟩
            · have h112 : knM k q kn := b2i_ne0 (hE_109 ▸ c_112)
              obtain ⟨w, hw3, hw8⟩ := hwh q hqc
              refine lv_iconst (v := 3) hx hb dX7_goes_115 (by decide) ?_
              refine lv_iload hx hb dX7_goes_116 (lv_at hl 1 rfl) ?_
              refine lv_imul hx hb dX7_goes_118 ?_
              refine lv_aload_n hx hb dX7_goes_119 rfl (lv_at hl 3 rfl) ?_
              refine pm_get (ci := 9) (v := .ref (a 8)) (C := RX7) (T := TX7) (N := 21) hx hb hts hin_X7 hown hw (hk.q (i := 0) (by decide)) (hk.f (i := 0) (by decide)) rfl 11 (by decide) (hts (.fieldLink RX7 31 "BackdaterModel" "which" "[I") (by decide +kernel)) (fun _ h9 => h9) rfl dX7_goes_120 ?_
              refine lv_iload hx hb dX7_goes_123 (lv_at hl 0 rfl) ?_
              refine pm_iald (n := 60) (r := (k 8)) hx hb hw (hk.q (i := 8) (by decide)) (hk.f (i := 8) (by decide)) (j := q) (nI_clamp (by omega)) (vp_in_nI (by omega) (by decide)) dX7_goes_125 ?_
              refine lv_iadd hx hb dX7_goes_126 ?_
              refine lv_istore (lv' := [(6, .int ((3 * (nI n)) + ((k 8) q))), (5, .int (nI q)), (4, .int (nI n)), (3, .int on), (0, .ref (a 0)), (1, .int (nI i)), (2, .int kn)]) hx hb dX7_goes_127 hl (by decide) rfl (fun ls hl => ?_)
              refine lv_aload_n hx hb dX7_goes_129 rfl (lv_at hl 4 rfl) ?_
              refine pm_get (ci := 9) (v := .ref (a 13)) (C := RX7) (T := TX7) (N := 21) hx hb hts hin_X7 hown hw (hk.q (i := 0) (by decide)) (hk.f (i := 0) (by decide)) rfl 16 (by decide) (hts (.fieldLink RX7 46 "BackdaterModel" "value" "[I") (by decide +kernel)) (fun _ h9 => h9) rfl dX7_goes_130 ?_
              refine lv_iload hx hb dX7_goes_133 (lv_at hl 0 rfl) ?_
              refine lv_aload_n hx hb dX7_goes_135 rfl (lv_at hl 4 rfl) ?_
              refine pm_get (ci := 9) (v := .ref (a 7)) (C := RX7) (T := TX7) (N := 21) hx hb hts hin_X7 hown hw (hk.q (i := 0) (by decide)) (hk.f (i := 0) (by decide)) rfl 10 (by decide) (hts (.fieldLink RX7 28 "BackdaterModel" "kind" "[I") (by decide +kernel)) (fun _ h9 => h9) rfl dX7_goes_136 ?_
              refine lv_iload hx hb dX7_goes_139 (lv_at hl 1 rfl) ?_
              refine pm_iald (n := 60) (r := (k 7)) hx hb hw (hk.q (i := 7) (by decide)) (hk.f (i := 7) (by decide)) (j := q) (nI_clamp (by omega)) (vp_in_nI (by omega) (by decide)) dX7_goes_141 ?_
              refine lv_if_ne (tgt := 155) hx hb dX7_goes_142 (by decide) (fun c_142 => ?_) (fun c_142 => ?_)
              · have k0n : ¬ k 7 q = 0 := c_142
                refine lv_aload_n hx hb dX7_goes_155 rfl (lv_at hl 4 rfl) ?_
                refine pm_get (ci := 9) (v := .ref (a 7)) (C := RX7) (T := TX7) (N := 21) hx hb hts hin_X7 hown hw (hk.q (i := 0) (by decide)) (hk.f (i := 0) (by decide)) rfl 10 (by decide) (hts (.fieldLink RX7 28 "BackdaterModel" "kind" "[I") (by decide +kernel)) (fun _ h9 => h9) rfl dX7_goes_156 ?_
                refine lv_iload hx hb dX7_goes_159 (lv_at hl 1 rfl) ?_
                refine pm_iald (n := 60) (r := (k 7)) hx hb hw (hk.q (i := 7) (by decide)) (hk.f (i := 7) (by decide)) (j := q) (nI_clamp (by omega)) (vp_in_nI (by omega) (by decide)) dX7_goes_161 ?_
                refine lv_iconst (v := 1) hx hb dX7_goes_162 (by decide) ?_
                refine lv_icmp_ne (tgt := 187) hx hb dX7_goes_163 (by decide) (fun c_163 => ?_) (fun c_163 => ?_)
                · have k1n : ¬ k 7 q = 1 := c_163
                  refine lv_aload_n hx hb dX7_goes_187 rfl (lv_at hl 4 rfl) ?_
                  refine pm_get (ci := 9) (v := .ref (a 13)) (C := RX7) (T := TX7) (N := 21) hx hb hts hin_X7 hown hw (hk.q (i := 0) (by decide)) (hk.f (i := 0) (by decide)) rfl 16 (by decide) (hts (.fieldLink RX7 46 "BackdaterModel" "value" "[I") (by decide +kernel)) (fun _ h9 => h9) rfl dX7_goes_188 ?_
                  refine lv_iload hx hb dX7_goes_191 (lv_at hl 0 rfl) ?_
                  refine pm_iald (n := 1095) (r := R) hx hb hw (hk.q (i := 13) (by decide)) (hk.f (i := 13) (by decide)) (j := (3 * n + w)) (by rw [(show 3 * nI n + k 8 q = nI (3 * n + w) by rw [hw8]; exact ix3 n w)]; exact nI_clamp (by omega)) (by rw [(show 3 * nI n + k 8 q = nI (3 * n + w) by rw [hw8]; exact ix3 n w)]; exact vp_in_nI (by omega) (by decide)) dX7_goes_193 ?_
                  refine pm_iast (n := 1095) (r := R) hx hb hw (hk.q (i := 13) (by decide)) (hk.f (i := 13) (by decide)) (j := (3 * n + w)) (by rw [(show 3 * nI n + k 8 q = nI (3 * n + w) by rw [hw8]; exact ix3 n w)]; exact nI_clamp (by omega)) (by rw [(show 3 * nI n + k 8 q = nI (3 * n + w) by rw [hw8]; exact ix3 n w)]; exact vp_in_nI (by omega) (by decide)) dX7_goes_194 (fun H locs hw => ?_)
                  have hk := hk.a13 (upd R (3 * n + w) (R (3 * n + w)))
                  rw [gK_13] at hk
                  refine lv_aload_n hx hb dX7_goes_195 rfl (lv_at hl 4 rfl) ?_
                  refine pm_get (ci := 9) (v := .ref (a 7)) (C := RX7) (T := TX7) (N := 21) hx hb hts hin_X7 hown hw (hk.q (i := 0) (by decide)) (hk.f (i := 0) (by decide)) rfl 10 (by decide) (hts (.fieldLink RX7 28 "BackdaterModel" "kind" "[I") (by decide +kernel)) (fun _ h9 => h9) rfl dX7_goes_196 ?_
                  refine lv_iload hx hb dX7_goes_199 (lv_at hl 1 rfl) ?_
                  refine pm_iald (n := 60) (r := (k 7)) hx hb hw (hk.q (i := 7) (by decide)) (hk.f (i := 7) (by decide)) (j := q) (nI_clamp (by omega)) (vp_in_nI (by omega) (by decide)) dX7_goes_201 ?_
                  refine lv_iconst (v := 3) hx hb dX7_goes_202 (by decide) ?_
                  refine lv_icmp_eq (tgt := 221) hx hb dX7_goes_203 (by decide) (fun c_203 => ?_) (fun c_203 => ?_)
                  · refine lv_iconst (v := 1) hx hb dX7_goes_221 (by decide) ?_
                    refine lv_goto (tgt := 226) hx hb dX7_goes_222 (by decide) ?_
                    refine lv_istore_n (lv' := [(3, .int 1), (6, .int ((3 * (nI n)) + ((k 8) q))), (5, .int (nI q)), (4, .int (nI n)), (0, .ref (a 0)), (1, .int (nI i)), (2, .int kn)]) hx hb dX7_goes_226 rfl hl (by decide) rfl (fun ls hl => ?_)
                    refine lv_iinc (v := (nI (q + 1))) (lv' := [(5, .int (nI (q + 1))), (3, .int 1), (6, .int ((3 * (nI n)) + ((k 8) q))), (4, .int (nI n)), (0, .ref (a 0)), (1, .int (nI i)), (2, .int kn)]) hx hb dX7_goes_227 hl (k := 2) rfl (nI_1 q) (by decide) rfl (fun ls hl => ?_)
                    refine lv_goto (tgt := 73) hx hb dX7_goes_230 (by decide) ?_
                    exact ih_73 (q + 1, (upd R (3 * n + w) (R (3 * n + w))), 1) _ _ _ (by dsimp only; omega) ⟨_, ⟨by omega, hR.up w _, by rw [dayM, if_pos ⟨h90, h102, h112⟩]; exact lay_2 hR3 k0n k1n, by rw [dayM, if_pos ⟨h90, h102, h112⟩]; exact (if_pos c_203).symm⟩, hk, hw, lv_sub hl [0, 3, 1, 4, 5, 6] rfl⟩
                  · refine lv_aload_n hx hb dX7_goes_206 rfl (lv_at hl 4 rfl) ?_
                    refine pm_get (ci := 9) (v := .ref (a 7)) (C := RX7) (T := TX7) (N := 21) hx hb hts hin_X7 hown hw (hk.q (i := 0) (by decide)) (hk.f (i := 0) (by decide)) rfl 10 (by decide) (hts (.fieldLink RX7 28 "BackdaterModel" "kind" "[I") (by decide +kernel)) (fun _ h9 => h9) rfl dX7_goes_207 ?_
                    refine lv_iload hx hb dX7_goes_210 (lv_at hl 1 rfl) ?_
                    refine pm_iald (n := 60) (r := (k 7)) hx hb hw (hk.q (i := 7) (by decide)) (hk.f (i := 7) (by decide)) (j := q) (nI_clamp (by omega)) (vp_in_nI (by omega) (by decide)) dX7_goes_212 ?_
                    refine lv_iconst (v := 2) hx hb dX7_goes_213 (by decide) ?_
                    refine lv_icmp_eq (tgt := 225) hx hb dX7_goes_214 (by decide) (fun c_214 => ?_) (fun c_214 => ?_)
                    · refine lv_iconst (v := 0) hx hb dX7_goes_225 (by decide) ?_
                      refine lv_istore_n (lv' := [(3, .int 0), (6, .int ((3 * (nI n)) + ((k 8) q))), (5, .int (nI q)), (4, .int (nI n)), (0, .ref (a 0)), (1, .int (nI i)), (2, .int kn)]) hx hb dX7_goes_226 rfl hl (by decide) rfl (fun ls hl => ?_)
                      refine lv_iinc (v := (nI (q + 1))) (lv' := [(5, .int (nI (q + 1))), (3, .int 0), (6, .int ((3 * (nI n)) + ((k 8) q))), (4, .int (nI n)), (0, .ref (a 0)), (1, .int (nI i)), (2, .int kn)]) hx hb dX7_goes_227 hl (k := 2) rfl (nI_1 q) (by decide) rfl (fun ls hl => ?_)
                      refine lv_goto (tgt := 73) hx hb dX7_goes_230 (by decide) ?_
                      exact ih_73 (q + 1, (upd R (3 * n + w) (R (3 * n + w))), 0) _ _ _ (by dsimp only; omega) ⟨_, ⟨by omega, hR.up w _, by rw [dayM, if_pos ⟨h90, h102, h112⟩]; exact lay_2 hR3 k0n k1n, by rw [dayM, if_pos ⟨h90, h102, h112⟩]; exact ((if_neg c_203).trans (if_pos c_214)).symm⟩, hk, hw, lv_sub hl [0, 3, 1, 4, 5, 6] rfl⟩
                    · refine lv_iload_n hx hb dX7_goes_217 rfl (lv_at hl 3 rfl) ?_
                      refine lv_if_eq (tgt := 225) hx hb dX7_goes_218 (by decide) (fun c_218 => ?_) (fun c_218 => ?_)
                      · refine lv_iconst (v := 0) hx hb dX7_goes_225 (by decide) ?_
                        refine lv_istore_n (lv' := [(3, .int 0), (6, .int ((3 * (nI n)) + ((k 8) q))), (5, .int (nI q)), (4, .int (nI n)), (0, .ref (a 0)), (1, .int (nI i)), (2, .int kn)]) hx hb dX7_goes_226 rfl hl (by decide) rfl (fun ls hl => ?_)
                        refine lv_iinc (v := (nI (q + 1))) (lv' := [(5, .int (nI (q + 1))), (3, .int 0), (6, .int ((3 * (nI n)) + ((k 8) q))), (4, .int (nI n)), (0, .ref (a 0)), (1, .int (nI i)), (2, .int kn)]) hx hb dX7_goes_227 hl (k := 2) rfl (nI_1 q) (by decide) rfl (fun ls hl => ?_)
                        refine lv_goto (tgt := 73) hx hb dX7_goes_230 (by decide) ?_
                        exact ih_73 (q + 1, (upd R (3 * n + w) (R (3 * n + w))), 0) _ _ _ (by dsimp only; omega) ⟨_, ⟨by omega, hR.up w _, by rw [dayM, if_pos ⟨h90, h102, h112⟩]; exact lay_2 hR3 k0n k1n, by rw [dayM, if_pos ⟨h90, h102, h112⟩]; exact ((if_neg c_203).trans ((if_neg c_214).trans (hon3.symm.trans c_218))).symm⟩, hk, hw, lv_sub hl [0, 3, 1, 4, 5, 6] rfl⟩
                      · refine lv_iconst (v := 1) hx hb dX7_goes_221 (by decide) ?_
                        refine lv_goto (tgt := 226) hx hb dX7_goes_222 (by decide) ?_
                        refine lv_istore_n (lv' := [(3, .int 1), (6, .int ((3 * (nI n)) + ((k 8) q))), (5, .int (nI q)), (4, .int (nI n)), (0, .ref (a 0)), (1, .int (nI i)), (2, .int kn)]) hx hb dX7_goes_226 rfl hl (by decide) rfl (fun ls hl => ?_)
                        refine lv_iinc (v := (nI (q + 1))) (lv' := [(5, .int (nI (q + 1))), (3, .int 1), (6, .int ((3 * (nI n)) + ((k 8) q))), (4, .int (nI n)), (0, .ref (a 0)), (1, .int (nI i)), (2, .int kn)]) hx hb dX7_goes_227 hl (k := 2) rfl (nI_1 q) (by decide) rfl (fun ls hl => ?_)
                        refine lv_goto (tgt := 73) hx hb dX7_goes_230 (by decide) ?_
                        exact ih_73 (q + 1, (upd R (3 * n + w) (R (3 * n + w))), 1) _ _ _ (by dsimp only; omega) ⟨_, ⟨by omega, hR.up w _, by rw [dayM, if_pos ⟨h90, h102, h112⟩]; exact lay_2 hR3 k0n k1n, by rw [dayM, if_pos ⟨h90, h102, h112⟩]; exact ((if_neg c_203).trans ((if_neg c_214).trans ((day01 (goM01 k i kn n0 n) q).resolve_left (fun h9 => c_218 (hon3.trans h9))))).symm⟩, hk, hw, lv_sub hl [0, 3, 1, 4, 5, 6] rfl⟩
                · have k1 : k 7 q = 1 := c_163
                  refine lv_aload_n hx hb dX7_goes_166 rfl (lv_at hl 4 rfl) ?_
                  refine pm_get (ci := 9) (v := .ref (a 13)) (C := RX7) (T := TX7) (N := 21) hx hb hts hin_X7 hown hw (hk.q (i := 0) (by decide)) (hk.f (i := 0) (by decide)) rfl 16 (by decide) (hts (.fieldLink RX7 46 "BackdaterModel" "value" "[I") (by decide +kernel)) (fun _ h9 => h9) rfl dX7_goes_167 ?_
                  refine lv_iload hx hb dX7_goes_170 (lv_at hl 0 rfl) ?_
                  refine pm_iald (n := 1095) (r := R) hx hb hw (hk.q (i := 13) (by decide)) (hk.f (i := 13) (by decide)) (j := (3 * n + w)) (by rw [(show 3 * nI n + k 8 q = nI (3 * n + w) by rw [hw8]; exact ix3 n w)]; exact nI_clamp (by omega)) (by rw [(show 3 * nI n + k 8 q = nI (3 * n + w) by rw [hw8]; exact ix3 n w)]; exact vp_in_nI (by omega) (by decide)) dX7_goes_172 ?_
                  refine lv_aload_n hx hb dX7_goes_173 rfl (lv_at hl 4 rfl) ?_
                  refine pm_get (ci := 9) (v := .ref (a 10)) (C := RX7) (T := TX7) (N := 21) hx hb hts hin_X7 hown hw (hk.q (i := 0) (by decide)) (hk.f (i := 0) (by decide)) rfl 13 (by decide) (hts (.fieldLink RX7 37 "BackdaterModel" "number" "[I") (by decide +kernel)) (fun _ h9 => h9) rfl dX7_goes_174 ?_
                  refine lv_iload hx hb dX7_goes_177 (lv_at hl 1 rfl) ?_
                  refine pm_iald (n := 60) (r := (k 10)) hx hb hw (hk.q (i := 10) (by decide)) (hk.f (i := 10) (by decide)) (j := q) (nI_clamp (by omega)) (vp_in_nI (by omega) (by decide)) dX7_goes_179 ?_
                  refine lv_iadd hx hb dX7_goes_180 ?_
                  refine pc_i hw (va_runS (As := [.int ((R (3 * n + w)) + ((k 10) q))]) (rest := [.int ((3 * (nI n)) + ((k 8) q)), .ref (a 13)]) CF (m_bounded l g L _ ((R (3 * n + w)) + ((k 10) q)) _) (va_cwS 1 hts gX7_goes_X7_bounded rfl rfl rfl (by decide +kernel) ⟨Nat.le_of_ble_eq_true rfl, Nat.le_of_ble_eq_true rfl⟩) (pm_preS hw hs) rfl rfl hl.1 rfl (lv_room (Nat.le_of_ble_eq_true rfl)) dX7_goes_181 ⟨Nat.le_of_ble_eq_true rfl, Nat.le_of_ble_eq_true rfl⟩) (fun r L1 f1 H locs hp hw => ?_)
                  obtain ⟨hE_181, hu⟩ := hp
                  obtain rfl : _ = L1 := (congrArg Prod.fst hu).symm
                  obtain rfl : _ = f1 := (congrArg Prod.snd hu).symm
                  have hE_181 : r = bndM ((R (3 * n + w)) + ((k 10) q)) := hE_181
                  subst hE_181
                  refine lv_goto (tgt := 194) hx hb dX7_goes_184 (by decide) ?_
                  refine pm_iast (n := 1095) (r := R) hx hb hw (hk.q (i := 13) (by decide)) (hk.f (i := 13) (by decide)) (j := (3 * n + w)) (by rw [(show 3 * nI n + k 8 q = nI (3 * n + w) by rw [hw8]; exact ix3 n w)]; exact nI_clamp (by omega)) (by rw [(show 3 * nI n + k 8 q = nI (3 * n + w) by rw [hw8]; exact ix3 n w)]; exact vp_in_nI (by omega) (by decide)) dX7_goes_194 (fun H locs hw => ?_)
                  have hk := hk.a13 (upd R (3 * n + w) (bndM ((R (3 * n + w)) + ((k 10) q))))
                  rw [gK_13] at hk
                  refine lv_aload_n hx hb dX7_goes_195 rfl (lv_at hl 4 rfl) ?_
                  refine pm_get (ci := 9) (v := .ref (a 7)) (C := RX7) (T := TX7) (N := 21) hx hb hts hin_X7 hown hw (hk.q (i := 0) (by decide)) (hk.f (i := 0) (by decide)) rfl 10 (by decide) (hts (.fieldLink RX7 28 "BackdaterModel" "kind" "[I") (by decide +kernel)) (fun _ h9 => h9) rfl dX7_goes_196 ?_
                  refine lv_iload hx hb dX7_goes_199 (lv_at hl 1 rfl) ?_
                  refine pm_iald (n := 60) (r := (k 7)) hx hb hw (hk.q (i := 7) (by decide)) (hk.f (i := 7) (by decide)) (j := q) (nI_clamp (by omega)) (vp_in_nI (by omega) (by decide)) dX7_goes_201 ?_
                  refine lv_iconst (v := 3) hx hb dX7_goes_202 (by decide) ?_
                  refine lv_icmp_eq (tgt := 221) hx hb dX7_goes_203 (by decide) (fun c_203 => ?_) (fun c_203 => ?_)
                  · refine lv_iconst (v := 1) hx hb dX7_goes_221 (by decide) ?_
                    refine lv_goto (tgt := 226) hx hb dX7_goes_222 (by decide) ?_
                    refine lv_istore_n (lv' := [(3, .int 1), (6, .int ((3 * (nI n)) + ((k 8) q))), (5, .int (nI q)), (4, .int (nI n)), (0, .ref (a 0)), (1, .int (nI i)), (2, .int kn)]) hx hb dX7_goes_226 rfl hl (by decide) rfl (fun ls hl => ?_)
                    refine lv_iinc (v := (nI (q + 1))) (lv' := [(5, .int (nI (q + 1))), (3, .int 1), (6, .int ((3 * (nI n)) + ((k 8) q))), (4, .int (nI n)), (0, .ref (a 0)), (1, .int (nI i)), (2, .int kn)]) hx hb dX7_goes_227 hl (k := 2) rfl (nI_1 q) (by decide) rfl (fun ls hl => ?_)
                    refine lv_goto (tgt := 73) hx hb dX7_goes_230 (by decide) ?_
                    exact ih_73 (q + 1, (upd R (3 * n + w) (bndM ((R (3 * n + w)) + ((k 10) q)))), 1) _ _ _ (by dsimp only; omega) ⟨_, ⟨by omega, hR.up w _, by rw [dayM, if_pos ⟨h90, h102, h112⟩]; exact lay_1 hw8 hw3 hR3 k0n k1, by rw [dayM, if_pos ⟨h90, h102, h112⟩]; exact (if_pos c_203).symm⟩, hk, hw, lv_sub hl [0, 3, 1, 4, 5, 6] rfl⟩
                  · refine lv_aload_n hx hb dX7_goes_206 rfl (lv_at hl 4 rfl) ?_
                    refine pm_get (ci := 9) (v := .ref (a 7)) (C := RX7) (T := TX7) (N := 21) hx hb hts hin_X7 hown hw (hk.q (i := 0) (by decide)) (hk.f (i := 0) (by decide)) rfl 10 (by decide) (hts (.fieldLink RX7 28 "BackdaterModel" "kind" "[I") (by decide +kernel)) (fun _ h9 => h9) rfl dX7_goes_207 ?_
                    refine lv_iload hx hb dX7_goes_210 (lv_at hl 1 rfl) ?_
                    refine pm_iald (n := 60) (r := (k 7)) hx hb hw (hk.q (i := 7) (by decide)) (hk.f (i := 7) (by decide)) (j := q) (nI_clamp (by omega)) (vp_in_nI (by omega) (by decide)) dX7_goes_212 ?_
                    refine lv_iconst (v := 2) hx hb dX7_goes_213 (by decide) ?_
                    refine lv_icmp_eq (tgt := 225) hx hb dX7_goes_214 (by decide) (fun c_214 => ?_) (fun c_214 => ?_)
                    · refine lv_iconst (v := 0) hx hb dX7_goes_225 (by decide) ?_
                      refine lv_istore_n (lv' := [(3, .int 0), (6, .int ((3 * (nI n)) + ((k 8) q))), (5, .int (nI q)), (4, .int (nI n)), (0, .ref (a 0)), (1, .int (nI i)), (2, .int kn)]) hx hb dX7_goes_226 rfl hl (by decide) rfl (fun ls hl => ?_)
                      refine lv_iinc (v := (nI (q + 1))) (lv' := [(5, .int (nI (q + 1))), (3, .int 0), (6, .int ((3 * (nI n)) + ((k 8) q))), (4, .int (nI n)), (0, .ref (a 0)), (1, .int (nI i)), (2, .int kn)]) hx hb dX7_goes_227 hl (k := 2) rfl (nI_1 q) (by decide) rfl (fun ls hl => ?_)
                      refine lv_goto (tgt := 73) hx hb dX7_goes_230 (by decide) ?_
                      exact ih_73 (q + 1, (upd R (3 * n + w) (bndM ((R (3 * n + w)) + ((k 10) q)))), 0) _ _ _ (by dsimp only; omega) ⟨_, ⟨by omega, hR.up w _, by rw [dayM, if_pos ⟨h90, h102, h112⟩]; exact lay_1 hw8 hw3 hR3 k0n k1, by rw [dayM, if_pos ⟨h90, h102, h112⟩]; exact ((if_neg c_203).trans (if_pos c_214)).symm⟩, hk, hw, lv_sub hl [0, 3, 1, 4, 5, 6] rfl⟩
                    · refine lv_iload_n hx hb dX7_goes_217 rfl (lv_at hl 3 rfl) ?_
                      refine lv_if_eq (tgt := 225) hx hb dX7_goes_218 (by decide) (fun c_218 => ?_) (fun c_218 => ?_)
                      · refine lv_iconst (v := 0) hx hb dX7_goes_225 (by decide) ?_
                        refine lv_istore_n (lv' := [(3, .int 0), (6, .int ((3 * (nI n)) + ((k 8) q))), (5, .int (nI q)), (4, .int (nI n)), (0, .ref (a 0)), (1, .int (nI i)), (2, .int kn)]) hx hb dX7_goes_226 rfl hl (by decide) rfl (fun ls hl => ?_)
                        refine lv_iinc (v := (nI (q + 1))) (lv' := [(5, .int (nI (q + 1))), (3, .int 0), (6, .int ((3 * (nI n)) + ((k 8) q))), (4, .int (nI n)), (0, .ref (a 0)), (1, .int (nI i)), (2, .int kn)]) hx hb dX7_goes_227 hl (k := 2) rfl (nI_1 q) (by decide) rfl (fun ls hl => ?_)
                        refine lv_goto (tgt := 73) hx hb dX7_goes_230 (by decide) ?_
                        exact ih_73 (q + 1, (upd R (3 * n + w) (bndM ((R (3 * n + w)) + ((k 10) q)))), 0) _ _ _ (by dsimp only; omega) ⟨_, ⟨by omega, hR.up w _, by rw [dayM, if_pos ⟨h90, h102, h112⟩]; exact lay_1 hw8 hw3 hR3 k0n k1, by rw [dayM, if_pos ⟨h90, h102, h112⟩]; exact ((if_neg c_203).trans ((if_neg c_214).trans (hon3.symm.trans c_218))).symm⟩, hk, hw, lv_sub hl [0, 3, 1, 4, 5, 6] rfl⟩
                      · refine lv_iconst (v := 1) hx hb dX7_goes_221 (by decide) ?_
                        refine lv_goto (tgt := 226) hx hb dX7_goes_222 (by decide) ?_
                        refine lv_istore_n (lv' := [(3, .int 1), (6, .int ((3 * (nI n)) + ((k 8) q))), (5, .int (nI q)), (4, .int (nI n)), (0, .ref (a 0)), (1, .int (nI i)), (2, .int kn)]) hx hb dX7_goes_226 rfl hl (by decide) rfl (fun ls hl => ?_)
                        refine lv_iinc (v := (nI (q + 1))) (lv' := [(5, .int (nI (q + 1))), (3, .int 1), (6, .int ((3 * (nI n)) + ((k 8) q))), (4, .int (nI n)), (0, .ref (a 0)), (1, .int (nI i)), (2, .int kn)]) hx hb dX7_goes_227 hl (k := 2) rfl (nI_1 q) (by decide) rfl (fun ls hl => ?_)
                        refine lv_goto (tgt := 73) hx hb dX7_goes_230 (by decide) ?_
                        exact ih_73 (q + 1, (upd R (3 * n + w) (bndM ((R (3 * n + w)) + ((k 10) q)))), 1) _ _ _ (by dsimp only; omega) ⟨_, ⟨by omega, hR.up w _, by rw [dayM, if_pos ⟨h90, h102, h112⟩]; exact lay_1 hw8 hw3 hR3 k0n k1, by rw [dayM, if_pos ⟨h90, h102, h112⟩]; exact ((if_neg c_203).trans ((if_neg c_214).trans ((day01 (goM01 k i kn n0 n) q).resolve_left (fun h9 => c_218 (hon3.trans h9))))).symm⟩, hk, hw, lv_sub hl [0, 3, 1, 4, 5, 6] rfl⟩
              · have k0 : k 7 q = 0 := c_142
                refine lv_aload_n hx hb dX7_goes_145 rfl (lv_at hl 4 rfl) ?_
                refine pm_get (ci := 9) (v := .ref (a 10)) (C := RX7) (T := TX7) (N := 21) hx hb hts hin_X7 hown hw (hk.q (i := 0) (by decide)) (hk.f (i := 0) (by decide)) rfl 13 (by decide) (hts (.fieldLink RX7 37 "BackdaterModel" "number" "[I") (by decide +kernel)) (fun _ h9 => h9) rfl dX7_goes_146 ?_
                refine lv_iload hx hb dX7_goes_149 (lv_at hl 1 rfl) ?_
                refine pm_iald (n := 60) (r := (k 10)) hx hb hw (hk.q (i := 10) (by decide)) (hk.f (i := 10) (by decide)) (j := q) (nI_clamp (by omega)) (vp_in_nI (by omega) (by decide)) dX7_goes_151 ?_
                refine lv_goto (tgt := 194) hx hb dX7_goes_152 (by decide) ?_
                refine pm_iast (n := 1095) (r := R) hx hb hw (hk.q (i := 13) (by decide)) (hk.f (i := 13) (by decide)) (j := (3 * n + w)) (by rw [(show 3 * nI n + k 8 q = nI (3 * n + w) by rw [hw8]; exact ix3 n w)]; exact nI_clamp (by omega)) (by rw [(show 3 * nI n + k 8 q = nI (3 * n + w) by rw [hw8]; exact ix3 n w)]; exact vp_in_nI (by omega) (by decide)) dX7_goes_194 (fun H locs hw => ?_)
                have hk := hk.a13 (upd R (3 * n + w) ((k 10) q))
                rw [gK_13] at hk
                refine lv_aload_n hx hb dX7_goes_195 rfl (lv_at hl 4 rfl) ?_
                refine pm_get (ci := 9) (v := .ref (a 7)) (C := RX7) (T := TX7) (N := 21) hx hb hts hin_X7 hown hw (hk.q (i := 0) (by decide)) (hk.f (i := 0) (by decide)) rfl 10 (by decide) (hts (.fieldLink RX7 28 "BackdaterModel" "kind" "[I") (by decide +kernel)) (fun _ h9 => h9) rfl dX7_goes_196 ?_
                refine lv_iload hx hb dX7_goes_199 (lv_at hl 1 rfl) ?_
                refine pm_iald (n := 60) (r := (k 7)) hx hb hw (hk.q (i := 7) (by decide)) (hk.f (i := 7) (by decide)) (j := q) (nI_clamp (by omega)) (vp_in_nI (by omega) (by decide)) dX7_goes_201 ?_
                refine lv_iconst (v := 3) hx hb dX7_goes_202 (by decide) ?_
                refine lv_icmp_eq (tgt := 221) hx hb dX7_goes_203 (by decide) (fun c_203 => ?_) (fun c_203 => ?_)
                · refine lv_iconst (v := 1) hx hb dX7_goes_221 (by decide) ?_
                  refine lv_goto (tgt := 226) hx hb dX7_goes_222 (by decide) ?_
                  refine lv_istore_n (lv' := [(3, .int 1), (6, .int ((3 * (nI n)) + ((k 8) q))), (5, .int (nI q)), (4, .int (nI n)), (0, .ref (a 0)), (1, .int (nI i)), (2, .int kn)]) hx hb dX7_goes_226 rfl hl (by decide) rfl (fun ls hl => ?_)
                  refine lv_iinc (v := (nI (q + 1))) (lv' := [(5, .int (nI (q + 1))), (3, .int 1), (6, .int ((3 * (nI n)) + ((k 8) q))), (4, .int (nI n)), (0, .ref (a 0)), (1, .int (nI i)), (2, .int kn)]) hx hb dX7_goes_227 hl (k := 2) rfl (nI_1 q) (by decide) rfl (fun ls hl => ?_)
                  refine lv_goto (tgt := 73) hx hb dX7_goes_230 (by decide) ?_
                  exact ih_73 (q + 1, (upd R (3 * n + w) ((k 10) q)), 1) _ _ _ (by dsimp only; omega) ⟨_, ⟨by omega, hR.up w _, by rw [dayM, if_pos ⟨h90, h102, h112⟩]; exact lay_0 hw8 hw3 hR3 k0, by rw [dayM, if_pos ⟨h90, h102, h112⟩]; exact (if_pos c_203).symm⟩, hk, hw, lv_sub hl [0, 3, 1, 4, 5, 6] rfl⟩
                · refine lv_aload_n hx hb dX7_goes_206 rfl (lv_at hl 4 rfl) ?_
                  refine pm_get (ci := 9) (v := .ref (a 7)) (C := RX7) (T := TX7) (N := 21) hx hb hts hin_X7 hown hw (hk.q (i := 0) (by decide)) (hk.f (i := 0) (by decide)) rfl 10 (by decide) (hts (.fieldLink RX7 28 "BackdaterModel" "kind" "[I") (by decide +kernel)) (fun _ h9 => h9) rfl dX7_goes_207 ?_
                  refine lv_iload hx hb dX7_goes_210 (lv_at hl 1 rfl) ?_
                  refine pm_iald (n := 60) (r := (k 7)) hx hb hw (hk.q (i := 7) (by decide)) (hk.f (i := 7) (by decide)) (j := q) (nI_clamp (by omega)) (vp_in_nI (by omega) (by decide)) dX7_goes_212 ?_
                  refine lv_iconst (v := 2) hx hb dX7_goes_213 (by decide) ?_
                  refine lv_icmp_eq (tgt := 225) hx hb dX7_goes_214 (by decide) (fun c_214 => ?_) (fun c_214 => ?_)
                  · refine lv_iconst (v := 0) hx hb dX7_goes_225 (by decide) ?_
                    refine lv_istore_n (lv' := [(3, .int 0), (6, .int ((3 * (nI n)) + ((k 8) q))), (5, .int (nI q)), (4, .int (nI n)), (0, .ref (a 0)), (1, .int (nI i)), (2, .int kn)]) hx hb dX7_goes_226 rfl hl (by decide) rfl (fun ls hl => ?_)
                    refine lv_iinc (v := (nI (q + 1))) (lv' := [(5, .int (nI (q + 1))), (3, .int 0), (6, .int ((3 * (nI n)) + ((k 8) q))), (4, .int (nI n)), (0, .ref (a 0)), (1, .int (nI i)), (2, .int kn)]) hx hb dX7_goes_227 hl (k := 2) rfl (nI_1 q) (by decide) rfl (fun ls hl => ?_)
                    refine lv_goto (tgt := 73) hx hb dX7_goes_230 (by decide) ?_
                    exact ih_73 (q + 1, (upd R (3 * n + w) ((k 10) q)), 0) _ _ _ (by dsimp only; omega) ⟨_, ⟨by omega, hR.up w _, by rw [dayM, if_pos ⟨h90, h102, h112⟩]; exact lay_0 hw8 hw3 hR3 k0, by rw [dayM, if_pos ⟨h90, h102, h112⟩]; exact ((if_neg c_203).trans (if_pos c_214)).symm⟩, hk, hw, lv_sub hl [0, 3, 1, 4, 5, 6] rfl⟩
                  · refine lv_iload_n hx hb dX7_goes_217 rfl (lv_at hl 3 rfl) ?_
                    refine lv_if_eq (tgt := 225) hx hb dX7_goes_218 (by decide) (fun c_218 => ?_) (fun c_218 => ?_)
                    · refine lv_iconst (v := 0) hx hb dX7_goes_225 (by decide) ?_
                      refine lv_istore_n (lv' := [(3, .int 0), (6, .int ((3 * (nI n)) + ((k 8) q))), (5, .int (nI q)), (4, .int (nI n)), (0, .ref (a 0)), (1, .int (nI i)), (2, .int kn)]) hx hb dX7_goes_226 rfl hl (by decide) rfl (fun ls hl => ?_)
                      refine lv_iinc (v := (nI (q + 1))) (lv' := [(5, .int (nI (q + 1))), (3, .int 0), (6, .int ((3 * (nI n)) + ((k 8) q))), (4, .int (nI n)), (0, .ref (a 0)), (1, .int (nI i)), (2, .int kn)]) hx hb dX7_goes_227 hl (k := 2) rfl (nI_1 q) (by decide) rfl (fun ls hl => ?_)
                      refine lv_goto (tgt := 73) hx hb dX7_goes_230 (by decide) ?_
                      exact ih_73 (q + 1, (upd R (3 * n + w) ((k 10) q)), 0) _ _ _ (by dsimp only; omega) ⟨_, ⟨by omega, hR.up w _, by rw [dayM, if_pos ⟨h90, h102, h112⟩]; exact lay_0 hw8 hw3 hR3 k0, by rw [dayM, if_pos ⟨h90, h102, h112⟩]; exact ((if_neg c_203).trans ((if_neg c_214).trans (hon3.symm.trans c_218))).symm⟩, hk, hw, lv_sub hl [0, 3, 1, 4, 5, 6] rfl⟩
                    · refine lv_iconst (v := 1) hx hb dX7_goes_221 (by decide) ?_
                      refine lv_goto (tgt := 226) hx hb dX7_goes_222 (by decide) ?_
                      refine lv_istore_n (lv' := [(3, .int 1), (6, .int ((3 * (nI n)) + ((k 8) q))), (5, .int (nI q)), (4, .int (nI n)), (0, .ref (a 0)), (1, .int (nI i)), (2, .int kn)]) hx hb dX7_goes_226 rfl hl (by decide) rfl (fun ls hl => ?_)
                      refine lv_iinc (v := (nI (q + 1))) (lv' := [(5, .int (nI (q + 1))), (3, .int 1), (6, .int ((3 * (nI n)) + ((k 8) q))), (4, .int (nI n)), (0, .ref (a 0)), (1, .int (nI i)), (2, .int kn)]) hx hb dX7_goes_227 hl (k := 2) rfl (nI_1 q) (by decide) rfl (fun ls hl => ?_)
                      refine lv_goto (tgt := 73) hx hb dX7_goes_230 (by decide) ?_
                      exact ih_73 (q + 1, (upd R (3 * n + w) ((k 10) q)), 1) _ _ _ (by dsimp only; omega) ⟨_, ⟨by omega, hR.up w _, by rw [dayM, if_pos ⟨h90, h102, h112⟩]; exact lay_0 hw8 hw3 hR3 k0, by rw [dayM, if_pos ⟨h90, h102, h112⟩]; exact ((if_neg c_203).trans ((if_neg c_214).trans ((day01 (goM01 k i kn n0 n) q).resolve_left (fun h9 => c_218 (hon3.trans h9))))).symm⟩, hk, hw, lv_sub hl [0, 3, 1, 4, 5, 6] rfl⟩
    · have hfl : f9 < 3 := by
        rcases Nat.lt_or_ge f9 3 with h9 | h9
        · exact h9
        · exact absurd ((nI_leI (b := f9) (a := 3) (by omega) (by omega)).mpr h9) (show ¬ nI 3 ≤ nI f9 from c_26)
      refine lv_aload_n hx hb dX7_goes_29 rfl (lv_at hl 3 rfl) ?_
      refine pm_get (ci := 9) (v := .ref (a 13)) (C := RX7) (T := TX7) (N := 21) hx hb hts hin_X7 hown hw (hk.q (i := 0) (by decide)) (hk.f (i := 0) (by decide)) rfl 16 (by decide) (hts (.fieldLink RX7 46 "BackdaterModel" "value" "[I") (by decide +kernel)) (fun _ h9 => h9) rfl dX7_goes_30 ?_
      refine lv_iconst (v := 3) hx hb dX7_goes_33 (by decide) ?_
      refine lv_iload hx hb dX7_goes_34 (lv_at hl 1 rfl) ?_
      refine lv_imul hx hb dX7_goes_36 ?_
      refine lv_iload hx hb dX7_goes_37 (lv_at hl 0 rfl) ?_
      refine lv_iadd hx hb dX7_goes_39 ?_
      refine lv_iload hx hb dX7_goes_40 (lv_at hl 1 rfl) ?_
      refine lv_if_ne (tgt := 49) hx hb dX7_goes_42 (by decide) (fun c_42 => ?_) (fun c_42 => ?_)
      · have hn0p : 0 < n := by
          rcases Nat.eq_zero_or_pos n with h9 | h9
          · exact absurd (by rw [h9]; rfl) c_42
          · exact h9
        have hv9 : R (3 * (n - 1) + f9) = (goM k i kn n0 n).1 f9 := by
          have h9 := hR (n - 1) (by omega) f9 hfl
          rw [show n - 1 + 1 = n by omega] at h9
          exact h9
        refine lv_aload_n hx hb dX7_goes_49 rfl (lv_at hl 3 rfl) ?_
        refine pm_get (ci := 9) (v := .ref (a 13)) (C := RX7) (T := TX7) (N := 21) hx hb hts hin_X7 hown hw (hk.q (i := 0) (by decide)) (hk.f (i := 0) (by decide)) rfl 16 (by decide) (hts (.fieldLink RX7 46 "BackdaterModel" "value" "[I") (by decide +kernel)) (fun _ h9 => h9) rfl dX7_goes_50 ?_
        refine lv_iconst (v := 3) hx hb dX7_goes_53 (by decide) ?_
        refine lv_iload hx hb dX7_goes_54 (lv_at hl 1 rfl) ?_
        refine lv_imul hx hb dX7_goes_56 ?_
        refine lv_iconst (v := 3) hx hb dX7_goes_57 (by decide) ?_
        refine lv_isub hx hb dX7_goes_58 ?_
        refine lv_iload hx hb dX7_goes_59 (lv_at hl 0 rfl) ?_
        refine lv_iadd hx hb dX7_goes_61 ?_
        refine pm_iald (n := 1095) (r := R) hx hb hw (hk.q (i := 13) (by decide)) (hk.f (i := 13) (by decide)) (j := (3 * (n - 1) + f9)) (by rw [ix3m f9 hn0p]; exact nI_clamp (by omega)) (by rw [ix3m f9 hn0p]; exact vp_in_nI (by omega) (by decide)) dX7_goes_62 ?_
        refine pm_iast (n := 1095) (r := R) hx hb hw (hk.q (i := 13) (by decide)) (hk.f (i := 13) (by decide)) (j := (3 * n + f9)) (by rw [ix3 n f9]; exact nI_clamp (by omega)) (by rw [ix3 n f9]; exact vp_in_nI (by omega) (by decide)) dX7_goes_63 (fun H locs hw => ?_)
        have hk := hk.a13 (upd R (3 * n + f9) (R (3 * (n - 1) + f9)))
        rw [gK_13] at hk
        refine lv_iinc (v := (nI (f9 + 1))) (lv' := [(5, .int (nI (f9 + 1))), (4, .int (nI n)), (3, .int on), (0, .ref (a 0)), (1, .int (nI i)), (2, .int kn)]) hx hb dX7_goes_64 hl (k := 0) rfl (nI_1 f9) (by decide) rfl (fun ls hl => ?_)
        refine lv_goto (tgt := 23) hx hb dX7_goes_67 (by decide) ?_
        exact ih_23 (f9 + 1, (upd R (3 * n + f9) (R (3 * (n - 1) + f9)))) _ _ _ (by dsimp only; omega) ⟨_, ⟨by omega, hR.up f9 _, fun f hf => by
                    by_cases e : f = f9
                    · subst e
                      rw [upd_s]
                      exact hv9
                    · rw [upd_n (by omega)]
                      exact hR2 f (by omega)⟩, hk, hw, lv_sub hl [0, 1, 2, 3, 4, 5] rfl⟩
      · have hv9 : (0 : Int32) = (goM k i kn n0 n).1 f9 := by
          have h9 : n = 0 := (nI_eq (a := n) (b := 0) (by omega) (by decide)).mp c_42
          rw [h9]
          rfl
        refine lv_iconst (v := 0) hx hb dX7_goes_45 (by decide) ?_
        refine lv_goto (tgt := 63) hx hb dX7_goes_46 (by decide) ?_
        refine pm_iast (n := 1095) (r := R) hx hb hw (hk.q (i := 13) (by decide)) (hk.f (i := 13) (by decide)) (j := (3 * n + f9)) (by rw [ix3 n f9]; exact nI_clamp (by omega)) (by rw [ix3 n f9]; exact vp_in_nI (by omega) (by decide)) dX7_goes_63 (fun H locs hw => ?_)
        have hk := hk.a13 (upd R (3 * n + f9) 0)
        rw [gK_13] at hk
        refine lv_iinc (v := (nI (f9 + 1))) (lv' := [(5, .int (nI (f9 + 1))), (4, .int (nI n)), (3, .int on), (0, .ref (a 0)), (1, .int (nI i)), (2, .int kn)]) hx hb dX7_goes_64 hl (k := 0) rfl (nI_1 f9) (by decide) rfl (fun ls hl => ?_)
        refine lv_goto (tgt := 23) hx hb dX7_goes_67 (by decide) ?_
        exact ih_23 (f9 + 1, (upd R (3 * n + f9) 0)) _ _ _ (by dsimp only; omega) ⟨_, ⟨by omega, hR.up f9 _, fun f hf => by
                    by_cases e : f = f9
                    · subst e
                      rw [upd_s]
                      exact hv9
                    · rw [upd_n (by omega)]
                      exact hR2 f (by omega)⟩, hk, hw, lv_sub hl [0, 1, 2, 3, 4, 5] rfl⟩

end GOES
