/-! the reference: its short methods -/
section MLEAF
abbrev mS (k : MS) (c j : Nat) (x : Int32) : MS := va_up k c (upd (k c) j x)
abbrev mT (k : MS) (t : Int32) : MS := mS k 0 4 t
/-- the first demand that fails, by its number -/
def exT : List (Int32 × Prop) → Int32 → Prop
  | [], _ => False
  | x :: r, t => (¬ x.2 ∧ t = x.1) ∨ (x.2 ∧ exT r t)
def MInv (k : MS) (p0 t0 n0 : Nat) : Prop := (k 0 0 = nI p0 ∧ k 0 2 = nI t0 ∧ k 0 3 = nI n0) ∧ p0 ≤ 4 ∧ t0 ≤ 20 ∧ n0 ≤ 60
abbrev ScM (g : GE) (a : Nat → Nat) (k : MS) (L : List Nat) (u : PE) : Prop := u.1 = L ∧ MW g a k L u.2
abbrev knM (k : MS) (c : Nat) (d : Int32) : Prop := (k 11 c).toInt ≤ d.toInt ∧ ((k 12 c).toInt < 0 ∨ d.toInt < (k 12 c).toInt)
theorem nI_ne {m n : Nat} (hm : m < 2 ^ 31) (hn : n < 2 ^ 31) : nI m = nI n ↔ m = n := nI_eq hm hn
theorem nI_s1 (n : Nat) : nI n + 1 - 1 = nI n := by
  rw [nI_1]
  exact nI_i1 (Nat.succ_pos n)

set_option maxHeartbeats 4000000 in
set_option maxRecDepth 100000 in
theorem m_isKnown (l : Launch) (g : GE) (L : List Nat) (f : Nat → va_E) (a : Nat → Nat) (k : MS) (hk : MW g a k L f) (c0 : Nat) (hc0 : c0 < 60) (d : Int32) : Mi l yX7_isKnown wsX7_isKnown (rmH 0 0 0) g L f [.ref (a 0), .int (nI c0), .int d] (fun r u => r = b2i (knM k c0 d) ∧ u = (L, f)) 0 0 := by
  intro sz
  refine Met.ofW (cc := cX7_isKnown) (maxL := 3) (ret := (some .boolean)) (by decide) rfl ?_
  intro p e s m args below meth c s₁ B hml hv
  obtain ⟨rfl, hv⟩ := hv
  have hx := B.exec
  have hb := B.bytes
  have hr := B.returns
  have hts := atoms_spec (ws := wsX7_isKnown) B.pre
  have hown : s.vm.findClass RX7 = some m.cls := findClass_of_methodNamed B.named
  have hlocks := B.notSynchronized
  obtain ⟨rfl, hw, hs⟩ := pm_begin hv
  generalize va_A (va_pl L f) s.heap.size = A at hw hs ⊢
  have CF := (⟨hx, hb, hml, hown, hts⟩ : CallFix p m c cX7_isKnown 3 s _ wsX7_isKnown RX7)
  have hin_X7 : ∀ w ∈ wsX70, w ∈ wsX7_isKnown := by decide +kernel
  have hl := lv_entry ([.ref (a 0), .int (nI c0), .int d]) (n := 3) (Nat.le_of_ble_eq_true rfl)
  rw [lg_entry_eq]
  generalize (lg_sl ([.ref (a 0), .int (nI c0), .int d]) ++ List.replicate (3 - (lg_sl ([.ref (a 0), .int (nI c0), .int d])).length) Slot.unset).toArray = ls at hl ⊢
  have hl : lv_has ls 3 [(0, .ref (a 0)), (1, .int (nI c0)), (2, .int d)] := hl
  refine lv_aload_n hx hb dX7_isKnown_0 rfl (lv_at hl 0 rfl) ?_
  refine pm_get (ci := 9) (v := .ref (a 11)) (C := RX7) (T := TX7) (N := 21) hx hb hts hin_X7 hown hw (hk.q (i := 0) (by decide)) (hk.f (i := 0) (by decide)) rfl 14 (by decide) (hts (.fieldLink RX7 40 "BackdaterModel" "told" "[I") (by decide +kernel)) (fun _ h9 => h9) rfl dX7_isKnown_1 ?_
  refine lv_iload_n hx hb dX7_isKnown_4 rfl (lv_at hl 1 rfl) ?_
  refine pm_iald (n := 60) (r := (k 11)) hx hb hw (hk.q (i := 11) (by decide)) (hk.f (i := 11) (by decide)) (j := c0) (nI_clamp (by omega)) (vp_in_nI (by omega) (by decide)) dX7_isKnown_5 ?_
  refine lv_iload_n hx hb dX7_isKnown_6 rfl (lv_at hl 2 rfl) ?_
  refine lv_icmp_gt (tgt := 33) hx hb dX7_isKnown_7 (by decide) (fun c_7 => ?_) (fun c_7 => ?_)
  · have hP : ¬ knM k c0 d := fun h9 => by rw [i32_lt] at c_7; have := h9.1; omega
    refine lv_iconst (v := 0) hx hb dX7_isKnown_33 (by decide) ?_
    exact pr_i (v := 0) hx hb hr hlocks hw rfl ⟨Nat.le_of_ble_eq_true rfl, Nat.le_of_ble_eq_true rfl⟩ (⟨b2i_f hP, rfl⟩) dX7_isKnown_34
  · have h1 : (k 11 c0).toInt ≤ d.toInt := by rw [i32_lt] at c_7; omega
    refine lv_aload_n hx hb dX7_isKnown_10 rfl (lv_at hl 0 rfl) ?_
    refine pm_get (ci := 9) (v := .ref (a 12)) (C := RX7) (T := TX7) (N := 21) hx hb hts hin_X7 hown hw (hk.q (i := 0) (by decide)) (hk.f (i := 0) (by decide)) rfl 15 (by decide) (hts (.fieldLink RX7 43 "BackdaterModel" "taken" "[I") (by decide +kernel)) (fun _ h9 => h9) rfl dX7_isKnown_11 ?_
    refine lv_iload_n hx hb dX7_isKnown_14 rfl (lv_at hl 1 rfl) ?_
    refine pm_iald (n := 60) (r := (k 12)) hx hb hw (hk.q (i := 12) (by decide)) (hk.f (i := 12) (by decide)) (j := c0) (nI_clamp (by omega)) (vp_in_nI (by omega) (by decide)) dX7_isKnown_15 ?_
    refine lv_if_lt (tgt := 29) hx hb dX7_isKnown_16 (by decide) (fun c_16 => ?_) (fun c_16 => ?_)
    · have hP : knM k c0 d := ⟨h1, Or.inl (by rw [i32_lt, i32_0] at c_16; omega)⟩
      refine lv_iconst (v := 1) hx hb dX7_isKnown_29 (by decide) ?_
      refine lv_goto (tgt := 34) hx hb dX7_isKnown_30 (by decide) ?_
      exact pr_i (v := 1) hx hb hr hlocks hw rfl ⟨Nat.le_of_ble_eq_true rfl, Nat.le_of_ble_eq_true rfl⟩ (⟨b2i_t hP, rfl⟩) dX7_isKnown_34
    · have h2 : ¬ (k 12 c0).toInt < 0 := by rw [i32_lt, i32_0] at c_16; omega
      refine lv_aload_n hx hb dX7_isKnown_19 rfl (lv_at hl 0 rfl) ?_
      refine pm_get (ci := 9) (v := .ref (a 12)) (C := RX7) (T := TX7) (N := 21) hx hb hts hin_X7 hown hw (hk.q (i := 0) (by decide)) (hk.f (i := 0) (by decide)) rfl 15 (by decide) (hts (.fieldLink RX7 43 "BackdaterModel" "taken" "[I") (by decide +kernel)) (fun _ h9 => h9) rfl dX7_isKnown_20 ?_
      refine lv_iload_n hx hb dX7_isKnown_23 rfl (lv_at hl 1 rfl) ?_
      refine pm_iald (n := 60) (r := (k 12)) hx hb hw (hk.q (i := 12) (by decide)) (hk.f (i := 12) (by decide)) (j := c0) (nI_clamp (by omega)) (vp_in_nI (by omega) (by decide)) dX7_isKnown_24 ?_
      refine lv_iload_n hx hb dX7_isKnown_25 rfl (lv_at hl 2 rfl) ?_
      refine lv_icmp_le (tgt := 33) hx hb dX7_isKnown_26 (by decide) (fun c_26 => ?_) (fun c_26 => ?_)
      · have hP : ¬ knM k c0 d := fun h9 => by rw [i32_le] at c_26; rcases h9.2 with h | h <;> omega
        refine lv_iconst (v := 0) hx hb dX7_isKnown_33 (by decide) ?_
        exact pr_i (v := 0) hx hb hr hlocks hw rfl ⟨Nat.le_of_ble_eq_true rfl, Nat.le_of_ble_eq_true rfl⟩ (⟨b2i_f hP, rfl⟩) dX7_isKnown_34
      · have hP : knM k c0 d := ⟨h1, Or.inr (by rw [i32_le] at c_26; omega)⟩
        refine lv_iconst (v := 1) hx hb dX7_isKnown_29 (by decide) ?_
        refine lv_goto (tgt := 34) hx hb dX7_isKnown_30 (by decide) ?_
        exact pr_i (v := 1) hx hb hr hlocks hw rfl ⟨Nat.le_of_ble_eq_true rfl, Nat.le_of_ble_eq_true rfl⟩ (⟨b2i_t hP, rfl⟩) dX7_isKnown_34

set_option maxHeartbeats 4000000 in
set_option maxRecDepth 100000 in
theorem m_charge (l : Launch) (g : GE) (L : List Nat) (f : Nat → va_E) (a : Nat → Nat) (k : MS) (hk : MW g a k L f) (d : Nat) (hd : d ≤ 365) : Mi l yX7_charge wsX7_charge (rmH 0 0 0) g L f [.ref (a 0), .int (nI d)] (fun r u => r = k 16 d / 365 ∧ u = (L, f)) 0 0 := by
  intro sz
  refine Met.ofW (cc := cX7_charge) (maxL := 2) (ret := (some .int)) (by decide) rfl ?_
  intro p e s m args below meth c s₁ B hml hv
  obtain ⟨rfl, hv⟩ := hv
  have hx := B.exec
  have hb := B.bytes
  have hr := B.returns
  have hts := atoms_spec (ws := wsX7_charge) B.pre
  have hown : s.vm.findClass RX7 = some m.cls := findClass_of_methodNamed B.named
  have hlocks := B.notSynchronized
  obtain ⟨rfl, hw, hs⟩ := pm_begin hv
  generalize va_A (va_pl L f) s.heap.size = A at hw hs ⊢
  have CF := (⟨hx, hb, hml, hown, hts⟩ : CallFix p m c cX7_charge 2 s _ wsX7_charge RX7)
  have hin_X7 : ∀ w ∈ wsX70, w ∈ wsX7_charge := by decide +kernel
  have hl := lv_entry ([.ref (a 0), .int (nI d)]) (n := 2) (Nat.le_of_ble_eq_true rfl)
  rw [lg_entry_eq]
  generalize (lg_sl ([.ref (a 0), .int (nI d)]) ++ List.replicate (2 - (lg_sl ([.ref (a 0), .int (nI d)])).length) Slot.unset).toArray = ls at hl ⊢
  have hl : lv_has ls 2 [(0, .ref (a 0)), (1, .int (nI d))] := hl
  refine lv_aload_n hx hb dX7_charge_0 rfl (lv_at hl 0 rfl) ?_
  refine pm_get (ci := 9) (v := .ref (a 16)) (C := RX7) (T := TX7) (N := 21) hx hb hts hin_X7 hown hw (hk.q (i := 0) (by decide)) (hk.f (i := 0) (by decide)) rfl 19 (by decide) (hts (.fieldLink RX7 56 "BackdaterModel" "sum" "[I") (by decide +kernel)) (fun _ h9 => h9) rfl dX7_charge_1 ?_
  refine lv_iload_n hx hb dX7_charge_4 rfl (lv_at hl 1 rfl) ?_
  refine pm_iald (n := 366) (r := (k 16)) hx hb hw (hk.q (i := 16) (by decide)) (hk.f (i := 16) (by decide)) (j := d) (nI_clamp (by omega)) (vp_in_nI (by omega) (by decide)) dX7_charge_5 ?_
  refine lv_sipush (v := 365) hx hb dX7_charge_6 (by decide) ?_
  refine lv_idiv hx hb dX7_charge_9 (by decide) ?_
  exact pr_i (v := (((k 16) d) / 365)) hx hb hr hlocks hw rfl ⟨Nat.le_of_ble_eq_true rfl, Nat.le_of_ble_eq_true rfl⟩ (⟨rfl, rfl⟩) dX7_charge_10

set_option maxHeartbeats 4000000 in
set_option maxRecDepth 100000 in
theorem m_begins (l : Launch) (g : GE) (L : List Nat) (f : Nat → va_E) (a : Nat → Nat) (k : MS) (hk : MW g a k L f) (d : Nat) (hd : d < 365) : Mi l yX7_begins wsX7_begins (rmH 0 0 0) g L f [.ref (a 0), .int (nI d)] (fun r u => r = b2i (isSt (k 15) d) ∧ u = (L, f)) 0 0 := by
  intro sz
  refine Met.ofW (cc := cX7_begins) (maxL := 2) (ret := (some .boolean)) (by decide) rfl ?_
  intro p e s m args below meth c s₁ B hml hv
  obtain ⟨rfl, hv⟩ := hv
  have hx := B.exec
  have hb := B.bytes
  have hr := B.returns
  have hts := atoms_spec (ws := wsX7_begins) B.pre
  have hown : s.vm.findClass RX7 = some m.cls := findClass_of_methodNamed B.named
  have hlocks := B.notSynchronized
  obtain ⟨rfl, hw, hs⟩ := pm_begin hv
  generalize va_A (va_pl L f) s.heap.size = A at hw hs ⊢
  have CF := (⟨hx, hb, hml, hown, hts⟩ : CallFix p m c cX7_begins 2 s _ wsX7_begins RX7)
  have hin_X7 : ∀ w ∈ wsX70, w ∈ wsX7_begins := by decide +kernel
  have hl := lv_entry ([.ref (a 0), .int (nI d)]) (n := 2) (Nat.le_of_ble_eq_true rfl)
  rw [lg_entry_eq]
  generalize (lg_sl ([.ref (a 0), .int (nI d)]) ++ List.replicate (2 - (lg_sl ([.ref (a 0), .int (nI d)])).length) Slot.unset).toArray = ls at hl ⊢
  have hl : lv_has ls 2 [(0, .ref (a 0)), (1, .int (nI d))] := hl
  refine lv_aload_n hx hb dX7_begins_0 rfl (lv_at hl 0 rfl) ?_
  refine pm_get (ci := 9) (v := .ref (a 15)) (C := RX7) (T := TX7) (N := 21) hx hb hts hin_X7 hown hw (hk.q (i := 0) (by decide)) (hk.f (i := 0) (by decide)) rfl 18 (by decide) (hts (.fieldLink RX7 53 "BackdaterModel" "rate" "[I") (by decide +kernel)) (fun _ h9 => h9) rfl dX7_begins_1 ?_
  refine lv_iload_n hx hb dX7_begins_4 rfl (lv_at hl 1 rfl) ?_
  refine pm_iald (n := 365) (r := (k 15)) hx hb hw (hk.q (i := 15) (by decide)) (hk.f (i := 15) (by decide)) (j := d) (nI_clamp (by omega)) (vp_in_nI (by omega) (by decide)) dX7_begins_5 ?_
  refine lv_if_le (tgt := 34) hx hb dX7_begins_6 (by decide) (fun c_6 => ?_) (fun c_6 => ?_)
  · have hP : ¬ isSt (k 15) d := fun h9 => by rw [i32_le, i32_0] at c_6; have := h9.1; omega
    refine lv_iconst (v := 0) hx hb dX7_begins_34 (by decide) ?_
    exact pr_i (v := 0) hx hb hr hlocks hw rfl ⟨Nat.le_of_ble_eq_true rfl, Nat.le_of_ble_eq_true rfl⟩ (⟨b2i_f hP, rfl⟩) dX7_begins_35
  · have h0 : 0 < (k 15 d).toInt := by rw [i32_le, i32_0] at c_6; omega
    refine lv_iload_n hx hb dX7_begins_9 rfl (lv_at hl 1 rfl) ?_
    refine lv_if_eq (tgt := 30) hx hb dX7_begins_10 (by decide) (fun c_10 => ?_) (fun c_10 => ?_)
    · have hP : isSt (k 15) d := ⟨h0, Or.inl ((nI_eq (a := d) (b := 0) (by omega) (by decide)).mp c_10)⟩
      refine lv_iconst (v := 1) hx hb dX7_begins_30 (by decide) ?_
      refine lv_goto (tgt := 35) hx hb dX7_begins_31 (by decide) ?_
      exact pr_i (v := 1) hx hb hr hlocks hw rfl ⟨Nat.le_of_ble_eq_true rfl, Nat.le_of_ble_eq_true rfl⟩ (⟨b2i_t hP, rfl⟩) dX7_begins_35
    · have hd0 : 0 < d := by
        rcases Nat.eq_zero_or_pos d with q | q
        · exact absurd (by rw [q]; rfl) c_10
        · exact q
      refine lv_aload_n hx hb dX7_begins_13 rfl (lv_at hl 0 rfl) ?_
      refine pm_get (ci := 9) (v := .ref (a 15)) (C := RX7) (T := TX7) (N := 21) hx hb hts hin_X7 hown hw (hk.q (i := 0) (by decide)) (hk.f (i := 0) (by decide)) rfl 18 (by decide) (hts (.fieldLink RX7 53 "BackdaterModel" "rate" "[I") (by decide +kernel)) (fun _ h9 => h9) rfl dX7_begins_14 ?_
      refine lv_iload_n hx hb dX7_begins_17 rfl (lv_at hl 1 rfl) ?_
      refine lv_iconst (v := 1) hx hb dX7_begins_18 (by decide) ?_
      refine lv_isub hx hb dX7_begins_19 ?_
      refine pm_iald (n := 365) (r := (k 15)) hx hb hw (hk.q (i := 15) (by decide)) (hk.f (i := 15) (by decide)) (j := (d - 1)) (by rw [nI_i1 hd0]; exact nI_clamp (by omega)) (by rw [nI_i1 hd0]; exact vp_in_nI (by omega) (by decide)) dX7_begins_20 ?_
      refine lv_aload_n hx hb dX7_begins_21 rfl (lv_at hl 0 rfl) ?_
      refine pm_get (ci := 9) (v := .ref (a 15)) (C := RX7) (T := TX7) (N := 21) hx hb hts hin_X7 hown hw (hk.q (i := 0) (by decide)) (hk.f (i := 0) (by decide)) rfl 18 (by decide) (hts (.fieldLink RX7 53 "BackdaterModel" "rate" "[I") (by decide +kernel)) (fun _ h9 => h9) rfl dX7_begins_22 ?_
      refine lv_iload_n hx hb dX7_begins_25 rfl (lv_at hl 1 rfl) ?_
      refine pm_iald (n := 365) (r := (k 15)) hx hb hw (hk.q (i := 15) (by decide)) (hk.f (i := 15) (by decide)) (j := d) (nI_clamp (by omega)) (vp_in_nI (by omega) (by decide)) dX7_begins_26 ?_
      refine lv_icmp_eq (tgt := 34) hx hb dX7_begins_27 (by decide) (fun c_27 => ?_) (fun c_27 => ?_)
      · have hP : ¬ isSt (k 15) d := fun h9 => h9.2.elim (fun q => by omega) (fun q => q c_27)
        refine lv_iconst (v := 0) hx hb dX7_begins_34 (by decide) ?_
        exact pr_i (v := 0) hx hb hr hlocks hw rfl ⟨Nat.le_of_ble_eq_true rfl, Nat.le_of_ble_eq_true rfl⟩ (⟨b2i_f hP, rfl⟩) dX7_begins_35
      · have hP : isSt (k 15) d := ⟨h0, Or.inr c_27⟩
        refine lv_iconst (v := 1) hx hb dX7_begins_30 (by decide) ?_
        refine lv_goto (tgt := 35) hx hb dX7_begins_31 (by decide) ?_
        exact pr_i (v := 1) hx hb hr hlocks hw rfl ⟨Nat.le_of_ble_eq_true rfl, Nat.le_of_ble_eq_true rfl⟩ (⟨b2i_t hP, rfl⟩) dX7_begins_35

set_option maxHeartbeats 4000000 in
set_option maxRecDepth 100000 in
theorem m_open (l : Launch) (g : GE) (L : List Nat) (f : Nat → va_E) (a : Nat → Nat) (k : MS) (hk : MW g a k L f) (p0 t0 n0 : Nat) (hI : MInv k p0 t0 n0) (x : Int32) : Mi l yX7_open wsX7_open (rmH 1 0 0) g L f [.ref (a 0), .int x] (fun r u => (∃ t, exT [(1, inP x 1 1000), (2, ¬ p0 = 4)] t ∧ ScM g a (mT k t) L u) ∨ (inP x 1 1000 ∧ ¬ p0 = 4 ∧ r = nI p0 ∧ ScM g a (mS (mS (mT k 0) 1 p0 x) 0 0 (k 0 0 + 1)) L u)) 0 0 := by
  intro sz
  refine Met.ofW (cc := cX7_open) (maxL := 2) (ret := (some .int)) (by decide) rfl ?_
  intro p e s m args below meth c s₁ B hml hv
  obtain ⟨rfl, hv⟩ := hv
  have hx := B.exec
  have hb := B.bytes
  have hr := B.returns
  have hts := atoms_spec (ws := wsX7_open) B.pre
  have hown : s.vm.findClass RX7 = some m.cls := findClass_of_methodNamed B.named
  have hlocks := B.notSynchronized
  obtain ⟨rfl, hw, hs⟩ := pm_begin hv
  generalize va_A (va_pl L f) s.heap.size = A at hw hs ⊢
  have CF := (⟨hx, hb, hml, hown, hts⟩ : CallFix p m c cX7_open 2 s _ wsX7_open RX7)
  have hin_X7 : ∀ w ∈ wsX70, w ∈ wsX7_open := by decide +kernel
  have hl := lv_entry ([.ref (a 0), .int x]) (n := 2) (Nat.le_of_ble_eq_true rfl)
  rw [lg_entry_eq]
  generalize (lg_sl ([.ref (a 0), .int x]) ++ List.replicate (2 - (lg_sl ([.ref (a 0), .int x])).length) Slot.unset).toArray = ls at hl ⊢
  have hl : lv_has ls 2 [(0, .ref (a 0)), (1, .int x)] := hl
  obtain ⟨⟨hp0, ht0, hn0⟩, hpl, htl, hnl⟩ := hI
  refine lv_aload_n hx hb dX7_open_0 rfl (lv_at hl 0 rfl) ?_
  refine lv_iload_n hx hb dX7_open_1 rfl (lv_at hl 1 rfl) ?_
  refine lv_iconst (v := 1) hx hb dX7_open_2 (by decide) ?_
  refine lv_sipush (v := 1000) hx hb dX7_open_3 (by decide) ?_
  refine pc_i hw (va_runS (As := [.int x, .int 1, .int 1000]) (rest := [.ref (a 0)]) CF (m_isIn l g L _ x 1 1000 _) (va_cwS 3 hts gX7_open_X7_isIn rfl rfl rfl (by decide +kernel) ⟨Nat.le_of_ble_eq_true rfl, Nat.le_of_ble_eq_true rfl⟩) (pm_preS hw hs) rfl rfl hl.1 rfl (lv_room (Nat.le_of_ble_eq_true rfl)) dX7_open_6 ⟨Nat.le_of_ble_eq_true rfl, Nat.le_of_ble_eq_true rfl⟩) (fun r L1 f1 H locs hp hw => ?_)
  obtain ⟨hE_6, hu⟩ := hp
  obtain rfl : _ = L1 := (congrArg Prod.fst hu).symm
  obtain rfl : _ = f1 := (congrArg Prod.snd hu).symm
  generalize r = r_6 at hE_6 ⊢
  refine lv_if_ne (tgt := 16) hx hb dX7_open_9 (by decide) (fun c_9 => ?_) (fun c_9 => ?_)
  · have h1 : inP x 1 1000 := b2i_ne0 (hE_6 ▸ c_9)
    refine lv_aload_n hx hb dX7_open_16 rfl (lv_at hl 0 rfl) ?_
    refine pm_get (ci := 9) (v := .int (k 0 0)) (C := RX7) (T := TX7) (N := 21) hx hb hts hin_X7 hown hw (hk.q (i := 0) (by decide)) (hk.f (i := 0) (by decide)) rfl 0 (by decide) (hts (.fieldLink RX7 67 "BackdaterModel" "policies" "I") (by decide +kernel)) (fun _ h9 => h9) rfl dX7_open_17 ?_
    refine lv_iconst (v := 4) hx hb dX7_open_20 (by decide) ?_
    refine lv_icmp_ne (tgt := 28) hx hb dX7_open_21 (by decide) (fun c_21 => ?_) (fun c_21 => ?_)
    · have h2 : ¬ p0 = 4 := fun h9 => c_21 (by rw [hp0, h9]; rfl)
      refine lv_iconst (v := 0) hx hb dX7_open_28 (by decide) ?_
      refine pm_put (ci := 9) (v := .int 0) (ty := .int) (C := RX7) (T := TX7) (N := 21) hx hb hts hin_X7 tyX7 tyX7_ok nmX7 hown hw (hk.q (i := 0) (by decide)) (hk.f (i := 0) (by decide)) rfl 20 (by decide) (hts (.fieldLink RX7 59 "BackdaterModel" "thrown" "I") (by decide +kernel)) (fun _ h9 => h9) rfl (by decide +kernel) rfl rfl (Nat.le_of_ble_eq_true rfl) dX7_open_29 (fun H locs hw => ?_)
      have hk := hk.s4 0
      refine lv_aload_n hx hb dX7_open_32 rfl (lv_at hl 0 rfl) ?_
      refine pm_get (ci := 9) (v := .int 0) (C := RX7) (T := TX7) (N := 21) hx hb hts hin_X7 hown hw (hk.q (i := 0) (by decide)) (hk.f (i := 0) (by decide)) rfl 20 (by decide) (hts (.fieldLink RX7 59 "BackdaterModel" "thrown" "I") (by decide +kernel)) (fun _ h9 => h9) rfl dX7_open_33 ?_
      refine lv_if_le (tgt := 41) hx hb dX7_open_36 (by decide) (fun c_36 => ?_) (fun c_36 => ?_)
      · refine lv_aload_n hx hb dX7_open_41 rfl (lv_at hl 0 rfl) ?_
        refine pm_get (ci := 9) (v := .ref (a 1)) (C := RX7) (T := TX7) (N := 21) hx hb hts hin_X7 hown hw (hk.q (i := 0) (by decide)) (hk.f (i := 0) (by decide)) rfl 1 (by decide) (hts (.fieldLink RX7 7 "BackdaterModel" "base" "[I") (by decide +kernel)) (fun _ h9 => h9) rfl dX7_open_42 ?_
        refine lv_aload_n hx hb dX7_open_45 rfl (lv_at hl 0 rfl) ?_
        refine pm_get (ci := 9) (v := .int (k 0 0)) (C := RX7) (T := TX7) (N := 21) hx hb hts hin_X7 hown hw (hk.q (i := 0) (by decide)) (hk.f (i := 0) (by decide)) rfl 0 (by decide) (hts (.fieldLink RX7 67 "BackdaterModel" "policies" "I") (by decide +kernel)) (fun _ h9 => h9) rfl dX7_open_46 ?_
        refine lv_iload_n hx hb dX7_open_49 rfl (lv_at hl 1 rfl) ?_
        refine pm_iast (n := 4) (r := (k 1)) hx hb hw (hk.q (i := 1) (by decide)) (hk.f (i := 1) (by decide)) (j := p0) (by rw [hp0]; exact nI_clamp (by omega)) (by rw [hp0]; exact vp_in_nI (by omega) (by decide)) dX7_open_50 (fun H locs hw => ?_)
        have hk := hk.a1 (upd (k 1) p0 x)
        refine lv_aload_n hx hb dX7_open_51 rfl (lv_at hl 0 rfl) ?_
        refine lv_dup hx hb dX7_open_52 rfl ?_
        refine pm_get (ci := 9) (v := .int (k 0 0)) (C := RX7) (T := TX7) (N := 21) hx hb hts hin_X7 hown hw (hk.q (i := 0) (by decide)) (hk.f (i := 0) (by decide)) rfl 0 (by decide) (hts (.fieldLink RX7 67 "BackdaterModel" "policies" "I") (by decide +kernel)) (fun _ h9 => h9) rfl dX7_open_53 ?_
        refine lv_iconst (v := 1) hx hb dX7_open_56 (by decide) ?_
        refine lv_iadd hx hb dX7_open_57 ?_
        refine pm_put (ci := 9) (v := .int ((k 0 0) + 1)) (ty := .int) (C := RX7) (T := TX7) (N := 21) hx hb hts hin_X7 tyX7 tyX7_ok nmX7 hown hw (hk.q (i := 0) (by decide)) (hk.f (i := 0) (by decide)) rfl 0 (by decide) (hts (.fieldLink RX7 67 "BackdaterModel" "policies" "I") (by decide +kernel)) (fun _ h9 => h9) rfl (by decide +kernel) rfl rfl (Nat.le_of_ble_eq_true rfl) dX7_open_58 (fun H locs hw => ?_)
        have hk := hk.s0 ((k 0 0) + 1)
        refine lv_aload_n hx hb dX7_open_61 rfl (lv_at hl 0 rfl) ?_
        refine pm_get (ci := 9) (v := .int ((k 0 0) + 1)) (C := RX7) (T := TX7) (N := 21) hx hb hts hin_X7 hown hw (hk.q (i := 0) (by decide)) (hk.f (i := 0) (by decide)) rfl 0 (by decide) (hts (.fieldLink RX7 67 "BackdaterModel" "policies" "I") (by decide +kernel)) (fun _ h9 => h9) rfl dX7_open_62 ?_
        refine lv_iconst (v := 1) hx hb dX7_open_65 (by decide) ?_
        refine lv_isub hx hb dX7_open_66 ?_
        exact pr_i (v := (((k 0 0) + 1) - 1)) hx hb hr hlocks hw rfl ⟨Nat.le_of_ble_eq_true rfl, Nat.le_of_ble_eq_true rfl⟩ (Or.inr ⟨h1, h2, (by rw [hp0]; exact nI_s1 p0), rfl, hk⟩) dX7_open_67
      · exact absurd (by decide) c_36
    · have h2 : p0 = 4 := (nI_eq (a := p0) (b := 4) (by omega) (by decide)).mp (by rw [hp0] at c_21; exact c_21)
      refine lv_iconst (v := 2) hx hb dX7_open_24 (by decide) ?_
      refine lv_goto (tgt := 29) hx hb dX7_open_25 (by decide) ?_
      refine pm_put (ci := 9) (v := .int 2) (ty := .int) (C := RX7) (T := TX7) (N := 21) hx hb hts hin_X7 tyX7 tyX7_ok nmX7 hown hw (hk.q (i := 0) (by decide)) (hk.f (i := 0) (by decide)) rfl 20 (by decide) (hts (.fieldLink RX7 59 "BackdaterModel" "thrown" "I") (by decide +kernel)) (fun _ h9 => h9) rfl (by decide +kernel) rfl rfl (Nat.le_of_ble_eq_true rfl) dX7_open_29 (fun H locs hw => ?_)
      have hk := hk.s4 2
      refine lv_aload_n hx hb dX7_open_32 rfl (lv_at hl 0 rfl) ?_
      refine pm_get (ci := 9) (v := .int 2) (C := RX7) (T := TX7) (N := 21) hx hb hts hin_X7 hown hw (hk.q (i := 0) (by decide)) (hk.f (i := 0) (by decide)) rfl 20 (by decide) (hts (.fieldLink RX7 59 "BackdaterModel" "thrown" "I") (by decide +kernel)) (fun _ h9 => h9) rfl dX7_open_33 ?_
      refine lv_if_le (tgt := 41) hx hb dX7_open_36 (by decide) (fun c_36 => ?_) (fun c_36 => ?_)
      · exact absurd c_36 (by decide)
      · refine lv_iconst (v := 0) hx hb dX7_open_39 (by decide) ?_
        exact pr_i (v := 0) hx hb hr hlocks hw rfl ⟨Nat.le_of_ble_eq_true rfl, Nat.le_of_ble_eq_true rfl⟩ (Or.inl ⟨2, Or.inr ⟨h1, Or.inl ⟨fun h9 => h9 h2, rfl⟩⟩, rfl, hk⟩) dX7_open_40
  · have h1 : ¬ inP x 1 1000 := b2i_eq0 (hE_6 ▸ c_9)
    refine lv_iconst (v := 1) hx hb dX7_open_12 (by decide) ?_
    refine lv_goto (tgt := 29) hx hb dX7_open_13 (by decide) ?_
    refine pm_put (ci := 9) (v := .int 1) (ty := .int) (C := RX7) (T := TX7) (N := 21) hx hb hts hin_X7 tyX7 tyX7_ok nmX7 hown hw (hk.q (i := 0) (by decide)) (hk.f (i := 0) (by decide)) rfl 20 (by decide) (hts (.fieldLink RX7 59 "BackdaterModel" "thrown" "I") (by decide +kernel)) (fun _ h9 => h9) rfl (by decide +kernel) rfl rfl (Nat.le_of_ble_eq_true rfl) dX7_open_29 (fun H locs hw => ?_)
    have hk := hk.s4 1
    refine lv_aload_n hx hb dX7_open_32 rfl (lv_at hl 0 rfl) ?_
    refine pm_get (ci := 9) (v := .int 1) (C := RX7) (T := TX7) (N := 21) hx hb hts hin_X7 hown hw (hk.q (i := 0) (by decide)) (hk.f (i := 0) (by decide)) rfl 20 (by decide) (hts (.fieldLink RX7 59 "BackdaterModel" "thrown" "I") (by decide +kernel)) (fun _ h9 => h9) rfl dX7_open_33 ?_
    refine lv_if_le (tgt := 41) hx hb dX7_open_36 (by decide) (fun c_36 => ?_) (fun c_36 => ?_)
    · exact absurd c_36 (by decide)
    · refine lv_iconst (v := 0) hx hb dX7_open_39 (by decide) ?_
      exact pr_i (v := 0) hx hb hr hlocks hw rfl ⟨Nat.le_of_ble_eq_true rfl, Nat.le_of_ble_eq_true rfl⟩ (Or.inl ⟨1, Or.inl ⟨h1, rfl⟩, rfl, hk⟩) dX7_open_40

set_option maxHeartbeats 4000000 in
set_option maxRecDepth 100000 in
theorem m_setWeight (l : Launch) (g : GE) (L : List Nat) (f : Nat → va_E) (a : Nat → Nat) (k : MS) (hk : MW g a k L f) (p0 t0 n0 : Nat) (hI : MInv k p0 t0 n0) (y w z : Int32) : Mi l yX7_setWeight wsX7_setWeight (rmH 2 0 0) g L f [.ref (a 0), .int y, .int w, .int z] (fun r u => (∃ t, exT [(1, mFld y), (2, inP w 0 100 ∧ mDay z), (3, ¬ t0 = 20)] t ∧ ScM g a (mT k t) L u) ∨ (mFld y ∧ (inP w 0 100 ∧ mDay z) ∧ ¬ t0 = 20 ∧ r = nI t0 + 1 ∧ ScM g a (mS (mS (mS (mS (mT k 0) 3 t0 y) 4 t0 w) 5 t0 z) 0 2 (k 0 2 + 1)) L u)) 0 0 := by
  intro sz
  refine Met.ofW (cc := cX7_setWeight) (maxL := 4) (ret := (some .int)) (by decide) rfl ?_
  intro p e s m args below meth c s₁ B hml hv
  obtain ⟨rfl, hv⟩ := hv
  have hx := B.exec
  have hb := B.bytes
  have hr := B.returns
  have hts := atoms_spec (ws := wsX7_setWeight) B.pre
  have hown : s.vm.findClass RX7 = some m.cls := findClass_of_methodNamed B.named
  have hlocks := B.notSynchronized
  obtain ⟨rfl, hw, hs⟩ := pm_begin hv
  generalize va_A (va_pl L f) s.heap.size = A at hw hs ⊢
  have CF := (⟨hx, hb, hml, hown, hts⟩ : CallFix p m c cX7_setWeight 4 s _ wsX7_setWeight RX7)
  have hin_X7 : ∀ w ∈ wsX70, w ∈ wsX7_setWeight := by decide +kernel
  have hl := lv_entry ([.ref (a 0), .int y, .int w, .int z]) (n := 4) (Nat.le_of_ble_eq_true rfl)
  rw [lg_entry_eq]
  generalize (lg_sl ([.ref (a 0), .int y, .int w, .int z]) ++ List.replicate (4 - (lg_sl ([.ref (a 0), .int y, .int w, .int z])).length) Slot.unset).toArray = ls at hl ⊢
  have hl : lv_has ls 4 [(0, .ref (a 0)), (1, .int y), (2, .int w), (3, .int z)] := hl
  obtain ⟨⟨hp0, ht0, hn0⟩, hpl, htl, hnl⟩ := hI
  refine lv_aload_n hx hb dX7_setWeight_0 rfl (lv_at hl 0 rfl) ?_
  refine lv_iload_n hx hb dX7_setWeight_1 rfl (lv_at hl 1 rfl) ?_
  refine pc_i hw (va_runS (As := [.int y]) (rest := [.ref (a 0)]) CF (m_isField l g L _ y _) (va_cwS 1 hts gX7_setWeight_X7_isField rfl rfl rfl (by decide +kernel) ⟨Nat.le_of_ble_eq_true rfl, Nat.le_of_ble_eq_true rfl⟩) (pm_preS hw hs) rfl rfl hl.1 rfl (lv_room (Nat.le_of_ble_eq_true rfl)) dX7_setWeight_2 ⟨Nat.le_of_ble_eq_true rfl, Nat.le_of_ble_eq_true rfl⟩) (fun r L1 f1 H locs hp hw => ?_)
  obtain ⟨hE_2, hu⟩ := hp
  obtain rfl : _ = L1 := (congrArg Prod.fst hu).symm
  obtain rfl : _ = f1 := (congrArg Prod.snd hu).symm
  generalize r = r_2 at hE_2 ⊢
  refine lv_if_ne (tgt := 12) hx hb dX7_setWeight_5 (by decide) (fun c_5 => ?_) (fun c_5 => ?_)
  · have h1 : mFld y := b2i_ne0 (hE_2 ▸ c_5)
    refine lv_iload_n hx hb dX7_setWeight_12 rfl (lv_at hl 2 rfl) ?_
    refine lv_iconst (v := 0) hx hb dX7_setWeight_13 (by decide) ?_
    refine lv_bipush (v := 100) hx hb dX7_setWeight_14 (by decide) ?_
    refine pc_i hw (va_runS (As := [.int w, .int 0, .int 100]) (rest := [.ref (a 0)]) CF (m_isIn l g L _ w 0 100 _) (va_cwS 3 hts gX7_setWeight_X7_isIn rfl rfl rfl (by decide +kernel) ⟨Nat.le_of_ble_eq_true rfl, Nat.le_of_ble_eq_true rfl⟩) (pm_preS hw hs) rfl rfl hl.1 rfl (lv_room (Nat.le_of_ble_eq_true rfl)) dX7_setWeight_16 ⟨Nat.le_of_ble_eq_true rfl, Nat.le_of_ble_eq_true rfl⟩) (fun r L1 f1 H locs hp hw => ?_)
    obtain ⟨hE_16, hu⟩ := hp
    obtain rfl : _ = L1 := (congrArg Prod.fst hu).symm
    obtain rfl : _ = f1 := (congrArg Prod.snd hu).symm
    generalize r = r_16 at hE_16 ⊢
    refine lv_if_eq (tgt := 29) hx hb dX7_setWeight_19 (by decide) (fun c_19 => ?_) (fun c_19 => ?_)
    · have h2 : ¬ inP w 0 100 := b2i_eq0 (hE_16 ▸ c_19)
      refine lv_iconst (v := 2) hx hb dX7_setWeight_29 (by decide) ?_
      refine lv_goto (tgt := 47) hx hb dX7_setWeight_30 (by decide) ?_
      refine pm_put (ci := 9) (v := .int 2) (ty := .int) (C := RX7) (T := TX7) (N := 21) hx hb hts hin_X7 tyX7 tyX7_ok nmX7 hown hw (hk.q (i := 0) (by decide)) (hk.f (i := 0) (by decide)) rfl 20 (by decide) (hts (.fieldLink RX7 59 "BackdaterModel" "thrown" "I") (by decide +kernel)) (fun _ h9 => h9) rfl (by decide +kernel) rfl rfl (Nat.le_of_ble_eq_true rfl) dX7_setWeight_47 (fun H locs hw => ?_)
      have hk := hk.s4 2
      refine lv_aload_n hx hb dX7_setWeight_50 rfl (lv_at hl 0 rfl) ?_
      refine pm_get (ci := 9) (v := .int 2) (C := RX7) (T := TX7) (N := 21) hx hb hts hin_X7 hown hw (hk.q (i := 0) (by decide)) (hk.f (i := 0) (by decide)) rfl 20 (by decide) (hts (.fieldLink RX7 59 "BackdaterModel" "thrown" "I") (by decide +kernel)) (fun _ h9 => h9) rfl dX7_setWeight_51 ?_
      refine lv_if_le (tgt := 59) hx hb dX7_setWeight_54 (by decide) (fun c_54 => ?_) (fun c_54 => ?_)
      · exact absurd c_54 (by decide)
      · refine lv_iconst (v := 0) hx hb dX7_setWeight_57 (by decide) ?_
        exact pr_i (v := 0) hx hb hr hlocks hw rfl ⟨Nat.le_of_ble_eq_true rfl, Nat.le_of_ble_eq_true rfl⟩ (Or.inl ⟨2, Or.inr ⟨h1, Or.inl ⟨fun h9 => h2 h9.1, rfl⟩⟩, rfl, hk⟩) dX7_setWeight_58
    · have h2 : inP w 0 100 := b2i_ne0 (hE_16 ▸ c_19)
      refine lv_iload_n hx hb dX7_setWeight_22 rfl (lv_at hl 3 rfl) ?_
      refine pc_i hw (va_runS (As := [.int z]) (rest := [.ref (a 0)]) CF (m_isDay l g L _ z _) (va_cwS 1 hts gX7_setWeight_X7_isDay rfl rfl rfl (by decide +kernel) ⟨Nat.le_of_ble_eq_true rfl, Nat.le_of_ble_eq_true rfl⟩) (pm_preS hw hs) rfl rfl hl.1 rfl (lv_room (Nat.le_of_ble_eq_true rfl)) dX7_setWeight_23 ⟨Nat.le_of_ble_eq_true rfl, Nat.le_of_ble_eq_true rfl⟩) (fun r L1 f1 H locs hp hw => ?_)
      obtain ⟨hE_23, hu⟩ := hp
      obtain rfl : _ = L1 := (congrArg Prod.fst hu).symm
      obtain rfl : _ = f1 := (congrArg Prod.snd hu).symm
      generalize r = r_23 at hE_23 ⊢
      refine lv_if_ne (tgt := 33) hx hb dX7_setWeight_26 (by decide) (fun c_26 => ?_) (fun c_26 => ?_)
      · have h3 : mDay z := b2i_ne0 (hE_23 ▸ c_26)
        refine lv_aload_n hx hb dX7_setWeight_33 rfl (lv_at hl 0 rfl) ?_
        refine pm_get (ci := 9) (v := .int (k 0 2)) (C := RX7) (T := TX7) (N := 21) hx hb hts hin_X7 hown hw (hk.q (i := 0) (by decide)) (hk.f (i := 0) (by decide)) rfl 4 (by decide) (hts (.fieldLink RX7 77 "BackdaterModel" "tariffs" "I") (by decide +kernel)) (fun _ h9 => h9) rfl dX7_setWeight_34 ?_
        refine lv_bipush (v := 20) hx hb dX7_setWeight_37 (by decide) ?_
        refine lv_icmp_ne (tgt := 46) hx hb dX7_setWeight_39 (by decide) (fun c_39 => ?_) (fun c_39 => ?_)
        · have h4 : ¬ t0 = 20 := fun h9 => c_39 (by rw [ht0, h9]; rfl)
          refine lv_iconst (v := 0) hx hb dX7_setWeight_46 (by decide) ?_
          refine pm_put (ci := 9) (v := .int 0) (ty := .int) (C := RX7) (T := TX7) (N := 21) hx hb hts hin_X7 tyX7 tyX7_ok nmX7 hown hw (hk.q (i := 0) (by decide)) (hk.f (i := 0) (by decide)) rfl 20 (by decide) (hts (.fieldLink RX7 59 "BackdaterModel" "thrown" "I") (by decide +kernel)) (fun _ h9 => h9) rfl (by decide +kernel) rfl rfl (Nat.le_of_ble_eq_true rfl) dX7_setWeight_47 (fun H locs hw => ?_)
          have hk := hk.s4 0
          refine lv_aload_n hx hb dX7_setWeight_50 rfl (lv_at hl 0 rfl) ?_
          refine pm_get (ci := 9) (v := .int 0) (C := RX7) (T := TX7) (N := 21) hx hb hts hin_X7 hown hw (hk.q (i := 0) (by decide)) (hk.f (i := 0) (by decide)) rfl 20 (by decide) (hts (.fieldLink RX7 59 "BackdaterModel" "thrown" "I") (by decide +kernel)) (fun _ h9 => h9) rfl dX7_setWeight_51 ?_
          refine lv_if_le (tgt := 59) hx hb dX7_setWeight_54 (by decide) (fun c_54 => ?_) (fun c_54 => ?_)
          · refine lv_aload_n hx hb dX7_setWeight_59 rfl (lv_at hl 0 rfl) ?_
            refine pm_get (ci := 9) (v := .ref (a 3)) (C := RX7) (T := TX7) (N := 21) hx hb hts hin_X7 hown hw (hk.q (i := 0) (by decide)) (hk.f (i := 0) (by decide)) rfl 5 (by decide) (hts (.fieldLink RX7 16 "BackdaterModel" "field" "[I") (by decide +kernel)) (fun _ h9 => h9) rfl dX7_setWeight_60 ?_
            refine lv_aload_n hx hb dX7_setWeight_63 rfl (lv_at hl 0 rfl) ?_
            refine pm_get (ci := 9) (v := .int (k 0 2)) (C := RX7) (T := TX7) (N := 21) hx hb hts hin_X7 hown hw (hk.q (i := 0) (by decide)) (hk.f (i := 0) (by decide)) rfl 4 (by decide) (hts (.fieldLink RX7 77 "BackdaterModel" "tariffs" "I") (by decide +kernel)) (fun _ h9 => h9) rfl dX7_setWeight_64 ?_
            refine lv_iload_n hx hb dX7_setWeight_67 rfl (lv_at hl 1 rfl) ?_
            refine pm_iast (n := 20) (r := (k 3)) hx hb hw (hk.q (i := 3) (by decide)) (hk.f (i := 3) (by decide)) (j := t0) (by rw [ht0]; exact nI_clamp (by omega)) (by rw [ht0]; exact vp_in_nI (by omega) (by decide)) dX7_setWeight_68 (fun H locs hw => ?_)
            have hk := hk.a3 (upd (k 3) t0 y)
            refine lv_aload_n hx hb dX7_setWeight_69 rfl (lv_at hl 0 rfl) ?_
            refine pm_get (ci := 9) (v := .ref (a 4)) (C := RX7) (T := TX7) (N := 21) hx hb hts hin_X7 hown hw (hk.q (i := 0) (by decide)) (hk.f (i := 0) (by decide)) rfl 6 (by decide) (hts (.fieldLink RX7 19 "BackdaterModel" "weight" "[I") (by decide +kernel)) (fun _ h9 => h9) rfl dX7_setWeight_70 ?_
            refine lv_aload_n hx hb dX7_setWeight_73 rfl (lv_at hl 0 rfl) ?_
            refine pm_get (ci := 9) (v := .int (k 0 2)) (C := RX7) (T := TX7) (N := 21) hx hb hts hin_X7 hown hw (hk.q (i := 0) (by decide)) (hk.f (i := 0) (by decide)) rfl 4 (by decide) (hts (.fieldLink RX7 77 "BackdaterModel" "tariffs" "I") (by decide +kernel)) (fun _ h9 => h9) rfl dX7_setWeight_74 ?_
            refine lv_iload_n hx hb dX7_setWeight_77 rfl (lv_at hl 2 rfl) ?_
            refine pm_iast (n := 20) (r := (k 4)) hx hb hw (hk.q (i := 4) (by decide)) (hk.f (i := 4) (by decide)) (j := t0) (by rw [ht0]; exact nI_clamp (by omega)) (by rw [ht0]; exact vp_in_nI (by omega) (by decide)) dX7_setWeight_78 (fun H locs hw => ?_)
            have hk := hk.a4 (upd (k 4) t0 w)
            refine lv_aload_n hx hb dX7_setWeight_79 rfl (lv_at hl 0 rfl) ?_
            refine pm_get (ci := 9) (v := .ref (a 5)) (C := RX7) (T := TX7) (N := 21) hx hb hts hin_X7 hown hw (hk.q (i := 0) (by decide)) (hk.f (i := 0) (by decide)) rfl 7 (by decide) (hts (.fieldLink RX7 22 "BackdaterModel" "since" "[I") (by decide +kernel)) (fun _ h9 => h9) rfl dX7_setWeight_80 ?_
            refine lv_aload_n hx hb dX7_setWeight_83 rfl (lv_at hl 0 rfl) ?_
            refine pm_get (ci := 9) (v := .int (k 0 2)) (C := RX7) (T := TX7) (N := 21) hx hb hts hin_X7 hown hw (hk.q (i := 0) (by decide)) (hk.f (i := 0) (by decide)) rfl 4 (by decide) (hts (.fieldLink RX7 77 "BackdaterModel" "tariffs" "I") (by decide +kernel)) (fun _ h9 => h9) rfl dX7_setWeight_84 ?_
            refine lv_iload_n hx hb dX7_setWeight_87 rfl (lv_at hl 3 rfl) ?_
            refine pm_iast (n := 20) (r := (k 5)) hx hb hw (hk.q (i := 5) (by decide)) (hk.f (i := 5) (by decide)) (j := t0) (by rw [ht0]; exact nI_clamp (by omega)) (by rw [ht0]; exact vp_in_nI (by omega) (by decide)) dX7_setWeight_88 (fun H locs hw => ?_)
            have hk := hk.a5 (upd (k 5) t0 z)
            refine lv_aload_n hx hb dX7_setWeight_89 rfl (lv_at hl 0 rfl) ?_
            refine lv_dup hx hb dX7_setWeight_90 rfl ?_
            refine pm_get (ci := 9) (v := .int (k 0 2)) (C := RX7) (T := TX7) (N := 21) hx hb hts hin_X7 hown hw (hk.q (i := 0) (by decide)) (hk.f (i := 0) (by decide)) rfl 4 (by decide) (hts (.fieldLink RX7 77 "BackdaterModel" "tariffs" "I") (by decide +kernel)) (fun _ h9 => h9) rfl dX7_setWeight_91 ?_
            refine lv_iconst (v := 1) hx hb dX7_setWeight_94 (by decide) ?_
            refine lv_iadd hx hb dX7_setWeight_95 ?_
            refine pm_put (ci := 9) (v := .int ((k 0 2) + 1)) (ty := .int) (C := RX7) (T := TX7) (N := 21) hx hb hts hin_X7 tyX7 tyX7_ok nmX7 hown hw (hk.q (i := 0) (by decide)) (hk.f (i := 0) (by decide)) rfl 4 (by decide) (hts (.fieldLink RX7 77 "BackdaterModel" "tariffs" "I") (by decide +kernel)) (fun _ h9 => h9) rfl (by decide +kernel) rfl rfl (Nat.le_of_ble_eq_true rfl) dX7_setWeight_96 (fun H locs hw => ?_)
            have hk := hk.s2 ((k 0 2) + 1)
            refine lv_aload_n hx hb dX7_setWeight_99 rfl (lv_at hl 0 rfl) ?_
            refine pm_get (ci := 9) (v := .int ((k 0 2) + 1)) (C := RX7) (T := TX7) (N := 21) hx hb hts hin_X7 hown hw (hk.q (i := 0) (by decide)) (hk.f (i := 0) (by decide)) rfl 4 (by decide) (hts (.fieldLink RX7 77 "BackdaterModel" "tariffs" "I") (by decide +kernel)) (fun _ h9 => h9) rfl dX7_setWeight_100 ?_
            exact pr_i (v := ((k 0 2) + 1)) hx hb hr hlocks hw rfl ⟨Nat.le_of_ble_eq_true rfl, Nat.le_of_ble_eq_true rfl⟩ (Or.inr ⟨h1, ⟨h2, h3⟩, h4, (by rw [ht0]), rfl, hk⟩) dX7_setWeight_103
          · exact absurd (by decide) c_54
        · have h4 : t0 = 20 := (nI_eq (a := t0) (b := 20) (by omega) (by decide)).mp (by rw [ht0] at c_39; exact c_39)
          refine lv_iconst (v := 3) hx hb dX7_setWeight_42 (by decide) ?_
          refine lv_goto (tgt := 47) hx hb dX7_setWeight_43 (by decide) ?_
          refine pm_put (ci := 9) (v := .int 3) (ty := .int) (C := RX7) (T := TX7) (N := 21) hx hb hts hin_X7 tyX7 tyX7_ok nmX7 hown hw (hk.q (i := 0) (by decide)) (hk.f (i := 0) (by decide)) rfl 20 (by decide) (hts (.fieldLink RX7 59 "BackdaterModel" "thrown" "I") (by decide +kernel)) (fun _ h9 => h9) rfl (by decide +kernel) rfl rfl (Nat.le_of_ble_eq_true rfl) dX7_setWeight_47 (fun H locs hw => ?_)
          have hk := hk.s4 3
          refine lv_aload_n hx hb dX7_setWeight_50 rfl (lv_at hl 0 rfl) ?_
          refine pm_get (ci := 9) (v := .int 3) (C := RX7) (T := TX7) (N := 21) hx hb hts hin_X7 hown hw (hk.q (i := 0) (by decide)) (hk.f (i := 0) (by decide)) rfl 20 (by decide) (hts (.fieldLink RX7 59 "BackdaterModel" "thrown" "I") (by decide +kernel)) (fun _ h9 => h9) rfl dX7_setWeight_51 ?_
          refine lv_if_le (tgt := 59) hx hb dX7_setWeight_54 (by decide) (fun c_54 => ?_) (fun c_54 => ?_)
          · exact absurd c_54 (by decide)
          · refine lv_iconst (v := 0) hx hb dX7_setWeight_57 (by decide) ?_
            exact pr_i (v := 0) hx hb hr hlocks hw rfl ⟨Nat.le_of_ble_eq_true rfl, Nat.le_of_ble_eq_true rfl⟩ (Or.inl ⟨3, Or.inr ⟨h1, Or.inr ⟨⟨h2, h3⟩, Or.inl ⟨fun h9 => h9 h4, rfl⟩⟩⟩, rfl, hk⟩) dX7_setWeight_58
      · have h3 : ¬ mDay z := b2i_eq0 (hE_23 ▸ c_26)
        refine lv_iconst (v := 2) hx hb dX7_setWeight_29 (by decide) ?_
        refine lv_goto (tgt := 47) hx hb dX7_setWeight_30 (by decide) ?_
        refine pm_put (ci := 9) (v := .int 2) (ty := .int) (C := RX7) (T := TX7) (N := 21) hx hb hts hin_X7 tyX7 tyX7_ok nmX7 hown hw (hk.q (i := 0) (by decide)) (hk.f (i := 0) (by decide)) rfl 20 (by decide) (hts (.fieldLink RX7 59 "BackdaterModel" "thrown" "I") (by decide +kernel)) (fun _ h9 => h9) rfl (by decide +kernel) rfl rfl (Nat.le_of_ble_eq_true rfl) dX7_setWeight_47 (fun H locs hw => ?_)
        have hk := hk.s4 2
        refine lv_aload_n hx hb dX7_setWeight_50 rfl (lv_at hl 0 rfl) ?_
        refine pm_get (ci := 9) (v := .int 2) (C := RX7) (T := TX7) (N := 21) hx hb hts hin_X7 hown hw (hk.q (i := 0) (by decide)) (hk.f (i := 0) (by decide)) rfl 20 (by decide) (hts (.fieldLink RX7 59 "BackdaterModel" "thrown" "I") (by decide +kernel)) (fun _ h9 => h9) rfl dX7_setWeight_51 ?_
        refine lv_if_le (tgt := 59) hx hb dX7_setWeight_54 (by decide) (fun c_54 => ?_) (fun c_54 => ?_)
        · exact absurd c_54 (by decide)
        · refine lv_iconst (v := 0) hx hb dX7_setWeight_57 (by decide) ?_
          exact pr_i (v := 0) hx hb hr hlocks hw rfl ⟨Nat.le_of_ble_eq_true rfl, Nat.le_of_ble_eq_true rfl⟩ (Or.inl ⟨2, Or.inr ⟨h1, Or.inl ⟨fun h9 => h3 h9.2, rfl⟩⟩, rfl, hk⟩) dX7_setWeight_58
  · have h1 : ¬ mFld y := b2i_eq0 (hE_2 ▸ c_5)
    refine lv_iconst (v := 1) hx hb dX7_setWeight_8 (by decide) ?_
    refine lv_goto (tgt := 47) hx hb dX7_setWeight_9 (by decide) ?_
    refine pm_put (ci := 9) (v := .int 1) (ty := .int) (C := RX7) (T := TX7) (N := 21) hx hb hts hin_X7 tyX7 tyX7_ok nmX7 hown hw (hk.q (i := 0) (by decide)) (hk.f (i := 0) (by decide)) rfl 20 (by decide) (hts (.fieldLink RX7 59 "BackdaterModel" "thrown" "I") (by decide +kernel)) (fun _ h9 => h9) rfl (by decide +kernel) rfl rfl (Nat.le_of_ble_eq_true rfl) dX7_setWeight_47 (fun H locs hw => ?_)
    have hk := hk.s4 1
    refine lv_aload_n hx hb dX7_setWeight_50 rfl (lv_at hl 0 rfl) ?_
    refine pm_get (ci := 9) (v := .int 1) (C := RX7) (T := TX7) (N := 21) hx hb hts hin_X7 hown hw (hk.q (i := 0) (by decide)) (hk.f (i := 0) (by decide)) rfl 20 (by decide) (hts (.fieldLink RX7 59 "BackdaterModel" "thrown" "I") (by decide +kernel)) (fun _ h9 => h9) rfl dX7_setWeight_51 ?_
    refine lv_if_le (tgt := 59) hx hb dX7_setWeight_54 (by decide) (fun c_54 => ?_) (fun c_54 => ?_)
    · exact absurd c_54 (by decide)
    · refine lv_iconst (v := 0) hx hb dX7_setWeight_57 (by decide) ?_
      exact pr_i (v := 0) hx hb hr hlocks hw rfl ⟨Nat.le_of_ble_eq_true rfl, Nat.le_of_ble_eq_true rfl⟩ (Or.inl ⟨1, Or.inl ⟨h1, rfl⟩, rfl, hk⟩) dX7_setWeight_58

set_option maxHeartbeats 4000000 in
set_option maxRecDepth 100000 in
theorem m_pass (l : Launch) (g : GE) (L : List Nat) (f : Nat → va_E) (a : Nat → Nat) (k : MS) (hk : MW g a k L f) (x : Int32) : Mi l yX7_pass wsX7_pass (rmH 1 0 0) g L f [.ref (a 0), .int x] (fun r u => (∃ t, exT [(1, inP x 1 100)] t ∧ ScM g a (mT k t) L u) ∨ (inP x 1 100 ∧ r = k 0 1 + x ∧ ScM g a (mS (mT k 0) 0 1 (k 0 1 + x)) L u)) 0 0 := by
  intro sz
  refine Met.ofW (cc := cX7_pass) (maxL := 2) (ret := (some .int)) (by decide) rfl ?_
  intro p e s m args below meth c s₁ B hml hv
  obtain ⟨rfl, hv⟩ := hv
  have hx := B.exec
  have hb := B.bytes
  have hr := B.returns
  have hts := atoms_spec (ws := wsX7_pass) B.pre
  have hown : s.vm.findClass RX7 = some m.cls := findClass_of_methodNamed B.named
  have hlocks := B.notSynchronized
  obtain ⟨rfl, hw, hs⟩ := pm_begin hv
  generalize va_A (va_pl L f) s.heap.size = A at hw hs ⊢
  have CF := (⟨hx, hb, hml, hown, hts⟩ : CallFix p m c cX7_pass 2 s _ wsX7_pass RX7)
  have hin_X7 : ∀ w ∈ wsX70, w ∈ wsX7_pass := by decide +kernel
  have hl := lv_entry ([.ref (a 0), .int x]) (n := 2) (Nat.le_of_ble_eq_true rfl)
  rw [lg_entry_eq]
  generalize (lg_sl ([.ref (a 0), .int x]) ++ List.replicate (2 - (lg_sl ([.ref (a 0), .int x])).length) Slot.unset).toArray = ls at hl ⊢
  have hl : lv_has ls 2 [(0, .ref (a 0)), (1, .int x)] := hl
  refine lv_aload_n hx hb dX7_pass_0 rfl (lv_at hl 0 rfl) ?_
  refine lv_iload_n hx hb dX7_pass_1 rfl (lv_at hl 1 rfl) ?_
  refine lv_iconst (v := 1) hx hb dX7_pass_2 (by decide) ?_
  refine lv_bipush (v := 100) hx hb dX7_pass_3 (by decide) ?_
  refine pc_i hw (va_runS (As := [.int x, .int 1, .int 100]) (rest := [.ref (a 0)]) CF (m_isIn l g L _ x 1 100 _) (va_cwS 3 hts gX7_pass_X7_isIn rfl rfl rfl (by decide +kernel) ⟨Nat.le_of_ble_eq_true rfl, Nat.le_of_ble_eq_true rfl⟩) (pm_preS hw hs) rfl rfl hl.1 rfl (lv_room (Nat.le_of_ble_eq_true rfl)) dX7_pass_5 ⟨Nat.le_of_ble_eq_true rfl, Nat.le_of_ble_eq_true rfl⟩) (fun r L1 f1 H locs hp hw => ?_)
  obtain ⟨hE_5, hu⟩ := hp
  obtain rfl : _ = L1 := (congrArg Prod.fst hu).symm
  obtain rfl : _ = f1 := (congrArg Prod.snd hu).symm
  generalize r = r_5 at hE_5 ⊢
  refine lv_if_eq (tgt := 15) hx hb dX7_pass_8 (by decide) (fun c_8 => ?_) (fun c_8 => ?_)
  · have h1 : ¬ inP x 1 100 := b2i_eq0 (hE_5 ▸ c_8)
    refine lv_iconst (v := 1) hx hb dX7_pass_15 (by decide) ?_
    refine pm_put (ci := 9) (v := .int 1) (ty := .int) (C := RX7) (T := TX7) (N := 21) hx hb hts hin_X7 tyX7 tyX7_ok nmX7 hown hw (hk.q (i := 0) (by decide)) (hk.f (i := 0) (by decide)) rfl 20 (by decide) (hts (.fieldLink RX7 59 "BackdaterModel" "thrown" "I") (by decide +kernel)) (fun _ h9 => h9) rfl (by decide +kernel) rfl rfl (Nat.le_of_ble_eq_true rfl) dX7_pass_16 (fun H locs hw => ?_)
    have hk := hk.s4 1
    refine lv_aload_n hx hb dX7_pass_19 rfl (lv_at hl 0 rfl) ?_
    refine pm_get (ci := 9) (v := .int 1) (C := RX7) (T := TX7) (N := 21) hx hb hts hin_X7 hown hw (hk.q (i := 0) (by decide)) (hk.f (i := 0) (by decide)) rfl 20 (by decide) (hts (.fieldLink RX7 59 "BackdaterModel" "thrown" "I") (by decide +kernel)) (fun _ h9 => h9) rfl dX7_pass_20 ?_
    refine lv_if_le (tgt := 28) hx hb dX7_pass_23 (by decide) (fun c_23 => ?_) (fun c_23 => ?_)
    · exact absurd c_23 (by decide)
    · refine lv_iconst (v := 0) hx hb dX7_pass_26 (by decide) ?_
      exact pr_i (v := 0) hx hb hr hlocks hw rfl ⟨Nat.le_of_ble_eq_true rfl, Nat.le_of_ble_eq_true rfl⟩ (Or.inl ⟨1, Or.inl ⟨h1, rfl⟩, rfl, hk⟩) dX7_pass_27
  · have h1 : inP x 1 100 := b2i_ne0 (hE_5 ▸ c_8)
    refine lv_iconst (v := 0) hx hb dX7_pass_11 (by decide) ?_
    refine lv_goto (tgt := 16) hx hb dX7_pass_12 (by decide) ?_
    refine pm_put (ci := 9) (v := .int 0) (ty := .int) (C := RX7) (T := TX7) (N := 21) hx hb hts hin_X7 tyX7 tyX7_ok nmX7 hown hw (hk.q (i := 0) (by decide)) (hk.f (i := 0) (by decide)) rfl 20 (by decide) (hts (.fieldLink RX7 59 "BackdaterModel" "thrown" "I") (by decide +kernel)) (fun _ h9 => h9) rfl (by decide +kernel) rfl rfl (Nat.le_of_ble_eq_true rfl) dX7_pass_16 (fun H locs hw => ?_)
    have hk := hk.s4 0
    refine lv_aload_n hx hb dX7_pass_19 rfl (lv_at hl 0 rfl) ?_
    refine pm_get (ci := 9) (v := .int 0) (C := RX7) (T := TX7) (N := 21) hx hb hts hin_X7 hown hw (hk.q (i := 0) (by decide)) (hk.f (i := 0) (by decide)) rfl 20 (by decide) (hts (.fieldLink RX7 59 "BackdaterModel" "thrown" "I") (by decide +kernel)) (fun _ h9 => h9) rfl dX7_pass_20 ?_
    refine lv_if_le (tgt := 28) hx hb dX7_pass_23 (by decide) (fun c_23 => ?_) (fun c_23 => ?_)
    · refine lv_aload_n hx hb dX7_pass_28 rfl (lv_at hl 0 rfl) ?_
      refine lv_dup hx hb dX7_pass_29 rfl ?_
      refine pm_get (ci := 9) (v := .int (k 0 1)) (C := RX7) (T := TX7) (N := 21) hx hb hts hin_X7 hown hw (hk.q (i := 0) (by decide)) (hk.f (i := 0) (by decide)) rfl 3 (by decide) (hts (.fieldLink RX7 80 "BackdaterModel" "today" "I") (by decide +kernel)) (fun _ h9 => h9) rfl dX7_pass_30 ?_
      refine lv_iload_n hx hb dX7_pass_33 rfl (lv_at hl 1 rfl) ?_
      refine lv_iadd hx hb dX7_pass_34 ?_
      refine pm_put (ci := 9) (v := .int ((k 0 1) + x)) (ty := .int) (C := RX7) (T := TX7) (N := 21) hx hb hts hin_X7 tyX7 tyX7_ok nmX7 hown hw (hk.q (i := 0) (by decide)) (hk.f (i := 0) (by decide)) rfl 3 (by decide) (hts (.fieldLink RX7 80 "BackdaterModel" "today" "I") (by decide +kernel)) (fun _ h9 => h9) rfl (by decide +kernel) rfl rfl (Nat.le_of_ble_eq_true rfl) dX7_pass_35 (fun H locs hw => ?_)
      have hk := hk.s1 ((k 0 1) + x)
      refine lv_aload_n hx hb dX7_pass_38 rfl (lv_at hl 0 rfl) ?_
      refine pm_get (ci := 9) (v := .int ((k 0 1) + x)) (C := RX7) (T := TX7) (N := 21) hx hb hts hin_X7 hown hw (hk.q (i := 0) (by decide)) (hk.f (i := 0) (by decide)) rfl 3 (by decide) (hts (.fieldLink RX7 80 "BackdaterModel" "today" "I") (by decide +kernel)) (fun _ h9 => h9) rfl dX7_pass_39 ?_
      exact pr_i (v := ((k 0 1) + x)) hx hb hr hlocks hw rfl ⟨Nat.le_of_ble_eq_true rfl, Nat.le_of_ble_eq_true rfl⟩ (Or.inr ⟨h1, rfl, rfl, hk⟩) dX7_pass_42
    · exact absurd (by decide) c_23

set_option maxHeartbeats 4000000 in
set_option maxRecDepth 100000 in
theorem m_today (l : Launch) (g : GE) (L : List Nat) (f : Nat → va_E) (a : Nat → Nat) (k : MS) (hk : MW g a k L f)  : Mi l yX7_today wsX7_today (rmH 0 0 0) g L f [.ref (a 0)] (fun r u => r = k 0 1 ∧ ScM g a (mT k 0) L u) 0 0 := by
  intro sz
  refine Met.ofW (cc := cX7_today) (maxL := 1) (ret := (some .int)) (by decide) rfl ?_
  intro p e s m args below meth c s₁ B hml hv
  obtain ⟨rfl, hv⟩ := hv
  have hx := B.exec
  have hb := B.bytes
  have hr := B.returns
  have hts := atoms_spec (ws := wsX7_today) B.pre
  have hown : s.vm.findClass RX7 = some m.cls := findClass_of_methodNamed B.named
  have hlocks := B.notSynchronized
  obtain ⟨rfl, hw, hs⟩ := pm_begin hv
  generalize va_A (va_pl L f) s.heap.size = A at hw hs ⊢
  have CF := (⟨hx, hb, hml, hown, hts⟩ : CallFix p m c cX7_today 1 s _ wsX7_today RX7)
  have hin_X7 : ∀ w ∈ wsX70, w ∈ wsX7_today := by decide +kernel
  have hl := lv_entry ([.ref (a 0)]) (n := 1) (Nat.le_of_ble_eq_true rfl)
  rw [lg_entry_eq]
  generalize (lg_sl ([.ref (a 0)]) ++ List.replicate (1 - (lg_sl ([.ref (a 0)])).length) Slot.unset).toArray = ls at hl ⊢
  have hl : lv_has ls 1 [(0, .ref (a 0))] := hl
  refine lv_aload_n hx hb dX7_today_0 rfl (lv_at hl 0 rfl) ?_
  refine lv_iconst (v := 0) hx hb dX7_today_1 (by decide) ?_
  refine pm_put (ci := 9) (v := .int 0) (ty := .int) (C := RX7) (T := TX7) (N := 21) hx hb hts hin_X7 tyX7 tyX7_ok nmX7 hown hw (hk.q (i := 0) (by decide)) (hk.f (i := 0) (by decide)) rfl 20 (by decide) (hts (.fieldLink RX7 59 "BackdaterModel" "thrown" "I") (by decide +kernel)) (fun _ h9 => h9) rfl (by decide +kernel) rfl rfl (Nat.le_of_ble_eq_true rfl) dX7_today_2 (fun H locs hw => ?_)
  have hk := hk.s4 0
  refine lv_aload_n hx hb dX7_today_5 rfl (lv_at hl 0 rfl) ?_
  refine pm_get (ci := 9) (v := .int (k 0 1)) (C := RX7) (T := TX7) (N := 21) hx hb hts hin_X7 hown hw (hk.q (i := 0) (by decide)) (hk.f (i := 0) (by decide)) rfl 3 (by decide) (hts (.fieldLink RX7 80 "BackdaterModel" "today" "I") (by decide +kernel)) (fun _ h9 => h9) rfl dX7_today_6 ?_
  exact pr_i (v := (k 0 1)) hx hb hr hlocks hw rfl ⟨Nat.le_of_ble_eq_true rfl, Nat.le_of_ble_eq_true rfl⟩ (⟨rfl, rfl, hk⟩) dX7_today_9

set_option maxHeartbeats 4000000 in
set_option maxRecDepth 100000 in
theorem m_changes (l : Launch) (g : GE) (L : List Nat) (f : Nat → va_E) (a : Nat → Nat) (k : MS) (hk : MW g a k L f)  : Mi l yX7_changes wsX7_changes (rmH 0 0 0) g L f [.ref (a 0)] (fun r u => r = k 0 3 ∧ ScM g a (mT k 0) L u) 0 0 := by
  intro sz
  refine Met.ofW (cc := cX7_changes) (maxL := 1) (ret := (some .int)) (by decide) rfl ?_
  intro p e s m args below meth c s₁ B hml hv
  obtain ⟨rfl, hv⟩ := hv
  have hx := B.exec
  have hb := B.bytes
  have hr := B.returns
  have hts := atoms_spec (ws := wsX7_changes) B.pre
  have hown : s.vm.findClass RX7 = some m.cls := findClass_of_methodNamed B.named
  have hlocks := B.notSynchronized
  obtain ⟨rfl, hw, hs⟩ := pm_begin hv
  generalize va_A (va_pl L f) s.heap.size = A at hw hs ⊢
  have CF := (⟨hx, hb, hml, hown, hts⟩ : CallFix p m c cX7_changes 1 s _ wsX7_changes RX7)
  have hin_X7 : ∀ w ∈ wsX70, w ∈ wsX7_changes := by decide +kernel
  have hl := lv_entry ([.ref (a 0)]) (n := 1) (Nat.le_of_ble_eq_true rfl)
  rw [lg_entry_eq]
  generalize (lg_sl ([.ref (a 0)]) ++ List.replicate (1 - (lg_sl ([.ref (a 0)])).length) Slot.unset).toArray = ls at hl ⊢
  have hl : lv_has ls 1 [(0, .ref (a 0))] := hl
  refine lv_aload_n hx hb dX7_changes_0 rfl (lv_at hl 0 rfl) ?_
  refine lv_iconst (v := 0) hx hb dX7_changes_1 (by decide) ?_
  refine pm_put (ci := 9) (v := .int 0) (ty := .int) (C := RX7) (T := TX7) (N := 21) hx hb hts hin_X7 tyX7 tyX7_ok nmX7 hown hw (hk.q (i := 0) (by decide)) (hk.f (i := 0) (by decide)) rfl 20 (by decide) (hts (.fieldLink RX7 59 "BackdaterModel" "thrown" "I") (by decide +kernel)) (fun _ h9 => h9) rfl (by decide +kernel) rfl rfl (Nat.le_of_ble_eq_true rfl) dX7_changes_2 (fun H locs hw => ?_)
  have hk := hk.s4 0
  refine lv_aload_n hx hb dX7_changes_5 rfl (lv_at hl 0 rfl) ?_
  refine pm_get (ci := 9) (v := .int (k 0 3)) (C := RX7) (T := TX7) (N := 21) hx hb hts hin_X7 hown hw (hk.q (i := 0) (by decide)) (hk.f (i := 0) (by decide)) rfl 8 (by decide) (hts (.fieldLink RX7 86 "BackdaterModel" "changes" "I") (by decide +kernel)) (fun _ h9 => h9) rfl dX7_changes_6 ?_
  exact pr_i (v := (k 0 3)) hx hb hr hlocks hw rfl ⟨Nat.le_of_ble_eq_true rfl, Nat.le_of_ble_eq_true rfl⟩ (⟨rfl, rfl, hk⟩) dX7_changes_9

abbrev mTell (k : MS) (n0 : Nat) (x kd y z w : Int32) : MS := (mS (mS (mS (mS (mS (mS (mS (mS (mT k 0) 6 n0 x) 7 n0 kd) 8 n0 y) 9 n0 z) 10 n0 w) 11 n0 (k 0 1)) 12 n0 (-1)) 0 3 (k 0 3 + 1))
set_option maxHeartbeats 4000000 in
set_option maxRecDepth 100000 in
theorem m_tells (l : Launch) (g : GE) (L : List Nat) (f : Nat → va_E) (a : Nat → Nat) (k : MS) (hk : MW g a k L f) (p0 t0 n0 : Nat) (hI : MInv k p0 t0 n0) (x kd y z w rt : Int32) : Mi l yX7_tells wsX7_tells (rmH 2 0 0) g L f [.ref (a 0), .int x, .int kd, .int y, .int z, .int w, .int rt] (fun r u => (∃ t, exT [(1, mPol k x ∧ mFld y), (2, mDay z ∧ rt ≠ 0), (3, ¬ n0 = 60)] t ∧ ScM g a (mT k t) L u) ∨ ((mPol k x ∧ mFld y) ∧ (mDay z ∧ rt ≠ 0) ∧ ¬ n0 = 60 ∧ r = nI n0 ∧ ScM g a (mTell k n0 x kd y z w) L u)) 0 0 := by
  intro sz
  refine Met.ofW (cc := cX7_tells) (maxL := 7) (ret := (some .int)) (by decide) rfl ?_
  intro p e s m args below meth c s₁ B hml hv
  obtain ⟨rfl, hv⟩ := hv
  have hx := B.exec
  have hb := B.bytes
  have hr := B.returns
  have hts := atoms_spec (ws := wsX7_tells) B.pre
  have hown : s.vm.findClass RX7 = some m.cls := findClass_of_methodNamed B.named
  have hlocks := B.notSynchronized
  obtain ⟨rfl, hw, hs⟩ := pm_begin hv
  generalize va_A (va_pl L f) s.heap.size = A at hw hs ⊢
  have CF := (⟨hx, hb, hml, hown, hts⟩ : CallFix p m c cX7_tells 7 s _ wsX7_tells RX7)
  have hin_X7 : ∀ w ∈ wsX70, w ∈ wsX7_tells := by decide +kernel
  have hl := lv_entry ([.ref (a 0), .int x, .int kd, .int y, .int z, .int w, .int rt]) (n := 7) (Nat.le_of_ble_eq_true rfl)
  rw [lg_entry_eq]
  generalize (lg_sl ([.ref (a 0), .int x, .int kd, .int y, .int z, .int w, .int rt]) ++ List.replicate (7 - (lg_sl ([.ref (a 0), .int x, .int kd, .int y, .int z, .int w, .int rt])).length) Slot.unset).toArray = ls at hl ⊢
  have hl : lv_has ls 7 [(0, .ref (a 0)), (1, .int x), (2, .int kd), (3, .int y), (4, .int z), (5, .int w), (6, .int rt)] := hl
  obtain ⟨⟨hp0, ht0, hn0⟩, hpl, htl, hnl⟩ := hI
  refine lv_aload_n hx hb dX7_tells_0 rfl (lv_at hl 0 rfl) ?_
  refine lv_aload_n hx hb dX7_tells_1 rfl (lv_at hl 0 rfl) ?_
  refine lv_iload_n hx hb dX7_tells_2 rfl (lv_at hl 1 rfl) ?_
  refine pc_i hw (va_runV (As := [.int x]) (rest := [.ref (a 0)]) CF (m_isPolicy l g L _ a k hk x _) (cwV 1 hts gX7_tells_X7_isPolicy rfl rfl rfl (by decide +kernel) ⟨Nat.le_of_ble_eq_true rfl, Nat.le_of_ble_eq_true rfl⟩) (pm_preV hw hs (pm_recv hw (hk.q (i := 0) (by decide)) (hk.f (i := 0) (by decide)) rfl)) rfl rfl hl.1 rfl (lv_room (Nat.le_of_ble_eq_true rfl)) dX7_tells_3 ⟨Nat.le_of_ble_eq_true rfl, Nat.le_of_ble_eq_true rfl⟩) (fun r L1 f1 H locs hp hw => ?_)
  obtain ⟨hE_3, hu⟩ := hp
  obtain rfl : _ = L1 := (congrArg Prod.fst hu).symm
  obtain rfl : _ = f1 := (congrArg Prod.snd hu).symm
  generalize r = r_3 at hE_3 ⊢
  refine lv_if_eq (tgt := 16) hx hb dX7_tells_6 (by decide) (fun c_6 => ?_) (fun c_6 => ?_)
  · have h1 : ¬ mPol k x := b2i_eq0 (hE_3 ▸ c_6)
    refine lv_iconst (v := 1) hx hb dX7_tells_16 (by decide) ?_
    refine lv_goto (tgt := 51) hx hb dX7_tells_17 (by decide) ?_
    refine pm_put (ci := 9) (v := .int 1) (ty := .int) (C := RX7) (T := TX7) (N := 21) hx hb hts hin_X7 tyX7 tyX7_ok nmX7 hown hw (hk.q (i := 0) (by decide)) (hk.f (i := 0) (by decide)) rfl 20 (by decide) (hts (.fieldLink RX7 59 "BackdaterModel" "thrown" "I") (by decide +kernel)) (fun _ h9 => h9) rfl (by decide +kernel) rfl rfl (Nat.le_of_ble_eq_true rfl) dX7_tells_51 (fun H locs hw => ?_)
    have hk := hk.s4 1
    refine lv_aload_n hx hb dX7_tells_54 rfl (lv_at hl 0 rfl) ?_
    refine pm_get (ci := 9) (v := .int 1) (C := RX7) (T := TX7) (N := 21) hx hb hts hin_X7 hown hw (hk.q (i := 0) (by decide)) (hk.f (i := 0) (by decide)) rfl 20 (by decide) (hts (.fieldLink RX7 59 "BackdaterModel" "thrown" "I") (by decide +kernel)) (fun _ h9 => h9) rfl dX7_tells_55 ?_
    refine lv_if_le (tgt := 63) hx hb dX7_tells_58 (by decide) (fun c_58 => ?_) (fun c_58 => ?_)
    · exact absurd c_58 (by decide)
    · refine lv_iconst (v := 0) hx hb dX7_tells_61 (by decide) ?_
      exact pr_i (v := 0) hx hb hr hlocks hw rfl ⟨Nat.le_of_ble_eq_true rfl, Nat.le_of_ble_eq_true rfl⟩ (Or.inl ⟨1, Or.inl ⟨fun h9 => h1 h9.1, rfl⟩, rfl, hk⟩) dX7_tells_62
  · have h1 : mPol k x := b2i_ne0 (hE_3 ▸ c_6)
    refine lv_iload_n hx hb dX7_tells_9 rfl (lv_at hl 3 rfl) ?_
    refine pc_i hw (va_runS (As := [.int y]) (rest := [.ref (a 0)]) CF (m_isField l g L _ y _) (va_cwS 1 hts gX7_tells_X7_isField rfl rfl rfl (by decide +kernel) ⟨Nat.le_of_ble_eq_true rfl, Nat.le_of_ble_eq_true rfl⟩) (pm_preS hw hs) rfl rfl hl.1 rfl (lv_room (Nat.le_of_ble_eq_true rfl)) dX7_tells_10 ⟨Nat.le_of_ble_eq_true rfl, Nat.le_of_ble_eq_true rfl⟩) (fun r L1 f1 H locs hp hw => ?_)
    obtain ⟨hE_10, hu⟩ := hp
    obtain rfl : _ = L1 := (congrArg Prod.fst hu).symm
    obtain rfl : _ = f1 := (congrArg Prod.snd hu).symm
    generalize r = r_10 at hE_10 ⊢
    refine lv_if_ne (tgt := 20) hx hb dX7_tells_13 (by decide) (fun c_13 => ?_) (fun c_13 => ?_)
    · have h2 : mFld y := b2i_ne0 (hE_10 ▸ c_13)
      refine lv_iload hx hb dX7_tells_20 (lv_at hl 4 rfl) ?_
      refine pc_i hw (va_runS (As := [.int z]) (rest := [.ref (a 0)]) CF (m_isDay l g L _ z _) (va_cwS 1 hts gX7_tells_X7_isDay rfl rfl rfl (by decide +kernel) ⟨Nat.le_of_ble_eq_true rfl, Nat.le_of_ble_eq_true rfl⟩) (pm_preS hw hs) rfl rfl hl.1 rfl (lv_room (Nat.le_of_ble_eq_true rfl)) dX7_tells_22 ⟨Nat.le_of_ble_eq_true rfl, Nat.le_of_ble_eq_true rfl⟩) (fun r L1 f1 H locs hp hw => ?_)
      obtain ⟨hE_22, hu⟩ := hp
      obtain rfl : _ = L1 := (congrArg Prod.fst hu).symm
      obtain rfl : _ = f1 := (congrArg Prod.snd hu).symm
      generalize r = r_22 at hE_22 ⊢
      refine lv_if_eq (tgt := 33) hx hb dX7_tells_25 (by decide) (fun c_25 => ?_) (fun c_25 => ?_)
      · have h3 : ¬ mDay z := b2i_eq0 (hE_22 ▸ c_25)
        refine lv_iconst (v := 2) hx hb dX7_tells_33 (by decide) ?_
        refine lv_goto (tgt := 51) hx hb dX7_tells_34 (by decide) ?_
        refine pm_put (ci := 9) (v := .int 2) (ty := .int) (C := RX7) (T := TX7) (N := 21) hx hb hts hin_X7 tyX7 tyX7_ok nmX7 hown hw (hk.q (i := 0) (by decide)) (hk.f (i := 0) (by decide)) rfl 20 (by decide) (hts (.fieldLink RX7 59 "BackdaterModel" "thrown" "I") (by decide +kernel)) (fun _ h9 => h9) rfl (by decide +kernel) rfl rfl (Nat.le_of_ble_eq_true rfl) dX7_tells_51 (fun H locs hw => ?_)
        have hk := hk.s4 2
        refine lv_aload_n hx hb dX7_tells_54 rfl (lv_at hl 0 rfl) ?_
        refine pm_get (ci := 9) (v := .int 2) (C := RX7) (T := TX7) (N := 21) hx hb hts hin_X7 hown hw (hk.q (i := 0) (by decide)) (hk.f (i := 0) (by decide)) rfl 20 (by decide) (hts (.fieldLink RX7 59 "BackdaterModel" "thrown" "I") (by decide +kernel)) (fun _ h9 => h9) rfl dX7_tells_55 ?_
        refine lv_if_le (tgt := 63) hx hb dX7_tells_58 (by decide) (fun c_58 => ?_) (fun c_58 => ?_)
        · exact absurd c_58 (by decide)
        · refine lv_iconst (v := 0) hx hb dX7_tells_61 (by decide) ?_
          exact pr_i (v := 0) hx hb hr hlocks hw rfl ⟨Nat.le_of_ble_eq_true rfl, Nat.le_of_ble_eq_true rfl⟩ (Or.inl ⟨2, Or.inr ⟨⟨h1, h2⟩, Or.inl ⟨fun h9 => h3 h9.1, rfl⟩⟩, rfl, hk⟩) dX7_tells_62
      · have h3 : mDay z := b2i_ne0 (hE_22 ▸ c_25)
        refine lv_iload hx hb dX7_tells_28 (lv_at hl 6 rfl) ?_
        refine lv_if_ne (tgt := 37) hx hb dX7_tells_30 (by decide) (fun c_30 => ?_) (fun c_30 => ?_)
        · refine lv_aload_n hx hb dX7_tells_37 rfl (lv_at hl 0 rfl) ?_
          refine pm_get (ci := 9) (v := .int (k 0 3)) (C := RX7) (T := TX7) (N := 21) hx hb hts hin_X7 hown hw (hk.q (i := 0) (by decide)) (hk.f (i := 0) (by decide)) rfl 8 (by decide) (hts (.fieldLink RX7 86 "BackdaterModel" "changes" "I") (by decide +kernel)) (fun _ h9 => h9) rfl dX7_tells_38 ?_
          refine lv_bipush (v := 60) hx hb dX7_tells_41 (by decide) ?_
          refine lv_icmp_ne (tgt := 50) hx hb dX7_tells_43 (by decide) (fun c_43 => ?_) (fun c_43 => ?_)
          · have h5 : ¬ n0 = 60 := fun h9 => c_43 (by rw [hn0, h9]; rfl)
            refine lv_iconst (v := 0) hx hb dX7_tells_50 (by decide) ?_
            refine pm_put (ci := 9) (v := .int 0) (ty := .int) (C := RX7) (T := TX7) (N := 21) hx hb hts hin_X7 tyX7 tyX7_ok nmX7 hown hw (hk.q (i := 0) (by decide)) (hk.f (i := 0) (by decide)) rfl 20 (by decide) (hts (.fieldLink RX7 59 "BackdaterModel" "thrown" "I") (by decide +kernel)) (fun _ h9 => h9) rfl (by decide +kernel) rfl rfl (Nat.le_of_ble_eq_true rfl) dX7_tells_51 (fun H locs hw => ?_)
            have hk := hk.s4 0
            refine lv_aload_n hx hb dX7_tells_54 rfl (lv_at hl 0 rfl) ?_
            refine pm_get (ci := 9) (v := .int 0) (C := RX7) (T := TX7) (N := 21) hx hb hts hin_X7 hown hw (hk.q (i := 0) (by decide)) (hk.f (i := 0) (by decide)) rfl 20 (by decide) (hts (.fieldLink RX7 59 "BackdaterModel" "thrown" "I") (by decide +kernel)) (fun _ h9 => h9) rfl dX7_tells_55 ?_
            refine lv_if_le (tgt := 63) hx hb dX7_tells_58 (by decide) (fun c_58 => ?_) (fun c_58 => ?_)
            · refine lv_aload_n hx hb dX7_tells_63 rfl (lv_at hl 0 rfl) ?_
              refine pm_get (ci := 9) (v := .ref (a 6)) (C := RX7) (T := TX7) (N := 21) hx hb hts hin_X7 hown hw (hk.q (i := 0) (by decide)) (hk.f (i := 0) (by decide)) rfl 9 (by decide) (hts (.fieldLink RX7 25 "BackdaterModel" "of" "[I") (by decide +kernel)) (fun _ h9 => h9) rfl dX7_tells_64 ?_
              refine lv_aload_n hx hb dX7_tells_67 rfl (lv_at hl 0 rfl) ?_
              refine pm_get (ci := 9) (v := .int (k 0 3)) (C := RX7) (T := TX7) (N := 21) hx hb hts hin_X7 hown hw (hk.q (i := 0) (by decide)) (hk.f (i := 0) (by decide)) rfl 8 (by decide) (hts (.fieldLink RX7 86 "BackdaterModel" "changes" "I") (by decide +kernel)) (fun _ h9 => h9) rfl dX7_tells_68 ?_
              refine lv_iload_n hx hb dX7_tells_71 rfl (lv_at hl 1 rfl) ?_
              refine pm_iast (n := 60) (r := (k 6)) hx hb hw (hk.q (i := 6) (by decide)) (hk.f (i := 6) (by decide)) (j := n0) (by rw [hn0]; exact nI_clamp (by omega)) (by rw [hn0]; exact vp_in_nI (by omega) (by decide)) dX7_tells_72 (fun H locs hw => ?_)
              have hk := hk.a6 (upd (k 6) n0 x)
              refine lv_aload_n hx hb dX7_tells_73 rfl (lv_at hl 0 rfl) ?_
              refine pm_get (ci := 9) (v := .ref (a 7)) (C := RX7) (T := TX7) (N := 21) hx hb hts hin_X7 hown hw (hk.q (i := 0) (by decide)) (hk.f (i := 0) (by decide)) rfl 10 (by decide) (hts (.fieldLink RX7 28 "BackdaterModel" "kind" "[I") (by decide +kernel)) (fun _ h9 => h9) rfl dX7_tells_74 ?_
              refine lv_aload_n hx hb dX7_tells_77 rfl (lv_at hl 0 rfl) ?_
              refine pm_get (ci := 9) (v := .int (k 0 3)) (C := RX7) (T := TX7) (N := 21) hx hb hts hin_X7 hown hw (hk.q (i := 0) (by decide)) (hk.f (i := 0) (by decide)) rfl 8 (by decide) (hts (.fieldLink RX7 86 "BackdaterModel" "changes" "I") (by decide +kernel)) (fun _ h9 => h9) rfl dX7_tells_78 ?_
              refine lv_iload_n hx hb dX7_tells_81 rfl (lv_at hl 2 rfl) ?_
              refine pm_iast (n := 60) (r := (k 7)) hx hb hw (hk.q (i := 7) (by decide)) (hk.f (i := 7) (by decide)) (j := n0) (by rw [hn0]; exact nI_clamp (by omega)) (by rw [hn0]; exact vp_in_nI (by omega) (by decide)) dX7_tells_82 (fun H locs hw => ?_)
              have hk := hk.a7 (upd (k 7) n0 kd)
              refine lv_aload_n hx hb dX7_tells_83 rfl (lv_at hl 0 rfl) ?_
              refine pm_get (ci := 9) (v := .ref (a 8)) (C := RX7) (T := TX7) (N := 21) hx hb hts hin_X7 hown hw (hk.q (i := 0) (by decide)) (hk.f (i := 0) (by decide)) rfl 11 (by decide) (hts (.fieldLink RX7 31 "BackdaterModel" "which" "[I") (by decide +kernel)) (fun _ h9 => h9) rfl dX7_tells_84 ?_
              refine lv_aload_n hx hb dX7_tells_87 rfl (lv_at hl 0 rfl) ?_
              refine pm_get (ci := 9) (v := .int (k 0 3)) (C := RX7) (T := TX7) (N := 21) hx hb hts hin_X7 hown hw (hk.q (i := 0) (by decide)) (hk.f (i := 0) (by decide)) rfl 8 (by decide) (hts (.fieldLink RX7 86 "BackdaterModel" "changes" "I") (by decide +kernel)) (fun _ h9 => h9) rfl dX7_tells_88 ?_
              refine lv_iload_n hx hb dX7_tells_91 rfl (lv_at hl 3 rfl) ?_
              refine pm_iast (n := 60) (r := (k 8)) hx hb hw (hk.q (i := 8) (by decide)) (hk.f (i := 8) (by decide)) (j := n0) (by rw [hn0]; exact nI_clamp (by omega)) (by rw [hn0]; exact vp_in_nI (by omega) (by decide)) dX7_tells_92 (fun H locs hw => ?_)
              have hk := hk.a8 (upd (k 8) n0 y)
              refine lv_aload_n hx hb dX7_tells_93 rfl (lv_at hl 0 rfl) ?_
              refine pm_get (ci := 9) (v := .ref (a 9)) (C := RX7) (T := TX7) (N := 21) hx hb hts hin_X7 hown hw (hk.q (i := 0) (by decide)) (hk.f (i := 0) (by decide)) rfl 12 (by decide) (hts (.fieldLink RX7 34 "BackdaterModel" "from" "[I") (by decide +kernel)) (fun _ h9 => h9) rfl dX7_tells_94 ?_
              refine lv_aload_n hx hb dX7_tells_97 rfl (lv_at hl 0 rfl) ?_
              refine pm_get (ci := 9) (v := .int (k 0 3)) (C := RX7) (T := TX7) (N := 21) hx hb hts hin_X7 hown hw (hk.q (i := 0) (by decide)) (hk.f (i := 0) (by decide)) rfl 8 (by decide) (hts (.fieldLink RX7 86 "BackdaterModel" "changes" "I") (by decide +kernel)) (fun _ h9 => h9) rfl dX7_tells_98 ?_
              refine lv_iload hx hb dX7_tells_101 (lv_at hl 4 rfl) ?_
              refine pm_iast (n := 60) (r := (k 9)) hx hb hw (hk.q (i := 9) (by decide)) (hk.f (i := 9) (by decide)) (j := n0) (by rw [hn0]; exact nI_clamp (by omega)) (by rw [hn0]; exact vp_in_nI (by omega) (by decide)) dX7_tells_103 (fun H locs hw => ?_)
              have hk := hk.a9 (upd (k 9) n0 z)
              refine lv_aload_n hx hb dX7_tells_104 rfl (lv_at hl 0 rfl) ?_
              refine pm_get (ci := 9) (v := .ref (a 10)) (C := RX7) (T := TX7) (N := 21) hx hb hts hin_X7 hown hw (hk.q (i := 0) (by decide)) (hk.f (i := 0) (by decide)) rfl 13 (by decide) (hts (.fieldLink RX7 37 "BackdaterModel" "number" "[I") (by decide +kernel)) (fun _ h9 => h9) rfl dX7_tells_105 ?_
              refine lv_aload_n hx hb dX7_tells_108 rfl (lv_at hl 0 rfl) ?_
              refine pm_get (ci := 9) (v := .int (k 0 3)) (C := RX7) (T := TX7) (N := 21) hx hb hts hin_X7 hown hw (hk.q (i := 0) (by decide)) (hk.f (i := 0) (by decide)) rfl 8 (by decide) (hts (.fieldLink RX7 86 "BackdaterModel" "changes" "I") (by decide +kernel)) (fun _ h9 => h9) rfl dX7_tells_109 ?_
              refine lv_iload hx hb dX7_tells_112 (lv_at hl 5 rfl) ?_
              refine pm_iast (n := 60) (r := (k 10)) hx hb hw (hk.q (i := 10) (by decide)) (hk.f (i := 10) (by decide)) (j := n0) (by rw [hn0]; exact nI_clamp (by omega)) (by rw [hn0]; exact vp_in_nI (by omega) (by decide)) dX7_tells_114 (fun H locs hw => ?_)
              have hk := hk.a10 (upd (k 10) n0 w)
              refine lv_aload_n hx hb dX7_tells_115 rfl (lv_at hl 0 rfl) ?_
              refine pm_get (ci := 9) (v := .ref (a 11)) (C := RX7) (T := TX7) (N := 21) hx hb hts hin_X7 hown hw (hk.q (i := 0) (by decide)) (hk.f (i := 0) (by decide)) rfl 14 (by decide) (hts (.fieldLink RX7 40 "BackdaterModel" "told" "[I") (by decide +kernel)) (fun _ h9 => h9) rfl dX7_tells_116 ?_
              refine lv_aload_n hx hb dX7_tells_119 rfl (lv_at hl 0 rfl) ?_
              refine pm_get (ci := 9) (v := .int (k 0 3)) (C := RX7) (T := TX7) (N := 21) hx hb hts hin_X7 hown hw (hk.q (i := 0) (by decide)) (hk.f (i := 0) (by decide)) rfl 8 (by decide) (hts (.fieldLink RX7 86 "BackdaterModel" "changes" "I") (by decide +kernel)) (fun _ h9 => h9) rfl dX7_tells_120 ?_
              refine lv_aload_n hx hb dX7_tells_123 rfl (lv_at hl 0 rfl) ?_
              refine pm_get (ci := 9) (v := .int (k 0 1)) (C := RX7) (T := TX7) (N := 21) hx hb hts hin_X7 hown hw (hk.q (i := 0) (by decide)) (hk.f (i := 0) (by decide)) rfl 3 (by decide) (hts (.fieldLink RX7 80 "BackdaterModel" "today" "I") (by decide +kernel)) (fun _ h9 => h9) rfl dX7_tells_124 ?_
              refine pm_iast (n := 60) (r := (k 11)) hx hb hw (hk.q (i := 11) (by decide)) (hk.f (i := 11) (by decide)) (j := n0) (by rw [hn0]; exact nI_clamp (by omega)) (by rw [hn0]; exact vp_in_nI (by omega) (by decide)) dX7_tells_127 (fun H locs hw => ?_)
              have hk := hk.a11 (upd (k 11) n0 (k 0 1))
              refine lv_aload_n hx hb dX7_tells_128 rfl (lv_at hl 0 rfl) ?_
              refine pm_get (ci := 9) (v := .ref (a 12)) (C := RX7) (T := TX7) (N := 21) hx hb hts hin_X7 hown hw (hk.q (i := 0) (by decide)) (hk.f (i := 0) (by decide)) rfl 15 (by decide) (hts (.fieldLink RX7 43 "BackdaterModel" "taken" "[I") (by decide +kernel)) (fun _ h9 => h9) rfl dX7_tells_129 ?_
              refine lv_aload_n hx hb dX7_tells_132 rfl (lv_at hl 0 rfl) ?_
              refine pm_get (ci := 9) (v := .int (k 0 3)) (C := RX7) (T := TX7) (N := 21) hx hb hts hin_X7 hown hw (hk.q (i := 0) (by decide)) (hk.f (i := 0) (by decide)) rfl 8 (by decide) (hts (.fieldLink RX7 86 "BackdaterModel" "changes" "I") (by decide +kernel)) (fun _ h9 => h9) rfl dX7_tells_133 ?_
              refine lv_iconst (v := (-1)) hx hb dX7_tells_136 (by decide) ?_
              refine pm_iast (n := 60) (r := (k 12)) hx hb hw (hk.q (i := 12) (by decide)) (hk.f (i := 12) (by decide)) (j := n0) (by rw [hn0]; exact nI_clamp (by omega)) (by rw [hn0]; exact vp_in_nI (by omega) (by decide)) dX7_tells_137 (fun H locs hw => ?_)
              have hk := hk.a12 (upd (k 12) n0 (-1))
              refine lv_aload_n hx hb dX7_tells_138 rfl (lv_at hl 0 rfl) ?_
              refine lv_dup hx hb dX7_tells_139 rfl ?_
              refine pm_get (ci := 9) (v := .int (k 0 3)) (C := RX7) (T := TX7) (N := 21) hx hb hts hin_X7 hown hw (hk.q (i := 0) (by decide)) (hk.f (i := 0) (by decide)) rfl 8 (by decide) (hts (.fieldLink RX7 86 "BackdaterModel" "changes" "I") (by decide +kernel)) (fun _ h9 => h9) rfl dX7_tells_140 ?_
              refine lv_iconst (v := 1) hx hb dX7_tells_143 (by decide) ?_
              refine lv_iadd hx hb dX7_tells_144 ?_
              refine pm_put (ci := 9) (v := .int ((k 0 3) + 1)) (ty := .int) (C := RX7) (T := TX7) (N := 21) hx hb hts hin_X7 tyX7 tyX7_ok nmX7 hown hw (hk.q (i := 0) (by decide)) (hk.f (i := 0) (by decide)) rfl 8 (by decide) (hts (.fieldLink RX7 86 "BackdaterModel" "changes" "I") (by decide +kernel)) (fun _ h9 => h9) rfl (by decide +kernel) rfl rfl (Nat.le_of_ble_eq_true rfl) dX7_tells_145 (fun H locs hw => ?_)
              have hk := hk.s3 ((k 0 3) + 1)
              refine lv_aload_n hx hb dX7_tells_148 rfl (lv_at hl 0 rfl) ?_
              refine pm_get (ci := 9) (v := .int ((k 0 3) + 1)) (C := RX7) (T := TX7) (N := 21) hx hb hts hin_X7 hown hw (hk.q (i := 0) (by decide)) (hk.f (i := 0) (by decide)) rfl 8 (by decide) (hts (.fieldLink RX7 86 "BackdaterModel" "changes" "I") (by decide +kernel)) (fun _ h9 => h9) rfl dX7_tells_149 ?_
              refine lv_iconst (v := 1) hx hb dX7_tells_152 (by decide) ?_
              refine lv_isub hx hb dX7_tells_153 ?_
              exact pr_i (v := (((k 0 3) + 1) - 1)) hx hb hr hlocks hw rfl ⟨Nat.le_of_ble_eq_true rfl, Nat.le_of_ble_eq_true rfl⟩ (Or.inr ⟨⟨h1, h2⟩, ⟨h3, c_30⟩, h5, (by rw [hn0]; exact nI_s1 n0), rfl, hk⟩) dX7_tells_154
            · exact absurd (by decide) c_58
          · have h5 : n0 = 60 := (nI_eq (a := n0) (b := 60) (by omega) (by decide)).mp (by rw [hn0] at c_43; exact c_43)
            refine lv_iconst (v := 3) hx hb dX7_tells_46 (by decide) ?_
            refine lv_goto (tgt := 51) hx hb dX7_tells_47 (by decide) ?_
            refine pm_put (ci := 9) (v := .int 3) (ty := .int) (C := RX7) (T := TX7) (N := 21) hx hb hts hin_X7 tyX7 tyX7_ok nmX7 hown hw (hk.q (i := 0) (by decide)) (hk.f (i := 0) (by decide)) rfl 20 (by decide) (hts (.fieldLink RX7 59 "BackdaterModel" "thrown" "I") (by decide +kernel)) (fun _ h9 => h9) rfl (by decide +kernel) rfl rfl (Nat.le_of_ble_eq_true rfl) dX7_tells_51 (fun H locs hw => ?_)
            have hk := hk.s4 3
            refine lv_aload_n hx hb dX7_tells_54 rfl (lv_at hl 0 rfl) ?_
            refine pm_get (ci := 9) (v := .int 3) (C := RX7) (T := TX7) (N := 21) hx hb hts hin_X7 hown hw (hk.q (i := 0) (by decide)) (hk.f (i := 0) (by decide)) rfl 20 (by decide) (hts (.fieldLink RX7 59 "BackdaterModel" "thrown" "I") (by decide +kernel)) (fun _ h9 => h9) rfl dX7_tells_55 ?_
            refine lv_if_le (tgt := 63) hx hb dX7_tells_58 (by decide) (fun c_58 => ?_) (fun c_58 => ?_)
            · exact absurd c_58 (by decide)
            · refine lv_iconst (v := 0) hx hb dX7_tells_61 (by decide) ?_
              exact pr_i (v := 0) hx hb hr hlocks hw rfl ⟨Nat.le_of_ble_eq_true rfl, Nat.le_of_ble_eq_true rfl⟩ (Or.inl ⟨3, Or.inr ⟨⟨h1, h2⟩, Or.inr ⟨⟨h3, c_30⟩, Or.inl ⟨fun h9 => h9 h5, rfl⟩⟩⟩, rfl, hk⟩) dX7_tells_62
        · refine lv_iconst (v := 2) hx hb dX7_tells_33 (by decide) ?_
          refine lv_goto (tgt := 51) hx hb dX7_tells_34 (by decide) ?_
          refine pm_put (ci := 9) (v := .int 2) (ty := .int) (C := RX7) (T := TX7) (N := 21) hx hb hts hin_X7 tyX7 tyX7_ok nmX7 hown hw (hk.q (i := 0) (by decide)) (hk.f (i := 0) (by decide)) rfl 20 (by decide) (hts (.fieldLink RX7 59 "BackdaterModel" "thrown" "I") (by decide +kernel)) (fun _ h9 => h9) rfl (by decide +kernel) rfl rfl (Nat.le_of_ble_eq_true rfl) dX7_tells_51 (fun H locs hw => ?_)
          have hk := hk.s4 2
          refine lv_aload_n hx hb dX7_tells_54 rfl (lv_at hl 0 rfl) ?_
          refine pm_get (ci := 9) (v := .int 2) (C := RX7) (T := TX7) (N := 21) hx hb hts hin_X7 hown hw (hk.q (i := 0) (by decide)) (hk.f (i := 0) (by decide)) rfl 20 (by decide) (hts (.fieldLink RX7 59 "BackdaterModel" "thrown" "I") (by decide +kernel)) (fun _ h9 => h9) rfl dX7_tells_55 ?_
          refine lv_if_le (tgt := 63) hx hb dX7_tells_58 (by decide) (fun c_58 => ?_) (fun c_58 => ?_)
          · exact absurd c_58 (by decide)
          · refine lv_iconst (v := 0) hx hb dX7_tells_61 (by decide) ?_
            exact pr_i (v := 0) hx hb hr hlocks hw rfl ⟨Nat.le_of_ble_eq_true rfl, Nat.le_of_ble_eq_true rfl⟩ (Or.inl ⟨2, Or.inr ⟨⟨h1, h2⟩, Or.inl ⟨fun h9 => h9.2 c_30, rfl⟩⟩, rfl, hk⟩) dX7_tells_62
    · have h2 : ¬ mFld y := b2i_eq0 (hE_10 ▸ c_13)
      refine lv_iconst (v := 1) hx hb dX7_tells_16 (by decide) ?_
      refine lv_goto (tgt := 51) hx hb dX7_tells_17 (by decide) ?_
      refine pm_put (ci := 9) (v := .int 1) (ty := .int) (C := RX7) (T := TX7) (N := 21) hx hb hts hin_X7 tyX7 tyX7_ok nmX7 hown hw (hk.q (i := 0) (by decide)) (hk.f (i := 0) (by decide)) rfl 20 (by decide) (hts (.fieldLink RX7 59 "BackdaterModel" "thrown" "I") (by decide +kernel)) (fun _ h9 => h9) rfl (by decide +kernel) rfl rfl (Nat.le_of_ble_eq_true rfl) dX7_tells_51 (fun H locs hw => ?_)
      have hk := hk.s4 1
      refine lv_aload_n hx hb dX7_tells_54 rfl (lv_at hl 0 rfl) ?_
      refine pm_get (ci := 9) (v := .int 1) (C := RX7) (T := TX7) (N := 21) hx hb hts hin_X7 hown hw (hk.q (i := 0) (by decide)) (hk.f (i := 0) (by decide)) rfl 20 (by decide) (hts (.fieldLink RX7 59 "BackdaterModel" "thrown" "I") (by decide +kernel)) (fun _ h9 => h9) rfl dX7_tells_55 ?_
      refine lv_if_le (tgt := 63) hx hb dX7_tells_58 (by decide) (fun c_58 => ?_) (fun c_58 => ?_)
      · exact absurd c_58 (by decide)
      · refine lv_iconst (v := 0) hx hb dX7_tells_61 (by decide) ?_
        exact pr_i (v := 0) hx hb hr hlocks hw rfl ⟨Nat.le_of_ble_eq_true rfl, Nat.le_of_ble_eq_true rfl⟩ (Or.inl ⟨1, Or.inl ⟨fun h9 => h2 h9.2, rfl⟩, rfl, hk⟩) dX7_tells_62

end MLEAF
