/-! leaves: what reads alone -/
section LEAF1
theorem i32_lt {a b : Int32} : a < b ↔ a.toInt < b.toInt := Int32.lt_iff_toInt_lt
theorem i32_le {a b : Int32} : a ≤ b ↔ a.toInt ≤ b.toInt := Int32.le_iff_toInt_le
theorem i32_0 : (0 : Int32).toInt = 0 := rfl
theorem i32_m1 : (-1 : Int32).toInt = -1 := rfl
theorem i32_3 : (3 : Int32).toInt = 3 := rfl
theorem i32_365 : (365 : Int32).toInt = 365 := rfl
def isF (x : Int32) : Prop := 0 ≤ x.toInt ∧ x.toInt < 3
def isD (x : Int32) : Prop := 0 ≤ x.toInt ∧ x.toInt < 365
noncomputable def known (to tb d : Int32) : Bool := decide (to.toInt ≤ d.toInt ∧ (tb.toInt = -1 ∨ d.toInt < tb.toInt))

set_option maxHeartbeats 4000000 in
set_option maxRecDepth 100000 in
theorem c_isField (l : Launch) (g : GE) (L : List Nat) (f : Nat → va_E) (x : Int32) : Mi l yX6_isField wsX6_isField (rmH 0 0 0) g L f [.int x] (fun r u => r = b2i (0 ≤ x.toInt ∧ x.toInt < 3) ∧ u = (L, f)) 0 0 := by
  intro sz
  refine Met.ofW (cc := cX6_isField) (maxL := 1) (ret := (some .boolean)) (by decide) rfl ?_
  intro p e s m args below meth c s₁ B hml hv
  obtain ⟨rfl, hv⟩ := hv
  have hx := B.exec
  have hb := B.bytes
  have hr := B.returns
  have hts := atoms_spec (ws := wsX6_isField) B.pre
  have hown : s.vm.findClass RX6 = some m.cls := findClass_of_methodNamed B.named
  have hlocks := B.notSynchronized
  obtain ⟨rfl, hw, hs⟩ := pm_begin hv
  generalize va_A (va_pl L f) s.heap.size = A at hw hs ⊢
  have CF := (⟨hx, hb, hml, hown, hts⟩ : CallFix p m c cX6_isField 1 s _ wsX6_isField RX6)
  have hl := lv_entry ([.int x]) (n := 1) (Nat.le_of_ble_eq_true rfl)
  rw [lg_entry_eq]
  generalize (lg_sl ([.int x]) ++ List.replicate (1 - (lg_sl ([.int x])).length) Slot.unset).toArray = ls at hl ⊢
  have hl : lv_has ls 1 [(0, .int x)] := hl
  refine lv_iload_n hx hb dX6_isField_0 rfl (lv_at hl 0 rfl) ?_
  refine lv_if_lt (tgt := 13) hx hb dX6_isField_1 (by decide) (fun c_1 => ?_) (fun c_1 => ?_)
  · refine lv_iconst (v := 0) hx hb dX6_isField_13 (by decide) ?_
    exact pr_i (v := 0) hx hb hr hlocks hw rfl ⟨Nat.le_of_ble_eq_true rfl, Nat.le_of_ble_eq_true rfl⟩ (⟨b2i_f (by simp only [i32_lt, i32_le, ← Int32.toInt_inj, i32_0, i32_m1, i32_3, i32_365] at c_1 c_1; omega), rfl⟩) dX6_isField_14
  · refine lv_iload_n hx hb dX6_isField_4 rfl (lv_at hl 0 rfl) ?_
    refine lv_iconst (v := 3) hx hb dX6_isField_5 (by decide) ?_
    refine lv_icmp_ge (tgt := 13) hx hb dX6_isField_6 (by decide) (fun c_6 => ?_) (fun c_6 => ?_)
    · refine lv_iconst (v := 0) hx hb dX6_isField_13 (by decide) ?_
      exact pr_i (v := 0) hx hb hr hlocks hw rfl ⟨Nat.le_of_ble_eq_true rfl, Nat.le_of_ble_eq_true rfl⟩ (⟨b2i_f (by simp only [i32_lt, i32_le, ← Int32.toInt_inj, i32_0, i32_m1, i32_3, i32_365] at c_1 c_1 c_6 c_6; omega), rfl⟩) dX6_isField_14
    · refine lv_iconst (v := 1) hx hb dX6_isField_9 (by decide) ?_
      refine lv_goto (tgt := 14) hx hb dX6_isField_10 (by decide) ?_
      exact pr_i (v := 1) hx hb hr hlocks hw rfl ⟨Nat.le_of_ble_eq_true rfl, Nat.le_of_ble_eq_true rfl⟩ (⟨b2i_t (by simp only [i32_lt, i32_le, ← Int32.toInt_inj, i32_0, i32_m1, i32_3, i32_365] at c_1 c_1 c_6 c_6; omega), rfl⟩) dX6_isField_14

set_option maxHeartbeats 4000000 in
set_option maxRecDepth 100000 in
theorem c_isDay (l : Launch) (g : GE) (L : List Nat) (f : Nat → va_E) (x : Int32) : Mi l yX6_isDay wsX6_isDay (rmH 0 0 0) g L f [.int x] (fun r u => r = b2i (0 ≤ x.toInt ∧ x.toInt < 365) ∧ u = (L, f)) 0 0 := by
  intro sz
  refine Met.ofW (cc := cX6_isDay) (maxL := 1) (ret := (some .boolean)) (by decide) rfl ?_
  intro p e s m args below meth c s₁ B hml hv
  obtain ⟨rfl, hv⟩ := hv
  have hx := B.exec
  have hb := B.bytes
  have hr := B.returns
  have hts := atoms_spec (ws := wsX6_isDay) B.pre
  have hown : s.vm.findClass RX6 = some m.cls := findClass_of_methodNamed B.named
  have hlocks := B.notSynchronized
  obtain ⟨rfl, hw, hs⟩ := pm_begin hv
  generalize va_A (va_pl L f) s.heap.size = A at hw hs ⊢
  have CF := (⟨hx, hb, hml, hown, hts⟩ : CallFix p m c cX6_isDay 1 s _ wsX6_isDay RX6)
  have hl := lv_entry ([.int x]) (n := 1) (Nat.le_of_ble_eq_true rfl)
  rw [lg_entry_eq]
  generalize (lg_sl ([.int x]) ++ List.replicate (1 - (lg_sl ([.int x])).length) Slot.unset).toArray = ls at hl ⊢
  have hl : lv_has ls 1 [(0, .int x)] := hl
  refine lv_iload_n hx hb dX6_isDay_0 rfl (lv_at hl 0 rfl) ?_
  refine lv_if_lt (tgt := 15) hx hb dX6_isDay_1 (by decide) (fun c_1 => ?_) (fun c_1 => ?_)
  · refine lv_iconst (v := 0) hx hb dX6_isDay_15 (by decide) ?_
    exact pr_i (v := 0) hx hb hr hlocks hw rfl ⟨Nat.le_of_ble_eq_true rfl, Nat.le_of_ble_eq_true rfl⟩ (⟨b2i_f (by simp only [i32_lt, i32_le, ← Int32.toInt_inj, i32_0, i32_m1, i32_3, i32_365] at c_1 c_1; omega), rfl⟩) dX6_isDay_16
  · refine lv_iload_n hx hb dX6_isDay_4 rfl (lv_at hl 0 rfl) ?_
    refine lv_sipush (v := 365) hx hb dX6_isDay_5 (by decide) ?_
    refine lv_icmp_ge (tgt := 15) hx hb dX6_isDay_8 (by decide) (fun c_8 => ?_) (fun c_8 => ?_)
    · refine lv_iconst (v := 0) hx hb dX6_isDay_15 (by decide) ?_
      exact pr_i (v := 0) hx hb hr hlocks hw rfl ⟨Nat.le_of_ble_eq_true rfl, Nat.le_of_ble_eq_true rfl⟩ (⟨b2i_f (by simp only [i32_lt, i32_le, ← Int32.toInt_inj, i32_0, i32_m1, i32_3, i32_365] at c_1 c_1 c_8 c_8; omega), rfl⟩) dX6_isDay_16
    · refine lv_iconst (v := 1) hx hb dX6_isDay_11 (by decide) ?_
      refine lv_goto (tgt := 16) hx hb dX6_isDay_12 (by decide) ?_
      exact pr_i (v := 1) hx hb hr hlocks hw rfl ⟨Nat.le_of_ble_eq_true rfl, Nat.le_of_ble_eq_true rfl⟩ (⟨b2i_t (by simp only [i32_lt, i32_le, ← Int32.toInt_inj, i32_0, i32_m1, i32_3, i32_365] at c_1 c_1 c_8 c_8; omega), rfl⟩) dX6_isDay_16

set_option maxHeartbeats 4000000 in
set_option maxRecDepth 100000 in
theorem c_isKnownOn (l : Launch) (g : GE) (L : List Nat) (f : Nat → va_E) (h0 po ki : Nat) (nu fl fr am to tb d : Int32) (hq0 : h0 ∈ L) (hf0 : f h0 = .inr (3, [.int nu, .ref po, .ref ki, .int fl, .int fr, .int am, .int to, .int tb])) : Mi l yX0_isKnownOn wsX0_isKnownOn (rmH 0 0 0) g L f [.ref h0, .int d] (fun r u => r = b2i (to.toInt ≤ d.toInt ∧ (tb.toInt = -1 ∨ d.toInt < tb.toInt)) ∧ u = (L, f)) 0 0 := by
  intro sz
  refine Met.ofW (cc := cX0_isKnownOn) (maxL := 2) (ret := (some .boolean)) (by decide) rfl ?_
  intro p e s m args below meth c s₁ B hml hv
  obtain ⟨rfl, hv⟩ := hv
  have hx := B.exec
  have hb := B.bytes
  have hr := B.returns
  have hts := atoms_spec (ws := wsX0_isKnownOn) B.pre
  have hown : s.vm.findClass RX0 = some m.cls := findClass_of_methodNamed B.named
  have hlocks := B.notSynchronized
  obtain ⟨rfl, hw, hs⟩ := pm_begin hv
  generalize va_A (va_pl L f) s.heap.size = A at hw hs ⊢
  have CF := (⟨hx, hb, hml, hown, hts⟩ : CallFix p m c cX0_isKnownOn 2 s _ wsX0_isKnownOn RX0)
  have hin_X0 : ∀ w ∈ wsX00, w ∈ wsX0_isKnownOn := by decide +kernel
  have hl := lv_entry ([.ref h0, .int d]) (n := 2) (Nat.le_of_ble_eq_true rfl)
  rw [lg_entry_eq]
  generalize (lg_sl ([.ref h0, .int d]) ++ List.replicate (2 - (lg_sl ([.ref h0, .int d])).length) Slot.unset).toArray = ls at hl ⊢
  have hl : lv_has ls 2 [(0, .ref h0), (1, .int d)] := hl
  refine lv_aload_n hx hb dX0_isKnownOn_0 rfl (lv_at hl 0 rfl) ?_
  refine pm_get (ci := 3) (v := .int to) (C := RX0) (T := TX0) (N := 8) hx hb hts hin_X0 hown hw hq0 hf0 rfl 6 (by decide) (hts (.fieldLink RX0 35 "Backdater$Change" "toldOn" "I") (by decide +kernel)) (fun _ h9 => h9) rfl dX0_isKnownOn_1 ?_
  refine lv_iload_n hx hb dX0_isKnownOn_4 rfl (lv_at hl 1 rfl) ?_
  refine lv_icmp_gt (tgt := 28) hx hb dX0_isKnownOn_5 (by decide) (fun c_5 => ?_) (fun c_5 => ?_)
  · refine lv_iconst (v := 0) hx hb dX0_isKnownOn_28 (by decide) ?_
    exact pr_i (v := 0) hx hb hr hlocks hw rfl ⟨Nat.le_of_ble_eq_true rfl, Nat.le_of_ble_eq_true rfl⟩ (⟨b2i_f (by simp only [i32_lt, i32_le, ← Int32.toInt_inj, i32_0, i32_m1, i32_3, i32_365] at c_5 c_5; omega), rfl⟩) dX0_isKnownOn_29
  · refine lv_aload_n hx hb dX0_isKnownOn_8 rfl (lv_at hl 0 rfl) ?_
    refine pm_get (ci := 3) (v := .int tb) (C := RX0) (T := TX0) (N := 8) hx hb hts hin_X0 hown hw hq0 hf0 rfl 7 (by decide) (hts (.fieldLink RX0 9 "Backdater$Change" "takenBackOn" "I") (by decide +kernel)) (fun _ h9 => h9) rfl dX0_isKnownOn_9 ?_
    refine lv_iconst (v := (-1)) hx hb dX0_isKnownOn_12 (by decide) ?_
    refine lv_icmp_eq (tgt := 24) hx hb dX0_isKnownOn_13 (by decide) (fun c_13 => ?_) (fun c_13 => ?_)
    · refine lv_iconst (v := 1) hx hb dX0_isKnownOn_24 (by decide) ?_
      refine lv_goto (tgt := 29) hx hb dX0_isKnownOn_25 (by decide) ?_
      exact pr_i (v := 1) hx hb hr hlocks hw rfl ⟨Nat.le_of_ble_eq_true rfl, Nat.le_of_ble_eq_true rfl⟩ (⟨b2i_t (by simp only [i32_lt, i32_le, ← Int32.toInt_inj, i32_0, i32_m1, i32_3, i32_365] at c_5 c_5 c_13 c_13; omega), rfl⟩) dX0_isKnownOn_29
    · refine lv_aload_n hx hb dX0_isKnownOn_16 rfl (lv_at hl 0 rfl) ?_
      refine pm_get (ci := 3) (v := .int tb) (C := RX0) (T := TX0) (N := 8) hx hb hts hin_X0 hown hw hq0 hf0 rfl 7 (by decide) (hts (.fieldLink RX0 9 "Backdater$Change" "takenBackOn" "I") (by decide +kernel)) (fun _ h9 => h9) rfl dX0_isKnownOn_17 ?_
      refine lv_iload_n hx hb dX0_isKnownOn_20 rfl (lv_at hl 1 rfl) ?_
      refine lv_icmp_le (tgt := 28) hx hb dX0_isKnownOn_21 (by decide) (fun c_21 => ?_) (fun c_21 => ?_)
      · refine lv_iconst (v := 0) hx hb dX0_isKnownOn_28 (by decide) ?_
        exact pr_i (v := 0) hx hb hr hlocks hw rfl ⟨Nat.le_of_ble_eq_true rfl, Nat.le_of_ble_eq_true rfl⟩ (⟨b2i_f (by simp only [i32_lt, i32_le, ← Int32.toInt_inj, i32_0, i32_m1, i32_3, i32_365] at c_5 c_5 c_13 c_13 c_21 c_21; omega), rfl⟩) dX0_isKnownOn_29
      · refine lv_iconst (v := 1) hx hb dX0_isKnownOn_24 (by decide) ?_
        refine lv_goto (tgt := 29) hx hb dX0_isKnownOn_25 (by decide) ?_
        exact pr_i (v := 1) hx hb hr hlocks hw rfl ⟨Nat.le_of_ble_eq_true rfl, Nat.le_of_ble_eq_true rfl⟩ (⟨b2i_t (by simp only [i32_lt, i32_le, ← Int32.toInt_inj, i32_0, i32_m1, i32_3, i32_365] at c_5 c_5 c_13 c_13 c_21 c_21; omega), rfl⟩) dX0_isKnownOn_29

set_option maxHeartbeats 4000000 in
set_option maxRecDepth 100000 in
theorem c_demandWithin (l : Launch) (hst : l.stackTraces = false) (g : GE) (L : List Nat) (f : Nat → va_E) (x lo hi : Int32) : Xv l yX6_demandWithin wsX6_demandWithin (rmH 0 1 6) g L f [.int x, .int lo, .int hi] (fun u => (lo.toInt ≤ x.toInt ∧ x.toInt ≤ hi.toInt) ∧ u = (L, f)) (fun E u => E = "java/lang/IllegalArgumentException" ∧ ¬ (lo.toInt ≤ x.toInt ∧ x.toInt ≤ hi.toInt) ∧ u = (L, f)) 1 6 := by
  intro sz
  refine vx_ofW (cc := cX6_demandWithin) (maxL := 3) (ret := none) (by decide) rfl ?_
  intro p e s m args below meth c s₁ B hml htab hv
  obtain ⟨rfl, hv⟩ := hv
  have hx := B.exec
  have hb := B.bytes
  have hr := B.returns
  have hts := atoms_spec (ws := wsX6_demandWithin) B.pre
  have hown : s.vm.findClass RX6 = some m.cls := findClass_of_methodNamed B.named
  have hlocks := B.notSynchronized
  obtain ⟨rfl, hw, hs⟩ := pm_begin hv
  generalize va_A (va_pl L f) s.heap.size = A at hw hs ⊢
  have CF := (⟨hx, hb, hml, hown, hts⟩ : CallFix p m c cX6_demandWithin 3 s _ wsX6_demandWithin RX6)
  have hl := lv_entry ([.int x, .int lo, .int hi]) (n := 3) (Nat.le_of_ble_eq_true rfl)
  rw [lg_entry_eq]
  generalize (lg_sl ([.int x, .int lo, .int hi]) ++ List.replicate (3 - (lg_sl ([.int x, .int lo, .int hi])).length) Slot.unset).toArray = ls at hl ⊢
  have hl : lv_has ls 3 [(0, .int x), (1, .int lo), (2, .int hi)] := hl
  refine lv_iload_n hx hb dX6_demandWithin_0 rfl (lv_at hl 0 rfl) ?_
  refine lv_iload_n hx hb dX6_demandWithin_1 rfl (lv_at hl 1 rfl) ?_
  refine lv_icmp_lt (tgt := 10) hx hb dX6_demandWithin_2 (by decide) (fun c_2 => ?_) (fun c_2 => ?_)
  · exact px_throwS (own := RX6) (cls := "java/lang/IllegalArgumentException") (names := ["java/lang/RuntimeException", "java/lang/Exception"]) hx hb hst hown (by decide +kernel) (by decide +kernel) (hts (.classLink RX6 180 "java/lang/IllegalArgumentException") (by decide +kernel)) (hts (.initialized "java/lang/IllegalArgumentException") (by decide +kernel)) (by decide +kernel : (RX6, 182, "a number is out of range") ∈ sx_texts) hts (by decide +kernel) (by decide +kernel) (by decide +kernel) (by decide +kernel) hs hw hml hl.1 dX6_demandWithin_10 dX6_demandWithin_13 dX6_demandWithin_14 dX6_demandWithin_16 dX6_demandWithin_19 htab hlocks ⟨Nat.le_of_ble_eq_true rfl, Nat.le_of_ble_eq_true rfl, Nat.le_of_ble_eq_true rfl, Nat.le_of_ble_eq_true rfl⟩ ⟨Nat.le_of_ble_eq_true rfl, Nat.le_of_ble_eq_true rfl⟩ (⟨rfl, by simp only [i32_lt, i32_le] at c_2 c_2; omega, rfl⟩)
  · refine lv_iload_n hx hb dX6_demandWithin_5 rfl (lv_at hl 0 rfl) ?_
    refine lv_iload_n hx hb dX6_demandWithin_6 rfl (lv_at hl 2 rfl) ?_
    refine lv_icmp_le (tgt := 20) hx hb dX6_demandWithin_7 (by decide) (fun c_7 => ?_) (fun c_7 => ?_)
    · exact vx_ret (pr_v hx hb hr hlocks hw ⟨Nat.le_of_ble_eq_true rfl, Nat.le_of_ble_eq_true rfl⟩ (⟨by simp only [i32_lt, i32_le] at c_2 c_2 c_7 c_7; omega, rfl⟩) dX6_demandWithin_20)
    · exact px_throwS (own := RX6) (cls := "java/lang/IllegalArgumentException") (names := ["java/lang/RuntimeException", "java/lang/Exception"]) hx hb hst hown (by decide +kernel) (by decide +kernel) (hts (.classLink RX6 180 "java/lang/IllegalArgumentException") (by decide +kernel)) (hts (.initialized "java/lang/IllegalArgumentException") (by decide +kernel)) (by decide +kernel : (RX6, 182, "a number is out of range") ∈ sx_texts) hts (by decide +kernel) (by decide +kernel) (by decide +kernel) (by decide +kernel) hs hw hml hl.1 dX6_demandWithin_10 dX6_demandWithin_13 dX6_demandWithin_14 dX6_demandWithin_16 dX6_demandWithin_19 htab hlocks ⟨Nat.le_of_ble_eq_true rfl, Nat.le_of_ble_eq_true rfl, Nat.le_of_ble_eq_true rfl, Nat.le_of_ble_eq_true rfl⟩ ⟨Nat.le_of_ble_eq_true rfl, Nat.le_of_ble_eq_true rfl⟩ (⟨rfl, by simp only [i32_lt, i32_le] at c_2 c_2 c_7 c_7; omega, rfl⟩)

end LEAF1
