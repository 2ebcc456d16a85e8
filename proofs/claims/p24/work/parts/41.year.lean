/-! the year: what is asked of a laid year -/
section YEAR
abbrev startQ (rt : Nat → Int32) (sg r : Int32) : Prop := (∃ i, i < 365 ∧ isSt rt i ∧ nI (cntS rt i) = sg ∧ r = nI i) ∨ ((∀ i, i < 365 → isSt rt i → nI (cntS rt i) ≠ sg) ∧ r = -1)
theorem endS_t {rt : Nat → Int32} {i j : Nat} (hj : j < 365) (h : rt j = rt i) : endS rt (rt i) (365 - j) j = endS rt (rt i) (365 - (j + 1)) (j + 1) := by
  have e : 365 - j = (365 - (j + 1)) + 1 := by omega
  rw [e, endS, if_pos h]
theorem endS_f {rt : Nat → Int32} {i j : Nat} (hj : j < 365) (h : ¬ rt j = rt i) : endS rt (rt i) (365 - j) j = j := by
  have e : 365 - j = (365 - (j + 1)) + 1 := by omega
  rw [e, endS, if_neg h]
theorem sumP_t {rt sm : Nat → Int32} {n : Nat} (h : isSt rt n) : sumP rt sm (n + 1) = sumP rt sm n + (sm (endD rt n) / 365 - sm n / 365) := by rw [sumP, if_pos h]
theorem sumP_f {rt sm : Nat → Int32} {n : Nat} (h : ¬ isSt rt n) : sumP rt sm (n + 1) = sumP rt sm n := by rw [sumP, if_neg h]

set_option maxHeartbeats 4000000 in
set_option maxRecDepth 100000 in
theorem c_startOf (l : Launch) (g : GE) (L : List Nat) (f : Nat → va_E) (a : Nat → Nat) (k : KS) (hk : CW g a k L f) (sg : Int32) : Mi l yX5_startOf wsX5_startOf (rmH 2 0 0) g L f [.ref (a 5), .int sg] (fun r u => startQ (k.1 2) sg r ∧ u = (L, f)) 0 0 := by
  intro sz
  refine Met.ofW (cc := cX5_startOf) (maxL := 4) (ret := (some .int)) (by decide) rfl ?_
  intro p e s m args below meth c s₁ B hml hv
  obtain ⟨rfl, hv⟩ := hv
  have hx := B.exec
  have hb := B.bytes
  have hr := B.returns
  have hts := atoms_spec (ws := wsX5_startOf) B.pre
  have hown : s.vm.findClass RX5 = some m.cls := findClass_of_methodNamed B.named
  have hlocks := B.notSynchronized
  obtain ⟨rfl, hw, hs⟩ := pm_begin hv
  generalize va_A (va_pl L f) s.heap.size = A at hw hs ⊢
  have CF := (⟨hx, hb, hml, hown, hts⟩ : CallFix p m c cX5_startOf 4 s _ wsX5_startOf RX5)
  have hin_X5 : ∀ w ∈ wsX50, w ∈ wsX5_startOf := by decide +kernel
  have hl := lv_entry ([.ref (a 5), .int sg]) (n := 4) (Nat.le_of_ble_eq_true rfl)
  rw [lg_entry_eq]
  generalize (lg_sl ([.ref (a 5), .int sg]) ++ List.replicate (4 - (lg_sl ([.ref (a 5), .int sg])).length) Slot.unset).toArray = ls at hl ⊢
  have hl : lv_has ls 4 [(0, .ref (a 5)), (1, .int sg)] := hl
  refine lv_iconst (v := 0) hx hb dX5_startOf_0 (by decide) ?_
  refine lv_istore_n (lv' := [(2, .int 0), (0, .ref (a 5)), (1, .int sg)]) hx hb dX5_startOf_1 rfl hl (by decide) rfl (fun ls hl => ?_)
  refine lv_iconst (v := 0) hx hb dX5_startOf_2 (by decide) ?_
  refine lv_istore_n (lv' := [(3, .int 0), (2, .int 0), (0, .ref (a 5)), (1, .int sg)]) hx hb dX5_startOf_3 rfl hl (by decide) rfl (fun ls hl => ?_)
  refine W_loop (σ := Nat) (fun i H locs ls => (i ≤ 365 ∧ ∀ j, j < i → isSt (k.1 2) j → nI (cntS (k.1 2) j) ≠ sg) ∧ PW g A s H locs L _ ∧ lv_has ls 4 [(3, .int (nI i)), (2, .int (nI (cntS (k.1 2) i))), (0, .ref (a 5)), (1, .int sg)]) (fun i => 365 - i) 0 ⟨⟨Nat.zero_le _, fun j h => absurd h (Nat.not_lt_zero j)⟩, hw, lv_sub hl [0, 1, 2, 3] rfl⟩ ?_
  rintro i H locs ls ⟨⟨hi9, hno⟩, hw, hl⟩ ih_4
  refine lv_iload_n hx hb dX5_startOf_4 rfl (lv_at hl 0 rfl) ?_
  refine lv_sipush (v := 365) hx hb dX5_startOf_5 (by decide) ?_
  refine lv_icmp_ge (tgt := 35) hx hb dX5_startOf_8 (by decide) (fun c_8 => ?_) (fun c_8 => ?_)
  · have hi5 : i = 365 := by rw [show (365 : Int32) = nI 365 from rfl, nI_leI (by decide) (by omega)] at c_8; omega
    refine lv_iconst (v := (-1)) hx hb dX5_startOf_35 (by decide) ?_
    exact pr_i (v := (-1)) hx hb hr hlocks hw rfl ⟨Nat.le_of_ble_eq_true rfl, Nat.le_of_ble_eq_true rfl⟩ (⟨Or.inr ⟨fun j hj => hno j (by omega), rfl⟩, rfl⟩) dX5_startOf_36
  · have hi : i < 365 := by rw [show (365 : Int32) = nI 365 from rfl, nI_leI (by decide) (by omega)] at c_8; omega
    refine lv_aload_n hx hb dX5_startOf_11 rfl (lv_at hl 2 rfl) ?_
    refine lv_iload_n hx hb dX5_startOf_12 rfl (lv_at hl 0 rfl) ?_
    refine pc_i hw (va_runV (As := [.int (nI i)]) (rest := []) CF ((c_isStart l g L _ a k hk i hi) _) (cwV 1 hts gX5_startOf_X5_isStart rfl rfl rfl (by decide +kernel) ⟨Nat.le_of_ble_eq_true rfl, Nat.le_of_ble_eq_true rfl⟩) (pm_preV hw hs (pm_recv hw (hk.q (i := 5) (dC (by decide))) (hk.f (i := 5) (dC (by decide))) rfl)) rfl rfl hl.1 rfl (lv_room (Nat.le_of_ble_eq_true rfl)) dX5_startOf_13 ⟨Nat.le_of_ble_eq_true rfl, Nat.le_of_ble_eq_true rfl⟩) (fun r L1 f1 H locs hp hw => ?_)
    obtain ⟨hE_13, hu⟩ := hp
    obtain rfl : _ = L1 := (congrArg Prod.fst hu).symm
    obtain rfl : _ = f1 := (congrArg Prod.snd hu).symm
    generalize r = r_13 at hE_13 ⊢
    refine lv_if_eq (tgt := 29) hx hb dX5_startOf_16 (by decide) (fun c_16 => ?_) (fun c_16 => ?_)
    · have hP := b2i_eq0 (hE_13 ▸ c_16)
      rw [← cntS_f hP] at hl
      refine lv_iinc (v := (nI (i + 1))) (lv' := [(3, .int (nI (i + 1))), (2, .int (nI (cntS (k.1 2) (i + 1)))), (0, .ref (a 5)), (1, .int sg)]) hx hb dX5_startOf_29 hl (k := 0) rfl (nI_1 i) (by decide) rfl (fun ls hl => ?_)
      refine lv_goto (tgt := 4) hx hb dX5_startOf_32 (by decide) ?_
      exact ih_4 (i + 1) _ _ _ (by omega) ⟨⟨by omega, fun j hj hs => by rcases Nat.lt_succ_iff_lt_or_eq.mp hj with q | rfl; exact hno j q hs; exact absurd hs hP⟩, hw, lv_sub hl [0, 1, 2, 3] rfl⟩
    · have hP := b2i_ne0 (hE_13 ▸ c_16)
      refine lv_iload_n hx hb dX5_startOf_19 rfl (lv_at hl 1 rfl) ?_
      refine lv_iload_n hx hb dX5_startOf_20 rfl (lv_at hl 3 rfl) ?_
      refine lv_icmp_ne (tgt := 26) hx hb dX5_startOf_21 (by decide) (fun c_21 => ?_) (fun c_21 => ?_)
      · refine lv_iinc (v := (nI (cntS (k.1 2) (i + 1)))) (lv' := [(2, .int (nI (cntS (k.1 2) (i + 1)))), (3, .int (nI i)), (0, .ref (a 5)), (1, .int sg)]) hx hb dX5_startOf_26 hl (k := 1) rfl ((nI_1 _).trans (by rw [cntS_t hP])) (by decide) rfl (fun ls hl => ?_)
        refine lv_iinc (v := (nI (i + 1))) (lv' := [(3, .int (nI (i + 1))), (2, .int (nI (cntS (k.1 2) (i + 1)))), (0, .ref (a 5)), (1, .int sg)]) hx hb dX5_startOf_29 hl (k := 1) rfl (nI_1 i) (by decide) rfl (fun ls hl => ?_)
        refine lv_goto (tgt := 4) hx hb dX5_startOf_32 (by decide) ?_
        exact ih_4 (i + 1) _ _ _ (by omega) ⟨⟨by omega, fun j hj hs => by rcases Nat.lt_succ_iff_lt_or_eq.mp hj with q | rfl; exact hno j q hs; exact c_21⟩, hw, lv_sub hl [0, 1, 2, 3] rfl⟩
      · refine lv_iload_n hx hb dX5_startOf_24 rfl (lv_at hl 0 rfl) ?_
        exact pr_i (v := (nI i)) hx hb hr hlocks hw rfl ⟨Nat.le_of_ble_eq_true rfl, Nat.le_of_ble_eq_true rfl⟩ (⟨Or.inl ⟨i, hi, hP, c_21, rfl⟩, rfl⟩) dX5_startOf_25

set_option maxHeartbeats 4000000 in
set_option maxRecDepth 100000 in
theorem c_dayBehind (l : Launch) (g : GE) (L : List Nat) (f : Nat → va_E) (a : Nat → Nat) (k : KS) (hk : CW g a k L f) (i : Nat) (hi : i < 365) : Mi l yX5_dayBehindSegmentFrom wsX5_dayBehindSegmentFrom (rmH 1 0 0) g L f [.ref (a 5), .int (nI i)] (fun r u => r = nI (endD (k.1 2) i) ∧ u = (L, f)) 0 0 := by
  intro sz
  refine Met.ofW (cc := cX5_dayBehindSegmentFrom) (maxL := 3) (ret := (some .int)) (by decide) rfl ?_
  intro p e s m args below meth c s₁ B hml hv
  obtain ⟨rfl, hv⟩ := hv
  have hx := B.exec
  have hb := B.bytes
  have hr := B.returns
  have hts := atoms_spec (ws := wsX5_dayBehindSegmentFrom) B.pre
  have hown : s.vm.findClass RX5 = some m.cls := findClass_of_methodNamed B.named
  have hlocks := B.notSynchronized
  obtain ⟨rfl, hw, hs⟩ := pm_begin hv
  generalize va_A (va_pl L f) s.heap.size = A at hw hs ⊢
  have CF := (⟨hx, hb, hml, hown, hts⟩ : CallFix p m c cX5_dayBehindSegmentFrom 3 s _ wsX5_dayBehindSegmentFrom RX5)
  have hin_X5 : ∀ w ∈ wsX50, w ∈ wsX5_dayBehindSegmentFrom := by decide +kernel
  have hl := lv_entry ([.ref (a 5), .int (nI i)]) (n := 3) (Nat.le_of_ble_eq_true rfl)
  rw [lg_entry_eq]
  generalize (lg_sl ([.ref (a 5), .int (nI i)]) ++ List.replicate (3 - (lg_sl ([.ref (a 5), .int (nI i)])).length) Slot.unset).toArray = ls at hl ⊢
  have hl : lv_has ls 3 [(0, .ref (a 5)), (1, .int (nI i))] := hl
  refine lv_iload_n hx hb dX5_dayBehindSegmentFrom_0 rfl (lv_at hl 1 rfl) ?_
  refine pc_i hw (va_runSN (As := [.int (nI i)]) (rest := []) CF ((c_isDay l g L _ (nI i)) _) ⟨va_cnB 1 hts gX5_dayBehindSegmentFrom_X6_isDay_n18 rfl rfl rfl (hs.2.2.2.2.2.1 (RX5, 18, yX6_isDay) (by decide +kernel)) (hts (.initialized RX6) (by decide +kernel)) (by decide +kernel) ⟨Nat.le_of_ble_eq_true rfl, Nat.le_of_ble_eq_true rfl⟩, hts (.static yX6_isDay) (by decide +kernel), trivial⟩ (pm_preS hw hs) rfl rfl hl.1 rfl (lv_room (Nat.le_of_ble_eq_true rfl)) dX5_dayBehindSegmentFrom_1 ⟨Nat.le_of_ble_eq_true rfl, Nat.le_of_ble_eq_true rfl⟩) (fun r L1 f1 H locs hp hw => ?_)
  obtain ⟨hE_1, hu⟩ := hp
  obtain rfl : _ = L1 := (congrArg Prod.fst hu).symm
  obtain rfl : _ = f1 := (congrArg Prod.snd hu).symm
  generalize r = r_1 at hE_1 ⊢
  refine lv_if_ne (tgt := 9) hx hb dX5_dayBehindSegmentFrom_4 (by decide) (fun c_4 => ?_) (fun c_4 => ?_)
  · refine lv_iload_n hx hb dX5_dayBehindSegmentFrom_9 rfl (lv_at hl 1 rfl) ?_
    refine lv_iconst (v := 1) hx hb dX5_dayBehindSegmentFrom_10 (by decide) ?_
    refine lv_iadd hx hb dX5_dayBehindSegmentFrom_11 ?_
    rw [nI_1 i]
    refine lv_istore_n (lv' := [(2, .int (nI (i + 1))), (0, .ref (a 5)), (1, .int (nI i))]) hx hb dX5_dayBehindSegmentFrom_12 rfl hl (by decide) rfl (fun ls hl => ?_)
    refine W_loop (σ := Nat) (fun j H locs ls => (i < j ∧ j ≤ 365 ∧ endS (k.1 2) ((k.1 2) i) (365 - j) j = endD (k.1 2) i) ∧ PW g A s H locs L _ ∧ lv_has ls 3 [(2, .int (nI j)), (0, .ref (a 5)), (1, .int (nI i))]) (fun j => 365 - j) (i + 1) ⟨⟨by omega, hi, (endS_t hi rfl).symm⟩, hw, lv_sub hl [0, 1, 2] rfl⟩ ?_
    rintro j H locs ls ⟨⟨hij, hj9, he⟩, hw, hl⟩ ih_13
    refine lv_iload_n hx hb dX5_dayBehindSegmentFrom_13 rfl (lv_at hl 0 rfl) ?_
    refine lv_sipush (v := 365) hx hb dX5_dayBehindSegmentFrom_14 (by decide) ?_
    refine lv_icmp_ge (tgt := 43) hx hb dX5_dayBehindSegmentFrom_17 (by decide) (fun c_17 => ?_) (fun c_17 => ?_)
    · have hj5 : j = 365 := by rw [show (365 : Int32) = nI 365 from rfl, nI_leI (by decide) (by omega)] at c_17; omega
      have hfin : (365 : Int32) = nI (endD (k.1 2) i) := by rw [← he, hj5]; rfl
      refine lv_sipush (v := 365) hx hb dX5_dayBehindSegmentFrom_43 (by decide) ?_
      exact pr_i (v := 365) hx hb hr hlocks hw rfl ⟨Nat.le_of_ble_eq_true rfl, Nat.le_of_ble_eq_true rfl⟩ (⟨hfin, rfl⟩) dX5_dayBehindSegmentFrom_46
    · have hj : j < 365 := by rw [show (365 : Int32) = nI 365 from rfl, nI_leI (by decide) (by omega)] at c_17; omega
      refine lv_aload_n hx hb dX5_dayBehindSegmentFrom_20 rfl (lv_at hl 1 rfl) ?_
      refine pm_get (ci := 7) (v := .ref (a 15)) (C := RX5) (T := TX5) (N := 2) hx hb hts hin_X5 hown hw (hk.q (i := 5) (dC (by decide))) (hk.f (i := 5) (dC (by decide))) rfl 0 (by decide) (hts (.fieldLink RX5 9 "Backdater$Year" "rates" "[I") (by decide +kernel)) (fun _ h9 => h9) rfl dX5_dayBehindSegmentFrom_21 ?_
      refine lv_iload_n hx hb dX5_dayBehindSegmentFrom_24 rfl (lv_at hl 0 rfl) ?_
      refine pm_iald (n := 365) (r := (k.1 2)) hx hb hw (hk.q (i := 15) (dC (by decide))) (hk.f (i := 15) (dC (by decide))) (j := j) (nI_clamp (by omega)) (vp_in_nI hj (by decide)) dX5_dayBehindSegmentFrom_25 ?_
      refine lv_aload_n hx hb dX5_dayBehindSegmentFrom_26 rfl (lv_at hl 1 rfl) ?_
      refine pm_get (ci := 7) (v := .ref (a 15)) (C := RX5) (T := TX5) (N := 2) hx hb hts hin_X5 hown hw (hk.q (i := 5) (dC (by decide))) (hk.f (i := 5) (dC (by decide))) rfl 0 (by decide) (hts (.fieldLink RX5 9 "Backdater$Year" "rates" "[I") (by decide +kernel)) (fun _ h9 => h9) rfl dX5_dayBehindSegmentFrom_27 ?_
      refine lv_iload_n hx hb dX5_dayBehindSegmentFrom_30 rfl (lv_at hl 2 rfl) ?_
      refine pm_iald (n := 365) (r := (k.1 2)) hx hb hw (hk.q (i := 15) (dC (by decide))) (hk.f (i := 15) (dC (by decide))) (j := i) (nI_clamp (by omega)) (vp_in_nI hi (by decide)) dX5_dayBehindSegmentFrom_31 ?_
      refine lv_icmp_eq (tgt := 37) hx hb dX5_dayBehindSegmentFrom_32 (by decide) (fun c_32 => ?_) (fun c_32 => ?_)
      · refine lv_iinc (v := (nI (j + 1))) (lv' := [(2, .int (nI (j + 1))), (0, .ref (a 5)), (1, .int (nI i))]) hx hb dX5_dayBehindSegmentFrom_37 hl (k := 0) rfl (nI_1 j) (by decide) rfl (fun ls hl => ?_)
        refine lv_goto (tgt := 13) hx hb dX5_dayBehindSegmentFrom_40 (by decide) ?_
        exact ih_13 (j + 1) _ _ _ (by omega) ⟨⟨by omega, by omega, by rw [← endS_t hj c_32]; exact he⟩, hw, lv_sub hl [0, 1, 2] rfl⟩
      · have hfin : nI j = nI (endD (k.1 2) i) := by rw [← he, endS_f hj c_32]
        refine lv_iload_n hx hb dX5_dayBehindSegmentFrom_35 rfl (lv_at hl 0 rfl) ?_
        exact pr_i (v := (nI j)) hx hb hr hlocks hw rfl ⟨Nat.le_of_ble_eq_true rfl, Nat.le_of_ble_eq_true rfl⟩ (⟨hfin, rfl⟩) dX5_dayBehindSegmentFrom_36
  · exact absurd (dayT hi) (b2i_eq0 (hE_1 ▸ c_4))

set_option maxHeartbeats 4000000 in
set_option maxRecDepth 100000 in
theorem c_chargeUpTo (l : Launch) (g : GE) (L : List Nat) (f : Nat → va_E) (a : Nat → Nat) (k : KS) (hk : CW g a k L f) (i : Nat) (hi : i ≤ 365) : Mi l yX5_chargeUpTo wsX5_chargeUpTo (rmH 0 0 0) g L f [.ref (a 5), .int (nI i)] (fun r u => r = k.1 3 i / 365 ∧ u = (L, f)) 0 0 := by
  intro sz
  refine Met.ofW (cc := cX5_chargeUpTo) (maxL := 2) (ret := (some .int)) (by decide) rfl ?_
  intro p e s m args below meth c s₁ B hml hv
  obtain ⟨rfl, hv⟩ := hv
  have hx := B.exec
  have hb := B.bytes
  have hr := B.returns
  have hts := atoms_spec (ws := wsX5_chargeUpTo) B.pre
  have hown : s.vm.findClass RX5 = some m.cls := findClass_of_methodNamed B.named
  have hlocks := B.notSynchronized
  obtain ⟨rfl, hw, hs⟩ := pm_begin hv
  generalize va_A (va_pl L f) s.heap.size = A at hw hs ⊢
  have CF := (⟨hx, hb, hml, hown, hts⟩ : CallFix p m c cX5_chargeUpTo 2 s _ wsX5_chargeUpTo RX5)
  have hin_X5 : ∀ w ∈ wsX50, w ∈ wsX5_chargeUpTo := by decide +kernel
  have hl := lv_entry ([.ref (a 5), .int (nI i)]) (n := 2) (Nat.le_of_ble_eq_true rfl)
  rw [lg_entry_eq]
  generalize (lg_sl ([.ref (a 5), .int (nI i)]) ++ List.replicate (2 - (lg_sl ([.ref (a 5), .int (nI i)])).length) Slot.unset).toArray = ls at hl ⊢
  have hl : lv_has ls 2 [(0, .ref (a 5)), (1, .int (nI i))] := hl
  refine lv_iload_n hx hb dX5_chargeUpTo_0 rfl (lv_at hl 1 rfl) ?_
  refine lv_if_lt (tgt := 24) hx hb dX5_chargeUpTo_1 (by decide) (fun c_1 => ?_) (fun c_1 => ?_)
  · exact absurd c_1 (by rw [i32_lt, nI_toInt (by omega), i32_0]; omega)
  · refine lv_iload_n hx hb dX5_chargeUpTo_4 rfl (lv_at hl 1 rfl) ?_
    refine lv_sipush (v := 365) hx hb dX5_chargeUpTo_5 (by decide) ?_
    refine lv_icmp_gt (tgt := 24) hx hb dX5_chargeUpTo_8 (by decide) (fun c_8 => ?_) (fun c_8 => ?_)
    · exact absurd c_8 (by rw [i32_lt, nI_toInt (by omega), i32_365]; omega)
    · refine lv_aload_n hx hb dX5_chargeUpTo_11 rfl (lv_at hl 0 rfl) ?_
      refine pm_get (ci := 7) (v := .ref (a 16)) (C := RX5) (T := TX5) (N := 2) hx hb hts hin_X5 hown hw (hk.q (i := 5) (dC (by decide))) (hk.f (i := 5) (dC (by decide))) rfl 1 (by decide) (hts (.fieldLink RX5 15 "Backdater$Year" "sums" "[I") (by decide +kernel)) (fun _ h9 => h9) rfl dX5_chargeUpTo_12 ?_
      refine lv_iload_n hx hb dX5_chargeUpTo_15 rfl (lv_at hl 1 rfl) ?_
      refine pm_iald (n := 366) (r := (k.1 3)) hx hb hw (hk.q (i := 16) (dC (by decide))) (hk.f (i := 16) (dC (by decide))) (j := i) (nI_clamp (by omega)) (vp_in_nI (by omega) (by decide)) dX5_chargeUpTo_16 ?_
      refine lv_sipush (v := 365) hx hb dX5_chargeUpTo_17 (by decide) ?_
      refine lv_idiv hx hb dX5_chargeUpTo_20 (by decide) ?_
      refine lv_goto (tgt := 25) hx hb dX5_chargeUpTo_21 (by decide) ?_
      exact pr_i (v := (((k.1 3) i) / 365)) hx hb hr hlocks hw rfl ⟨Nat.le_of_ble_eq_true rfl, Nat.le_of_ble_eq_true rfl⟩ (⟨rfl, rfl⟩) dX5_chargeUpTo_25

set_option maxHeartbeats 4000000 in
set_option maxRecDepth 100000 in
theorem c_premiumFrom (l : Launch) (g : GE) (L : List Nat) (f : Nat → va_E) (a : Nat → Nat) (k : KS) (hk : CW g a k L f) (i : Nat) (hi : i < 365) : Mi l yX5_premiumOfSegmentFrom wsX5_premiumOfSegmentFrom (rmH 2 0 0) g L f [.ref (a 5), .int (nI i)] (fun r u => r = k.1 3 (endD (k.1 2) i) / 365 - k.1 3 i / 365 ∧ u = (L, f)) 0 0 := by
  intro sz
  refine Met.ofW (cc := cX5_premiumOfSegmentFrom) (maxL := 2) (ret := (some .int)) (by decide) rfl ?_
  intro p e s m args below meth c s₁ B hml hv
  obtain ⟨rfl, hv⟩ := hv
  have hx := B.exec
  have hb := B.bytes
  have hr := B.returns
  have hts := atoms_spec (ws := wsX5_premiumOfSegmentFrom) B.pre
  have hown : s.vm.findClass RX5 = some m.cls := findClass_of_methodNamed B.named
  have hlocks := B.notSynchronized
  obtain ⟨rfl, hw, hs⟩ := pm_begin hv
  generalize va_A (va_pl L f) s.heap.size = A at hw hs ⊢
  have CF := (⟨hx, hb, hml, hown, hts⟩ : CallFix p m c cX5_premiumOfSegmentFrom 2 s _ wsX5_premiumOfSegmentFrom RX5)
  have hin_X5 : ∀ w ∈ wsX50, w ∈ wsX5_premiumOfSegmentFrom := by decide +kernel
  have hl := lv_entry ([.ref (a 5), .int (nI i)]) (n := 2) (Nat.le_of_ble_eq_true rfl)
  rw [lg_entry_eq]
  generalize (lg_sl ([.ref (a 5), .int (nI i)]) ++ List.replicate (2 - (lg_sl ([.ref (a 5), .int (nI i)])).length) Slot.unset).toArray = ls at hl ⊢
  have hl : lv_has ls 2 [(0, .ref (a 5)), (1, .int (nI i))] := hl
  refine lv_aload_n hx hb dX5_premiumOfSegmentFrom_0 rfl (lv_at hl 0 rfl) ?_
  refine lv_aload_n hx hb dX5_premiumOfSegmentFrom_1 rfl (lv_at hl 0 rfl) ?_
  refine lv_iload_n hx hb dX5_premiumOfSegmentFrom_2 rfl (lv_at hl 1 rfl) ?_
  refine pc_i hw (va_runV (As := [.int (nI i)]) (rest := [.ref (a 5)]) CF (c_dayBehind l g L _ a k hk i hi _) (cwV 1 hts gX5_premiumOfSegmentFrom_X5_dayBehindSegmentFrom rfl rfl rfl (by decide +kernel) ⟨Nat.le_of_ble_eq_true rfl, Nat.le_of_ble_eq_true rfl⟩) (pm_preV hw hs (pm_recv hw (hk.q (i := 5) (dC (by decide))) (hk.f (i := 5) (dC (by decide))) rfl)) rfl rfl hl.1 rfl (lv_room (Nat.le_of_ble_eq_true rfl)) dX5_premiumOfSegmentFrom_3 ⟨Nat.le_of_ble_eq_true rfl, Nat.le_of_ble_eq_true rfl⟩) (fun r L1 f1 H locs hp hw => ?_)
  obtain ⟨hE_3, hu⟩ := hp
  obtain rfl : _ = L1 := (congrArg Prod.fst hu).symm
  obtain rfl : _ = f1 := (congrArg Prod.snd hu).symm
  generalize r = r_3 at hE_3 ⊢
  subst hE_3
  refine pc_i hw (va_runV (As := [.int (nI (endD (k.1 2) i))]) (rest := []) CF (c_chargeUpTo l g L _ a k hk (endD (k.1 2) i) (endD_le _ (by omega)) _) (cwV 1 hts gX5_premiumOfSegmentFrom_X5_chargeUpTo rfl rfl rfl (by decide +kernel) ⟨Nat.le_of_ble_eq_true rfl, Nat.le_of_ble_eq_true rfl⟩) (pm_preV hw hs (pm_recv hw (hk.q (i := 5) (dC (by decide))) (hk.f (i := 5) (dC (by decide))) rfl)) rfl rfl hl.1 rfl (lv_room (Nat.le_of_ble_eq_true rfl)) dX5_premiumOfSegmentFrom_6 ⟨Nat.le_of_ble_eq_true rfl, Nat.le_of_ble_eq_true rfl⟩) (fun r L1 f1 H locs hp hw => ?_)
  obtain ⟨hE_6, hu⟩ := hp
  obtain rfl : _ = L1 := (congrArg Prod.fst hu).symm
  obtain rfl : _ = f1 := (congrArg Prod.snd hu).symm
  generalize r = r_6 at hE_6 ⊢
  refine lv_aload_n hx hb dX5_premiumOfSegmentFrom_9 rfl (lv_at hl 0 rfl) ?_
  refine lv_iload_n hx hb dX5_premiumOfSegmentFrom_10 rfl (lv_at hl 1 rfl) ?_
  refine pc_i hw (va_runV (As := [.int (nI i)]) (rest := [.int r_6]) CF (c_chargeUpTo l g L _ a k hk i (by omega) _) (cwV 1 hts gX5_premiumOfSegmentFrom_X5_chargeUpTo rfl rfl rfl (by decide +kernel) ⟨Nat.le_of_ble_eq_true rfl, Nat.le_of_ble_eq_true rfl⟩) (pm_preV hw hs (pm_recv hw (hk.q (i := 5) (dC (by decide))) (hk.f (i := 5) (dC (by decide))) rfl)) rfl rfl hl.1 rfl (lv_room (Nat.le_of_ble_eq_true rfl)) dX5_premiumOfSegmentFrom_11 ⟨Nat.le_of_ble_eq_true rfl, Nat.le_of_ble_eq_true rfl⟩) (fun r L1 f1 H locs hp hw => ?_)
  obtain ⟨hE_11, hu⟩ := hp
  obtain rfl : _ = L1 := (congrArg Prod.fst hu).symm
  obtain rfl : _ = f1 := (congrArg Prod.snd hu).symm
  generalize r = r_11 at hE_11 ⊢
  refine lv_isub hx hb dX5_premiumOfSegmentFrom_14 ?_
  exact pr_i (v := (r_6 - r_11)) hx hb hr hlocks hw rfl ⟨Nat.le_of_ble_eq_true rfl, Nat.le_of_ble_eq_true rfl⟩ (⟨by rw [hE_6, hE_11], rfl⟩) dX5_premiumOfSegmentFrom_15

set_option maxHeartbeats 4000000 in
set_option maxRecDepth 100000 in
theorem c_sumOfPremiums (l : Launch) (g : GE) (L : List Nat) (f : Nat → va_E) (a : Nat → Nat) (k : KS) (hk : CW g a k L f)  : Mi l yX5_sumOfPremiums wsX5_sumOfPremiums (rmH 3 0 0) g L f [.ref (a 5)] (fun r u => r = sumP (k.1 2) (k.1 3) 365 ∧ u = (L, f)) 0 0 := by
  intro sz
  refine Met.ofW (cc := cX5_sumOfPremiums) (maxL := 3) (ret := (some .int)) (by decide) rfl ?_
  intro p e s m args below meth c s₁ B hml hv
  obtain ⟨rfl, hv⟩ := hv
  have hx := B.exec
  have hb := B.bytes
  have hr := B.returns
  have hts := atoms_spec (ws := wsX5_sumOfPremiums) B.pre
  have hown : s.vm.findClass RX5 = some m.cls := findClass_of_methodNamed B.named
  have hlocks := B.notSynchronized
  obtain ⟨rfl, hw, hs⟩ := pm_begin hv
  generalize va_A (va_pl L f) s.heap.size = A at hw hs ⊢
  have CF := (⟨hx, hb, hml, hown, hts⟩ : CallFix p m c cX5_sumOfPremiums 3 s _ wsX5_sumOfPremiums RX5)
  have hin_X5 : ∀ w ∈ wsX50, w ∈ wsX5_sumOfPremiums := by decide +kernel
  have hl := lv_entry ([.ref (a 5)]) (n := 3) (Nat.le_of_ble_eq_true rfl)
  rw [lg_entry_eq]
  generalize (lg_sl ([.ref (a 5)]) ++ List.replicate (3 - (lg_sl ([.ref (a 5)])).length) Slot.unset).toArray = ls at hl ⊢
  have hl : lv_has ls 3 [(0, .ref (a 5))] := hl
  refine lv_iconst (v := 0) hx hb dX5_sumOfPremiums_0 (by decide) ?_
  refine lv_istore_n (lv' := [(1, .int 0), (0, .ref (a 5))]) hx hb dX5_sumOfPremiums_1 rfl hl (by decide) rfl (fun ls hl => ?_)
  refine lv_iconst (v := 0) hx hb dX5_sumOfPremiums_2 (by decide) ?_
  refine lv_istore_n (lv' := [(2, .int 0), (1, .int 0), (0, .ref (a 5))]) hx hb dX5_sumOfPremiums_3 rfl hl (by decide) rfl (fun ls hl => ?_)
  refine W_loop (σ := Nat) (fun i H locs ls => (i ≤ 365) ∧ PW g A s H locs L _ ∧ lv_has ls 3 [(2, .int (nI i)), (1, .int (sumP (k.1 2) (k.1 3) i)), (0, .ref (a 5))]) (fun i => 365 - i) 0 ⟨Nat.zero_le _, hw, lv_sub hl [0, 1, 2] rfl⟩ ?_
  rintro i H locs ls ⟨hi9, hw, hl⟩ ih_4
  refine lv_iload_n hx hb dX5_sumOfPremiums_4 rfl (lv_at hl 0 rfl) ?_
  refine lv_sipush (v := 365) hx hb dX5_sumOfPremiums_5 (by decide) ?_
  refine lv_icmp_ge (tgt := 33) hx hb dX5_sumOfPremiums_8 (by decide) (fun c_8 => ?_) (fun c_8 => ?_)
  · have hi5 : i = 365 := by rw [show (365 : Int32) = nI 365 from rfl, nI_leI (by decide) (by omega)] at c_8; omega
    refine lv_iload_n hx hb dX5_sumOfPremiums_33 rfl (lv_at hl 1 rfl) ?_
    exact pr_i (v := (sumP (k.1 2) (k.1 3) i)) hx hb hr hlocks hw rfl ⟨Nat.le_of_ble_eq_true rfl, Nat.le_of_ble_eq_true rfl⟩ (⟨by rw [hi5], rfl⟩) dX5_sumOfPremiums_34
  · have hi : i < 365 := by rw [show (365 : Int32) = nI 365 from rfl, nI_leI (by decide) (by omega)] at c_8; omega
    refine lv_aload_n hx hb dX5_sumOfPremiums_11 rfl (lv_at hl 2 rfl) ?_
    refine lv_iload_n hx hb dX5_sumOfPremiums_12 rfl (lv_at hl 0 rfl) ?_
    refine pc_i hw (va_runV (As := [.int (nI i)]) (rest := []) CF ((c_isStart l g L _ a k hk i hi) _) (cwV 1 hts gX5_sumOfPremiums_X5_isStart rfl rfl rfl (by decide +kernel) ⟨Nat.le_of_ble_eq_true rfl, Nat.le_of_ble_eq_true rfl⟩) (pm_preV hw hs (pm_recv hw (hk.q (i := 5) (dC (by decide))) (hk.f (i := 5) (dC (by decide))) rfl)) rfl rfl hl.1 rfl (lv_room (Nat.le_of_ble_eq_true rfl)) dX5_sumOfPremiums_13 ⟨Nat.le_of_ble_eq_true rfl, Nat.le_of_ble_eq_true rfl⟩) (fun r L1 f1 H locs hp hw => ?_)
    obtain ⟨hE_13, hu⟩ := hp
    obtain rfl : _ = L1 := (congrArg Prod.fst hu).symm
    obtain rfl : _ = f1 := (congrArg Prod.snd hu).symm
    generalize r = r_13 at hE_13 ⊢
    refine lv_if_eq (tgt := 27) hx hb dX5_sumOfPremiums_16 (by decide) (fun c_16 => ?_) (fun c_16 => ?_)
    · have hP := b2i_eq0 (hE_13 ▸ c_16)
      rw [← sumP_f hP] at hl
      refine lv_iinc (v := (nI (i + 1))) (lv' := [(2, .int (nI (i + 1))), (1, .int (sumP (k.1 2) (k.1 3) (i + 1))), (0, .ref (a 5))]) hx hb dX5_sumOfPremiums_27 hl (k := 0) rfl (nI_1 i) (by decide) rfl (fun ls hl => ?_)
      refine lv_goto (tgt := 4) hx hb dX5_sumOfPremiums_30 (by decide) ?_
      exact ih_4 (i + 1) _ _ _ (by omega) ⟨by omega, hw, lv_sub hl [0, 1, 2] rfl⟩
    · have hP := b2i_ne0 (hE_13 ▸ c_16)
      refine lv_iload_n hx hb dX5_sumOfPremiums_19 rfl (lv_at hl 1 rfl) ?_
      refine lv_aload_n hx hb dX5_sumOfPremiums_20 rfl (lv_at hl 2 rfl) ?_
      refine lv_iload_n hx hb dX5_sumOfPremiums_21 rfl (lv_at hl 0 rfl) ?_
      refine pc_i hw (va_runV (As := [.int (nI i)]) (rest := [.int (sumP (k.1 2) (k.1 3) i)]) CF (c_premiumFrom l g L _ a k hk i hi _) (cwV 1 hts gX5_sumOfPremiums_X5_premiumOfSegmentFrom rfl rfl rfl (by decide +kernel) ⟨Nat.le_of_ble_eq_true rfl, Nat.le_of_ble_eq_true rfl⟩) (pm_preV hw hs (pm_recv hw (hk.q (i := 5) (dC (by decide))) (hk.f (i := 5) (dC (by decide))) rfl)) rfl rfl hl.1 rfl (lv_room (Nat.le_of_ble_eq_true rfl)) dX5_sumOfPremiums_22 ⟨Nat.le_of_ble_eq_true rfl, Nat.le_of_ble_eq_true rfl⟩) (fun r L1 f1 H locs hp hw => ?_)
      obtain ⟨hE_22, hu⟩ := hp
      obtain rfl : _ = L1 := (congrArg Prod.fst hu).symm
      obtain rfl : _ = f1 := (congrArg Prod.snd hu).symm
      generalize r = r_22 at hE_22 ⊢
      refine lv_iadd hx hb dX5_sumOfPremiums_25 ?_
      rw [hE_22, ← sumP_t hP]
      refine lv_istore_n (lv' := [(1, .int (sumP (k.1 2) (k.1 3) (i + 1))), (2, .int (nI i)), (0, .ref (a 5))]) hx hb dX5_sumOfPremiums_26 rfl hl (by decide) rfl (fun ls hl => ?_)
      refine lv_iinc (v := (nI (i + 1))) (lv' := [(2, .int (nI (i + 1))), (1, .int (sumP (k.1 2) (k.1 3) (i + 1))), (0, .ref (a 5))]) hx hb dX5_sumOfPremiums_27 hl (k := 1) rfl (nI_1 i) (by decide) rfl (fun ls hl => ?_)
      refine lv_goto (tgt := 4) hx hb dX5_sumOfPremiums_30 (by decide) ?_
      exact ih_4 (i + 1) _ _ _ (by omega) ⟨by omega, hw, lv_sub hl [0, 1, 2] rfl⟩

end YEAR
