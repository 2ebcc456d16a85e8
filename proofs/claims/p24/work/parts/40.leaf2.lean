/-! leaves: the version, the year, the tariffs -/
section LEAF2
theorem b2i_ne0 {P : Prop} [Decidable P] (h : ¬ b2i P = 0) : P := by
  by_cases hp : P
  · exact hp
  · exact absurd (if_neg hp) h
theorem b2i_eq0 {P : Prop} [Decidable P] (h : b2i P = 0) : ¬ P := fun hp => by
  rw [b2i, if_pos hp] at h
  exact absurd h (by decide)
def s_val (v : Nat → Int32) (x : Int32) : Int32 := if 0 ≤ x.toInt ∧ x.toInt < 3 then v x.toNatClampNeg else 0
def s_put (v : Nat → Int32) (x y : Int32) : Nat → Int32 := if 0 ≤ x.toInt ∧ x.toInt < 3 then upd v x.toNatClampNeg y else v
theorem in3 {x : Int32} (h : 0 ≤ x.toInt ∧ x.toInt < 3) : vp_in x 3 := vp_in_iff.mpr ⟨h.1, by have := h.2; omega⟩

set_option maxHeartbeats 4000000 in
set_option maxRecDepth 100000 in
theorem c_valueOf (l : Launch) (g : GE) (L : List Nat) (f : Nat → va_E) (a : Nat → Nat) (k : KS) (hk : CW g a k L f) (x : Int32) : Mi l yX4_valueOf wsX4_valueOf (rmH 1 0 0) g L f [.ref (a 4), .int x] (fun r u => r = s_val (k.1 1) x ∧ u = (L, f)) 0 0 := by
  intro sz
  refine Met.ofW (cc := cX4_valueOf) (maxL := 2) (ret := (some .int)) (by decide) rfl ?_
  intro p e s m args below meth c s₁ B hml hv
  obtain ⟨rfl, hv⟩ := hv
  have hx := B.exec
  have hb := B.bytes
  have hr := B.returns
  have hts := atoms_spec (ws := wsX4_valueOf) B.pre
  have hown : s.vm.findClass RX4 = some m.cls := findClass_of_methodNamed B.named
  have hlocks := B.notSynchronized
  obtain ⟨rfl, hw, hs⟩ := pm_begin hv
  generalize va_A (va_pl L f) s.heap.size = A at hw hs ⊢
  have CF := (⟨hx, hb, hml, hown, hts⟩ : CallFix p m c cX4_valueOf 2 s _ wsX4_valueOf RX4)
  have hin_X4 : ∀ w ∈ wsX40, w ∈ wsX4_valueOf := by decide +kernel
  have hl := lv_entry ([.ref (a 4), .int x]) (n := 2) (Nat.le_of_ble_eq_true rfl)
  rw [lg_entry_eq]
  generalize (lg_sl ([.ref (a 4), .int x]) ++ List.replicate (2 - (lg_sl ([.ref (a 4), .int x])).length) Slot.unset).toArray = ls at hl ⊢
  have hl : lv_has ls 2 [(0, .ref (a 4)), (1, .int x)] := hl
  refine lv_iload_n hx hb dX4_valueOf_0 rfl (lv_at hl 1 rfl) ?_
  refine pc_i hw (va_runSN (As := [.int x]) (rest := []) CF ((c_isField l g L _ x) _) ⟨va_cnB 1 hts gX4_valueOf_X6_isField_n66 rfl rfl rfl (hs.2.2.2.2.2.1 (RX4, 66, yX6_isField) (by decide +kernel)) (hts (.initialized RX6) (by decide +kernel)) (by decide +kernel) ⟨Nat.le_of_ble_eq_true rfl, Nat.le_of_ble_eq_true rfl⟩, hts (.static yX6_isField) (by decide +kernel), trivial⟩ (pm_preS hw hs) rfl rfl hl.1 rfl (lv_room (Nat.le_of_ble_eq_true rfl)) dX4_valueOf_1 ⟨Nat.le_of_ble_eq_true rfl, Nat.le_of_ble_eq_true rfl⟩) (fun r L1 f1 H locs hp hw => ?_)
  obtain ⟨hE_1, hu⟩ := hp
  obtain rfl : _ = L1 := (congrArg Prod.fst hu).symm
  obtain rfl : _ = f1 := (congrArg Prod.snd hu).symm
  generalize r = r_1 at hE_1 ⊢
  refine lv_if_eq (tgt := 16) hx hb dX4_valueOf_4 (by decide) (fun c_4 => ?_) (fun c_4 => ?_)
  · have hP := b2i_eq0 (hE_1 ▸ c_4)
    refine lv_iconst (v := 0) hx hb dX4_valueOf_16 (by decide) ?_
    exact pr_i (v := 0) hx hb hr hlocks hw rfl ⟨Nat.le_of_ble_eq_true rfl, Nat.le_of_ble_eq_true rfl⟩ (⟨(if_neg hP).symm, rfl⟩) dX4_valueOf_17
  · have hP := b2i_ne0 (hE_1 ▸ c_4)
    refine lv_aload_n hx hb dX4_valueOf_7 rfl (lv_at hl 0 rfl) ?_
    refine pm_get (ci := 6) (v := .ref (a 14)) (C := RX4) (T := TX4) (N := 2) hx hb hts hin_X4 hown hw (hk.q (i := 4) (dC (by decide))) (hk.f (i := 4) (dC (by decide))) rfl 0 (by decide) (hts (.fieldLink RX4 9 "Backdater$Version" "values" "[I") (by decide +kernel)) (fun _ h9 => h9) rfl dX4_valueOf_8 ?_
    refine lv_iload_n hx hb dX4_valueOf_11 rfl (lv_at hl 1 rfl) ?_
    refine pm_iald (n := 3) (r := (k.1 1)) hx hb hw (hk.q (i := 14) (dC (by decide))) (hk.f (i := 14) (dC (by decide))) (j := (x).toNatClampNeg) (rfl) (in3 hP) dX4_valueOf_12 ?_
    refine lv_goto (tgt := 17) hx hb dX4_valueOf_13 (by decide) ?_
    exact pr_i (v := ((k.1 1) ((x).toNatClampNeg))) hx hb hr hlocks hw rfl ⟨Nat.le_of_ble_eq_true rfl, Nat.le_of_ble_eq_true rfl⟩ (⟨(if_pos hP).symm, rfl⟩) dX4_valueOf_17

set_option maxHeartbeats 4000000 in
set_option maxRecDepth 100000 in
theorem c_putValue (l : Launch) (g : GE) (L : List Nat) (f : Nat → va_E) (a : Nat → Nat) (k : KS) (hk : CW g a k L f) (x y : Int32) : Mv l yX4_putValue wsX4_putValue (rmH 1 0 0) g L f [.ref (a 4), .int x, .int y] (fun u => u.1 = L ∧ CW g a (kV k 1 (s_put (k.1 1) x y)) L u.2) 0 0 := by
  intro sz
  refine Met.ofW (cc := cX4_putValue) (maxL := 3) (ret := none) (by decide) rfl ?_
  intro p e s m args below meth c s₁ B hml hv
  obtain ⟨rfl, hv⟩ := hv
  have hx := B.exec
  have hb := B.bytes
  have hr := B.returns
  have hts := atoms_spec (ws := wsX4_putValue) B.pre
  have hown : s.vm.findClass RX4 = some m.cls := findClass_of_methodNamed B.named
  have hlocks := B.notSynchronized
  obtain ⟨rfl, hw, hs⟩ := pm_begin hv
  generalize va_A (va_pl L f) s.heap.size = A at hw hs ⊢
  have CF := (⟨hx, hb, hml, hown, hts⟩ : CallFix p m c cX4_putValue 3 s _ wsX4_putValue RX4)
  have hin_X4 : ∀ w ∈ wsX40, w ∈ wsX4_putValue := by decide +kernel
  have hl := lv_entry ([.ref (a 4), .int x, .int y]) (n := 3) (Nat.le_of_ble_eq_true rfl)
  rw [lg_entry_eq]
  generalize (lg_sl ([.ref (a 4), .int x, .int y]) ++ List.replicate (3 - (lg_sl ([.ref (a 4), .int x, .int y])).length) Slot.unset).toArray = ls at hl ⊢
  have hl : lv_has ls 3 [(0, .ref (a 4)), (1, .int x), (2, .int y)] := hl
  refine lv_iload_n hx hb dX4_putValue_0 rfl (lv_at hl 1 rfl) ?_
  refine pc_i hw (va_runSN (As := [.int x]) (rest := []) CF ((c_isField l g L _ x) _) ⟨va_cnB 1 hts gX4_putValue_X6_isField_n66 rfl rfl rfl (hs.2.2.2.2.2.1 (RX4, 66, yX6_isField) (by decide +kernel)) (hts (.initialized RX6) (by decide +kernel)) (by decide +kernel) ⟨Nat.le_of_ble_eq_true rfl, Nat.le_of_ble_eq_true rfl⟩, hts (.static yX6_isField) (by decide +kernel), trivial⟩ (pm_preS hw hs) rfl rfl hl.1 rfl (lv_room (Nat.le_of_ble_eq_true rfl)) dX4_putValue_1 ⟨Nat.le_of_ble_eq_true rfl, Nat.le_of_ble_eq_true rfl⟩) (fun r L1 f1 H locs hp hw => ?_)
  obtain ⟨hE_1, hu⟩ := hp
  obtain rfl : _ = L1 := (congrArg Prod.fst hu).symm
  obtain rfl : _ = f1 := (congrArg Prod.snd hu).symm
  generalize r = r_1 at hE_1 ⊢
  refine lv_if_eq (tgt := 14) hx hb dX4_putValue_4 (by decide) (fun c_4 => ?_) (fun c_4 => ?_)
  · have hP := b2i_eq0 (hE_1 ▸ c_4)
    exact pr_v hx hb hr hlocks hw ⟨Nat.le_of_ble_eq_true rfl, Nat.le_of_ble_eq_true rfl⟩ (⟨rfl, by rw [s_put, if_neg hP, kV_id]; exact hk⟩) dX4_putValue_14
  · have hP := b2i_ne0 (hE_1 ▸ c_4)
    refine lv_aload_n hx hb dX4_putValue_7 rfl (lv_at hl 0 rfl) ?_
    refine pm_get (ci := 6) (v := .ref (a 14)) (C := RX4) (T := TX4) (N := 2) hx hb hts hin_X4 hown hw (hk.q (i := 4) (dC (by decide))) (hk.f (i := 4) (dC (by decide))) rfl 0 (by decide) (hts (.fieldLink RX4 9 "Backdater$Version" "values" "[I") (by decide +kernel)) (fun _ h9 => h9) rfl dX4_putValue_8 ?_
    refine lv_iload_n hx hb dX4_putValue_11 rfl (lv_at hl 1 rfl) ?_
    refine lv_iload_n hx hb dX4_putValue_12 rfl (lv_at hl 2 rfl) ?_
    refine pm_iast (n := 3) (r := (k.1 1)) hx hb hw (hk.q (i := 14) (dC (by decide))) (hk.f (i := 14) (dC (by decide))) (j := (x).toNatClampNeg) (rfl) (in3 hP) dX4_putValue_13 (fun H locs hw => ?_)
    have hk := hk.vals (upd (k.1 1) ((x).toNatClampNeg) y)
    exact pr_v hx hb hr hlocks hw ⟨Nat.le_of_ble_eq_true rfl, Nat.le_of_ble_eq_true rfl⟩ (⟨rfl, by rw [s_put, if_pos hP]; exact hk⟩) dX4_putValue_14

abbrev isSt (rt : Nat → Int32) (i : Nat) : Prop := 0 < (rt i).toInt ∧ (i = 0 ∨ rt (i - 1) ≠ rt i)
def cntS (rt : Nat → Int32) : Nat → Nat
  | 0 => 0
  | n + 1 => cntS rt n + if isSt rt n then 1 else 0
theorem cntS_t {rt : Nat → Int32} {n : Nat} (h : isSt rt n) : cntS rt (n + 1) = cntS rt n + 1 := by rw [cntS, if_pos h]
theorem cntS_f {rt : Nat → Int32} {n : Nat} (h : ¬ isSt rt n) : cntS rt (n + 1) = cntS rt n := by rw [cntS, if_neg h]; rfl
theorem cntS_le (rt : Nat → Int32) : ∀ n, cntS rt n ≤ n
  | 0 => Nat.le_refl 0
  | n + 1 => by
    have := cntS_le rt n
    rw [cntS]
    split <;> omega
/-- the first day behind the row of days of rate c, from j on -/
def endS (rt : Nat → Int32) (c : Int32) : Nat → Nat → Nat
  | 0, j => j
  | n + 1, j => if rt j = c then endS rt c n (j + 1) else j
theorem endS_le (rt : Nat → Int32) (c : Int32) : ∀ n j, endS rt c n j ≤ n + j
  | 0, j => by rw [endS]; omega
  | n + 1, j => by
    have := endS_le rt c n (j + 1)
    rw [endS]
    split <;> omega
abbrev endD (rt : Nat → Int32) (i : Nat) : Nat := endS rt (rt i) (365 - i) i
theorem endD_le (rt : Nat → Int32) {i : Nat} (h : i ≤ 365) : endD rt i ≤ 365 := by
  have := endS_le rt (rt i) (365 - i) i
  unfold endD
  omega
def sumP (rt sm : Nat → Int32) : Nat → Int32
  | 0 => 0
  | n + 1 => if isSt rt n then sumP rt sm n + (sm (endD rt n) / 365 - sm n / 365) else sumP rt sm n
theorem dayT {i : Nat} (h : i < 365) : 0 ≤ (nI i).toInt ∧ (nI i).toInt < 365 := by
  rw [nI_toInt (by omega)]
  omega
theorem nI_i1 {i : Nat} (h : 0 < i) : nI i - 1 = nI (i - 1) := pk_sub (b := 1) h

set_option maxHeartbeats 4000000 in
set_option maxRecDepth 100000 in
theorem c_putRate (l : Launch) (g : GE) (L : List Nat) (f : Nat → va_E) (a : Nat → Nat) (k : KS) (hk : CW g a k L f) (i : Nat) (hi : i < 365) (x : Int32) : Mv l yX5_putRate wsX5_putRate (rmH 1 0 0) g L f [.ref (a 5), .int (nI i), .int x] (fun u => u.1 = L ∧ CW g a (kV (kV k 2 (upd (k.1 2) i x)) 3 (upd (k.1 3) (i + 1) (k.1 3 i + x))) L u.2) 0 0 := by
  intro sz
  refine Met.ofW (cc := cX5_putRate) (maxL := 3) (ret := none) (by decide) rfl ?_
  intro p e s m args below meth c s₁ B hml hv
  obtain ⟨rfl, hv⟩ := hv
  have hx := B.exec
  have hb := B.bytes
  have hr := B.returns
  have hts := atoms_spec (ws := wsX5_putRate) B.pre
  have hown : s.vm.findClass RX5 = some m.cls := findClass_of_methodNamed B.named
  have hlocks := B.notSynchronized
  obtain ⟨rfl, hw, hs⟩ := pm_begin hv
  generalize va_A (va_pl L f) s.heap.size = A at hw hs ⊢
  have CF := (⟨hx, hb, hml, hown, hts⟩ : CallFix p m c cX5_putRate 3 s _ wsX5_putRate RX5)
  have hin_X5 : ∀ w ∈ wsX50, w ∈ wsX5_putRate := by decide +kernel
  have hl := lv_entry ([.ref (a 5), .int (nI i), .int x]) (n := 3) (Nat.le_of_ble_eq_true rfl)
  rw [lg_entry_eq]
  generalize (lg_sl ([.ref (a 5), .int (nI i), .int x]) ++ List.replicate (3 - (lg_sl ([.ref (a 5), .int (nI i), .int x])).length) Slot.unset).toArray = ls at hl ⊢
  have hl : lv_has ls 3 [(0, .ref (a 5)), (1, .int (nI i)), (2, .int x)] := hl
  refine lv_iload_n hx hb dX5_putRate_0 rfl (lv_at hl 1 rfl) ?_
  refine pc_i hw (va_runSN (As := [.int (nI i)]) (rest := []) CF ((c_isDay l g L _ (nI i)) _) ⟨va_cnB 1 hts gX5_putRate_X6_isDay_n18 rfl rfl rfl (hs.2.2.2.2.2.1 (RX5, 18, yX6_isDay) (by decide +kernel)) (hts (.initialized RX6) (by decide +kernel)) (by decide +kernel) ⟨Nat.le_of_ble_eq_true rfl, Nat.le_of_ble_eq_true rfl⟩, hts (.static yX6_isDay) (by decide +kernel), trivial⟩ (pm_preS hw hs) rfl rfl hl.1 rfl (lv_room (Nat.le_of_ble_eq_true rfl)) dX5_putRate_1 ⟨Nat.le_of_ble_eq_true rfl, Nat.le_of_ble_eq_true rfl⟩) (fun r L1 f1 H locs hp hw => ?_)
  obtain ⟨hE_1, hu⟩ := hp
  obtain rfl : _ = L1 := (congrArg Prod.fst hu).symm
  obtain rfl : _ = f1 := (congrArg Prod.snd hu).symm
  generalize r = r_1 at hE_1 ⊢
  refine lv_if_eq (tgt := 30) hx hb dX5_putRate_4 (by decide) (fun c_4 => ?_) (fun c_4 => ?_)
  · exact absurd (dayT hi) (b2i_eq0 (hE_1 ▸ c_4))
  · refine lv_aload_n hx hb dX5_putRate_7 rfl (lv_at hl 0 rfl) ?_
    refine pm_get (ci := 7) (v := .ref (a 15)) (C := RX5) (T := TX5) (N := 2) hx hb hts hin_X5 hown hw (hk.q (i := 5) (dC (by decide))) (hk.f (i := 5) (dC (by decide))) rfl 0 (by decide) (hts (.fieldLink RX5 9 "Backdater$Year" "rates" "[I") (by decide +kernel)) (fun _ h9 => h9) rfl dX5_putRate_8 ?_
    refine lv_iload_n hx hb dX5_putRate_11 rfl (lv_at hl 1 rfl) ?_
    refine lv_iload_n hx hb dX5_putRate_12 rfl (lv_at hl 2 rfl) ?_
    refine pm_iast (n := 365) (r := (k.1 2)) hx hb hw (hk.q (i := 15) (dC (by decide))) (hk.f (i := 15) (dC (by decide))) (j := i) (nI_clamp (by omega)) (vp_in_nI hi (by decide)) dX5_putRate_13 (fun H locs hw => ?_)
    have hk := hk.rates (upd (k.1 2) i x)
    refine lv_aload_n hx hb dX5_putRate_14 rfl (lv_at hl 0 rfl) ?_
    refine pm_get (ci := 7) (v := .ref (a 16)) (C := RX5) (T := TX5) (N := 2) hx hb hts hin_X5 hown hw (hk.q (i := 5) (dC (by decide))) (hk.f (i := 5) (dC (by decide))) rfl 1 (by decide) (hts (.fieldLink RX5 15 "Backdater$Year" "sums" "[I") (by decide +kernel)) (fun _ h9 => h9) rfl dX5_putRate_15 ?_
    refine lv_iload_n hx hb dX5_putRate_18 rfl (lv_at hl 1 rfl) ?_
    refine lv_iconst (v := 1) hx hb dX5_putRate_19 (by decide) ?_
    refine lv_iadd hx hb dX5_putRate_20 ?_
    refine lv_aload_n hx hb dX5_putRate_21 rfl (lv_at hl 0 rfl) ?_
    refine pm_get (ci := 7) (v := .ref (a 16)) (C := RX5) (T := TX5) (N := 2) hx hb hts hin_X5 hown hw (hk.q (i := 5) (dC (by decide))) (hk.f (i := 5) (dC (by decide))) rfl 1 (by decide) (hts (.fieldLink RX5 15 "Backdater$Year" "sums" "[I") (by decide +kernel)) (fun _ h9 => h9) rfl dX5_putRate_22 ?_
    refine lv_iload_n hx hb dX5_putRate_25 rfl (lv_at hl 1 rfl) ?_
    refine pm_iald (n := 366) (r := (k.1 3)) hx hb hw (hk.q (i := 16) (dC (by decide))) (hk.f (i := 16) (dC (by decide))) (j := i) (nI_clamp (by omega)) (vp_in_nI (by omega) (by decide)) dX5_putRate_26 ?_
    refine lv_iload_n hx hb dX5_putRate_27 rfl (lv_at hl 2 rfl) ?_
    refine lv_iadd hx hb dX5_putRate_28 ?_
    refine pm_iast (n := 366) (r := (k.1 3)) hx hb hw (hk.q (i := 16) (dC (by decide))) (hk.f (i := 16) (dC (by decide))) (j := (i + 1)) (by rw [nI_1]; exact nI_clamp (by omega)) (by rw [nI_1]; exact vp_in_nI (by omega) (by decide)) dX5_putRate_29 (fun H locs hw => ?_)
    have hk := hk.sums (upd (k.1 3) (i + 1) (((k.1 3) i) + x))
    exact pr_v hx hb hr hlocks hw ⟨Nat.le_of_ble_eq_true rfl, Nat.le_of_ble_eq_true rfl⟩ (⟨rfl, hk⟩) dX5_putRate_30

set_option maxHeartbeats 4000000 in
set_option maxRecDepth 100000 in
theorem c_isStart (l : Launch) (g : GE) (L : List Nat) (f : Nat → va_E) (a : Nat → Nat) (k : KS) (hk : CW g a k L f) (i : Nat) (hi : i < 365) : Mi l yX5_isStart wsX5_isStart (rmH 1 0 0) g L f [.ref (a 5), .int (nI i)] (fun r u => r = b2i (isSt (k.1 2) i) ∧ u = (L, f)) 0 0 := by
  intro sz
  refine Met.ofW (cc := cX5_isStart) (maxL := 2) (ret := (some .boolean)) (by decide) rfl ?_
  intro p e s m args below meth c s₁ B hml hv
  obtain ⟨rfl, hv⟩ := hv
  have hx := B.exec
  have hb := B.bytes
  have hr := B.returns
  have hts := atoms_spec (ws := wsX5_isStart) B.pre
  have hown : s.vm.findClass RX5 = some m.cls := findClass_of_methodNamed B.named
  have hlocks := B.notSynchronized
  obtain ⟨rfl, hw, hs⟩ := pm_begin hv
  generalize va_A (va_pl L f) s.heap.size = A at hw hs ⊢
  have CF := (⟨hx, hb, hml, hown, hts⟩ : CallFix p m c cX5_isStart 2 s _ wsX5_isStart RX5)
  have hin_X5 : ∀ w ∈ wsX50, w ∈ wsX5_isStart := by decide +kernel
  have hl := lv_entry ([.ref (a 5), .int (nI i)]) (n := 2) (Nat.le_of_ble_eq_true rfl)
  rw [lg_entry_eq]
  generalize (lg_sl ([.ref (a 5), .int (nI i)]) ++ List.replicate (2 - (lg_sl ([.ref (a 5), .int (nI i)])).length) Slot.unset).toArray = ls at hl ⊢
  have hl : lv_has ls 2 [(0, .ref (a 5)), (1, .int (nI i))] := hl
  refine lv_iload_n hx hb dX5_isStart_0 rfl (lv_at hl 1 rfl) ?_
  refine pc_i hw (va_runSN (As := [.int (nI i)]) (rest := []) CF ((c_isDay l g L _ (nI i)) _) ⟨va_cnB 1 hts gX5_isStart_X6_isDay_n18 rfl rfl rfl (hs.2.2.2.2.2.1 (RX5, 18, yX6_isDay) (by decide +kernel)) (hts (.initialized RX6) (by decide +kernel)) (by decide +kernel) ⟨Nat.le_of_ble_eq_true rfl, Nat.le_of_ble_eq_true rfl⟩, hts (.static yX6_isDay) (by decide +kernel), trivial⟩ (pm_preS hw hs) rfl rfl hl.1 rfl (lv_room (Nat.le_of_ble_eq_true rfl)) dX5_isStart_1 ⟨Nat.le_of_ble_eq_true rfl, Nat.le_of_ble_eq_true rfl⟩) (fun r L1 f1 H locs hp hw => ?_)
  obtain ⟨hE_1, hu⟩ := hp
  obtain rfl : _ = L1 := (congrArg Prod.fst hu).symm
  obtain rfl : _ = f1 := (congrArg Prod.snd hu).symm
  generalize r = r_1 at hE_1 ⊢
  refine lv_if_eq (tgt := 41) hx hb dX5_isStart_4 (by decide) (fun c_4 => ?_) (fun c_4 => ?_)
  · exact absurd (dayT hi) (b2i_eq0 (hE_1 ▸ c_4))
  · refine lv_aload_n hx hb dX5_isStart_7 rfl (lv_at hl 0 rfl) ?_
    refine pm_get (ci := 7) (v := .ref (a 15)) (C := RX5) (T := TX5) (N := 2) hx hb hts hin_X5 hown hw (hk.q (i := 5) (dC (by decide))) (hk.f (i := 5) (dC (by decide))) rfl 0 (by decide) (hts (.fieldLink RX5 9 "Backdater$Year" "rates" "[I") (by decide +kernel)) (fun _ h9 => h9) rfl dX5_isStart_8 ?_
    refine lv_iload_n hx hb dX5_isStart_11 rfl (lv_at hl 1 rfl) ?_
    refine pm_iald (n := 365) (r := (k.1 2)) hx hb hw (hk.q (i := 15) (dC (by decide))) (hk.f (i := 15) (dC (by decide))) (j := i) (nI_clamp (by omega)) (vp_in_nI hi (by decide)) dX5_isStart_12 ?_
    refine lv_if_le (tgt := 41) hx hb dX5_isStart_13 (by decide) (fun c_13 => ?_) (fun c_13 => ?_)
    · have hP : ¬ isSt (k.1 2) i := fun h => by rw [i32_le] at c_13; have h1 := h.1; rw [i32_0] at c_13; omega
      refine lv_iconst (v := 0) hx hb dX5_isStart_41 (by decide) ?_
      exact pr_i (v := 0) hx hb hr hlocks hw rfl ⟨Nat.le_of_ble_eq_true rfl, Nat.le_of_ble_eq_true rfl⟩ (⟨b2i_f hP, rfl⟩) dX5_isStart_42
    · have h0 : 0 < (k.1 2 i).toInt := by rw [i32_le, i32_0] at c_13; omega
      refine lv_iload_n hx hb dX5_isStart_16 rfl (lv_at hl 1 rfl) ?_
      refine lv_if_eq (tgt := 37) hx hb dX5_isStart_17 (by decide) (fun c_17 => ?_) (fun c_17 => ?_)
      · have hP : isSt (k.1 2) i := ⟨h0, Or.inl ((nI_eq (a := i) (b := 0) (by omega) (by decide)).mp c_17)⟩
        refine lv_iconst (v := 1) hx hb dX5_isStart_37 (by decide) ?_
        refine lv_goto (tgt := 42) hx hb dX5_isStart_38 (by decide) ?_
        exact pr_i (v := 1) hx hb hr hlocks hw rfl ⟨Nat.le_of_ble_eq_true rfl, Nat.le_of_ble_eq_true rfl⟩ (⟨b2i_t hP, rfl⟩) dX5_isStart_42
      · have hi0 : 0 < i := by
          rcases Nat.eq_zero_or_pos i with q | q
          · exact absurd (by rw [q]; rfl) c_17
          · exact q
        refine lv_aload_n hx hb dX5_isStart_20 rfl (lv_at hl 0 rfl) ?_
        refine pm_get (ci := 7) (v := .ref (a 15)) (C := RX5) (T := TX5) (N := 2) hx hb hts hin_X5 hown hw (hk.q (i := 5) (dC (by decide))) (hk.f (i := 5) (dC (by decide))) rfl 0 (by decide) (hts (.fieldLink RX5 9 "Backdater$Year" "rates" "[I") (by decide +kernel)) (fun _ h9 => h9) rfl dX5_isStart_21 ?_
        refine lv_iload_n hx hb dX5_isStart_24 rfl (lv_at hl 1 rfl) ?_
        refine lv_iconst (v := 1) hx hb dX5_isStart_25 (by decide) ?_
        refine lv_isub hx hb dX5_isStart_26 ?_
        refine pm_iald (n := 365) (r := (k.1 2)) hx hb hw (hk.q (i := 15) (dC (by decide))) (hk.f (i := 15) (dC (by decide))) (j := (i - 1)) (by rw [nI_i1 hi0]; exact nI_clamp (by omega)) (by rw [nI_i1 hi0]; exact vp_in_nI (by omega) (by decide)) dX5_isStart_27 ?_
        refine lv_aload_n hx hb dX5_isStart_28 rfl (lv_at hl 0 rfl) ?_
        refine pm_get (ci := 7) (v := .ref (a 15)) (C := RX5) (T := TX5) (N := 2) hx hb hts hin_X5 hown hw (hk.q (i := 5) (dC (by decide))) (hk.f (i := 5) (dC (by decide))) rfl 0 (by decide) (hts (.fieldLink RX5 9 "Backdater$Year" "rates" "[I") (by decide +kernel)) (fun _ h9 => h9) rfl dX5_isStart_29 ?_
        refine lv_iload_n hx hb dX5_isStart_32 rfl (lv_at hl 1 rfl) ?_
        refine pm_iald (n := 365) (r := (k.1 2)) hx hb hw (hk.q (i := 15) (dC (by decide))) (hk.f (i := 15) (dC (by decide))) (j := i) (nI_clamp (by omega)) (vp_in_nI hi (by decide)) dX5_isStart_33 ?_
        refine lv_icmp_eq (tgt := 41) hx hb dX5_isStart_34 (by decide) (fun c_34 => ?_) (fun c_34 => ?_)
        · have hP : ¬ isSt (k.1 2) i := fun h => h.2.elim (fun q => by omega) (fun q => q c_34)
          refine lv_iconst (v := 0) hx hb dX5_isStart_41 (by decide) ?_
          exact pr_i (v := 0) hx hb hr hlocks hw rfl ⟨Nat.le_of_ble_eq_true rfl, Nat.le_of_ble_eq_true rfl⟩ (⟨b2i_f hP, rfl⟩) dX5_isStart_42
        · have hP : isSt (k.1 2) i := ⟨h0, Or.inr c_34⟩
          refine lv_iconst (v := 1) hx hb dX5_isStart_37 (by decide) ?_
          refine lv_goto (tgt := 42) hx hb dX5_isStart_38 (by decide) ?_
          exact pr_i (v := 1) hx hb hr hlocks hw rfl ⟨Nat.le_of_ble_eq_true rfl, Nat.le_of_ble_eq_true rfl⟩ (⟨b2i_t hP, rfl⟩) dX5_isStart_42

set_option maxHeartbeats 4000000 in
set_option maxRecDepth 100000 in
theorem c_countSegments (l : Launch) (g : GE) (L : List Nat) (f : Nat → va_E) (a : Nat → Nat) (k : KS) (hk : CW g a k L f)  : Mi l yX5_countSegments wsX5_countSegments (rmH 2 0 0) g L f [.ref (a 5)] (fun r u => r = nI (cntS (k.1 2) 365) ∧ u = (L, f)) 0 0 := by
  intro sz
  refine Met.ofW (cc := cX5_countSegments) (maxL := 3) (ret := (some .int)) (by decide) rfl ?_
  intro p e s m args below meth c s₁ B hml hv
  obtain ⟨rfl, hv⟩ := hv
  have hx := B.exec
  have hb := B.bytes
  have hr := B.returns
  have hts := atoms_spec (ws := wsX5_countSegments) B.pre
  have hown : s.vm.findClass RX5 = some m.cls := findClass_of_methodNamed B.named
  have hlocks := B.notSynchronized
  obtain ⟨rfl, hw, hs⟩ := pm_begin hv
  generalize va_A (va_pl L f) s.heap.size = A at hw hs ⊢
  have CF := (⟨hx, hb, hml, hown, hts⟩ : CallFix p m c cX5_countSegments 3 s _ wsX5_countSegments RX5)
  have hin_X5 : ∀ w ∈ wsX50, w ∈ wsX5_countSegments := by decide +kernel
  have hl := lv_entry ([.ref (a 5)]) (n := 3) (Nat.le_of_ble_eq_true rfl)
  rw [lg_entry_eq]
  generalize (lg_sl ([.ref (a 5)]) ++ List.replicate (3 - (lg_sl ([.ref (a 5)])).length) Slot.unset).toArray = ls at hl ⊢
  have hl : lv_has ls 3 [(0, .ref (a 5))] := hl
  refine lv_iconst (v := 0) hx hb dX5_countSegments_0 (by decide) ?_
  refine lv_istore_n (lv' := [(1, .int 0), (0, .ref (a 5))]) hx hb dX5_countSegments_1 rfl hl (by decide) rfl (fun ls hl => ?_)
  refine lv_iconst (v := 0) hx hb dX5_countSegments_2 (by decide) ?_
  refine lv_istore_n (lv' := [(2, .int 0), (1, .int 0), (0, .ref (a 5))]) hx hb dX5_countSegments_3 rfl hl (by decide) rfl (fun ls hl => ?_)
  refine W_loop (σ := Nat) (fun i H locs ls => (i ≤ 365) ∧ PW g A s H locs L _ ∧ lv_has ls 3 [(2, .int (nI i)), (1, .int (nI (cntS (k.1 2) i))), (0, .ref (a 5))]) (fun i => 365 - i) 0 ⟨Nat.zero_le _, hw, lv_sub hl [0, 1, 2] rfl⟩ ?_
  rintro i H locs ls ⟨hi9, hw, hl⟩ ih_4
  refine lv_iload_n hx hb dX5_countSegments_4 rfl (lv_at hl 0 rfl) ?_
  refine lv_sipush (v := 365) hx hb dX5_countSegments_5 (by decide) ?_
  refine lv_icmp_ge (tgt := 28) hx hb dX5_countSegments_8 (by decide) (fun c_8 => ?_) (fun c_8 => ?_)
  · have hi5 : i = 365 := by rw [show (365 : Int32) = nI 365 from rfl, nI_leI (by decide) (by omega)] at c_8; omega
    refine lv_iload_n hx hb dX5_countSegments_28 rfl (lv_at hl 1 rfl) ?_
    exact pr_i (v := (nI (cntS (k.1 2) i))) hx hb hr hlocks hw rfl ⟨Nat.le_of_ble_eq_true rfl, Nat.le_of_ble_eq_true rfl⟩ (⟨by rw [hi5], rfl⟩) dX5_countSegments_29
  · have hi : i < 365 := by rw [show (365 : Int32) = nI 365 from rfl, nI_leI (by decide) (by omega)] at c_8; omega
    refine lv_aload_n hx hb dX5_countSegments_11 rfl (lv_at hl 2 rfl) ?_
    refine lv_iload_n hx hb dX5_countSegments_12 rfl (lv_at hl 0 rfl) ?_
    refine pc_i hw (va_runV (As := [.int (nI i)]) (rest := []) CF ((c_isStart l g L _ a k hk i hi) _) (cwV 1 hts gX5_countSegments_X5_isStart rfl rfl rfl (by decide +kernel) ⟨Nat.le_of_ble_eq_true rfl, Nat.le_of_ble_eq_true rfl⟩) (pm_preV hw hs (pm_recv hw (hk.q (i := 5) (dC (by decide))) (hk.f (i := 5) (dC (by decide))) rfl)) rfl rfl hl.1 rfl (lv_room (Nat.le_of_ble_eq_true rfl)) dX5_countSegments_13 ⟨Nat.le_of_ble_eq_true rfl, Nat.le_of_ble_eq_true rfl⟩) (fun r L1 f1 H locs hp hw => ?_)
    obtain ⟨hE_13, hu⟩ := hp
    obtain rfl : _ = L1 := (congrArg Prod.fst hu).symm
    obtain rfl : _ = f1 := (congrArg Prod.snd hu).symm
    generalize r = r_13 at hE_13 ⊢
    refine lv_if_eq (tgt := 22) hx hb dX5_countSegments_16 (by decide) (fun c_16 => ?_) (fun c_16 => ?_)
    · have hP := b2i_eq0 (hE_13 ▸ c_16)
      rw [← cntS_f hP] at hl
      refine lv_iinc (v := (nI (i + 1))) (lv' := [(2, .int (nI (i + 1))), (1, .int (nI (cntS (k.1 2) (i + 1)))), (0, .ref (a 5))]) hx hb dX5_countSegments_22 hl (k := 0) rfl (nI_1 i) (by decide) rfl (fun ls hl => ?_)
      refine lv_goto (tgt := 4) hx hb dX5_countSegments_25 (by decide) ?_
      exact ih_4 (i + 1) _ _ _ (by omega) ⟨by omega, hw, lv_sub hl [0, 1, 2] rfl⟩
    · have hP := b2i_ne0 (hE_13 ▸ c_16)
      refine lv_iinc (v := (nI (cntS (k.1 2) (i + 1)))) (lv' := [(1, .int (nI (cntS (k.1 2) (i + 1)))), (2, .int (nI i)), (0, .ref (a 5))]) hx hb dX5_countSegments_19 hl (k := 1) rfl ((nI_1 _).trans (by rw [cntS_t hP])) (by decide) rfl (fun ls hl => ?_)
      refine lv_iinc (v := (nI (i + 1))) (lv' := [(2, .int (nI (i + 1))), (1, .int (nI (cntS (k.1 2) (i + 1)))), (0, .ref (a 5))]) hx hb dX5_countSegments_22 hl (k := 1) rfl (nI_1 i) (by decide) rfl (fun ls hl => ?_)
      refine lv_goto (tgt := 4) hx hb dX5_countSegments_25 (by decide) ?_
      exact ih_4 (i + 1) _ _ _ (by omega) ⟨by omega, hw, lv_sub hl [0, 1, 2] rfl⟩

end LEAF2
