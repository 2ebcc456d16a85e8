/-! the demands, and what bears a number -/
section MID4
set_option maxHeartbeats 4000000 in
set_option maxRecDepth 100000 in
theorem c_demandDay (l : Launch) (hst : l.stackTraces = false) (g : GE) (L : List Nat) (f : Nat → va_E)  (x : Int32) : Xv l yX6_demandDay wsX6_demandDay (rmH 1 1 6) g L f [.int x] (fun u => (0 ≤ x.toInt ∧ x.toInt ≤ 364) ∧ u = (L, f)) (fun E u => E = "java/lang/IllegalArgumentException" ∧ ¬ (0 ≤ x.toInt ∧ x.toInt ≤ 364) ∧ u = (L, f)) 1 6 := by
  intro sz
  refine vx_ofW (cc := cX6_demandDay) (maxL := 1) (ret := none) (by decide) rfl ?_
  intro p e s m args below meth c s₁ B hml htab hv
  obtain ⟨rfl, hv⟩ := hv
  have hx := B.exec
  have hb := B.bytes
  have hr := B.returns
  have hts := atoms_spec (ws := wsX6_demandDay) B.pre
  have hown : s.vm.findClass RX6 = some m.cls := findClass_of_methodNamed B.named
  have hlocks := B.notSynchronized
  obtain ⟨rfl, hw, hs⟩ := pm_begin hv
  generalize va_A (va_pl L f) s.heap.size = A at hw hs ⊢
  have CF := (⟨hx, hb, hml, hown, hts⟩ : CallFix p m c cX6_demandDay 1 s _ wsX6_demandDay RX6)
  have hl := lv_entry ([.int x]) (n := 1) (Nat.le_of_ble_eq_true rfl)
  rw [lg_entry_eq]
  generalize (lg_sl ([.int x]) ++ List.replicate (1 - (lg_sl ([.int x])).length) Slot.unset).toArray = ls at hl ⊢
  have hl : lv_has ls 1 [(0, .int x)] := hl
  refine lv_iload_n hx hb dX6_demandDay_0 rfl (lv_at hl 0 rfl) ?_
  refine lv_iconst (v := 0) hx hb dX6_demandDay_1 (by decide) ?_
  refine lv_sipush (v := 364) hx hb dX6_demandDay_2 (by decide) ?_
  refine px_v hw (vx_runS (As := [.int x, .int 0, .int 364]) (rest := []) CF ((c_demandWithin l hst g L _ x 0 364) _) (va_cwS 3 hts gX6_demandDay_X6_demandWithin rfl rfl rfl (by decide +kernel) ⟨Nat.le_of_ble_eq_true rfl, Nat.le_of_ble_eq_true rfl⟩) (pm_preS hw hs) rfl rfl hl.1 rfl (lv_room (Nat.le_of_ble_eq_true rfl)) dX6_demandDay_5 ⟨Nat.le_of_ble_eq_true rfl, Nat.le_of_ble_eq_true rfl⟩) htab hlocks ⟨Nat.le_of_ble_eq_true rfl, Nat.le_of_ble_eq_true rfl⟩ (fun E u hE => hE) (fun L1 f1 H locs hp hw => ?_)
  obtain ⟨hD_5, hp⟩ := hp
  have hu := hp
  obtain rfl : _ = L1 := (congrArg Prod.fst hu).symm
  obtain rfl : _ = f1 := (congrArg Prod.snd hu).symm
  exact vx_ret (pr_v hx hb hr hlocks hw ⟨Nat.le_of_ble_eq_true rfl, Nat.le_of_ble_eq_true rfl⟩ (⟨hD_5, rfl⟩) dX6_demandDay_8)

set_option maxHeartbeats 4000000 in
set_option maxRecDepth 100000 in
theorem c_demandKnown (l : Launch) (hst : l.stackTraces = false) (g : GE) (L : List Nat) (f : Nat → va_E) (a : Nat → Nat) (k : KS) (hk : CW g a k L f) (x : Int32) : Xv l yX6_demandKnown wsX6_demandKnown (rmH 1 1 6) g L f [.ref (a 0), .int x] (fun u => (0 ≤ x.toInt ∧ x.toInt ≤ (k.1 0 0).toInt) ∧ u = (L, f)) (fun E u => E = "java/lang/IllegalArgumentException" ∧ ¬ (0 ≤ x.toInt ∧ x.toInt ≤ (k.1 0 0).toInt) ∧ u = (L, f)) 1 6 := by
  intro sz
  refine vx_ofW (cc := cX6_demandKnown) (maxL := 2) (ret := none) (by decide) rfl ?_
  intro p e s m args below meth c s₁ B hml htab hv
  obtain ⟨rfl, hv⟩ := hv
  have hx := B.exec
  have hb := B.bytes
  have hr := B.returns
  have hts := atoms_spec (ws := wsX6_demandKnown) B.pre
  have hown : s.vm.findClass RX6 = some m.cls := findClass_of_methodNamed B.named
  have hlocks := B.notSynchronized
  obtain ⟨rfl, hw, hs⟩ := pm_begin hv
  generalize va_A (va_pl L f) s.heap.size = A at hw hs ⊢
  have CF := (⟨hx, hb, hml, hown, hts⟩ : CallFix p m c cX6_demandKnown 2 s _ wsX6_demandKnown RX6)
  have hin_X6 : ∀ w ∈ wsX60, w ∈ wsX6_demandKnown := by decide +kernel
  have hl := lv_entry ([.ref (a 0), .int x]) (n := 2) (Nat.le_of_ble_eq_true rfl)
  rw [lg_entry_eq]
  generalize (lg_sl ([.ref (a 0), .int x]) ++ List.replicate (2 - (lg_sl ([.ref (a 0), .int x])).length) Slot.unset).toArray = ls at hl ⊢
  have hl : lv_has ls 2 [(0, .ref (a 0)), (1, .int x)] := hl
  refine lv_iload_n hx hb dX6_demandKnown_0 rfl (lv_at hl 1 rfl) ?_
  refine lv_iconst (v := 0) hx hb dX6_demandKnown_1 (by decide) ?_
  refine lv_aload_n hx hb dX6_demandKnown_2 rfl (lv_at hl 0 rfl) ?_
  refine pm_get (ci := 8) (v := .int (k.1 0 0)) (C := RX6) (T := TX6) (N := 6) hx hb hts hin_X6 hown hw (hk.q (i := 0) (dC (by decide))) (hk.f (i := 0) (dC (by decide))) rfl 5 (by decide) (hts (.fieldLink RX6 40 "Backdater" "currentDay" "I") (by decide +kernel)) (fun _ h9 => h9) rfl dX6_demandKnown_3 ?_
  refine px_v hw (vx_runS (As := [.int x, .int 0, .int (k.1 0 0)]) (rest := []) CF ((c_demandWithin l hst g L _ x 0 (k.1 0 0)) _) (va_cwS 3 hts gX6_demandKnown_X6_demandWithin rfl rfl rfl (by decide +kernel) ⟨Nat.le_of_ble_eq_true rfl, Nat.le_of_ble_eq_true rfl⟩) (pm_preS hw hs) rfl rfl hl.1 rfl (lv_room (Nat.le_of_ble_eq_true rfl)) dX6_demandKnown_6 ⟨Nat.le_of_ble_eq_true rfl, Nat.le_of_ble_eq_true rfl⟩) htab hlocks ⟨Nat.le_of_ble_eq_true rfl, Nat.le_of_ble_eq_true rfl⟩ (fun E u hE => hE) (fun L1 f1 H locs hp hw => ?_)
  obtain ⟨hD_6, hp⟩ := hp
  have hu := hp
  obtain rfl : _ = L1 := (congrArg Prod.fst hu).symm
  obtain rfl : _ = f1 := (congrArg Prod.snd hu).symm
  exact vx_ret (pr_v hx hb hr hlocks hw ⟨Nat.le_of_ble_eq_true rfl, Nat.le_of_ble_eq_true rfl⟩ (⟨hD_6, rfl⟩) dX6_demandKnown_9)

set_option maxHeartbeats 4000000 in
set_option maxRecDepth 100000 in
theorem c_demandField (l : Launch) (hst : l.stackTraces = false) (g : GE) (L : List Nat) (f : Nat → va_E)  (x : Int32) : Xv l yX6_demandField wsX6_demandField (rmH 1 1 6) g L f [.int x] (fun u => (0 ≤ x.toInt ∧ x.toInt < 3) ∧ u = (L, f)) (fun E u => E = "java/lang/IndexOutOfBoundsException" ∧ ¬ (0 ≤ x.toInt ∧ x.toInt < 3) ∧ u = (L, f)) 1 6 := by
  intro sz
  refine vx_ofW (cc := cX6_demandField) (maxL := 1) (ret := none) (by decide) rfl ?_
  intro p e s m args below meth c s₁ B hml htab hv
  obtain ⟨rfl, hv⟩ := hv
  have hx := B.exec
  have hb := B.bytes
  have hr := B.returns
  have hts := atoms_spec (ws := wsX6_demandField) B.pre
  have hown : s.vm.findClass RX6 = some m.cls := findClass_of_methodNamed B.named
  have hlocks := B.notSynchronized
  obtain ⟨rfl, hw, hs⟩ := pm_begin hv
  generalize va_A (va_pl L f) s.heap.size = A at hw hs ⊢
  have CF := (⟨hx, hb, hml, hown, hts⟩ : CallFix p m c cX6_demandField 1 s _ wsX6_demandField RX6)
  have hl := lv_entry ([.int x]) (n := 1) (Nat.le_of_ble_eq_true rfl)
  rw [lg_entry_eq]
  generalize (lg_sl ([.int x]) ++ List.replicate (1 - (lg_sl ([.int x])).length) Slot.unset).toArray = ls at hl ⊢
  have hl : lv_has ls 1 [(0, .int x)] := hl
  refine lv_iload_n hx hb dX6_demandField_0 rfl (lv_at hl 0 rfl) ?_
  refine pc_i hw (va_runS (As := [.int x]) (rest := []) CF ((c_isField l g L _ x) _) (va_cwS 1 hts gX6_demandField_X6_isField rfl rfl rfl (by decide +kernel) ⟨Nat.le_of_ble_eq_true rfl, Nat.le_of_ble_eq_true rfl⟩) (pm_preS hw hs) rfl rfl hl.1 rfl (lv_room (Nat.le_of_ble_eq_true rfl)) dX6_demandField_1 ⟨Nat.le_of_ble_eq_true rfl, Nat.le_of_ble_eq_true rfl⟩) (fun r L1 f1 H locs hp hw => ?_)
  obtain ⟨hE_1, hu⟩ := hp
  obtain rfl : _ = L1 := (congrArg Prod.fst hu).symm
  obtain rfl : _ = f1 := (congrArg Prod.snd hu).symm
  generalize r = r_1 at hE_1 ⊢
  refine lv_if_ne (tgt := 17) hx hb dX6_demandField_4 (by decide) (fun c_4 => ?_) (fun c_4 => ?_)
  · have hP := b2i_ne0 (hE_1 ▸ c_4)
    exact vx_ret (pr_v hx hb hr hlocks hw ⟨Nat.le_of_ble_eq_true rfl, Nat.le_of_ble_eq_true rfl⟩ (⟨hP, rfl⟩) dX6_demandField_17)
  · have hP := b2i_eq0 (hE_1 ▸ c_4)
    exact px_throwS (own := RX6) (cls := "java/lang/IndexOutOfBoundsException") (names := ["java/lang/RuntimeException", "java/lang/Exception"]) hx hb hst hown (by decide +kernel) (by decide +kernel) (hts (.classLink RX6 188 "java/lang/IndexOutOfBoundsException") (by decide +kernel)) (hts (.initialized "java/lang/IndexOutOfBoundsException") (by decide +kernel)) (by decide +kernel : (RX6, 190, "there is no such field") ∈ sx_texts) hts (by decide +kernel) (by decide +kernel) (by decide +kernel) (by decide +kernel) hs hw hml hl.1 dX6_demandField_7 dX6_demandField_10 dX6_demandField_11 dX6_demandField_13 dX6_demandField_16 htab hlocks ⟨Nat.le_of_ble_eq_true rfl, Nat.le_of_ble_eq_true rfl, Nat.le_of_ble_eq_true rfl, Nat.le_of_ble_eq_true rfl⟩ ⟨Nat.le_of_ble_eq_true rfl, Nat.le_of_ble_eq_true rfl⟩ (⟨rfl, hP, rfl⟩)

set_option maxHeartbeats 4000000 in
set_option maxRecDepth 100000 in
theorem c_policyNumbered (l : Launch) (hst : l.stackTraces = false) (g : GE) (L : List Nat) (f : Nat → va_E) (a : Nat → Nat) (k : KS) (hk : CW g a k L f) (hi : Iv a k) (x : Int32) : Xq l yX6_policyNumbered wsX6_policyNumbered (rmH 3 1 6) g L f [.ref (a 0), .int x] (fun r u => ∃ i, i < kP k ∧ x = nI i ∧ r = some (a (20 + 3 * i)) ∧ u = (L, f)) (fun E u => E = "java/lang/IndexOutOfBoundsException" ∧ ¬ (0 ≤ x.toInt ∧ x.toInt < (kP k : Nat)) ∧ u = (L, f)) 1 6 := by
  intro sz
  refine vx_ofW (cc := cX6_policyNumbered) (maxL := 2) (ret := (some (.object "Backdater$Policy"))) (by decide) rfl ?_
  intro p e s m args below meth c s₁ B hml htab hv
  obtain ⟨rfl, hv⟩ := hv
  have hx := B.exec
  have hb := B.bytes
  have hr := B.returns
  have hts := atoms_spec (ws := wsX6_policyNumbered) B.pre
  have hown : s.vm.findClass RX6 = some m.cls := findClass_of_methodNamed B.named
  have hlocks := B.notSynchronized
  obtain ⟨rfl, hw, hs⟩ := pm_begin hv
  generalize va_A (va_pl L f) s.heap.size = A at hw hs ⊢
  have CF := (⟨hx, hb, hml, hown, hts⟩ : CallFix p m c cX6_policyNumbered 2 s _ wsX6_policyNumbered RX6)
  have hin_X6 : ∀ w ∈ wsX60, w ∈ wsX6_policyNumbered := by decide +kernel
  have hl := lv_entry ([.ref (a 0), .int x]) (n := 2) (Nat.le_of_ble_eq_true rfl)
  rw [lg_entry_eq]
  generalize (lg_sl ([.ref (a 0), .int x]) ++ List.replicate (2 - (lg_sl ([.ref (a 0), .int x])).length) Slot.unset).toArray = ls at hl ⊢
  have hl : lv_has ls 2 [(0, .ref (a 0)), (1, .int x)] := hl
  have hL0 := hk.ls0 hi
  refine lv_iload_n hx hb dX6_policyNumbered_0 rfl (lv_at hl 1 rfl) ?_
  refine lv_if_lt (tgt := 17) hx hb dX6_policyNumbered_1 (by decide) (fun c_1 => ?_) (fun c_1 => ?_)
  · exact px_throwS (own := RX6) (cls := "java/lang/IndexOutOfBoundsException") (names := ["java/lang/RuntimeException", "java/lang/Exception"]) hx hb hst hown (by decide +kernel) (by decide +kernel) (hts (.classLink RX6 188 "java/lang/IndexOutOfBoundsException") (by decide +kernel)) (hts (.initialized "java/lang/IndexOutOfBoundsException") (by decide +kernel)) (by decide +kernel : (RX6, 193, "there is no such policy") ∈ sx_texts) hts (by decide +kernel) (by decide +kernel) (by decide +kernel) (by decide +kernel) hs hw hml hl.1 dX6_policyNumbered_17 dX6_policyNumbered_20 dX6_policyNumbered_21 dX6_policyNumbered_23 dX6_policyNumbered_26 htab hlocks ⟨Nat.le_of_ble_eq_true rfl, Nat.le_of_ble_eq_true rfl, Nat.le_of_ble_eq_true rfl, Nat.le_of_ble_eq_true rfl⟩ ⟨Nat.le_of_ble_eq_true rfl, Nat.le_of_ble_eq_true rfl⟩ (⟨rfl, fun h9 => by rw [i32_lt, i32_0] at c_1; omega, rfl⟩)
  · refine lv_iload_n hx hb dX6_policyNumbered_4 rfl (lv_at hl 1 rfl) ?_
    refine lv_aload_n hx hb dX6_policyNumbered_5 rfl (lv_at hl 0 rfl) ?_
    refine pm_get (ci := 8) (v := .ref (a 1)) (C := RX6) (T := TX6) (N := 6) hx hb hts hin_X6 hown hw (hk.q (i := 0) (dC (by decide))) (hk.f (i := 0) (dC (by decide))) rfl 0 (by decide) (hts (.fieldLink RX6 10 "Backdater" "policies" "Ljava/util/List;") (by decide +kernel)) (fun _ h9 => h9) rfl dX6_policyNumbered_6 ?_
    refine pc_Fi hw (va_runF (As := []) (rest := [.int x]) (hw.1.1 2 _ rfl).2 CF (c_size l g _ _ (a 1) _ _ _ hL0.q hL0.f _) (va_cwF 0 hts gX6_policyNumbered_Jx4a65c_size_8abf5_f48Jx4a65c rfl rfl rfl hs.2.2.2.2.2.2.1.1 (by decide +kernel) ⟨Nat.le_of_ble_eq_true rfl, Nat.le_of_ble_eq_true rfl⟩) (pm_preV hw hs (pm_recv hw (hk.q (i := 1) (dC (by decide))) (hk.f (i := 1) (dC (by decide))) rfl)) rfl rfl hl.1 rfl (lv_room (Nat.le_of_ble_eq_true rfl)) dX6_policyNumbered_9 ⟨Nat.le_of_ble_eq_true rfl, Nat.le_of_ble_eq_true rfl⟩) (fun r L1 f1 H locs hp hw => ?_)
    obtain ⟨hE_9, hu⟩ := hp
    obtain rfl : _ = L1 := (congrArg Prod.fst hu).symm
    obtain rfl : _ = f1 := (congrArg Prod.snd hu).symm
    generalize r = r_9 at hE_9 ⊢
    refine lv_icmp_lt (tgt := 27) hx hb dX6_policyNumbered_14 (by decide) (fun c_14 => ?_) (fun c_14 => ?_)
    · have hsz : k.2.1 3 0 = kP k := hi.2.1.1
      rw [hE_9, hsz] at c_14
      have hlim := hi.1.1
      rcases pk_ix x (n := kP k) (by omega) with q9 | q9 | ⟨i, hi9, rfl⟩
      · exact absurd q9 c_1
      · exact absurd c_14 (by rw [i32_lt]; rw [i32_le] at q9; omega)
      refine lv_aload_n hx hb dX6_policyNumbered_27 rfl (lv_at hl 0 rfl) ?_
      refine pm_get (ci := 8) (v := .ref (a 1)) (C := RX6) (T := TX6) (N := 6) hx hb hts hin_X6 hown hw (hk.q (i := 0) (dC (by decide))) (hk.f (i := 0) (dC (by decide))) rfl 0 (by decide) (hts (.fieldLink RX6 10 "Backdater" "policies" "Ljava/util/List;") (by decide +kernel)) (fun _ h9 => h9) rfl dX6_policyNumbered_28 ?_
      refine lv_iload_n hx hb dX6_policyNumbered_31 rfl (lv_at hl 1 rfl) ?_
      refine pc_Fq hw (va_runF (As := [.int (nI i)]) (rest := []) (hw.1.1 2 _ rfl).2 CF (c_get l g L _ (a 1) _ _ _ hL0.q hL0.f _ _ (hL0.r (by omega)).1 (hL0.r (by omega)).2 i (by omega) ⟨hL0.2.2.2.1, by have := hL0.2.2.2.2.1; omega⟩ _) (va_cwF 1 hts gX6_policyNumbered_Jx4a65c_get_915e3_f127Jx4a65c rfl rfl rfl hs.2.2.2.2.2.2.1.2.1 (by decide +kernel) ⟨Nat.le_of_ble_eq_true rfl, Nat.le_of_ble_eq_true rfl⟩) (pm_preV hw hs (pm_recv hw (hk.q (i := 1) (dC (by decide))) (hk.f (i := 1) (dC (by decide))) rfl)) rfl rfl hl.1 rfl (lv_room (Nat.le_of_ble_eq_true rfl)) dX6_policyNumbered_32 ⟨Nat.le_of_ble_eq_true rfl, Nat.le_of_ble_eq_true rfl⟩) (fun r L1 f1 H locs hp hw => ?_)
      obtain ⟨hE_32, hu⟩ := hp
      obtain rfl : _ = L1 := (congrArg Prod.fst hu).symm
      obtain rfl : _ = f1 := (congrArg Prod.snd hu).symm
      obtain rfl : r = some (a (20 + 3 * i)) := hE_32.trans (hi.2.2.2.1 i hi9)
      refine va_castY (C := "Backdater$Policy") hx hb hown (hts (.classLink RX6 61 "Backdater$Policy") (by decide +kernel)) (hs.2.2.2.1 ("Backdater$Policy", "Backdater$Policy") (by decide +kernel)) (pm_recv hw (hk.q (dP hi9 (by have := hi.1.1; omega))) ((hk.f (dP hi9 (by have := hi.1.1; omega))).trans (fP g a k (by have := hi.1.1; omega))) rfl) dX6_policyNumbered_37 ?_
      exact vx_ret (pr_r (v := (a (20 + 3 * i))) hx hb hr hlocks (Or.inl ⟨_, rfl⟩) hw ⟨Nat.le_of_ble_eq_true rfl, Nat.le_of_ble_eq_true rfl⟩ (⟨i, hi9, rfl, rfl, rfl⟩) dX6_policyNumbered_40)
    · exact px_throwS (own := RX6) (cls := "java/lang/IndexOutOfBoundsException") (names := ["java/lang/RuntimeException", "java/lang/Exception"]) hx hb hst hown (by decide +kernel) (by decide +kernel) (hts (.classLink RX6 188 "java/lang/IndexOutOfBoundsException") (by decide +kernel)) (hts (.initialized "java/lang/IndexOutOfBoundsException") (by decide +kernel)) (by decide +kernel : (RX6, 193, "there is no such policy") ∈ sx_texts) hts (by decide +kernel) (by decide +kernel) (by decide +kernel) (by decide +kernel) hs hw hml hl.1 dX6_policyNumbered_17 dX6_policyNumbered_20 dX6_policyNumbered_21 dX6_policyNumbered_23 dX6_policyNumbered_26 htab hlocks ⟨Nat.le_of_ble_eq_true rfl, Nat.le_of_ble_eq_true rfl, Nat.le_of_ble_eq_true rfl, Nat.le_of_ble_eq_true rfl⟩ ⟨Nat.le_of_ble_eq_true rfl, Nat.le_of_ble_eq_true rfl⟩ (⟨rfl, fun h9 => by rw [hE_9, show k.2.1 3 0 = kP k from hi.2.1.1, i32_lt, nI_toInt (by have := hi.1; omega)] at c_14; omega, rfl⟩)

set_option maxHeartbeats 4000000 in
set_option maxRecDepth 100000 in
theorem c_changeNumbered (l : Launch) (hst : l.stackTraces = false) (g : GE) (L : List Nat) (f : Nat → va_E) (a : Nat → Nat) (k : KS) (hk : CW g a k L f) (hi : Iv a k) (x : Int32) : Xq l yX6_changeNumbered wsX6_changeNumbered (rmH 3 1 6) g L f [.ref (a 0), .int x] (fun r u => ∃ i, i < kC k ∧ x = nI i ∧ r = some (a (32 + i)) ∧ u = (L, f)) (fun E u => E = "java/lang/IndexOutOfBoundsException" ∧ ¬ (0 ≤ x.toInt ∧ x.toInt < (kC k : Nat)) ∧ u = (L, f)) 1 6 := by
  intro sz
  refine vx_ofW (cc := cX6_changeNumbered) (maxL := 2) (ret := (some (.object "Backdater$Change"))) (by decide) rfl ?_
  intro p e s m args below meth c s₁ B hml htab hv
  obtain ⟨rfl, hv⟩ := hv
  have hx := B.exec
  have hb := B.bytes
  have hr := B.returns
  have hts := atoms_spec (ws := wsX6_changeNumbered) B.pre
  have hown : s.vm.findClass RX6 = some m.cls := findClass_of_methodNamed B.named
  have hlocks := B.notSynchronized
  obtain ⟨rfl, hw, hs⟩ := pm_begin hv
  generalize va_A (va_pl L f) s.heap.size = A at hw hs ⊢
  have CF := (⟨hx, hb, hml, hown, hts⟩ : CallFix p m c cX6_changeNumbered 2 s _ wsX6_changeNumbered RX6)
  have hin_X6 : ∀ w ∈ wsX60, w ∈ wsX6_changeNumbered := by decide +kernel
  have hl := lv_entry ([.ref (a 0), .int x]) (n := 2) (Nat.le_of_ble_eq_true rfl)
  rw [lg_entry_eq]
  generalize (lg_sl ([.ref (a 0), .int x]) ++ List.replicate (2 - (lg_sl ([.ref (a 0), .int x])).length) Slot.unset).toArray = ls at hl ⊢
  have hl : lv_has ls 2 [(0, .ref (a 0)), (1, .int x)] := hl
  have hL1 := hk.ls1 hi
  refine lv_iload_n hx hb dX6_changeNumbered_0 rfl (lv_at hl 1 rfl) ?_
  refine lv_if_lt (tgt := 17) hx hb dX6_changeNumbered_1 (by decide) (fun c_1 => ?_) (fun c_1 => ?_)
  · exact px_throwS (own := RX6) (cls := "java/lang/IndexOutOfBoundsException") (names := ["java/lang/RuntimeException", "java/lang/Exception"]) hx hb hst hown (by decide +kernel) (by decide +kernel) (hts (.classLink RX6 188 "java/lang/IndexOutOfBoundsException") (by decide +kernel)) (hts (.initialized "java/lang/IndexOutOfBoundsException") (by decide +kernel)) (by decide +kernel : (RX6, 195, "there is no such change") ∈ sx_texts) hts (by decide +kernel) (by decide +kernel) (by decide +kernel) (by decide +kernel) hs hw hml hl.1 dX6_changeNumbered_17 dX6_changeNumbered_20 dX6_changeNumbered_21 dX6_changeNumbered_23 dX6_changeNumbered_26 htab hlocks ⟨Nat.le_of_ble_eq_true rfl, Nat.le_of_ble_eq_true rfl, Nat.le_of_ble_eq_true rfl, Nat.le_of_ble_eq_true rfl⟩ ⟨Nat.le_of_ble_eq_true rfl, Nat.le_of_ble_eq_true rfl⟩ (⟨rfl, fun h9 => by rw [i32_lt, i32_0] at c_1; omega, rfl⟩)
  · refine lv_iload_n hx hb dX6_changeNumbered_4 rfl (lv_at hl 1 rfl) ?_
    refine lv_aload_n hx hb dX6_changeNumbered_5 rfl (lv_at hl 0 rfl) ?_
    refine pm_get (ci := 8) (v := .ref (a 2)) (C := RX6) (T := TX6) (N := 6) hx hb hts hin_X6 hown hw (hk.q (i := 0) (dC (by decide))) (hk.f (i := 0) (dC (by decide))) rfl 1 (by decide) (hts (.fieldLink RX6 16 "Backdater" "told" "Ljava/util/List;") (by decide +kernel)) (fun _ h9 => h9) rfl dX6_changeNumbered_6 ?_
    refine pc_Fi hw (va_runF (As := []) (rest := [.int x]) (hw.1.1 2 _ rfl).2 CF (c_size l g _ _ (a 2) _ _ _ hL1.q hL1.f _) (va_cwF 0 hts gX6_changeNumbered_Jx4a65c_size_8abf5_f48Jx4a65c rfl rfl rfl hs.2.2.2.2.2.2.1.1 (by decide +kernel) ⟨Nat.le_of_ble_eq_true rfl, Nat.le_of_ble_eq_true rfl⟩) (pm_preV hw hs (pm_recv hw (hk.q (i := 2) (dC (by decide))) (hk.f (i := 2) (dC (by decide))) rfl)) rfl rfl hl.1 rfl (lv_room (Nat.le_of_ble_eq_true rfl)) dX6_changeNumbered_9 ⟨Nat.le_of_ble_eq_true rfl, Nat.le_of_ble_eq_true rfl⟩) (fun r L1 f1 H locs hp hw => ?_)
    obtain ⟨hE_9, hu⟩ := hp
    obtain rfl : _ = L1 := (congrArg Prod.fst hu).symm
    obtain rfl : _ = f1 := (congrArg Prod.snd hu).symm
    generalize r = r_9 at hE_9 ⊢
    refine lv_icmp_lt (tgt := 27) hx hb dX6_changeNumbered_14 (by decide) (fun c_14 => ?_) (fun c_14 => ?_)
    · have hsz : k.2.1 3 1 = kC k := hi.2.1.2
      rw [hE_9, hsz] at c_14
      have hlim := hi.1.2
      rcases pk_ix x (n := kC k) (by omega) with q9 | q9 | ⟨i, hi9, rfl⟩
      · exact absurd q9 c_1
      · exact absurd c_14 (by rw [i32_lt]; rw [i32_le] at q9; omega)
      refine lv_aload_n hx hb dX6_changeNumbered_27 rfl (lv_at hl 0 rfl) ?_
      refine pm_get (ci := 8) (v := .ref (a 2)) (C := RX6) (T := TX6) (N := 6) hx hb hts hin_X6 hown hw (hk.q (i := 0) (dC (by decide))) (hk.f (i := 0) (dC (by decide))) rfl 1 (by decide) (hts (.fieldLink RX6 16 "Backdater" "told" "Ljava/util/List;") (by decide +kernel)) (fun _ h9 => h9) rfl dX6_changeNumbered_28 ?_
      refine lv_iload_n hx hb dX6_changeNumbered_31 rfl (lv_at hl 1 rfl) ?_
      refine pc_Fq hw (va_runF (As := [.int (nI i)]) (rest := []) (hw.1.1 2 _ rfl).2 CF (c_get l g L _ (a 2) _ _ _ hL1.q hL1.f _ _ (hL1.r (by omega)).1 (hL1.r (by omega)).2 i (by omega) ⟨hL1.2.2.2.1, by have := hL1.2.2.2.2.1; omega⟩ _) (va_cwF 1 hts gX6_changeNumbered_Jx4a65c_get_915e3_f127Jx4a65c rfl rfl rfl hs.2.2.2.2.2.2.1.2.1 (by decide +kernel) ⟨Nat.le_of_ble_eq_true rfl, Nat.le_of_ble_eq_true rfl⟩) (pm_preV hw hs (pm_recv hw (hk.q (i := 2) (dC (by decide))) (hk.f (i := 2) (dC (by decide))) rfl)) rfl rfl hl.1 rfl (lv_room (Nat.le_of_ble_eq_true rfl)) dX6_changeNumbered_32 ⟨Nat.le_of_ble_eq_true rfl, Nat.le_of_ble_eq_true rfl⟩) (fun r L1 f1 H locs hp hw => ?_)
      obtain ⟨hE_32, hu⟩ := hp
      obtain rfl : _ = L1 := (congrArg Prod.fst hu).symm
      obtain rfl : _ = f1 := (congrArg Prod.snd hu).symm
      obtain rfl : r = some (a (32 + i)) := hE_32.trans (hi.2.2.2.2.1 i hi9)
      refine va_castY (C := "Backdater$Change") hx hb hown (hts (.classLink RX6 111 "Backdater$Change") (by decide +kernel)) (hs.2.2.2.1 ("Backdater$Change", "Backdater$Change") (by decide +kernel)) (pm_recv hw (hk.q (dCh hi9)) ((hk.f (dCh hi9)).trans (fCh g a k i)) rfl) dX6_changeNumbered_37 ?_
      exact vx_ret (pr_r (v := (a (32 + i))) hx hb hr hlocks (Or.inl ⟨_, rfl⟩) hw ⟨Nat.le_of_ble_eq_true rfl, Nat.le_of_ble_eq_true rfl⟩ (⟨i, hi9, rfl, rfl, rfl⟩) dX6_changeNumbered_40)
    · exact px_throwS (own := RX6) (cls := "java/lang/IndexOutOfBoundsException") (names := ["java/lang/RuntimeException", "java/lang/Exception"]) hx hb hst hown (by decide +kernel) (by decide +kernel) (hts (.classLink RX6 188 "java/lang/IndexOutOfBoundsException") (by decide +kernel)) (hts (.initialized "java/lang/IndexOutOfBoundsException") (by decide +kernel)) (by decide +kernel : (RX6, 195, "there is no such change") ∈ sx_texts) hts (by decide +kernel) (by decide +kernel) (by decide +kernel) (by decide +kernel) hs hw hml hl.1 dX6_changeNumbered_17 dX6_changeNumbered_20 dX6_changeNumbered_21 dX6_changeNumbered_23 dX6_changeNumbered_26 htab hlocks ⟨Nat.le_of_ble_eq_true rfl, Nat.le_of_ble_eq_true rfl, Nat.le_of_ble_eq_true rfl, Nat.le_of_ble_eq_true rfl⟩ ⟨Nat.le_of_ble_eq_true rfl, Nat.le_of_ble_eq_true rfl⟩ (⟨rfl, fun h9 => by rw [hE_9, show k.2.1 3 1 = kC k from hi.2.1.2, i32_lt, nI_toInt (by have := hi.1; omega)] at c_14; omega, rfl⟩)

end MID4
