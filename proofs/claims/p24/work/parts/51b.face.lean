/-! the face: setWeight, pass, takeBack, laidAnew -/
section FACE2
theorem fld_ix {x : Int32} (h : fldP x) : x = nI 0 ∨ x = nI 1 ∨ x = nI 2 := by
  rcases pk_ix x (n := 3) (by omega) with q | q | ⟨i, hi, rfl⟩
  · rw [i32_lt, i32_0] at q
    omega
  · rw [i32_le, nI_toInt (by omega)] at q
    omega
  · obtain rfl | rfl | rfl : i = 0 ∨ i = 1 ∨ i = 2 := by omega
    · exact Or.inl rfl
    · exact Or.inr (Or.inl rfl)
    · exact Or.inr (Or.inr rfl)
/-- the state behind a tariff for field c, weight w, from day d -/
def kTel (k : KS) (c : Nat) (w : Int32) (d : Nat) : KS := kW (kV (kV k (4 + c) (telG (k.1 (4 + c)) (k.1 (7 + c)) w d 365)) (7 + c) (telG (k.1 (7 + c)) (k.1 (7 + c)) (nI d) d 365)) 0 1 (k.1 0 1 + 1)
abbrev wgtP (x : Int32) : Prop := 0 ≤ x.toInt ∧ x.toInt ≤ 100
theorem eChg_i {g : GE} {a : Nat → Nat} {k : KS} {j i : Nat} (h : k.2.1 1 j = i) : eChg g a k j = .inr (3, [.int (nI j), .ref (a (20 + 3 * i)), .ref (g.2.2 (k.2.1 2 j)), .int (k.1 12 j), .int (k.1 13 j), .int (k.1 14 j), .int (k.1 15 j), .int (k.1 16 j)]) := by
  subst h
  rfl
/-- change o is laid in again when change j comes -/
abbrev laB (k : KS) (j o : Nat) : Prop := o < j ∧ (k.1 13 j).toInt < (k.1 13 o).toInt ∧ knB k o (k.1 0 0)
def laC (k : KS) (j : Nat) (l : List Nat) : Nat := (l.filter (fun o => decide (laB k j o))).length
theorem laC_t {k : KS} {j o q : Nat} {l : List Nat} (h : l[q]? = some o) (hb : laB k j o) : laC k j (l.take (q + 1)) = laC k j (l.take q) + 1 := by
  unfold laC
  rw [List.take_add_one, h, List.filter_append, List.length_append, Option.toList_some, List.filter_cons_of_pos (p := fun o => decide (laB k j o)) (decide_eq_true hb)]
  rfl
theorem laC_f {k : KS} {j o q : Nat} {l : List Nat} (h : l[q]? = some o) (hb : ¬ laB k j o) : laC k j (l.take (q + 1)) = laC k j (l.take q) := by
  unfold laC
  rw [List.take_add_one, h, List.filter_append, List.length_append, Option.toList_some, List.filter_cons_of_neg (p := fun o => decide (laB k j o)) (by rw [decide_eq_true_eq]; exact hb)]
  rfl

set_option maxHeartbeats 4000000 in
set_option maxRecDepth 100000 in
theorem c_setWeight (l : Launch) (hst : l.stackTraces = false) (g : GE) (L : List Nat) (f : Nat → va_E) (a : Nat → Nat) (k : KS) (hk : CW g a k L f) (y w z : Int32) : Xi l yX6_setWeight wsX6_setWeight (rmH 2 4 24) g L f [.ref (a 0), .int y, .int w, .int z] (fun r u => ∃ c d, c < 3 ∧ y = nI c ∧ wgtP w ∧ d < 365 ∧ z = nI d ∧ (k.1 0 1).toInt < 20 ∧ r = k.1 0 1 + 1 ∧ u.1 = L ∧ CW g a (kTel k c w d) L u.2) (fun E u => exL [("java/lang/IndexOutOfBoundsException", fldP y), ("java/lang/IllegalArgumentException", wgtP w), ("java/lang/IllegalArgumentException", dayP z), ("java/lang/IllegalStateException", (k.1 0 1).toInt < 20)] E ∧ ScrP g a k L u) 4 24 := by
  intro sz
  refine vx_ofW (cc := cX6_setWeight) (maxL := 4) (ret := (some .int)) (by decide) rfl ?_
  intro p e s m args below meth c s₁ B hml htab hv
  obtain ⟨rfl, hv⟩ := hv
  have hx := B.exec
  have hb := B.bytes
  have hr := B.returns
  have hts := atoms_spec (ws := wsX6_setWeight) B.pre
  have hown : s.vm.findClass RX6 = some m.cls := findClass_of_methodNamed B.named
  have hlocks := B.notSynchronized
  obtain ⟨rfl, hw, hs⟩ := pm_begin hv
  generalize va_A (va_pl L f) s.heap.size = A at hw hs ⊢
  have CF := (⟨hx, hb, hml, hown, hts⟩ : CallFix p m c cX6_setWeight 4 s _ wsX6_setWeight RX6)
  have hin_X6 : ∀ w ∈ wsX60, w ∈ wsX6_setWeight := by decide +kernel
  have hin_X3 : ∀ w ∈ wsX30, w ∈ wsX6_setWeight := by decide +kernel
  have hl := lv_entry ([.ref (a 0), .int y, .int w, .int z]) (n := 4) (Nat.le_of_ble_eq_true rfl)
  rw [lg_entry_eq]
  generalize (lg_sl ([.ref (a 0), .int y, .int w, .int z]) ++ List.replicate (4 - (lg_sl ([.ref (a 0), .int y, .int w, .int z])).length) Slot.unset).toArray = ls at hl ⊢
  have hl : lv_has ls 4 [(0, .ref (a 0)), (1, .int y), (2, .int w), (3, .int z)] := hl
  refine lv_iload_n hx hb dX6_setWeight_0 rfl (lv_at hl 1 rfl) ?_
  refine px_v hw (vx_runS (As := [.int y]) (rest := []) CF (c_demandField l hst g L _ y _) (va_cwS 1 hts gX6_setWeight_X6_demandField rfl rfl rfl (by decide +kernel) ⟨Nat.le_of_ble_eq_true rfl, Nat.le_of_ble_eq_true rfl⟩) (pm_preS hw hs) rfl rfl hl.1 rfl (lv_room (Nat.le_of_ble_eq_true rfl)) dX6_setWeight_1 ⟨Nat.le_of_ble_eq_true rfl, Nat.le_of_ble_eq_true rfl⟩) htab hlocks ⟨Nat.le_of_ble_eq_true rfl, Nat.le_of_ble_eq_true rfl⟩ (fun E u hE => by obtain ⟨rfl, hn9, rfl⟩ := hE; exact ⟨Or.inl ⟨hn9, rfl⟩, scr_id hk⟩) (fun L1 f1 H locs hp hw => ?_)
  obtain ⟨hF, hp⟩ := hp
  have hu := hp
  obtain rfl : _ = L1 := (congrArg Prod.fst hu).symm
  obtain rfl : _ = f1 := (congrArg Prod.snd hu).symm
  refine lv_iload_n hx hb dX6_setWeight_4 rfl (lv_at hl 2 rfl) ?_
  refine lv_iconst (v := 0) hx hb dX6_setWeight_5 (by decide) ?_
  refine lv_bipush (v := 100) hx hb dX6_setWeight_6 (by decide) ?_
  refine px_v hw (vx_runS (As := [.int w, .int 0, .int 100]) (rest := []) CF (c_demandWithin l hst g L _ w 0 100 _) (va_cwS 3 hts gX6_setWeight_X6_demandWithin rfl rfl rfl (by decide +kernel) ⟨Nat.le_of_ble_eq_true rfl, Nat.le_of_ble_eq_true rfl⟩) (pm_preS hw hs) rfl rfl hl.1 rfl (lv_room (Nat.le_of_ble_eq_true rfl)) dX6_setWeight_8 ⟨Nat.le_of_ble_eq_true rfl, Nat.le_of_ble_eq_true rfl⟩) htab hlocks ⟨Nat.le_of_ble_eq_true rfl, Nat.le_of_ble_eq_true rfl⟩ (fun E u hE => by obtain ⟨rfl, hn9, rfl⟩ := hE; exact ⟨Or.inr ⟨hF, Or.inl ⟨hn9, rfl⟩⟩, scr_id hk⟩) (fun L1 f1 H locs hp hw => ?_)
  obtain ⟨hW, hp⟩ := hp
  have hu := hp
  obtain rfl : _ = L1 := (congrArg Prod.fst hu).symm
  obtain rfl : _ = f1 := (congrArg Prod.snd hu).symm
  refine lv_iload_n hx hb dX6_setWeight_11 rfl (lv_at hl 3 rfl) ?_
  refine px_v hw (vx_runS (As := [.int z]) (rest := []) CF (c_demandDay l hst g L _ z _) (va_cwS 1 hts gX6_setWeight_X6_demandDay rfl rfl rfl (by decide +kernel) ⟨Nat.le_of_ble_eq_true rfl, Nat.le_of_ble_eq_true rfl⟩) (pm_preS hw hs) rfl rfl hl.1 rfl (lv_room (Nat.le_of_ble_eq_true rfl)) dX6_setWeight_12 ⟨Nat.le_of_ble_eq_true rfl, Nat.le_of_ble_eq_true rfl⟩) htab hlocks ⟨Nat.le_of_ble_eq_true rfl, Nat.le_of_ble_eq_true rfl⟩ (fun E u hE => by obtain ⟨rfl, hn9, rfl⟩ := hE; exact ⟨Or.inr ⟨hF, Or.inr ⟨hW, Or.inl ⟨hn9, rfl⟩⟩⟩, scr_id hk⟩) (fun L1 f1 H locs hp hw => ?_)
  obtain ⟨hDy, hp⟩ := hp
  have hu := hp
  obtain rfl : _ = L1 := (congrArg Prod.fst hu).symm
  obtain rfl : _ = f1 := (congrArg Prod.snd hu).symm
  obtain ⟨d, hd9, rfl⟩ := day_ix hDy
  refine lv_aload_n hx hb dX6_setWeight_15 rfl (lv_at hl 0 rfl) ?_
  refine pm_get (ci := 8) (v := .ref (a 3)) (C := RX6) (T := TX6) (N := 6) hx hb hts hin_X6 hown hw (hk.q (i := 0) (dC (by decide))) (hk.f (i := 0) (dC (by decide))) rfl 2 (by decide) (hts (.fieldLink RX6 22 "Backdater" "tariffs" "LBackdater$Tariffs;") (by decide +kernel)) (fun _ h9 => h9) rfl dX6_setWeight_16 ?_
  refine pm_get (ci := 5) (v := .int (k.1 0 1)) (C := RX3) (T := TX3) (N := 3) hx hb hts hin_X3 hown hw (hk.q (i := 3) (dC (by decide))) (hk.f (i := 3) (dC (by decide))) rfl 2 (by decide) (hts (.fieldLink RX6 76 "Backdater$Tariffs" "count" "I") (by decide +kernel)) (fun _ h9 => h9) rfl dX6_setWeight_19 ?_
  refine lv_bipush (v := 20) hx hb dX6_setWeight_22 (by decide) ?_
  refine lv_icmp_lt (tgt := 37) hx hb dX6_setWeight_24 (by decide) (fun c_24 => ?_) (fun c_24 => ?_)
  · have hlt : (k.1 0 1).toInt < 20 := by rw [i32_lt] at c_24; exact c_24
    rcases fld_ix hF with rfl | rfl | rfl
    · refine lv_aload_n hx hb dX6_setWeight_37 rfl (lv_at hl 0 rfl) ?_
      refine pm_get (ci := 8) (v := .ref (a 3)) (C := RX6) (T := TX6) (N := 6) hx hb hts hin_X6 hown hw (hk.q (i := 0) (dC (by decide))) (hk.f (i := 0) (dC (by decide))) rfl 2 (by decide) (hts (.fieldLink RX6 22 "Backdater" "tariffs" "LBackdater$Tariffs;") (by decide +kernel)) (fun _ h9 => h9) rfl dX6_setWeight_38 ?_
      refine lv_iload_n hx hb dX6_setWeight_41 rfl (lv_at hl 1 rfl) ?_
      refine lv_iload_n hx hb dX6_setWeight_42 rfl (lv_at hl 2 rfl) ?_
      refine lv_iload_n hx hb dX6_setWeight_43 rfl (lv_at hl 3 rfl) ?_
      refine pc_v hw (va_runV (As := [.int (nI 0), .int w, .int (nI d)]) (rest := []) CF (c_tell0 l g L _ a k hk w d hd9 _) (cwV 3 hts gX6_setWeight_X3_tell rfl rfl rfl (by decide +kernel) ⟨Nat.le_of_ble_eq_true rfl, Nat.le_of_ble_eq_true rfl⟩) (pm_preV hw hs (pm_recv hw (hk.q (i := 3) (dC (by decide))) (hk.f (i := 3) (dC (by decide))) rfl)) rfl rfl hl.1 rfl (lv_room (Nat.le_of_ble_eq_true rfl)) dX6_setWeight_44 ⟨Nat.le_of_ble_eq_true rfl, Nat.le_of_ble_eq_true rfl⟩) (fun L1 f1 H locs hp hw => ?_)
      obtain ⟨hu, hk⟩ := hp
      obtain rfl : _ = L1 := hu.symm
      have hk : CW g a (kW (kV (kV k 4 (telG (k.1 4) (k.1 7) w d 365)) 7 (telG (k.1 7) (k.1 7) (nI d) d 365)) 0 1 (k.1 0 1 + 1)) _ f1 := hk
      refine lv_aload_n hx hb dX6_setWeight_47 rfl (lv_at hl 0 rfl) ?_
      refine pm_get (ci := 8) (v := .ref (a 3)) (C := RX6) (T := TX6) (N := 6) hx hb hts hin_X6 hown hw (hk.q (i := 0) (dC (by decide))) (hk.f (i := 0) (dC (by decide))) rfl 2 (by decide) (hts (.fieldLink RX6 22 "Backdater" "tariffs" "LBackdater$Tariffs;") (by decide +kernel)) (fun _ h9 => h9) rfl dX6_setWeight_48 ?_
      refine pm_get (ci := 5) (v := .int (k.1 0 1 + 1)) (C := RX3) (T := TX3) (N := 3) hx hb hts hin_X3 hown hw (hk.q (i := 3) (dC (by decide))) (hk.f (i := 3) (dC (by decide))) rfl 2 (by decide) (hts (.fieldLink RX6 76 "Backdater$Tariffs" "count" "I") (by decide +kernel)) (fun _ h9 => h9) rfl dX6_setWeight_51 ?_
      exact vx_ret (pr_i (v := (k.1 0 1 + 1)) hx hb hr hlocks hw rfl ⟨Nat.le_of_ble_eq_true rfl, Nat.le_of_ble_eq_true rfl⟩ (⟨0, d, by decide, rfl, hW, hd9, rfl, hlt, rfl, rfl, hk⟩) dX6_setWeight_54)
    · refine lv_aload_n hx hb dX6_setWeight_37 rfl (lv_at hl 0 rfl) ?_
      refine pm_get (ci := 8) (v := .ref (a 3)) (C := RX6) (T := TX6) (N := 6) hx hb hts hin_X6 hown hw (hk.q (i := 0) (dC (by decide))) (hk.f (i := 0) (dC (by decide))) rfl 2 (by decide) (hts (.fieldLink RX6 22 "Backdater" "tariffs" "LBackdater$Tariffs;") (by decide +kernel)) (fun _ h9 => h9) rfl dX6_setWeight_38 ?_
      refine lv_iload_n hx hb dX6_setWeight_41 rfl (lv_at hl 1 rfl) ?_
      refine lv_iload_n hx hb dX6_setWeight_42 rfl (lv_at hl 2 rfl) ?_
      refine lv_iload_n hx hb dX6_setWeight_43 rfl (lv_at hl 3 rfl) ?_
      refine pc_v hw (va_runV (As := [.int (nI 1), .int w, .int (nI d)]) (rest := []) CF (c_tell1 l g L _ a k hk w d hd9 _) (cwV 3 hts gX6_setWeight_X3_tell rfl rfl rfl (by decide +kernel) ⟨Nat.le_of_ble_eq_true rfl, Nat.le_of_ble_eq_true rfl⟩) (pm_preV hw hs (pm_recv hw (hk.q (i := 3) (dC (by decide))) (hk.f (i := 3) (dC (by decide))) rfl)) rfl rfl hl.1 rfl (lv_room (Nat.le_of_ble_eq_true rfl)) dX6_setWeight_44 ⟨Nat.le_of_ble_eq_true rfl, Nat.le_of_ble_eq_true rfl⟩) (fun L1 f1 H locs hp hw => ?_)
      obtain ⟨hu, hk⟩ := hp
      obtain rfl : _ = L1 := hu.symm
      have hk : CW g a (kW (kV (kV k 5 (telG (k.1 5) (k.1 8) w d 365)) 8 (telG (k.1 8) (k.1 8) (nI d) d 365)) 0 1 (k.1 0 1 + 1)) _ f1 := hk
      refine lv_aload_n hx hb dX6_setWeight_47 rfl (lv_at hl 0 rfl) ?_
      refine pm_get (ci := 8) (v := .ref (a 3)) (C := RX6) (T := TX6) (N := 6) hx hb hts hin_X6 hown hw (hk.q (i := 0) (dC (by decide))) (hk.f (i := 0) (dC (by decide))) rfl 2 (by decide) (hts (.fieldLink RX6 22 "Backdater" "tariffs" "LBackdater$Tariffs;") (by decide +kernel)) (fun _ h9 => h9) rfl dX6_setWeight_48 ?_
      refine pm_get (ci := 5) (v := .int (k.1 0 1 + 1)) (C := RX3) (T := TX3) (N := 3) hx hb hts hin_X3 hown hw (hk.q (i := 3) (dC (by decide))) (hk.f (i := 3) (dC (by decide))) rfl 2 (by decide) (hts (.fieldLink RX6 76 "Backdater$Tariffs" "count" "I") (by decide +kernel)) (fun _ h9 => h9) rfl dX6_setWeight_51 ?_
      exact vx_ret (pr_i (v := (k.1 0 1 + 1)) hx hb hr hlocks hw rfl ⟨Nat.le_of_ble_eq_true rfl, Nat.le_of_ble_eq_true rfl⟩ (⟨1, d, by decide, rfl, hW, hd9, rfl, hlt, rfl, rfl, hk⟩) dX6_setWeight_54)
    · refine lv_aload_n hx hb dX6_setWeight_37 rfl (lv_at hl 0 rfl) ?_
      refine pm_get (ci := 8) (v := .ref (a 3)) (C := RX6) (T := TX6) (N := 6) hx hb hts hin_X6 hown hw (hk.q (i := 0) (dC (by decide))) (hk.f (i := 0) (dC (by decide))) rfl 2 (by decide) (hts (.fieldLink RX6 22 "Backdater" "tariffs" "LBackdater$Tariffs;") (by decide +kernel)) (fun _ h9 => h9) rfl dX6_setWeight_38 ?_
      refine lv_iload_n hx hb dX6_setWeight_41 rfl (lv_at hl 1 rfl) ?_
      refine lv_iload_n hx hb dX6_setWeight_42 rfl (lv_at hl 2 rfl) ?_
      refine lv_iload_n hx hb dX6_setWeight_43 rfl (lv_at hl 3 rfl) ?_
      refine pc_v hw (va_runV (As := [.int (nI 2), .int w, .int (nI d)]) (rest := []) CF (c_tell2 l g L _ a k hk w d hd9 _) (cwV 3 hts gX6_setWeight_X3_tell rfl rfl rfl (by decide +kernel) ⟨Nat.le_of_ble_eq_true rfl, Nat.le_of_ble_eq_true rfl⟩) (pm_preV hw hs (pm_recv hw (hk.q (i := 3) (dC (by decide))) (hk.f (i := 3) (dC (by decide))) rfl)) rfl rfl hl.1 rfl (lv_room (Nat.le_of_ble_eq_true rfl)) dX6_setWeight_44 ⟨Nat.le_of_ble_eq_true rfl, Nat.le_of_ble_eq_true rfl⟩) (fun L1 f1 H locs hp hw => ?_)
      obtain ⟨hu, hk⟩ := hp
      obtain rfl : _ = L1 := hu.symm
      have hk : CW g a (kW (kV (kV k 6 (telG (k.1 6) (k.1 9) w d 365)) 9 (telG (k.1 9) (k.1 9) (nI d) d 365)) 0 1 (k.1 0 1 + 1)) _ f1 := hk
      refine lv_aload_n hx hb dX6_setWeight_47 rfl (lv_at hl 0 rfl) ?_
      refine pm_get (ci := 8) (v := .ref (a 3)) (C := RX6) (T := TX6) (N := 6) hx hb hts hin_X6 hown hw (hk.q (i := 0) (dC (by decide))) (hk.f (i := 0) (dC (by decide))) rfl 2 (by decide) (hts (.fieldLink RX6 22 "Backdater" "tariffs" "LBackdater$Tariffs;") (by decide +kernel)) (fun _ h9 => h9) rfl dX6_setWeight_48 ?_
      refine pm_get (ci := 5) (v := .int (k.1 0 1 + 1)) (C := RX3) (T := TX3) (N := 3) hx hb hts hin_X3 hown hw (hk.q (i := 3) (dC (by decide))) (hk.f (i := 3) (dC (by decide))) rfl 2 (by decide) (hts (.fieldLink RX6 76 "Backdater$Tariffs" "count" "I") (by decide +kernel)) (fun _ h9 => h9) rfl dX6_setWeight_51 ?_
      exact vx_ret (pr_i (v := (k.1 0 1 + 1)) hx hb hr hlocks hw rfl ⟨Nat.le_of_ble_eq_true rfl, Nat.le_of_ble_eq_true rfl⟩ (⟨2, d, by decide, rfl, hW, hd9, rfl, hlt, rfl, rfl, hk⟩) dX6_setWeight_54)
  · have hlt : ¬ (k.1 0 1).toInt < 20 := by rw [i32_lt] at c_24; exact c_24
    exact px_throwS (own := RX6) (cls := "java/lang/IllegalStateException") (names := ["java/lang/RuntimeException", "java/lang/Exception"]) hx hb hst hown (by decide +kernel) (by decide +kernel) (hts (.classLink RX6 54 "java/lang/IllegalStateException") (by decide +kernel)) (hts (.initialized "java/lang/IllegalStateException") (by decide +kernel)) (by decide +kernel : (RX6, 79, "there are 20 tariffs") ∈ sx_texts) hts (by decide +kernel) (by decide +kernel) (by decide +kernel) (by decide +kernel) hs hw hml hl.1 dX6_setWeight_27 dX6_setWeight_30 dX6_setWeight_31 dX6_setWeight_33 dX6_setWeight_36 htab hlocks ⟨Nat.le_of_ble_eq_true rfl, Nat.le_of_ble_eq_true rfl, Nat.le_of_ble_eq_true rfl, Nat.le_of_ble_eq_true rfl⟩ ⟨Nat.le_of_ble_eq_true rfl, Nat.le_of_ble_eq_true rfl⟩ (⟨Or.inr ⟨hF, Or.inr ⟨hW, Or.inr ⟨hDy, Or.inl ⟨hlt, rfl⟩⟩⟩⟩, scr_id hk⟩)

set_option maxHeartbeats 4000000 in
set_option maxRecDepth 100000 in
theorem c_pass (l : Launch) (hst : l.stackTraces = false) (g : GE) (L : List Nat) (f : Nat → va_E) (a : Nat → Nat) (k : KS) (hk : CW g a k L f) (x : Int32) : Xi l yX6_pass wsX6_pass (rmH 1 1 6) g L f [.ref (a 0), .int x] (fun r u => (1 ≤ x.toInt ∧ x.toInt ≤ 100) ∧ r = k.1 0 0 + x ∧ u.1 = L ∧ CW g a (kW k 0 0 (k.1 0 0 + x)) L u.2) (fun E u => exL [("java/lang/IllegalArgumentException", 1 ≤ x.toInt ∧ x.toInt ≤ 100)] E ∧ ScrP g a k L u) 1 6 := by
  intro sz
  refine vx_ofW (cc := cX6_pass) (maxL := 2) (ret := (some .int)) (by decide) rfl ?_
  intro p e s m args below meth c s₁ B hml htab hv
  obtain ⟨rfl, hv⟩ := hv
  have hx := B.exec
  have hb := B.bytes
  have hr := B.returns
  have hts := atoms_spec (ws := wsX6_pass) B.pre
  have hown : s.vm.findClass RX6 = some m.cls := findClass_of_methodNamed B.named
  have hlocks := B.notSynchronized
  obtain ⟨rfl, hw, hs⟩ := pm_begin hv
  generalize va_A (va_pl L f) s.heap.size = A at hw hs ⊢
  have CF := (⟨hx, hb, hml, hown, hts⟩ : CallFix p m c cX6_pass 2 s _ wsX6_pass RX6)
  have hin_X6 : ∀ w ∈ wsX60, w ∈ wsX6_pass := by decide +kernel
  have hl := lv_entry ([.ref (a 0), .int x]) (n := 2) (Nat.le_of_ble_eq_true rfl)
  rw [lg_entry_eq]
  generalize (lg_sl ([.ref (a 0), .int x]) ++ List.replicate (2 - (lg_sl ([.ref (a 0), .int x])).length) Slot.unset).toArray = ls at hl ⊢
  have hl : lv_has ls 2 [(0, .ref (a 0)), (1, .int x)] := hl
  refine lv_iload_n hx hb dX6_pass_0 rfl (lv_at hl 1 rfl) ?_
  refine lv_iconst (v := 1) hx hb dX6_pass_1 (by decide) ?_
  refine lv_bipush (v := 100) hx hb dX6_pass_2 (by decide) ?_
  refine px_v hw (vx_runS (As := [.int x, .int 1, .int 100]) (rest := []) CF (c_demandWithin l hst g L _ x 1 100 _) (va_cwS 3 hts gX6_pass_X6_demandWithin rfl rfl rfl (by decide +kernel) ⟨Nat.le_of_ble_eq_true rfl, Nat.le_of_ble_eq_true rfl⟩) (pm_preS hw hs) rfl rfl hl.1 rfl (lv_room (Nat.le_of_ble_eq_true rfl)) dX6_pass_4 ⟨Nat.le_of_ble_eq_true rfl, Nat.le_of_ble_eq_true rfl⟩) htab hlocks ⟨Nat.le_of_ble_eq_true rfl, Nat.le_of_ble_eq_true rfl⟩ (fun E u hE => by obtain ⟨rfl, hn9, rfl⟩ := hE; exact ⟨Or.inl ⟨hn9, rfl⟩, scr_id hk⟩) (fun L1 f1 H locs hp hw => ?_)
  obtain ⟨hW, hp⟩ := hp
  have hu := hp
  obtain rfl : _ = L1 := (congrArg Prod.fst hu).symm
  obtain rfl : _ = f1 := (congrArg Prod.snd hu).symm
  refine lv_aload_n hx hb dX6_pass_7 rfl (lv_at hl 0 rfl) ?_
  refine lv_dup hx hb dX6_pass_8 rfl ?_
  refine pm_get (ci := 8) (v := .int (k.1 0 0)) (C := RX6) (T := TX6) (N := 6) hx hb hts hin_X6 hown hw (hk.q (i := 0) (dC (by decide))) (hk.f (i := 0) (dC (by decide))) rfl 5 (by decide) (hts (.fieldLink RX6 40 "Backdater" "currentDay" "I") (by decide +kernel)) (fun _ h9 => h9) rfl dX6_pass_9 ?_
  refine lv_iload_n hx hb dX6_pass_12 rfl (lv_at hl 1 rfl) ?_
  refine lv_iadd hx hb dX6_pass_13 ?_
  refine pm_put (ci := 8) (v := .int ((k.1 0 0) + x)) (ty := .int) (C := RX6) (T := TX6) (N := 6) hx hb hts hin_X6 tyX6 tyX6_ok nmX6 hown hw (hk.q (i := 0) (dC (by decide))) (hk.f (i := 0) (dC (by decide))) rfl 5 (by decide) (hts (.fieldLink RX6 40 "Backdater" "currentDay" "I") (by decide +kernel)) (fun _ h9 => h9) rfl (by decide +kernel) rfl rfl (Nat.le_of_ble_eq_true rfl) dX6_pass_14 (fun H locs hw => ?_)
  have hk := hk.day ((k.1 0 0) + x)
  refine lv_aload_n hx hb dX6_pass_17 rfl (lv_at hl 0 rfl) ?_
  refine pm_get (ci := 8) (v := .int ((k.1 0 0) + x)) (C := RX6) (T := TX6) (N := 6) hx hb hts hin_X6 hown hw (hk.q (i := 0) (dC (by decide))) (hk.f (i := 0) (dC (by decide))) rfl 5 (by decide) (hts (.fieldLink RX6 40 "Backdater" "currentDay" "I") (by decide +kernel)) (fun _ h9 => h9) rfl dX6_pass_18 ?_
  exact vx_ret (pr_i (v := ((k.1 0 0) + x)) hx hb hr hlocks hw rfl ⟨Nat.le_of_ble_eq_true rfl, Nat.le_of_ble_eq_true rfl⟩ (⟨hW, rfl, rfl, hk⟩) dX6_pass_21)

set_option maxHeartbeats 4000000 in
set_option maxRecDepth 100000 in
theorem c_today (l : Launch) (g : GE) (L : List Nat) (f : Nat → va_E) (a : Nat → Nat) (k : KS) (hk : CW g a k L f)  : Mi l yX6_today wsX6_today (rmH 0 0 0) g L f [.ref (a 0)] (fun r u => r = k.1 0 0 ∧ u = (L, f)) 0 0 := by
  intro sz
  refine Met.ofW (cc := cX6_today) (maxL := 1) (ret := (some .int)) (by decide) rfl ?_
  intro p e s m args below meth c s₁ B hml hv
  obtain ⟨rfl, hv⟩ := hv
  have hx := B.exec
  have hb := B.bytes
  have hr := B.returns
  have hts := atoms_spec (ws := wsX6_today) B.pre
  have hown : s.vm.findClass RX6 = some m.cls := findClass_of_methodNamed B.named
  have hlocks := B.notSynchronized
  obtain ⟨rfl, hw, hs⟩ := pm_begin hv
  generalize va_A (va_pl L f) s.heap.size = A at hw hs ⊢
  have CF := (⟨hx, hb, hml, hown, hts⟩ : CallFix p m c cX6_today 1 s _ wsX6_today RX6)
  have hin_X6 : ∀ w ∈ wsX60, w ∈ wsX6_today := by decide +kernel
  have hl := lv_entry ([.ref (a 0)]) (n := 1) (Nat.le_of_ble_eq_true rfl)
  rw [lg_entry_eq]
  generalize (lg_sl ([.ref (a 0)]) ++ List.replicate (1 - (lg_sl ([.ref (a 0)])).length) Slot.unset).toArray = ls at hl ⊢
  have hl : lv_has ls 1 [(0, .ref (a 0))] := hl
  refine lv_aload_n hx hb dX6_today_0 rfl (lv_at hl 0 rfl) ?_
  refine pm_get (ci := 8) (v := .int (k.1 0 0)) (C := RX6) (T := TX6) (N := 6) hx hb hts hin_X6 hown hw (hk.q (i := 0) (dC (by decide))) (hk.f (i := 0) (dC (by decide))) rfl 5 (by decide) (hts (.fieldLink RX6 40 "Backdater" "currentDay" "I") (by decide +kernel)) (fun _ h9 => h9) rfl dX6_today_1 ?_
  exact pr_i (v := (k.1 0 0)) hx hb hr hlocks hw rfl ⟨Nat.le_of_ble_eq_true rfl, Nat.le_of_ble_eq_true rfl⟩ (⟨rfl, rfl⟩) dX6_today_4

set_option maxHeartbeats 4000000 in
set_option maxRecDepth 100000 in
theorem c_changes (l : Launch) (g : GE) (L : List Nat) (f : Nat → va_E) (a : Nat → Nat) (k : KS) (hk : CW g a k L f) (hi : Iv a k) : Mi l yX6_changes wsX6_changes (rmH 1 0 0) g L f [.ref (a 0)] (fun r u => r = nI (kC k) ∧ u = (L, f)) 0 0 := by
  intro sz
  refine Met.ofW (cc := cX6_changes) (maxL := 1) (ret := (some .int)) (by decide) rfl ?_
  intro p e s m args below meth c s₁ B hml hv
  obtain ⟨rfl, hv⟩ := hv
  have hx := B.exec
  have hb := B.bytes
  have hr := B.returns
  have hts := atoms_spec (ws := wsX6_changes) B.pre
  have hown : s.vm.findClass RX6 = some m.cls := findClass_of_methodNamed B.named
  have hlocks := B.notSynchronized
  obtain ⟨rfl, hw, hs⟩ := pm_begin hv
  generalize va_A (va_pl L f) s.heap.size = A at hw hs ⊢
  have CF := (⟨hx, hb, hml, hown, hts⟩ : CallFix p m c cX6_changes 1 s _ wsX6_changes RX6)
  have hin_X6 : ∀ w ∈ wsX60, w ∈ wsX6_changes := by decide +kernel
  have hl := lv_entry ([.ref (a 0)]) (n := 1) (Nat.le_of_ble_eq_true rfl)
  rw [lg_entry_eq]
  generalize (lg_sl ([.ref (a 0)]) ++ List.replicate (1 - (lg_sl ([.ref (a 0)])).length) Slot.unset).toArray = ls at hl ⊢
  have hl : lv_has ls 1 [(0, .ref (a 0))] := hl
  have hL1 := hk.ls1 hi
  refine lv_aload_n hx hb dX6_changes_0 rfl (lv_at hl 0 rfl) ?_
  refine pm_get (ci := 8) (v := .ref (a 2)) (C := RX6) (T := TX6) (N := 6) hx hb hts hin_X6 hown hw (hk.q (i := 0) (dC (by decide))) (hk.f (i := 0) (dC (by decide))) rfl 1 (by decide) (hts (.fieldLink RX6 16 "Backdater" "told" "Ljava/util/List;") (by decide +kernel)) (fun _ h9 => h9) rfl dX6_changes_1 ?_
  refine pc_Fi hw (va_runF (As := []) (rest := []) (hw.1.1 2 _ rfl).2 CF (c_size l g _ _ (a 2) _ _ _ hL1.q hL1.f _) (va_cwF 0 hts gX6_changes_Jx4a65c_size_8abf5_f48Jx4a65c rfl rfl rfl hs.2.2.2.2.2.2.1.1 (by decide +kernel) ⟨Nat.le_of_ble_eq_true rfl, Nat.le_of_ble_eq_true rfl⟩) (pm_preV hw hs (pm_recv hw (hk.q (i := 2) (dC (by decide))) (hk.f (i := 2) (dC (by decide))) rfl)) rfl rfl hl.1 rfl (lv_room (Nat.le_of_ble_eq_true rfl)) dX6_changes_4 ⟨Nat.le_of_ble_eq_true rfl, Nat.le_of_ble_eq_true rfl⟩) (fun r L1 f1 H locs hp hw => ?_)
  obtain ⟨hE_4, hu⟩ := hp
  obtain rfl : _ = L1 := (congrArg Prod.fst hu).symm
  obtain rfl : _ = f1 := (congrArg Prod.snd hu).symm
  generalize r = r_4 at hE_4 ⊢
  exact pr_i (v := r_4) hx hb hr hlocks hw rfl ⟨Nat.le_of_ble_eq_true rfl, Nat.le_of_ble_eq_true rfl⟩ (⟨by rw [hE_4, hi.2.1.2], rfl⟩) dX6_changes_9

set_option maxHeartbeats 4000000 in
set_option maxRecDepth 100000 in
theorem c_takeBack (l : Launch) (hst : l.stackTraces = false) (g : GE) (L : List Nat) (f : Nat → va_E) (a : Nat → Nat) (k : KS) (hk : CW g a k L f) (hi : Iv a k) (x : Int32) : Xi l yX6_takeBack wsX6_takeBack (rmH 4 2 12) g L f [.ref (a 0), .int x] (fun r u => ∃ j, j < kC k ∧ x = nI j ∧ k.1 16 j = -1 ∧ r = k.1 15 j ∧ u.1 = L ∧ CW g a (kW k 16 j (k.1 0 0)) L u.2) (fun E u => exL [("java/lang/IndexOutOfBoundsException", chgP k x), ("java/lang/IllegalStateException", ∀ j, j < kC k → x = nI j → k.1 16 j = -1)] E ∧ ScrP g a k L u) 2 12 := by
  intro sz
  refine vx_ofW (cc := cX6_takeBack) (maxL := 3) (ret := (some .int)) (by decide) rfl ?_
  intro p e s m args below meth c s₁ B hml htab hv
  obtain ⟨rfl, hv⟩ := hv
  have hx := B.exec
  have hb := B.bytes
  have hr := B.returns
  have hts := atoms_spec (ws := wsX6_takeBack) B.pre
  have hown : s.vm.findClass RX6 = some m.cls := findClass_of_methodNamed B.named
  have hlocks := B.notSynchronized
  obtain ⟨rfl, hw, hs⟩ := pm_begin hv
  generalize va_A (va_pl L f) s.heap.size = A at hw hs ⊢
  have CF := (⟨hx, hb, hml, hown, hts⟩ : CallFix p m c cX6_takeBack 3 s _ wsX6_takeBack RX6)
  have hin_X6 : ∀ w ∈ wsX60, w ∈ wsX6_takeBack := by decide +kernel
  have hin_X0 : ∀ w ∈ wsX00, w ∈ wsX6_takeBack := by decide +kernel
  have hl := lv_entry ([.ref (a 0), .int x]) (n := 3) (Nat.le_of_ble_eq_true rfl)
  rw [lg_entry_eq]
  generalize (lg_sl ([.ref (a 0), .int x]) ++ List.replicate (3 - (lg_sl ([.ref (a 0), .int x])).length) Slot.unset).toArray = ls at hl ⊢
  have hl : lv_has ls 3 [(0, .ref (a 0)), (1, .int x)] := hl
  refine lv_aload_n hx hb dX6_takeBack_0 rfl (lv_at hl 0 rfl) ?_
  refine lv_iload_n hx hb dX6_takeBack_1 rfl (lv_at hl 1 rfl) ?_
  refine px_q hw (vx_runV (As := [.int x]) (rest := []) CF (c_changeNumbered l hst g L _ a k hk hi x _) (cwV 1 hts gX6_takeBack_X6_changeNumbered rfl rfl rfl (by decide +kernel) ⟨Nat.le_of_ble_eq_true rfl, Nat.le_of_ble_eq_true rfl⟩) (pm_preV hw hs (pm_recv hw (hk.q (i := 0) (dC (by decide))) (hk.f (i := 0) (dC (by decide))) rfl)) rfl rfl hl.1 rfl (lv_room (Nat.le_of_ble_eq_true rfl)) dX6_takeBack_2 ⟨Nat.le_of_ble_eq_true rfl, Nat.le_of_ble_eq_true rfl⟩) htab hlocks ⟨Nat.le_of_ble_eq_true rfl, Nat.le_of_ble_eq_true rfl⟩ (fun E u hE => by obtain ⟨rfl, hn9, rfl⟩ := hE; exact ⟨Or.inl ⟨hn9, rfl⟩, scr_id hk⟩) (fun r L1 f1 H locs hp hw => ?_)
  obtain ⟨j, hjc, rfl, rfl, hu⟩ := hp
  obtain rfl : _ = L1 := (congrArg Prod.fst hu).symm
  obtain rfl : _ = f1 := (congrArg Prod.snd hu).symm
  refine lv_astore_n (lv' := [(2, .ref (a (32 + j))), (0, .ref (a 0)), (1, .int (nI j))]) hx hb dX6_takeBack_5 rfl hl (by decide) rfl (fun ls hl => ?_)
  refine lv_aload_n hx hb dX6_takeBack_6 rfl (lv_at hl 0 rfl) ?_
  refine pm_get (ci := 3) (v := .int (k.1 16 j)) (C := RX0) (T := TX0) (N := 8) hx hb hts hin_X0 hown hw (hk.q (dCh hjc)) ((hk.f (dCh hjc)).trans (fCh g a _ j)) rfl 7 (by decide) (hts (.fieldLink RX6 110 "Backdater$Change" "takenBackOn" "I") (by decide +kernel)) (fun _ h9 => h9) rfl dX6_takeBack_7 ?_
  refine lv_iconst (v := (-1)) hx hb dX6_takeBack_10 (by decide) ?_
  refine lv_icmp_eq (tgt := 24) hx hb dX6_takeBack_11 (by decide) (fun c_11 => ?_) (fun c_11 => ?_)
  · refine lv_aload_n hx hb dX6_takeBack_24 rfl (lv_at hl 0 rfl) ?_
    refine lv_aload_n hx hb dX6_takeBack_25 rfl (lv_at hl 1 rfl) ?_
    refine pm_get (ci := 8) (v := .int (k.1 0 0)) (C := RX6) (T := TX6) (N := 6) hx hb hts hin_X6 hown hw (hk.q (i := 0) (dC (by decide))) (hk.f (i := 0) (dC (by decide))) rfl 5 (by decide) (hts (.fieldLink RX6 40 "Backdater" "currentDay" "I") (by decide +kernel)) (fun _ h9 => h9) rfl dX6_takeBack_26 ?_
    refine pm_put (ci := 3) (v := .int (k.1 0 0)) (ty := .int) (C := RX0) (T := TX0) (N := 8) hx hb hts hin_X0 tyX0 tyX0_ok nmX0 hown hw (hk.q (dCh hjc)) ((hk.f (dCh hjc)).trans (fCh g a _ j)) rfl 7 (by decide) (hts (.fieldLink RX6 110 "Backdater$Change" "takenBackOn" "I") (by decide +kernel)) (fun _ h9 => h9) rfl (by decide +kernel) rfl rfl (Nat.le_of_ble_eq_true rfl) dX6_takeBack_29 (fun H locs hw => ?_)
    have hk := hk.tak hjc (k.1 0 0)
    refine lv_aload_n hx hb dX6_takeBack_32 rfl (lv_at hl 0 rfl) ?_
    refine pm_get (ci := 3) (v := .int (k.1 15 j)) (C := RX0) (T := TX0) (N := 8) hx hb hts hin_X0 hown hw (hk.q (dCh hjc)) ((hk.f (dCh hjc)).trans (fCh g a _ j)) rfl 6 (by decide) (hts (.fieldLink RX6 117 "Backdater$Change" "toldOn" "I") (by decide +kernel)) (fun _ h9 => h9) rfl dX6_takeBack_33 ?_
    exact vx_ret (pr_i (v := (k.1 15 j)) hx hb hr hlocks hw rfl ⟨Nat.le_of_ble_eq_true rfl, Nat.le_of_ble_eq_true rfl⟩ (⟨j, hjc, rfl, c_11, rfl, rfl, hk⟩) dX6_takeBack_36)
  · exact px_throwS (own := RX6) (cls := "java/lang/IllegalStateException") (names := ["java/lang/RuntimeException", "java/lang/Exception"]) hx hb hst hown (by decide +kernel) (by decide +kernel) (hts (.classLink RX6 54 "java/lang/IllegalStateException") (by decide +kernel)) (hts (.initialized "java/lang/IllegalStateException") (by decide +kernel)) (by decide +kernel : (RX6, 115, "the change was taken back") ∈ sx_texts) hts (by decide +kernel) (by decide +kernel) (by decide +kernel) (by decide +kernel) hs hw hml hl.1 dX6_takeBack_14 dX6_takeBack_17 dX6_takeBack_18 dX6_takeBack_20 dX6_takeBack_23 htab hlocks ⟨Nat.le_of_ble_eq_true rfl, Nat.le_of_ble_eq_true rfl, Nat.le_of_ble_eq_true rfl, Nat.le_of_ble_eq_true rfl⟩ ⟨Nat.le_of_ble_eq_true rfl, Nat.le_of_ble_eq_true rfl⟩ (⟨Or.inr ⟨chg_ok hi hjc, Or.inl ⟨fun h9 => c_11 (h9 j hjc rfl), rfl⟩⟩, scr_id hk⟩)

set_option maxHeartbeats 4000000 in
set_option maxRecDepth 100000 in
theorem c_laidAnew (l : Launch) (hst : l.stackTraces = false) (g : GE) (L : List Nat) (f : Nat → va_E) (a : Nat → Nat) (k : KS) (hk : CW g a k L f) (hi : Iv a k) (x : Int32) : Xi l yX6_laidAnew wsX6_laidAnew (rmH 4 1 6) g L f [.ref (a 0), .int x] (fun r u => ∃ j, j < kC k ∧ x = nI j ∧ r = nI (laC k j (k.2.2.2 (k.2.1 1 j))) ∧ u = (L, f)) (fun E u => exL [("java/lang/IndexOutOfBoundsException", chgP k x)] E ∧ ScrP g a k L u) 1 6 := by
  intro sz
  refine vx_ofW (cc := cX6_laidAnew) (maxL := 7) (ret := (some .int)) (by decide) rfl ?_
  intro p e s m args below meth c s₁ B hml htab hv
  obtain ⟨rfl, hv⟩ := hv
  have hx := B.exec
  have hb := B.bytes
  have hr := B.returns
  have hts := atoms_spec (ws := wsX6_laidAnew) B.pre
  have hown : s.vm.findClass RX6 = some m.cls := findClass_of_methodNamed B.named
  have hlocks := B.notSynchronized
  obtain ⟨rfl, hw, hs⟩ := pm_begin hv
  generalize va_A (va_pl L f) s.heap.size = A at hw hs ⊢
  have CF := (⟨hx, hb, hml, hown, hts⟩ : CallFix p m c cX6_laidAnew 7 s _ wsX6_laidAnew RX6)
  have hin_X6 : ∀ w ∈ wsX60, w ∈ wsX6_laidAnew := by decide +kernel
  have hin_X0 : ∀ w ∈ wsX00, w ∈ wsX6_laidAnew := by decide +kernel
  have hin_X2 : ∀ w ∈ wsX20, w ∈ wsX6_laidAnew := by decide +kernel
  have hl := lv_entry ([.ref (a 0), .int x]) (n := 7) (Nat.le_of_ble_eq_true rfl)
  rw [lg_entry_eq]
  generalize (lg_sl ([.ref (a 0), .int x]) ++ List.replicate (7 - (lg_sl ([.ref (a 0), .int x])).length) Slot.unset).toArray = ls at hl ⊢
  have hl : lv_has ls 7 [(0, .ref (a 0)), (1, .int x)] := hl
  refine lv_aload_n hx hb dX6_laidAnew_0 rfl (lv_at hl 0 rfl) ?_
  refine lv_iload_n hx hb dX6_laidAnew_1 rfl (lv_at hl 1 rfl) ?_
  refine px_q hw (vx_runV (As := [.int x]) (rest := []) CF (c_changeNumbered l hst g L _ a k hk hi x _) (cwV 1 hts gX6_laidAnew_X6_changeNumbered rfl rfl rfl (by decide +kernel) ⟨Nat.le_of_ble_eq_true rfl, Nat.le_of_ble_eq_true rfl⟩) (pm_preV hw hs (pm_recv hw (hk.q (i := 0) (dC (by decide))) (hk.f (i := 0) (dC (by decide))) rfl)) rfl rfl hl.1 rfl (lv_room (Nat.le_of_ble_eq_true rfl)) dX6_laidAnew_2 ⟨Nat.le_of_ble_eq_true rfl, Nat.le_of_ble_eq_true rfl⟩) htab hlocks ⟨Nat.le_of_ble_eq_true rfl, Nat.le_of_ble_eq_true rfl⟩ (fun E u hE => by obtain ⟨rfl, hn9, rfl⟩ := hE; exact ⟨Or.inl ⟨hn9, rfl⟩, scr_id hk⟩) (fun r L1 f1 H locs hp hw => ?_)
  obtain ⟨j, hjc, rfl, rfl, hu⟩ := hp
  obtain rfl : _ = L1 := (congrArg Prod.fst hu).symm
  obtain rfl : _ = f1 := (congrArg Prod.snd hu).symm
  obtain ⟨i, hie⟩ : ∃ i, k.2.1 1 j = i := ⟨_, rfl⟩
  have hpi : i < kP k := hie ▸ (hi.2.2.2.2.2.2.2 j hjc).1
  have h4 := hi.h4 hpi
  have ho := hi.o hpi
  have hLP := hk.lsP ho hpi h4
  have hj60 : kC k ≤ 60 := hi.1.2
  have hlen : (k.2.2.2 i).length ≤ 60 := by have h1 := ho.2.1.1; have h2 := ho.1; omega
  have hsz := ho.2.1.1
  refine lv_astore_n (lv' := [(2, .ref (a (32 + j))), (0, .ref (a 0)), (1, .int (nI j))]) hx hb dX6_laidAnew_5 rfl hl (by decide) rfl (fun ls hl => ?_)
  refine lv_aload_n hx hb dX6_laidAnew_6 rfl (lv_at hl 0 rfl) ?_
  refine pm_get (ci := 3) (v := .ref (a (20 + 3 * i))) (C := RX0) (T := TX0) (N := 8) hx hb hts hin_X0 hown hw (hk.q (dCh hjc)) ((hk.f (dCh hjc)).trans ((fCh g a _ j).trans (eChg_i hie))) rfl 1 (by decide) (hts (.fieldLink RX6 120 "Backdater$Change" "policy" "LBackdater$Policy;") (by decide +kernel)) (fun _ h9 => h9) rfl dX6_laidAnew_7 ?_
  refine pm_get (ci := 4) (v := .ref (a (21 + 3 * i))) (C := RX2) (T := TX2) (N := 3) hx hb hts hin_X2 hown hw (hk.q (dP hpi h4)) ((hk.f (dP hpi h4)).trans (fP g a _ h4)) rfl 1 (by decide) (hts (.fieldLink RX6 124 "Backdater$Policy" "inOrder" "Ljava/util/List;") (by decide +kernel)) (fun _ h9 => h9) rfl dX6_laidAnew_10 ?_
  refine lv_astore_n (lv' := [(3, .ref (a (21 + 3 * i))), (2, .ref (a (32 + j))), (0, .ref (a 0)), (1, .int (nI j))]) hx hb dX6_laidAnew_13 rfl hl (by decide) rfl (fun ls hl => ?_)
  refine lv_iconst (v := 0) hx hb dX6_laidAnew_14 (by decide) ?_
  refine lv_istore (lv' := [(4, .int 0), (3, .ref (a (21 + 3 * i))), (2, .ref (a (32 + j))), (0, .ref (a 0)), (1, .int (nI j))]) hx hb dX6_laidAnew_15 hl (by decide) rfl (fun ls hl => ?_)
  refine lv_iconst (v := 0) hx hb dX6_laidAnew_17 (by decide) ?_
  refine lv_istore (lv' := [(5, .int 0), (4, .int 0), (3, .ref (a (21 + 3 * i))), (2, .ref (a (32 + j))), (0, .ref (a 0)), (1, .int (nI j))]) hx hb dX6_laidAnew_18 hl (by decide) rfl (fun ls hl => ?_)
  refine W_loop (σ := Nat × Nat) (fun ⟨q, n⟩ H locs ls => (q ≤ (k.2.2.2 i).length ∧ n = laC k j ((k.2.2.2 i).take q)) ∧ PW g A s H locs L _ ∧ lv_has ls 7 [(5, .int (nI q)), (4, .int (nI n)), (0, .ref (a 0)), (2, .ref (a (32 + j))), (3, .ref (a (21 + 3 * i)))]) (fun ⟨q, n⟩ => (k.2.2.2 i).length - q) (0, 0) ⟨⟨Nat.zero_le _, rfl⟩, hw, lv_sub hl [0, 1, 4, 3, 2] rfl⟩ ?_
  rintro ⟨q, n⟩ H locs ls ⟨⟨hql, hn⟩, hw, hl⟩ ih_20
  refine lv_iload hx hb dX6_laidAnew_20 (lv_at hl 0 rfl) ?_
  refine lv_aload_n hx hb dX6_laidAnew_22 rfl (lv_at hl 4 rfl) ?_
  refine pc_Fi hw (va_runF (As := []) (rest := [.int (nI q)]) (hw.1.1 2 _ rfl).2 CF (c_size l g _ _ (a (21 + 3 * i)) _ _ _ hLP.q hLP.f _) (va_cwF 0 hts gX6_laidAnew_Jx4a65c_size_8abf5_f48Jx4a65c rfl rfl rfl hs.2.2.2.2.2.2.1.1 (by decide +kernel) ⟨Nat.le_of_ble_eq_true rfl, Nat.le_of_ble_eq_true rfl⟩) (pm_preV hw hs (pm_recv hw (hk.q (dPl hpi h4)) ((hk.f (dPl hpi h4)).trans (fPl g a _ h4)) rfl)) rfl rfl hl.1 rfl (lv_room (Nat.le_of_ble_eq_true rfl)) dX6_laidAnew_23 ⟨Nat.le_of_ble_eq_true rfl, Nat.le_of_ble_eq_true rfl⟩) (fun r L1 f1 H locs hp hw => ?_)
  obtain ⟨hE_23, hu⟩ := hp
  obtain rfl : _ = L1 := (congrArg Prod.fst hu).symm
  obtain rfl : _ = f1 := (congrArg Prod.snd hu).symm
  generalize r = r_23 at hE_23 ⊢
  refine lv_icmp_ge (tgt := 89) hx hb dX6_laidAnew_28 (by decide) (fun c_28 => ?_) (fun c_28 => ?_)
  · have hfin : (k.2.2.2 i).take q = k.2.2.2 i := by
      rw [hE_23, nI_leI (by omega) (by omega)] at c_28
      exact List.take_of_length_le (by omega)
    refine lv_iload hx hb dX6_laidAnew_89 (lv_at hl 1 rfl) ?_
    exact vx_ret (pr_i (v := (nI n)) hx hb hr hlocks hw rfl ⟨Nat.le_of_ble_eq_true rfl, Nat.le_of_ble_eq_true rfl⟩ (⟨j, hjc, rfl, by rw [hn, hfin, hie], rfl⟩) dX6_laidAnew_91)
  · obtain ⟨o, hqo⟩ : ∃ o, (k.2.2.2 i)[q]? = some o := by
      rw [hE_23, nI_leI (by omega) (by omega)] at c_28
      exact ⟨_, List.getElem?_eq_getElem (by omega)⟩
    obtain ⟨hat, hqs, hoc⟩ := ho.at hqo
    refine lv_aload_n hx hb dX6_laidAnew_31 rfl (lv_at hl 4 rfl) ?_
    refine lv_iload hx hb dX6_laidAnew_32 (lv_at hl 0 rfl) ?_
    refine pc_Fq hw (va_runF (As := [.int (nI q)]) (rest := []) (hw.1.1 2 _ rfl).2 CF (c_get l g L _ (a (21 + 3 * i)) _ _ _ hLP.q hLP.f _ _ (hLP.r (by omega)).1 (hLP.r (by omega)).2 q (hqs) ⟨hLP.2.2.2.1, by have := hLP.2.2.2.2.1; omega⟩ _) (va_cwF 1 hts gX6_laidAnew_Jx4a65c_get_915e3_f127Jx4a65c rfl rfl rfl hs.2.2.2.2.2.2.1.2.1 (by decide +kernel) ⟨Nat.le_of_ble_eq_true rfl, Nat.le_of_ble_eq_true rfl⟩) (pm_preV hw hs (pm_recv hw (hk.q (dPl hpi h4)) ((hk.f (dPl hpi h4)).trans (fPl g a _ h4)) rfl)) rfl rfl hl.1 rfl (lv_room (Nat.le_of_ble_eq_true rfl)) dX6_laidAnew_34 ⟨Nat.le_of_ble_eq_true rfl, Nat.le_of_ble_eq_true rfl⟩) (fun r L1 f1 H locs hp hw => ?_)
    obtain ⟨hE_34, hu⟩ := hp
    obtain rfl : _ = L1 := (congrArg Prod.fst hu).symm
    obtain rfl : _ = f1 := (congrArg Prod.snd hu).symm
    obtain rfl : r = some (a (32 + o)) := hE_34.trans (hat)
    refine va_castY (C := "Backdater$Change") hx hb hown (hts (.classLink RX6 111 "Backdater$Change") (by decide +kernel)) (hs.2.2.2.1 ("Backdater$Change", "Backdater$Change") (by decide +kernel)) (pm_recv hw (hk.q (dCh hoc)) ((hk.f (dCh hoc)).trans (fCh g a _ o)) rfl) dX6_laidAnew_39 ?_
    refine lv_astore (lv' := [(6, .ref (a (32 + o))), (5, .int (nI q)), (4, .int (nI n)), (0, .ref (a 0)), (2, .ref (a (32 + j))), (3, .ref (a (21 + 3 * i)))]) hx hb dX6_laidAnew_42 hl (by decide) rfl (fun ls hl => ?_)
    refine lv_aload hx hb dX6_laidAnew_44 (lv_at hl 0 rfl) ?_
    refine pm_get (ci := 3) (v := .int (nI o)) (C := RX0) (T := TX0) (N := 8) hx hb hts hin_X0 hown hw (hk.q (dCh hoc)) ((hk.f (dCh hoc)).trans (fCh g a _ o)) rfl 0 (by decide) (hts (.fieldLink RX6 131 "Backdater$Change" "number" "I") (by decide +kernel)) (fun _ h9 => h9) rfl dX6_laidAnew_46 ?_
    refine lv_aload_n hx hb dX6_laidAnew_49 rfl (lv_at hl 4 rfl) ?_
    refine pm_get (ci := 3) (v := .int (nI j)) (C := RX0) (T := TX0) (N := 8) hx hb hts hin_X0 hown hw (hk.q (dCh hjc)) ((hk.f (dCh hjc)).trans ((fCh g a _ j).trans (eChg_i hie))) rfl 0 (by decide) (hts (.fieldLink RX6 131 "Backdater$Change" "number" "I") (by decide +kernel)) (fun _ h9 => h9) rfl dX6_laidAnew_50 ?_
    refine lv_icmp_ge (tgt := 83) hx hb dX6_laidAnew_53 (by decide) (fun c_53 => ?_) (fun c_53 => ?_)
    · have hno : ¬ laB k j o := by
        rw [nI_leI (by omega) (by omega)] at c_53
        exact fun h9 => by have := h9.1; omega
      refine lv_iinc (v := (nI (q + 1))) (lv' := [(5, .int (nI (q + 1))), (6, .ref (a (32 + o))), (4, .int (nI n)), (0, .ref (a 0)), (2, .ref (a (32 + j))), (3, .ref (a (21 + 3 * i)))]) hx hb dX6_laidAnew_83 hl (k := 1) rfl (nI_1 q) (by decide) rfl (fun ls hl => ?_)
      refine lv_goto (tgt := 20) hx hb dX6_laidAnew_86 (by decide) ?_
      exact ih_20 (q + 1, n) _ _ _ (by dsimp only; omega) ⟨⟨by omega, by rw [laC_f hqo hno]; exact hn⟩, hw, lv_sub hl [0, 2, 3, 4, 5] rfl⟩
    · have h53 : o < j := by
        rw [nI_leI (by omega) (by omega)] at c_53
        omega
      refine lv_aload hx hb dX6_laidAnew_56 (lv_at hl 0 rfl) ?_
      refine pm_get (ci := 3) (v := .int (k.1 13 o)) (C := RX0) (T := TX0) (N := 8) hx hb hts hin_X0 hown hw (hk.q (dCh hoc)) ((hk.f (dCh hoc)).trans (fCh g a _ o)) rfl 4 (by decide) (hts (.fieldLink RX6 134 "Backdater$Change" "from" "I") (by decide +kernel)) (fun _ h9 => h9) rfl dX6_laidAnew_58 ?_
      refine lv_aload_n hx hb dX6_laidAnew_61 rfl (lv_at hl 4 rfl) ?_
      refine pm_get (ci := 3) (v := .int (k.1 13 j)) (C := RX0) (T := TX0) (N := 8) hx hb hts hin_X0 hown hw (hk.q (dCh hjc)) ((hk.f (dCh hjc)).trans ((fCh g a _ j).trans (eChg_i hie))) rfl 4 (by decide) (hts (.fieldLink RX6 134 "Backdater$Change" "from" "I") (by decide +kernel)) (fun _ h9 => h9) rfl dX6_laidAnew_62 ?_
      refine lv_icmp_le (tgt := 83) hx hb dX6_laidAnew_65 (by decide) (fun c_65 => ?_) (fun c_65 => ?_)
      · have hno : ¬ laB k j o := by
          rw [i32_le] at c_65
          exact fun h9 => by have := h9.2.1; omega
        refine lv_iinc (v := (nI (q + 1))) (lv' := [(5, .int (nI (q + 1))), (6, .ref (a (32 + o))), (4, .int (nI n)), (0, .ref (a 0)), (2, .ref (a (32 + j))), (3, .ref (a (21 + 3 * i)))]) hx hb dX6_laidAnew_83 hl (k := 1) rfl (nI_1 q) (by decide) rfl (fun ls hl => ?_)
        refine lv_goto (tgt := 20) hx hb dX6_laidAnew_86 (by decide) ?_
        exact ih_20 (q + 1, n) _ _ _ (by dsimp only; omega) ⟨⟨by omega, by rw [laC_f hqo hno]; exact hn⟩, hw, lv_sub hl [0, 2, 3, 4, 5] rfl⟩
      · have h65 : (k.1 13 j).toInt < (k.1 13 o).toInt := by
          rw [i32_le] at c_65
          omega
        refine lv_aload hx hb dX6_laidAnew_68 (lv_at hl 0 rfl) ?_
        refine lv_aload_n hx hb dX6_laidAnew_70 rfl (lv_at hl 3 rfl) ?_
        refine pm_get (ci := 8) (v := .int (k.1 0 0)) (C := RX6) (T := TX6) (N := 6) hx hb hts hin_X6 hown hw (hk.q (i := 0) (dC (by decide))) (hk.f (i := 0) (dC (by decide))) rfl 5 (by decide) (hts (.fieldLink RX6 40 "Backdater" "currentDay" "I") (by decide +kernel)) (fun _ h9 => h9) rfl dX6_laidAnew_71 ?_
        refine pc_i hw (va_runV (As := [.int (k.1 0 0)]) (rest := []) CF (c_isKnownOn l g L _ (a (32 + o)) _ _ _ _ _ _ _ _ (k.1 0 0) (hk.q (dCh hoc)) ((hk.f (dCh hoc)).trans (fCh g a _ o)) _) (cwV 1 hts gX6_laidAnew_X0_isKnownOn rfl rfl rfl (by decide +kernel) ⟨Nat.le_of_ble_eq_true rfl, Nat.le_of_ble_eq_true rfl⟩) (pm_preV hw hs (pm_recv hw (hk.q (dCh hoc)) ((hk.f (dCh hoc)).trans (fCh g a _ o)) rfl)) rfl rfl hl.1 rfl (lv_room (Nat.le_of_ble_eq_true rfl)) dX6_laidAnew_74 ⟨Nat.le_of_ble_eq_true rfl, Nat.le_of_ble_eq_true rfl⟩) (fun r L1 f1 H locs hp hw => ?_)
        obtain ⟨hE_74, hu⟩ := hp
        obtain rfl : _ = L1 := (congrArg Prod.fst hu).symm
        obtain rfl : _ = f1 := (congrArg Prod.snd hu).symm
        generalize r = r_74 at hE_74 ⊢
        refine lv_if_eq (tgt := 83) hx hb dX6_laidAnew_77 (by decide) (fun c_77 => ?_) (fun c_77 => ?_)
        · have hno : ¬ laB k j o := fun h9 => b2i_eq0 (hE_74 ▸ c_77) h9.2.2
          refine lv_iinc (v := (nI (q + 1))) (lv' := [(5, .int (nI (q + 1))), (6, .ref (a (32 + o))), (4, .int (nI n)), (0, .ref (a 0)), (2, .ref (a (32 + j))), (3, .ref (a (21 + 3 * i)))]) hx hb dX6_laidAnew_83 hl (k := 1) rfl (nI_1 q) (by decide) rfl (fun ls hl => ?_)
          refine lv_goto (tgt := 20) hx hb dX6_laidAnew_86 (by decide) ?_
          exact ih_20 (q + 1, n) _ _ _ (by dsimp only; omega) ⟨⟨by omega, by rw [laC_f hqo hno]; exact hn⟩, hw, lv_sub hl [0, 2, 3, 4, 5] rfl⟩
        · have h77 : knB k o (k.1 0 0) := b2i_ne0 (hE_74 ▸ c_77)
          refine lv_iinc (v := (nI (n + 1))) (lv' := [(4, .int (nI (n + 1))), (6, .ref (a (32 + o))), (5, .int (nI q)), (0, .ref (a 0)), (2, .ref (a (32 + j))), (3, .ref (a (21 + 3 * i)))]) hx hb dX6_laidAnew_80 hl (k := 2) rfl (nI_1 n) (by decide) rfl (fun ls hl => ?_)
          refine lv_iinc (v := (nI (q + 1))) (lv' := [(5, .int (nI (q + 1))), (4, .int (nI (n + 1))), (6, .ref (a (32 + o))), (0, .ref (a 0)), (2, .ref (a (32 + j))), (3, .ref (a (21 + 3 * i)))]) hx hb dX6_laidAnew_83 hl (k := 2) rfl (nI_1 q) (by decide) rfl (fun ls hl => ?_)
          refine lv_goto (tgt := 20) hx hb dX6_laidAnew_86 (by decide) ?_
          exact ih_20 (q + 1, n + 1) _ _ _ (by dsimp only; omega) ⟨⟨by omega, by rw [laC_t hqo ⟨h53, h65, h77⟩, hn]⟩, hw, lv_sub hl [0, 1, 3, 4, 5] rfl⟩

end FACE2
