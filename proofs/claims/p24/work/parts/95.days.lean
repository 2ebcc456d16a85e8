/-! days() -/
section DAYS
set_option maxHeartbeats 8000000 in
set_option maxRecDepth 100000 in
theorem l_days (l : Launch) (hst : l.stackTraces = false) (g : GE) (L : List Nat) (f : Nat → va_E) : Ni l yL_days wsL_days (rmH 12 5874 373172) g L f [] (fun r _ => r = 1) 5874 373172 := by
  intro sz
  refine vx_ofW (cc := cL_days) (maxL := 1) (ret := some .boolean) (by decide) rfl ?_
  intro p e s m args below meth c s₁ B hml htab hv
  obtain ⟨rfl, hv⟩ := hv
  have hx := B.exec
  have hb := B.bytes
  have hr := B.returns
  have hts := atoms_spec (ws := wsL_days) B.pre
  have hown : s.vm.findClass RL = some m.cls := findClass_of_methodNamed B.named
  have hlocks := B.notSynchronized
  obtain ⟨⟨rfl, hw, hs⟩, hN⟩ := pn_begin hv
  generalize va_A (va_pl L f) s.heap.size = A at hw hs ⊢
  have CF := (⟨hx, hb, hml, hown, hts⟩ : CallFix p m c cL_days 1 s _ wsL_days RL)
  have hl := lv_entry ([] : List Value) (n := 1) (Nat.le_of_ble_eq_true rfl)
  rw [lg_entry_eq]
  generalize (lg_sl ([] : List Value) ++ List.replicate (1 - (lg_sl ([] : List Value)).length) Slot.unset).toArray = ls at hl ⊢
  have hin_X6 : ∀ w ∈ wsX60, w ∈ wsL_days := by decide +kernel
  have hl : lv_has ls 1 ([] : List (Nat × Value)) := hl
  refine pm_new (ci := 8) (fs := [.null, .null, .null, .null, .null, .int 0]) (C := RX6) (T := TX6) (N := 6) hx hb hts hin_X6 tyX6 tyX6_ok hown (hts (.classLink RL 8 RX6) (by decide +kernel)) (hts (.instantiable RX6 6) (by decide +kernel)) (hts (.initialized RX6) (by decide +kernel)) hw rfl (fun j hj => by rcases (show j = 0 ∨ j = 1 ∨ j = 2 ∨ j = 3 ∨ j = 4 ∨ j = 5 by omega) with rfl | rfl | rfl | rfl | rfl | rfl <;> rfl) (Nat.le_of_ble_eq_true rfl) (Nat.le_of_ble_eq_true rfl) dL_days_0 (fun q9o Hn hq hwa => ?_)
  refine lv_dup hx hb dL_days_3 rfl ?_
  refine pc_v hwa (va_runI (As := []) (rest := [.ref q9o]) CF (c_Backdater_init l g _ _ q9o (List.mem_append_right _ (List.mem_singleton.mpr rfl)) pu_s _) (cwI 0 hts gL_days_X6_init rfl rfl rfl (hts (.initialized RX6) (by decide +kernel)) (hts (.methodLink RL 94 yX6_init) (by decide +kernel)) (hts (.instanceMethod yX6_init) (by decide +kernel)) rfl (by decide +kernel) ⟨Nat.le_of_ble_eq_true rfl, Nat.le_of_ble_eq_true rfl⟩) (pm_preS hwa hs) rfl rfl hl.1 rfl (lv_room (Nat.le_of_ble_eq_true rfl)) dL_days_4 ⟨Nat.le_of_ble_eq_true rfl, Nat.le_of_ble_eq_true rfl⟩) (fun Lb fb Hb locb hp hw => ?_)
  obtain ⟨a9, ha9, -, hk9⟩ := hp
  have hS : Wc g q9o dS0 0 Lb fb := wc_new ha9 hk9
  clear hwa ha9 hk9 a9
  refine lv_astore_n (lv' := [(0, .ref q9o)]) hx hb dL_days_7 rfl hl (by decide) rfl (fun ls hl => ?_)
  refine lv_aload_n hx hb dL_days_8 rfl (lv_at hl 0 rfl) ?_
  obtain ⟨fs9, hq9, hf9⟩ := hS.rcv
  refine pc_i hw (va_runV (As := []) (rest := []) CF (z_today l g _ _ hS (v := 0) (by decide +kernel) _) (cwV 0 hts gL_days_X6_today rfl rfl rfl (by decide +kernel) ⟨Nat.le_of_ble_eq_true rfl, Nat.le_of_ble_eq_true rfl⟩) (pm_preV hw hs (pm_recv hw hq9 hf9 rfl)) rfl rfl hl.1 rfl (lv_room (Nat.le_of_ble_eq_true rfl)) dL_days_9 ⟨Nat.le_of_ble_eq_true rfl, Nat.le_of_ble_eq_true rfl⟩) (fun r9 La fa Ha loca hp hw9 => ?_)
  clear hw hS fs9 hq9 hf9
  try clear locb Hb fb Lb
  have hw := hw9
  clear hw9
  obtain rfl : r9 = 0 := hp.1
  have hS : Wc g q9o dS0 0 La fa := hp.2
  clear hp
  refine lv_if_ne (tgt := 397) hx hb dL_days_12 (by decide) (fun h9 => absurd h9 (by decide)) (fun _ => ?_)
  refine lv_aload_n hx hb dL_days_15 rfl (lv_at hl 0 rfl) ?_
  obtain ⟨fs9, hq9, hf9⟩ := hS.rcv
  refine pc_i hw (va_runV (As := []) (rest := []) CF (z_changes l g _ _ hS (v := 0) (by decide +kernel) _) (cwV 0 hts gL_days_X6_changes rfl rfl rfl (by decide +kernel) ⟨Nat.le_of_ble_eq_true rfl, Nat.le_of_ble_eq_true rfl⟩) (pm_preV hw hs (pm_recv hw hq9 hf9 rfl)) rfl rfl hl.1 rfl (lv_room (Nat.le_of_ble_eq_true rfl)) dL_days_16 ⟨Nat.le_of_ble_eq_true rfl, Nat.le_of_ble_eq_true rfl⟩) (fun r9 Lb fb Hb locb hp hw9 => ?_)
  clear hw hS fs9 hq9 hf9
  try clear loca Ha fa La
  have hw := hw9
  clear hw9
  obtain rfl : r9 = 0 := hp.1
  have hS : Wc g q9o dS0 0 Lb fb := hp.2
  clear hp
  refine lv_if_ne (tgt := 397) hx hb dL_days_19 (by decide) (fun h9 => absurd h9 (by decide)) (fun _ => ?_)
  refine lv_aload_n hx hb dL_days_22 rfl (lv_at hl 0 rfl) ?_
  refine lv_bipush (v := 12) hx hb dL_days_23 (by decide) ?_
  refine lv_iconst (v := 0) hx hb dL_days_25 (by decide) ?_
  refine lv_iconst (v := 0) hx hb dL_days_26 (by decide) ?_
  refine lv_iconst (v := 0) hx hb dL_days_27 (by decide) ?_
  refine lv_iconst (v := 0) hx hb dL_days_28 (by decide) ?_
  refine px_ic hw (vx_runSX (As := [.ref q9o, .int 12, .int 0, .int 0, .int 0, .int 0]) (rest := []) CF (za_noseg l hst g _ _ hS (by decide +kernel) 0 0 0 0 _) (vx_cwSW 6 hts gL_days_L_act rfl rfl rfl (by decide +kernel) ⟨Nat.le_of_ble_eq_true rfl, Nat.le_of_ble_eq_true rfl⟩) (pn_preS hw hs hN) rfl rfl hl.1 rfl (lv_room (Nat.le_of_ble_eq_true rfl)) dL_days_29 ⟨Nat.le_of_ble_eq_true rfl, Nat.le_of_ble_eq_true rfl⟩) (fun E9 ce9 q9 L9 f9 H9 locs9 he9 _ _ _ _ => False.elim he9) (fun r9 La fa Ha loca hp hw9 => ?_)
  clear hw hS
  try clear locb Hb fb Lb
  have hw := hw9
  clear hw9
  obtain rfl : r9 = (-90000001) := hp.1
  have hS : Wc g q9o dS0 0 La fa := hp.2
  clear hp
  refine lv_ldc (v := (-90000001)) hx hb hown (hts (.constant RL 73 (-90000001)) (by decide +kernel)) dL_days_32 ?_
  refine lv_icmp_ne (tgt := 397) hx hb dL_days_34 (by decide) (fun h9 => absurd h9 (by decide)) (fun _ => ?_)
  refine lv_aload_n hx hb dL_days_37 rfl (lv_at hl 0 rfl) ?_
  refine lv_sipush (v := 365) hx hb dL_days_38 (by decide) ?_
  obtain ⟨fs9, hq9, hf9⟩ := hS.rcv
  refine px_ic hw (vx_runV (As := [.int 365]) (rest := []) CF (z_open l hst g _ _ hS 365 (by decide +kernel) (by decide +kernel) (by decide +kernel) (v := 0) (by decide +kernel) (S2 := dS1) rfl _) (cwV 1 hts gL_days_X6_open rfl rfl rfl (by decide +kernel) ⟨Nat.le_of_ble_eq_true rfl, Nat.le_of_ble_eq_true rfl⟩) (pm_preV hw hs (pm_recv hw hq9 hf9 rfl)) rfl rfl hl.1 rfl (lv_room (Nat.le_of_ble_eq_true rfl)) dL_days_41 ⟨Nat.le_of_ble_eq_true rfl, Nat.le_of_ble_eq_true rfl⟩) (fun E9 ce9 q9 L9 f9 H9 locs9 he9 _ _ _ _ => False.elim he9) (fun r9 Lb fb Hb locb hp hw9 => ?_)
  clear hw hS fs9 hq9 hf9
  try clear loca Ha fa La
  have hw := hw9
  clear hw9
  obtain rfl : r9 = 0 := hp.1
  have hS : Wc g q9o dS1 1 Lb fb := hp.2
  clear hp
  refine lv_if_ne (tgt := 397) hx hb dL_days_44 (by decide) (fun h9 => absurd h9 (by decide)) (fun _ => ?_)
  refine lv_aload_n hx hb dL_days_47 rfl (lv_at hl 0 rfl) ?_
  refine lv_iconst (v := 0) hx hb dL_days_48 (by decide) ?_
  refine lv_sipush (v := 365) hx hb dL_days_49 (by decide) ?_
  refine px_ic hw (vx_runS (As := [.ref q9o, .int 0, .int 365]) (rest := []) CF (z_lpremium l hst g _ _ hS 0 (by decide +kernel) dY1_0_0 (by decide +kernel) (by decide +kernel) _) (va_cwS 3 hts gL_days_L_premium rfl rfl rfl (by decide +kernel) ⟨Nat.le_of_ble_eq_true rfl, Nat.le_of_ble_eq_true rfl⟩) (pn_preS hw hs hN) rfl rfl hl.1 rfl (lv_room (Nat.le_of_ble_eq_true rfl)) dL_days_52 ⟨Nat.le_of_ble_eq_true rfl, Nat.le_of_ble_eq_true rfl⟩) (fun E9 ce9 q9 L9 f9 H9 locs9 he9 _ _ _ _ => False.elim he9) (fun r9 La fa Ha loca hp hw9 => ?_)
  clear hw hS
  try clear locb Hb fb Lb
  have hw := hw9
  clear hw9
  obtain rfl : r9 = 1 := hp.1
  have hS : Wc g q9o dS1 1 La fa := hp.2
  clear hp
  refine lv_if_eq (tgt := 397) hx hb dL_days_55 (by decide) (fun h9 => absurd h9 (by decide)) (fun _ => ?_)
  refine lv_aload_n hx hb dL_days_58 rfl (lv_at hl 0 rfl) ?_
  refine lv_iconst (v := 0) hx hb dL_days_59 (by decide) ?_
  refine lv_iconst (v := 0) hx hb dL_days_60 (by decide) ?_
  obtain ⟨fs9, hq9, hf9⟩ := hS.rcv
  refine px_ic hw (vx_runV (As := [.int 0, .int 0]) (rest := []) CF (z_segments l hst g _ _ hS 0 0 (by decide +kernel) (by decide +kernel) dY1_0_0 (by decide +kernel) (v := 1) (by decide +kernel) _) (cwV 2 hts gL_days_X6_segments rfl rfl rfl (by decide +kernel) ⟨Nat.le_of_ble_eq_true rfl, Nat.le_of_ble_eq_true rfl⟩) (pm_preV hw hs (pm_recv hw hq9 hf9 rfl)) rfl rfl hl.1 rfl (lv_room (Nat.le_of_ble_eq_true rfl)) dL_days_61 ⟨Nat.le_of_ble_eq_true rfl, Nat.le_of_ble_eq_true rfl⟩) (fun E9 ce9 q9 L9 f9 H9 locs9 he9 _ _ _ _ => False.elim he9) (fun r9 Lb fb Hb locb hp hw9 => ?_)
  clear hw hS fs9 hq9 hf9
  try clear loca Ha fa La
  have hw := hw9
  clear hw9
  obtain rfl : r9 = 1 := hp.1
  have hS : Wc g q9o dS1 1 Lb fb := hp.2
  clear hp
  refine lv_iconst (v := 1) hx hb dL_days_64 (by decide) ?_
  refine lv_icmp_ne (tgt := 397) hx hb dL_days_65 (by decide) (fun h9 => absurd h9 (by decide)) (fun _ => ?_)
  refine lv_aload_n hx hb dL_days_68 rfl (lv_at hl 0 rfl) ?_
  refine lv_iconst (v := 0) hx hb dL_days_69 (by decide) ?_
  refine lv_iconst (v := 0) hx hb dL_days_70 (by decide) ?_
  refine lv_iconst (v := 0) hx hb dL_days_71 (by decide) ?_
  refine lv_sipush (v := 365) hx hb dL_days_72 (by decide) ?_
  refine px_ic hw (vx_runS (As := [.ref q9o, .int 0, .int 0, .int 0, .int 365]) (rest := []) CF (z_lsegment l hst g _ _ hS 0 0 0 365 (by decide +kernel) (by decide +kernel) dY1_0_0 (by decide +kernel) (by unfold sgOK; decide +kernel) (by decide +kernel) _) (va_cwS 5 hts gL_days_L_segment rfl rfl rfl (by decide +kernel) ⟨Nat.le_of_ble_eq_true rfl, Nat.le_of_ble_eq_true rfl⟩) (pn_preS hw hs hN) rfl rfl hl.1 rfl (lv_room (Nat.le_of_ble_eq_true rfl)) dL_days_75 ⟨Nat.le_of_ble_eq_true rfl, Nat.le_of_ble_eq_true rfl⟩) (fun E9 ce9 q9 L9 f9 H9 locs9 he9 _ _ _ _ => False.elim he9) (fun r9 La fa Ha loca hp hw9 => ?_)
  clear hw hS
  try clear locb Hb fb Lb
  have hw := hw9
  clear hw9
  obtain rfl : r9 = 1 := hp.1
  have hS : Wc g q9o dS1 1 La fa := hp.2
  clear hp
  refine lv_if_eq (tgt := 397) hx hb dL_days_78 (by decide) (fun h9 => absurd h9 (by decide)) (fun _ => ?_)
  refine lv_aload_n hx hb dL_days_81 rfl (lv_at hl 0 rfl) ?_
  refine lv_iconst (v := 1) hx hb dL_days_82 (by decide) ?_
  refine px_ic hw (vx_runS (As := [.ref q9o, .int 1]) (rest := []) CF (z_refuses l hst g _ _ hS (by decide) (by decide +kernel) (by decide +kernel) _) (va_cwS 2 hts gL_days_L_refuses rfl rfl rfl (by decide +kernel) ⟨Nat.le_of_ble_eq_true rfl, Nat.le_of_ble_eq_true rfl⟩) (pn_preS hw hs hN) rfl rfl hl.1 rfl (lv_room (Nat.le_of_ble_eq_true rfl)) dL_days_83 ⟨Nat.le_of_ble_eq_true rfl, Nat.le_of_ble_eq_true rfl⟩) (fun E9 ce9 q9 L9 f9 H9 locs9 he9 _ _ _ _ => False.elim he9) (fun r9 Lb fb Hb locb hp hw9 => ?_)
  clear hw hS
  try clear loca Ha fa La
  have hw := hw9
  clear hw9
  obtain rfl : r9 = 1 := hp.1
  have hS : Wc g q9o dS1 1 Lb fb := hp.2
  clear hp
  refine lv_if_eq (tgt := 397) hx hb dL_days_86 (by decide) (fun h9 => absurd h9 (by decide)) (fun _ => ?_)
  refine lv_aload_n hx hb dL_days_89 rfl (lv_at hl 0 rfl) ?_
  refine lv_iconst (v := 0) hx hb dL_days_90 (by decide) ?_
  refine lv_iconst (v := 0) hx hb dL_days_91 (by decide) ?_
  refine lv_bipush (v := 100) hx hb dL_days_92 (by decide) ?_
  refine lv_bipush (v := 10) hx hb dL_days_94 (by decide) ?_
  obtain ⟨fs9, hq9, hf9⟩ := hS.rcv
  refine px_ic hw (vx_runV (As := [.int 0, .int 0, .int 100, .int 10]) (rest := []) CF (z_change l hst g _ _ hS 0 0 100 30 (by decide +kernel) (by decide +kernel) (by decide +kernel) (by decide +kernel) (by decide +kernel) (by unfold okC; decide +kernel) (by decide +kernel) (v := 0) (by decide +kernel) (S2 := dS2) rfl _) (cwV 4 hts gL_days_X6_change rfl rfl rfl (by decide +kernel) ⟨Nat.le_of_ble_eq_true rfl, Nat.le_of_ble_eq_true rfl⟩) (pm_preV hw hs (pm_recv hw hq9 hf9 rfl)) rfl rfl hl.1 rfl (lv_room (Nat.le_of_ble_eq_true rfl)) dL_days_96 ⟨Nat.le_of_ble_eq_true rfl, Nat.le_of_ble_eq_true rfl⟩) (fun E9 ce9 q9 L9 f9 H9 locs9 he9 _ _ _ _ => False.elim he9) (fun r9 La fa Ha loca hp hw9 => ?_)
  clear hw hS fs9 hq9 hf9
  try clear locb Hb fb Lb
  have hw := hw9
  clear hw9
  obtain rfl : r9 = 0 := hp.1
  have hS : Wc g q9o dS2 2 La fa := hp.2
  clear hp
  refine lv_if_ne (tgt := 397) hx hb dL_days_99 (by decide) (fun h9 => absurd h9 (by decide)) (fun _ => ?_)
  refine lv_aload_n hx hb dL_days_102 rfl (lv_at hl 0 rfl) ?_
  refine lv_iconst (v := 0) hx hb dL_days_103 (by decide) ?_
  refine lv_sipush (v := 372) hx hb dL_days_104 (by decide) ?_
  refine px_ic hw (vx_runS (As := [.ref q9o, .int 0, .int 372]) (rest := []) CF (z_lpremium l hst g _ _ hS 0 (by decide +kernel) dY2_0_0 (by decide +kernel) (by decide +kernel) _) (va_cwS 3 hts gL_days_L_premium rfl rfl rfl (by decide +kernel) ⟨Nat.le_of_ble_eq_true rfl, Nat.le_of_ble_eq_true rfl⟩) (pn_preS hw hs hN) rfl rfl hl.1 rfl (lv_room (Nat.le_of_ble_eq_true rfl)) dL_days_107 ⟨Nat.le_of_ble_eq_true rfl, Nat.le_of_ble_eq_true rfl⟩) (fun E9 ce9 q9 L9 f9 H9 locs9 he9 _ _ _ _ => False.elim he9) (fun r9 Lb fb Hb locb hp hw9 => ?_)
  clear hw hS
  try clear loca Ha fa La
  have hw := hw9
  clear hw9
  obtain rfl : r9 = 1 := hp.1
  have hS : Wc g q9o dS2 2 Lb fb := hp.2
  clear hp
  refine lv_if_eq (tgt := 397) hx hb dL_days_110 (by decide) (fun h9 => absurd h9 (by decide)) (fun _ => ?_)
  refine lv_aload_n hx hb dL_days_113 rfl (lv_at hl 0 rfl) ?_
  refine lv_iconst (v := 0) hx hb dL_days_114 (by decide) ?_
  refine lv_iconst (v := 0) hx hb dL_days_115 (by decide) ?_
  obtain ⟨fs9, hq9, hf9⟩ := hS.rcv
  refine px_ic hw (vx_runV (As := [.int 0, .int 0]) (rest := []) CF (z_segments l hst g _ _ hS 0 0 (by decide +kernel) (by decide +kernel) dY2_0_0 (by decide +kernel) (v := 2) (by decide +kernel) _) (cwV 2 hts gL_days_X6_segments rfl rfl rfl (by decide +kernel) ⟨Nat.le_of_ble_eq_true rfl, Nat.le_of_ble_eq_true rfl⟩) (pm_preV hw hs (pm_recv hw hq9 hf9 rfl)) rfl rfl hl.1 rfl (lv_room (Nat.le_of_ble_eq_true rfl)) dL_days_116 ⟨Nat.le_of_ble_eq_true rfl, Nat.le_of_ble_eq_true rfl⟩) (fun E9 ce9 q9 L9 f9 H9 locs9 he9 _ _ _ _ => False.elim he9) (fun r9 La fa Ha loca hp hw9 => ?_)
  clear hw hS fs9 hq9 hf9
  try clear locb Hb fb Lb
  have hw := hw9
  clear hw9
  obtain rfl : r9 = 2 := hp.1
  have hS : Wc g q9o dS2 2 La fa := hp.2
  clear hp
  refine lv_iconst (v := 2) hx hb dL_days_119 (by decide) ?_
  refine lv_icmp_ne (tgt := 397) hx hb dL_days_120 (by decide) (fun h9 => absurd h9 (by decide)) (fun _ => ?_)
  refine lv_aload_n hx hb dL_days_123 rfl (lv_at hl 0 rfl) ?_
  refine lv_iconst (v := 0) hx hb dL_days_124 (by decide) ?_
  refine lv_iconst (v := 0) hx hb dL_days_125 (by decide) ?_
  refine lv_iconst (v := 0) hx hb dL_days_126 (by decide) ?_
  refine lv_bipush (v := 100) hx hb dL_days_127 (by decide) ?_
  refine px_ic hw (vx_runS (As := [.ref q9o, .int 0, .int 0, .int 0, .int 100]) (rest := []) CF (z_lsegment l hst g _ _ hS 0 0 0 100 (by decide +kernel) (by decide +kernel) dY2_0_0 (by decide +kernel) (by unfold sgOK; decide +kernel) (by decide +kernel) _) (va_cwS 5 hts gL_days_L_segment rfl rfl rfl (by decide +kernel) ⟨Nat.le_of_ble_eq_true rfl, Nat.le_of_ble_eq_true rfl⟩) (pn_preS hw hs hN) rfl rfl hl.1 rfl (lv_room (Nat.le_of_ble_eq_true rfl)) dL_days_129 ⟨Nat.le_of_ble_eq_true rfl, Nat.le_of_ble_eq_true rfl⟩) (fun E9 ce9 q9 L9 f9 H9 locs9 he9 _ _ _ _ => False.elim he9) (fun r9 Lb fb Hb locb hp hw9 => ?_)
  clear hw hS
  try clear loca Ha fa La
  have hw := hw9
  clear hw9
  obtain rfl : r9 = 1 := hp.1
  have hS : Wc g q9o dS2 2 Lb fb := hp.2
  clear hp
  refine lv_if_eq (tgt := 397) hx hb dL_days_132 (by decide) (fun h9 => absurd h9 (by decide)) (fun _ => ?_)
  refine lv_aload_n hx hb dL_days_135 rfl (lv_at hl 0 rfl) ?_
  refine lv_iconst (v := 1) hx hb dL_days_136 (by decide) ?_
  refine lv_iconst (v := 0) hx hb dL_days_137 (by decide) ?_
  refine lv_bipush (v := 100) hx hb dL_days_138 (by decide) ?_
  refine lv_sipush (v := 272) hx hb dL_days_140 (by decide) ?_
  refine px_ic hw (vx_runS (As := [.ref q9o, .int 1, .int 0, .int 100, .int 272]) (rest := []) CF (z_lsegment l hst g _ _ hS 1 0 100 365 (by decide +kernel) (by decide +kernel) dY2_0_0 (by decide +kernel) (by unfold sgOK; decide +kernel) (by decide +kernel) _) (va_cwS 5 hts gL_days_L_segment rfl rfl rfl (by decide +kernel) ⟨Nat.le_of_ble_eq_true rfl, Nat.le_of_ble_eq_true rfl⟩) (pn_preS hw hs hN) rfl rfl hl.1 rfl (lv_room (Nat.le_of_ble_eq_true rfl)) dL_days_143 ⟨Nat.le_of_ble_eq_true rfl, Nat.le_of_ble_eq_true rfl⟩) (fun E9 ce9 q9 L9 f9 H9 locs9 he9 _ _ _ _ => False.elim he9) (fun r9 La fa Ha loca hp hw9 => ?_)
  clear hw hS
  try clear locb Hb fb Lb
  have hw := hw9
  clear hw9
  obtain rfl : r9 = 1 := hp.1
  have hS : Wc g q9o dS2 2 La fa := hp.2
  clear hp
  refine lv_if_eq (tgt := 397) hx hb dL_days_146 (by decide) (fun h9 => absurd h9 (by decide)) (fun _ => ?_)
  refine lv_aload_n hx hb dL_days_149 rfl (lv_at hl 0 rfl) ?_
  refine lv_iconst (v := 0) hx hb dL_days_150 (by decide) ?_
  refine lv_bipush (v := 99) hx hb dL_days_151 (by decide) ?_
  refine lv_iconst (v := 0) hx hb dL_days_153 (by decide) ?_
  obtain ⟨fs9, hq9, hf9⟩ := hS.rcv
  refine px_ic hw (vx_runV (As := [.int 0, .int 99, .int 0]) (rest := []) CF (z_rate l hst g _ _ hS 0 365 99 0 (by decide +kernel) (by decide +kernel) (by decide +kernel) (by decide +kernel) (by decide +kernel) (v := 365) (by decide +kernel) _) (cwV 3 hts gL_days_X6_rate rfl rfl rfl (by decide +kernel) ⟨Nat.le_of_ble_eq_true rfl, Nat.le_of_ble_eq_true rfl⟩) (pm_preV hw hs (pm_recv hw hq9 hf9 rfl)) rfl rfl hl.1 rfl (lv_room (Nat.le_of_ble_eq_true rfl)) dL_days_154 ⟨Nat.le_of_ble_eq_true rfl, Nat.le_of_ble_eq_true rfl⟩) (fun E9 ce9 q9 L9 f9 H9 locs9 he9 _ _ _ _ => False.elim he9) (fun r9 Lb fb Hb locb hp hw9 => ?_)
  clear hw hS fs9 hq9 hf9
  try clear loca Ha fa La
  have hw := hw9
  clear hw9
  obtain rfl : r9 = 365 := hp.1
  have hS : Wc g q9o dS2 2 Lb fb := hp.2
  clear hp
  refine lv_sipush (v := 365) hx hb dL_days_157 (by decide) ?_
  refine lv_icmp_ne (tgt := 397) hx hb dL_days_160 (by decide) (fun h9 => absurd h9 (by decide)) (fun _ => ?_)
  refine lv_aload_n hx hb dL_days_163 rfl (lv_at hl 0 rfl) ?_
  refine lv_iconst (v := 0) hx hb dL_days_164 (by decide) ?_
  refine lv_bipush (v := 100) hx hb dL_days_165 (by decide) ?_
  refine lv_iconst (v := 0) hx hb dL_days_167 (by decide) ?_
  obtain ⟨fs9, hq9, hf9⟩ := hS.rcv
  refine px_ic hw (vx_runV (As := [.int 0, .int 100, .int 0]) (rest := []) CF (z_rate l hst g _ _ hS 0 365 100 0 (by decide +kernel) (by decide +kernel) (by decide +kernel) (by decide +kernel) (by decide +kernel) (v := 375) (by decide +kernel) _) (cwV 3 hts gL_days_X6_rate rfl rfl rfl (by decide +kernel) ⟨Nat.le_of_ble_eq_true rfl, Nat.le_of_ble_eq_true rfl⟩) (pm_preV hw hs (pm_recv hw hq9 hf9 rfl)) rfl rfl hl.1 rfl (lv_room (Nat.le_of_ble_eq_true rfl)) dL_days_168 ⟨Nat.le_of_ble_eq_true rfl, Nat.le_of_ble_eq_true rfl⟩) (fun E9 ce9 q9 L9 f9 H9 locs9 he9 _ _ _ _ => False.elim he9) (fun r9 La fa Ha loca hp hw9 => ?_)
  clear hw hS fs9 hq9 hf9
  try clear locb Hb fb Lb
  have hw := hw9
  clear hw9
  obtain rfl : r9 = 375 := hp.1
  have hS : Wc g q9o dS2 2 La fa := hp.2
  clear hp
  refine lv_sipush (v := 375) hx hb dL_days_171 (by decide) ?_
  refine lv_icmp_ne (tgt := 397) hx hb dL_days_174 (by decide) (fun h9 => absurd h9 (by decide)) (fun _ => ?_)
  refine lv_aload_n hx hb dL_days_177 rfl (lv_at hl 0 rfl) ?_
  refine lv_iconst (v := 0) hx hb dL_days_178 (by decide) ?_
  refine lv_iconst (v := 2) hx hb dL_days_179 (by decide) ?_
  refine lv_sipush (v := 200) hx hb dL_days_180 (by decide) ?_
  obtain ⟨fs9, hq9, hf9⟩ := hS.rcv
  refine px_ic hw (vx_runV (As := [.int 0, .int 2, .int 200]) (rest := []) CF (z_setWeight l hst g _ _ hS 0 2 200 (by decide +kernel) (by decide +kernel) (by decide +kernel) (by unfold okT; decide +kernel) (by decide +kernel) (v := 1) (by decide +kernel) (S2 := dS3) rfl _) (cwV 3 hts gL_days_X6_setWeight rfl rfl rfl (by decide +kernel) ⟨Nat.le_of_ble_eq_true rfl, Nat.le_of_ble_eq_true rfl⟩) (pm_preV hw hs (pm_recv hw hq9 hf9 rfl)) rfl rfl hl.1 rfl (lv_room (Nat.le_of_ble_eq_true rfl)) dL_days_183 ⟨Nat.le_of_ble_eq_true rfl, Nat.le_of_ble_eq_true rfl⟩) (fun E9 ce9 q9 L9 f9 H9 locs9 he9 _ _ _ _ => False.elim he9) (fun r9 Lb fb Hb locb hp hw9 => ?_)
  clear hw hS fs9 hq9 hf9
  try clear loca Ha fa La
  have hw := hw9
  clear hw9
  obtain rfl : r9 = 1 := hp.1
  have hS : Wc g q9o dS3 3 Lb fb := hp.2
  clear hp
  refine lv_iconst (v := 1) hx hb dL_days_186 (by decide) ?_
  refine lv_icmp_ne (tgt := 397) hx hb dL_days_187 (by decide) (fun h9 => absurd h9 (by decide)) (fun _ => ?_)
  refine lv_aload_n hx hb dL_days_190 rfl (lv_at hl 0 rfl) ?_
  refine lv_iconst (v := 0) hx hb dL_days_191 (by decide) ?_
  refine lv_sipush (v := 376) hx hb dL_days_192 (by decide) ?_
  refine px_ic hw (vx_runS (As := [.ref q9o, .int 0, .int 376]) (rest := []) CF (z_lpremium l hst g _ _ hS 0 (by decide +kernel) dY3_0_0 (by decide +kernel) (by decide +kernel) _) (va_cwS 3 hts gL_days_L_premium rfl rfl rfl (by decide +kernel) ⟨Nat.le_of_ble_eq_true rfl, Nat.le_of_ble_eq_true rfl⟩) (pn_preS hw hs hN) rfl rfl hl.1 rfl (lv_room (Nat.le_of_ble_eq_true rfl)) dL_days_195 ⟨Nat.le_of_ble_eq_true rfl, Nat.le_of_ble_eq_true rfl⟩) (fun E9 ce9 q9 L9 f9 H9 locs9 he9 _ _ _ _ => False.elim he9) (fun r9 La fa Ha loca hp hw9 => ?_)
  clear hw hS
  try clear locb Hb fb Lb
  have hw := hw9
  clear hw9
  obtain rfl : r9 = 1 := hp.1
  have hS : Wc g q9o dS3 3 La fa := hp.2
  clear hp
  refine lv_if_eq (tgt := 397) hx hb dL_days_198 (by decide) (fun h9 => absurd h9 (by decide)) (fun _ => ?_)
  refine lv_aload_n hx hb dL_days_201 rfl (lv_at hl 0 rfl) ?_
  refine lv_iconst (v := 0) hx hb dL_days_202 (by decide) ?_
  refine lv_iconst (v := 0) hx hb dL_days_203 (by decide) ?_
  obtain ⟨fs9, hq9, hf9⟩ := hS.rcv
  refine px_ic hw (vx_runV (As := [.int 0, .int 0]) (rest := []) CF (z_segments l hst g _ _ hS 0 0 (by decide +kernel) (by decide +kernel) dY3_0_0 (by decide +kernel) (v := 3) (by decide +kernel) _) (cwV 2 hts gL_days_X6_segments rfl rfl rfl (by decide +kernel) ⟨Nat.le_of_ble_eq_true rfl, Nat.le_of_ble_eq_true rfl⟩) (pm_preV hw hs (pm_recv hw hq9 hf9 rfl)) rfl rfl hl.1 rfl (lv_room (Nat.le_of_ble_eq_true rfl)) dL_days_204 ⟨Nat.le_of_ble_eq_true rfl, Nat.le_of_ble_eq_true rfl⟩) (fun E9 ce9 q9 L9 f9 H9 locs9 he9 _ _ _ _ => False.elim he9) (fun r9 Lb fb Hb locb hp hw9 => ?_)
  clear hw hS fs9 hq9 hf9
  try clear loca Ha fa La
  have hw := hw9
  clear hw9
  obtain rfl : r9 = 3 := hp.1
  have hS : Wc g q9o dS3 3 Lb fb := hp.2
  clear hp
  refine lv_iconst (v := 3) hx hb dL_days_207 (by decide) ?_
  refine lv_icmp_ne (tgt := 397) hx hb dL_days_208 (by decide) (fun h9 => absurd h9 (by decide)) (fun _ => ?_)
  refine lv_aload_n hx hb dL_days_211 rfl (lv_at hl 0 rfl) ?_
  refine lv_iconst (v := 1) hx hb dL_days_212 (by decide) ?_
  refine lv_iconst (v := 0) hx hb dL_days_213 (by decide) ?_
  refine lv_bipush (v := 100) hx hb dL_days_214 (by decide) ?_
  refine lv_bipush (v := 102) hx hb dL_days_216 (by decide) ?_
  refine px_ic hw (vx_runS (As := [.ref q9o, .int 1, .int 0, .int 100, .int 102]) (rest := []) CF (z_lsegment l hst g _ _ hS 1 0 100 200 (by decide +kernel) (by decide +kernel) dY3_0_0 (by decide +kernel) (by unfold sgOK; decide +kernel) (by decide +kernel) _) (va_cwS 5 hts gL_days_L_segment rfl rfl rfl (by decide +kernel) ⟨Nat.le_of_ble_eq_true rfl, Nat.le_of_ble_eq_true rfl⟩) (pn_preS hw hs hN) rfl rfl hl.1 rfl (lv_room (Nat.le_of_ble_eq_true rfl)) dL_days_218 ⟨Nat.le_of_ble_eq_true rfl, Nat.le_of_ble_eq_true rfl⟩) (fun E9 ce9 q9 L9 f9 H9 locs9 he9 _ _ _ _ => False.elim he9) (fun r9 La fa Ha loca hp hw9 => ?_)
  clear hw hS
  try clear locb Hb fb Lb
  have hw := hw9
  clear hw9
  obtain rfl : r9 = 1 := hp.1
  have hS : Wc g q9o dS3 3 La fa := hp.2
  clear hp
  refine lv_if_eq (tgt := 397) hx hb dL_days_221 (by decide) (fun h9 => absurd h9 (by decide)) (fun _ => ?_)
  refine lv_aload_n hx hb dL_days_224 rfl (lv_at hl 0 rfl) ?_
  refine lv_iconst (v := 2) hx hb dL_days_225 (by decide) ?_
  refine lv_iconst (v := 0) hx hb dL_days_226 (by decide) ?_
  refine lv_sipush (v := 200) hx hb dL_days_227 (by decide) ?_
  refine lv_sipush (v := 174) hx hb dL_days_230 (by decide) ?_
  refine px_ic hw (vx_runS (As := [.ref q9o, .int 2, .int 0, .int 200, .int 174]) (rest := []) CF (z_lsegment l hst g _ _ hS 2 0 200 365 (by decide +kernel) (by decide +kernel) dY3_0_0 (by decide +kernel) (by unfold sgOK; decide +kernel) (by decide +kernel) _) (va_cwS 5 hts gL_days_L_segment rfl rfl rfl (by decide +kernel) ⟨Nat.le_of_ble_eq_true rfl, Nat.le_of_ble_eq_true rfl⟩) (pn_preS hw hs hN) rfl rfl hl.1 rfl (lv_room (Nat.le_of_ble_eq_true rfl)) dL_days_233 ⟨Nat.le_of_ble_eq_true rfl, Nat.le_of_ble_eq_true rfl⟩) (fun E9 ce9 q9 L9 f9 H9 locs9 he9 _ _ _ _ => False.elim he9) (fun r9 Lb fb Hb locb hp hw9 => ?_)
  clear hw hS
  try clear loca Ha fa La
  have hw := hw9
  clear hw9
  obtain rfl : r9 = 1 := hp.1
  have hS : Wc g q9o dS3 3 Lb fb := hp.2
  clear hp
  refine lv_if_eq (tgt := 397) hx hb dL_days_236 (by decide) (fun h9 => absurd h9 (by decide)) (fun _ => ?_)
  refine lv_aload_n hx hb dL_days_239 rfl (lv_at hl 0 rfl) ?_
  refine lv_bipush (v := 10) hx hb dL_days_240 (by decide) ?_
  obtain ⟨fs9, hq9, hf9⟩ := hS.rcv
  refine px_ic hw (vx_runV (As := [.int 10]) (rest := []) CF (z_pass l hst g _ _ hS (by decide) 10 (by decide +kernel) (by decide +kernel) (by decide +kernel) (v := 10) (by decide +kernel) (S2 := dS4) rfl _) (cwV 1 hts gL_days_X6_pass rfl rfl rfl (by decide +kernel) ⟨Nat.le_of_ble_eq_true rfl, Nat.le_of_ble_eq_true rfl⟩) (pm_preV hw hs (pm_recv hw hq9 hf9 rfl)) rfl rfl hl.1 rfl (lv_room (Nat.le_of_ble_eq_true rfl)) dL_days_242 ⟨Nat.le_of_ble_eq_true rfl, Nat.le_of_ble_eq_true rfl⟩) (fun E9 ce9 q9 L9 f9 H9 locs9 he9 _ _ _ _ => False.elim he9) (fun r9 La fa Ha loca hp hw9 => ?_)
  clear hw hS fs9 hq9 hf9
  try clear locb Hb fb Lb
  have hw := hw9
  clear hw9
  obtain rfl : r9 = 10 := hp.1
  have hS : Wc g q9o dS4 4 La fa := hp.2
  clear hp
  refine lv_bipush (v := 10) hx hb dL_days_245 (by decide) ?_
  refine lv_icmp_ne (tgt := 397) hx hb dL_days_247 (by decide) (fun h9 => absurd h9 (by decide)) (fun _ => ?_)
  refine lv_aload_n hx hb dL_days_250 rfl (lv_at hl 0 rfl) ?_
  refine lv_iconst (v := 0) hx hb dL_days_251 (by decide) ?_
  refine lv_iconst (v := 0) hx hb dL_days_252 (by decide) ?_
  refine lv_bipush (v := 50) hx hb dL_days_253 (by decide) ?_
  refine lv_bipush (v := (-5)) hx hb dL_days_255 (by decide) ?_
  obtain ⟨fs9, hq9, hf9⟩ := hS.rcv
  refine px_ic hw (vx_runV (As := [.int 0, .int 0, .int 50, .int (-5)]) (rest := []) CF (z_add l hst g _ _ hS 0 0 50 15 (by decide +kernel) (by decide +kernel) (by decide +kernel) (by decide +kernel) (by decide +kernel) (by unfold okC; decide +kernel) (by decide +kernel) (v := 1) (by decide +kernel) (S2 := dS5) rfl _) (cwV 4 hts gL_days_X6_add rfl rfl rfl (by decide +kernel) ⟨Nat.le_of_ble_eq_true rfl, Nat.le_of_ble_eq_true rfl⟩) (pm_preV hw hs (pm_recv hw hq9 hf9 rfl)) rfl rfl hl.1 rfl (lv_room (Nat.le_of_ble_eq_true rfl)) dL_days_257 ⟨Nat.le_of_ble_eq_true rfl, Nat.le_of_ble_eq_true rfl⟩) (fun E9 ce9 q9 L9 f9 H9 locs9 he9 _ _ _ _ => False.elim he9) (fun r9 Lb fb Hb locb hp hw9 => ?_)
  clear hw hS fs9 hq9 hf9
  try clear loca Ha fa La
  have hw := hw9
  clear hw9
  obtain rfl : r9 = 1 := hp.1
  have hS : Wc g q9o dS5 5 Lb fb := hp.2
  clear hp
  refine lv_iconst (v := 1) hx hb dL_days_260 (by decide) ?_
  refine lv_icmp_ne (tgt := 397) hx hb dL_days_261 (by decide) (fun h9 => absurd h9 (by decide)) (fun _ => ?_)
  refine lv_aload_n hx hb dL_days_264 rfl (lv_at hl 0 rfl) ?_
  refine lv_iconst (v := 0) hx hb dL_days_265 (by decide) ?_
  refine lv_iconst (v := 0) hx hb dL_days_266 (by decide) ?_
  refine lv_sipush (v := 150) hx hb dL_days_267 (by decide) ?_
  refine lv_bipush (v := 15) hx hb dL_days_270 (by decide) ?_
  obtain ⟨fs9, hq9, hf9⟩ := hS.rcv
  refine px_ic hw (vx_runV (As := [.int 0, .int 0, .int 150, .int 15]) (rest := []) CF (z_add l hst g _ _ hS 0 0 150 35 (by decide +kernel) (by decide +kernel) (by decide +kernel) (by decide +kernel) (by decide +kernel) (by unfold okC; decide +kernel) (by decide +kernel) (v := 2) (by decide +kernel) (S2 := dS6) rfl _) (cwV 4 hts gL_days_X6_add rfl rfl rfl (by decide +kernel) ⟨Nat.le_of_ble_eq_true rfl, Nat.le_of_ble_eq_true rfl⟩) (pm_preV hw hs (pm_recv hw hq9 hf9 rfl)) rfl rfl hl.1 rfl (lv_room (Nat.le_of_ble_eq_true rfl)) dL_days_272 ⟨Nat.le_of_ble_eq_true rfl, Nat.le_of_ble_eq_true rfl⟩) (fun E9 ce9 q9 L9 f9 H9 locs9 he9 _ _ _ _ => False.elim he9) (fun r9 La fa Ha loca hp hw9 => ?_)
  clear hw hS fs9 hq9 hf9
  try clear locb Hb fb Lb
  have hw := hw9
  clear hw9
  obtain rfl : r9 = 2 := hp.1
  have hS : Wc g q9o dS6 6 La fa := hp.2
  clear hp
  refine lv_iconst (v := 2) hx hb dL_days_275 (by decide) ?_
  refine lv_icmp_ne (tgt := 397) hx hb dL_days_276 (by decide) (fun h9 => absurd h9 (by decide)) (fun _ => ?_)
  refine lv_aload_n hx hb dL_days_279 rfl (lv_at hl 0 rfl) ?_
  refine lv_bipush (v := 10) hx hb dL_days_280 (by decide) ?_
  refine lv_sipush (v := 387) hx hb dL_days_282 (by decide) ?_
  refine px_ic hw (vx_runS (As := [.ref q9o, .int 10, .int 387]) (rest := []) CF (z_lpremium l hst g _ _ hS 10 (by decide +kernel) dY6_0_10 (by decide +kernel) (by decide +kernel) _) (va_cwS 3 hts gL_days_L_premium rfl rfl rfl (by decide +kernel) ⟨Nat.le_of_ble_eq_true rfl, Nat.le_of_ble_eq_true rfl⟩) (pn_preS hw hs hN) rfl rfl hl.1 rfl (lv_room (Nat.le_of_ble_eq_true rfl)) dL_days_285 ⟨Nat.le_of_ble_eq_true rfl, Nat.le_of_ble_eq_true rfl⟩) (fun E9 ce9 q9 L9 f9 H9 locs9 he9 _ _ _ _ => False.elim he9) (fun r9 Lb fb Hb locb hp hw9 => ?_)
  clear hw hS
  try clear loca Ha fa La
  have hw := hw9
  clear hw9
  obtain rfl : r9 = 1 := hp.1
  have hS : Wc g q9o dS6 6 Lb fb := hp.2
  clear hp
  refine lv_if_eq (tgt := 397) hx hb dL_days_288 (by decide) (fun h9 => absurd h9 (by decide)) (fun _ => ?_)
  refine lv_aload_n hx hb dL_days_291 rfl (lv_at hl 0 rfl) ?_
  refine lv_bipush (v := 9) hx hb dL_days_292 (by decide) ?_
  refine lv_sipush (v := 376) hx hb dL_days_294 (by decide) ?_
  refine px_ic hw (vx_runS (As := [.ref q9o, .int 9, .int 376]) (rest := []) CF (z_lpremium l hst g _ _ hS 9 (by decide +kernel) dY6_0_9 (by decide +kernel) (by decide +kernel) _) (va_cwS 3 hts gL_days_L_premium rfl rfl rfl (by decide +kernel) ⟨Nat.le_of_ble_eq_true rfl, Nat.le_of_ble_eq_true rfl⟩) (pn_preS hw hs hN) rfl rfl hl.1 rfl (lv_room (Nat.le_of_ble_eq_true rfl)) dL_days_297 ⟨Nat.le_of_ble_eq_true rfl, Nat.le_of_ble_eq_true rfl⟩) (fun E9 ce9 q9 L9 f9 H9 locs9 he9 _ _ _ _ => False.elim he9) (fun r9 La fa Ha loca hp hw9 => ?_)
  clear hw hS
  try clear locb Hb fb Lb
  have hw := hw9
  clear hw9
  obtain rfl : r9 = 1 := hp.1
  have hS : Wc g q9o dS6 6 La fa := hp.2
  clear hp
  refine lv_if_eq (tgt := 397) hx hb dL_days_300 (by decide) (fun h9 => absurd h9 (by decide)) (fun _ => ?_)
  refine lv_aload_n hx hb dL_days_303 rfl (lv_at hl 0 rfl) ?_
  refine lv_iconst (v := 0) hx hb dL_days_304 (by decide) ?_
  refine lv_iconst (v := 0) hx hb dL_days_305 (by decide) ?_
  refine lv_sipush (v := 160) hx hb dL_days_306 (by decide) ?_
  refine lv_bipush (v := 10) hx hb dL_days_309 (by decide) ?_
  obtain ⟨fs9, hq9, hf9⟩ := hS.rcv
  refine px_ic hw (vx_runV (As := [.int 0, .int 0, .int 160, .int 10]) (rest := []) CF (z_value l hst g _ _ hS 0 0 160 10 (by decide +kernel) (by decide +kernel) (by decide +kernel) (by decide +kernel) (by decide +kernel) (by decide +kernel) (v := 20) (by decide +kernel) _) (cwV 4 hts gL_days_X6_value rfl rfl rfl (by decide +kernel) ⟨Nat.le_of_ble_eq_true rfl, Nat.le_of_ble_eq_true rfl⟩) (pm_preV hw hs (pm_recv hw hq9 hf9 rfl)) rfl rfl hl.1 rfl (lv_room (Nat.le_of_ble_eq_true rfl)) dL_days_311 ⟨Nat.le_of_ble_eq_true rfl, Nat.le_of_ble_eq_true rfl⟩) (fun E9 ce9 q9 L9 f9 H9 locs9 he9 _ _ _ _ => False.elim he9) (fun r9 Lb fb Hb locb hp hw9 => ?_)
  clear hw hS fs9 hq9 hf9
  try clear loca Ha fa La
  have hw := hw9
  clear hw9
  obtain rfl : r9 = 20 := hp.1
  have hS : Wc g q9o dS6 6 Lb fb := hp.2
  clear hp
  refine lv_bipush (v := 20) hx hb dL_days_314 (by decide) ?_
  refine lv_icmp_ne (tgt := 397) hx hb dL_days_316 (by decide) (fun h9 => absurd h9 (by decide)) (fun _ => ?_)
  refine lv_aload_n hx hb dL_days_319 rfl (lv_at hl 0 rfl) ?_
  refine lv_iconst (v := 0) hx hb dL_days_320 (by decide) ?_
  refine lv_iconst (v := 0) hx hb dL_days_321 (by decide) ?_
  refine lv_sipush (v := 160) hx hb dL_days_322 (by decide) ?_
  refine lv_bipush (v := 9) hx hb dL_days_325 (by decide) ?_
  obtain ⟨fs9, hq9, hf9⟩ := hS.rcv
  refine px_ic hw (vx_runV (As := [.int 0, .int 0, .int 160, .int 9]) (rest := []) CF (z_value l hst g _ _ hS 0 0 160 9 (by decide +kernel) (by decide +kernel) (by decide +kernel) (by decide +kernel) (by decide +kernel) (by decide +kernel) (v := 10) (by decide +kernel) _) (cwV 4 hts gL_days_X6_value rfl rfl rfl (by decide +kernel) ⟨Nat.le_of_ble_eq_true rfl, Nat.le_of_ble_eq_true rfl⟩) (pm_preV hw hs (pm_recv hw hq9 hf9 rfl)) rfl rfl hl.1 rfl (lv_room (Nat.le_of_ble_eq_true rfl)) dL_days_327 ⟨Nat.le_of_ble_eq_true rfl, Nat.le_of_ble_eq_true rfl⟩) (fun E9 ce9 q9 L9 f9 H9 locs9 he9 _ _ _ _ => False.elim he9) (fun r9 La fa Ha loca hp hw9 => ?_)
  clear hw hS fs9 hq9 hf9
  try clear locb Hb fb Lb
  have hw := hw9
  clear hw9
  obtain rfl : r9 = 10 := hp.1
  have hS : Wc g q9o dS6 6 La fa := hp.2
  clear hp
  refine lv_bipush (v := 10) hx hb dL_days_330 (by decide) ?_
  refine lv_icmp_ne (tgt := 397) hx hb dL_days_332 (by decide) (fun h9 => absurd h9 (by decide)) (fun _ => ?_)
  refine lv_aload_n hx hb dL_days_335 rfl (lv_at hl 0 rfl) ?_
  refine lv_iconst (v := 0) hx hb dL_days_336 (by decide) ?_
  refine lv_iconst (v := 0) hx hb dL_days_337 (by decide) ?_
  refine lv_bipush (v := 60) hx hb dL_days_338 (by decide) ?_
  refine lv_bipush (v := 10) hx hb dL_days_340 (by decide) ?_
  obtain ⟨fs9, hq9, hf9⟩ := hS.rcv
  refine px_ic hw (vx_runV (As := [.int 0, .int 0, .int 60, .int 10]) (rest := []) CF (z_value l hst g _ _ hS 0 0 60 10 (by decide +kernel) (by decide +kernel) (by decide +kernel) (by decide +kernel) (by decide +kernel) (by decide +kernel) (v := 0) (by decide +kernel) _) (cwV 4 hts gL_days_X6_value rfl rfl rfl (by decide +kernel) ⟨Nat.le_of_ble_eq_true rfl, Nat.le_of_ble_eq_true rfl⟩) (pm_preV hw hs (pm_recv hw hq9 hf9 rfl)) rfl rfl hl.1 rfl (lv_room (Nat.le_of_ble_eq_true rfl)) dL_days_342 ⟨Nat.le_of_ble_eq_true rfl, Nat.le_of_ble_eq_true rfl⟩) (fun E9 ce9 q9 L9 f9 H9 locs9 he9 _ _ _ _ => False.elim he9) (fun r9 Lb fb Hb locb hp hw9 => ?_)
  clear hw hS fs9 hq9 hf9
  try clear loca Ha fa La
  have hw := hw9
  clear hw9
  obtain rfl : r9 = 0 := hp.1
  have hS : Wc g q9o dS6 6 Lb fb := hp.2
  clear hp
  refine lv_if_ne (tgt := 397) hx hb dL_days_345 (by decide) (fun h9 => absurd h9 (by decide)) (fun _ => ?_)
  refine lv_aload_n hx hb dL_days_348 rfl (lv_at hl 0 rfl) ?_
  refine lv_iconst (v := 0) hx hb dL_days_349 (by decide) ?_
  refine lv_sipush (v := 364) hx hb dL_days_350 (by decide) ?_
  refine lv_bipush (v := 10) hx hb dL_days_353 (by decide) ?_
  obtain ⟨fs9, hq9, hf9⟩ := hS.rcv
  refine px_ic hw (vx_runV (As := [.int 0, .int 364, .int 10]) (rest := []) CF (z_rate l hst g _ _ hS 0 365 364 10 (by decide +kernel) (by decide +kernel) (by decide +kernel) (by decide +kernel) (by decide +kernel) (v := 405) (by decide +kernel) _) (cwV 3 hts gL_days_X6_rate rfl rfl rfl (by decide +kernel) ⟨Nat.le_of_ble_eq_true rfl, Nat.le_of_ble_eq_true rfl⟩) (pm_preV hw hs (pm_recv hw hq9 hf9 rfl)) rfl rfl hl.1 rfl (lv_room (Nat.le_of_ble_eq_true rfl)) dL_days_355 ⟨Nat.le_of_ble_eq_true rfl, Nat.le_of_ble_eq_true rfl⟩) (fun E9 ce9 q9 L9 f9 H9 locs9 he9 _ _ _ _ => False.elim he9) (fun r9 La fa Ha loca hp hw9 => ?_)
  clear hw hS fs9 hq9 hf9
  try clear locb Hb fb Lb
  have hw := hw9
  clear hw9
  obtain rfl : r9 = 405 := hp.1
  have hS : Wc g q9o dS6 6 La fa := hp.2
  clear hp
  refine lv_sipush (v := 405) hx hb dL_days_358 (by decide) ?_
  refine lv_icmp_ne (tgt := 397) hx hb dL_days_361 (by decide) (fun h9 => absurd h9 (by decide)) (fun _ => ?_)
  refine lv_aload_n hx hb dL_days_364 rfl (lv_at hl 0 rfl) ?_
  refine lv_iconst (v := 0) hx hb dL_days_365 (by decide) ?_
  obtain ⟨fs9, hq9, hf9⟩ := hS.rcv
  refine px_ic hw (vx_runV (As := [.int 0]) (rest := []) CF (z_laidAnew l hst g _ _ hS 0 (by decide +kernel) (c := (0, 0, 0, 100, 30, 0, 0)) rfl (v := 0) (by decide +kernel) _) (cwV 1 hts gL_days_X6_laidAnew rfl rfl rfl (by decide +kernel) ⟨Nat.le_of_ble_eq_true rfl, Nat.le_of_ble_eq_true rfl⟩) (pm_preV hw hs (pm_recv hw hq9 hf9 rfl)) rfl rfl hl.1 rfl (lv_room (Nat.le_of_ble_eq_true rfl)) dL_days_366 ⟨Nat.le_of_ble_eq_true rfl, Nat.le_of_ble_eq_true rfl⟩) (fun E9 ce9 q9 L9 f9 H9 locs9 he9 _ _ _ _ => False.elim he9) (fun r9 Lb fb Hb locb hp hw9 => ?_)
  clear hw hS fs9 hq9 hf9
  try clear loca Ha fa La
  have hw := hw9
  clear hw9
  obtain rfl : r9 = 0 := hp.1
  have hS : Wc g q9o dS6 6 Lb fb := hp.2
  clear hp
  refine lv_if_ne (tgt := 397) hx hb dL_days_369 (by decide) (fun h9 => absurd h9 (by decide)) (fun _ => ?_)
  refine lv_aload_n hx hb dL_days_372 rfl (lv_at hl 0 rfl) ?_
  refine lv_iconst (v := 1) hx hb dL_days_373 (by decide) ?_
  obtain ⟨fs9, hq9, hf9⟩ := hS.rcv
  refine px_ic hw (vx_runV (As := [.int 1]) (rest := []) CF (z_laidAnew l hst g _ _ hS 1 (by decide +kernel) (c := (0, 1, 0, 50, 15, 10, 0)) rfl (v := 1) (by decide +kernel) _) (cwV 1 hts gL_days_X6_laidAnew rfl rfl rfl (by decide +kernel) ⟨Nat.le_of_ble_eq_true rfl, Nat.le_of_ble_eq_true rfl⟩) (pm_preV hw hs (pm_recv hw hq9 hf9 rfl)) rfl rfl hl.1 rfl (lv_room (Nat.le_of_ble_eq_true rfl)) dL_days_374 ⟨Nat.le_of_ble_eq_true rfl, Nat.le_of_ble_eq_true rfl⟩) (fun E9 ce9 q9 L9 f9 H9 locs9 he9 _ _ _ _ => False.elim he9) (fun r9 La fa Ha loca hp hw9 => ?_)
  clear hw hS fs9 hq9 hf9
  try clear locb Hb fb Lb
  have hw := hw9
  clear hw9
  obtain rfl : r9 = 1 := hp.1
  have hS : Wc g q9o dS6 6 La fa := hp.2
  clear hp
  refine lv_iconst (v := 1) hx hb dL_days_377 (by decide) ?_
  refine lv_icmp_ne (tgt := 397) hx hb dL_days_378 (by decide) (fun h9 => absurd h9 (by decide)) (fun _ => ?_)
  refine lv_aload_n hx hb dL_days_381 rfl (lv_at hl 0 rfl) ?_
  refine lv_iconst (v := 2) hx hb dL_days_382 (by decide) ?_
  obtain ⟨fs9, hq9, hf9⟩ := hS.rcv
  refine px_ic hw (vx_runV (As := [.int 2]) (rest := []) CF (z_laidAnew l hst g _ _ hS 2 (by decide +kernel) (c := (0, 1, 0, 150, 35, 10, 0)) rfl (v := 0) (by decide +kernel) _) (cwV 1 hts gL_days_X6_laidAnew rfl rfl rfl (by decide +kernel) ⟨Nat.le_of_ble_eq_true rfl, Nat.le_of_ble_eq_true rfl⟩) (pm_preV hw hs (pm_recv hw hq9 hf9 rfl)) rfl rfl hl.1 rfl (lv_room (Nat.le_of_ble_eq_true rfl)) dL_days_383 ⟨Nat.le_of_ble_eq_true rfl, Nat.le_of_ble_eq_true rfl⟩) (fun E9 ce9 q9 L9 f9 H9 locs9 he9 _ _ _ _ => False.elim he9) (fun r9 Lb fb Hb locb hp hw9 => ?_)
  clear hw hS fs9 hq9 hf9
  try clear loca Ha fa La
  have hw := hw9
  clear hw9
  obtain rfl : r9 = 0 := hp.1
  have hS : Wc g q9o dS6 6 Lb fb := hp.2
  clear hp
  refine lv_if_ne (tgt := 397) hx hb dL_days_386 (by decide) (fun h9 => absurd h9 (by decide)) (fun _ => ?_)
  refine lv_aload_n hx hb dL_days_389 rfl (lv_at hl 0 rfl) ?_
  refine lv_iconst (v := 1) hx hb dL_days_390 (by decide) ?_
  refine px_ic hw (vx_runS (As := [.ref q9o, .int 1]) (rest := []) CF (z_refuses l hst g _ _ hS (by decide) (by decide +kernel) (by decide +kernel) _) (va_cwS 2 hts gL_days_L_refuses rfl rfl rfl (by decide +kernel) ⟨Nat.le_of_ble_eq_true rfl, Nat.le_of_ble_eq_true rfl⟩) (pn_preS hw hs hN) rfl rfl hl.1 rfl (lv_room (Nat.le_of_ble_eq_true rfl)) dL_days_391 ⟨Nat.le_of_ble_eq_true rfl, Nat.le_of_ble_eq_true rfl⟩) (fun E9 ce9 q9 L9 f9 H9 locs9 he9 _ _ _ _ => False.elim he9) (fun r9 La fa Ha loca hp hw9 => ?_)
  clear hw hS
  try clear locb Hb fb Lb
  have hw := hw9
  clear hw9
  obtain rfl : r9 = 1 := hp.1
  have hS : Wc g q9o dS6 6 La fa := hp.2
  clear hp
  refine lv_if_ne (tgt := 399) hx hb dL_days_394 (by decide) (fun _ => ?_) (fun h9 => absurd h9 (by decide))
  refine lv_aload_n hx hb dL_days_399 rfl (lv_at hl 0 rfl) ?_
  refine lv_iconst (v := 5) hx hb dL_days_400 (by decide) ?_
  obtain ⟨fs9, hq9, hf9⟩ := hS.rcv
  refine px_ic hw (vx_runV (As := [.int 5]) (rest := []) CF (z_pass l hst g _ _ hS (by decide) 5 (by decide +kernel) (by decide +kernel) (by decide +kernel) (v := 15) (by decide +kernel) (S2 := dS7) rfl _) (cwV 1 hts gL_days_X6_pass rfl rfl rfl (by decide +kernel) ⟨Nat.le_of_ble_eq_true rfl, Nat.le_of_ble_eq_true rfl⟩) (pm_preV hw hs (pm_recv hw hq9 hf9 rfl)) rfl rfl hl.1 rfl (lv_room (Nat.le_of_ble_eq_true rfl)) dL_days_401 ⟨Nat.le_of_ble_eq_true rfl, Nat.le_of_ble_eq_true rfl⟩) (fun E9 ce9 q9 L9 f9 H9 locs9 he9 _ _ _ _ => False.elim he9) (fun r9 Lb fb Hb locb hp hw9 => ?_)
  clear hw hS fs9 hq9 hf9
  try clear loca Ha fa La
  have hw := hw9
  clear hw9
  obtain rfl : r9 = 15 := hp.1
  have hS : Wc g q9o dS7 7 Lb fb := hp.2
  clear hp
  refine lv_bipush (v := 15) hx hb dL_days_404 (by decide) ?_
  refine lv_icmp_ne (tgt := 730) hx hb dL_days_406 (by decide) (fun h9 => absurd h9 (by decide)) (fun _ => ?_)
  refine lv_aload_n hx hb dL_days_409 rfl (lv_at hl 0 rfl) ?_
  refine lv_iconst (v := 0) hx hb dL_days_410 (by decide) ?_
  obtain ⟨fs9, hq9, hf9⟩ := hS.rcv
  refine px_ic hw (vx_runV (As := [.int 0]) (rest := []) CF (z_takeBack l hst g _ _ hS 0 (by decide +kernel) (c := (0, 0, 0, 100, 30, 0, 0)) rfl (by decide +kernel) (v := 0) (by decide +kernel) (S2 := dS8) rfl _) (cwV 1 hts gL_days_X6_takeBack rfl rfl rfl (by decide +kernel) ⟨Nat.le_of_ble_eq_true rfl, Nat.le_of_ble_eq_true rfl⟩) (pm_preV hw hs (pm_recv hw hq9 hf9 rfl)) rfl rfl hl.1 rfl (lv_room (Nat.le_of_ble_eq_true rfl)) dL_days_411 ⟨Nat.le_of_ble_eq_true rfl, Nat.le_of_ble_eq_true rfl⟩) (fun E9 ce9 q9 L9 f9 H9 locs9 he9 _ _ _ _ => False.elim he9) (fun r9 La fa Ha loca hp hw9 => ?_)
  clear hw hS fs9 hq9 hf9
  try clear locb Hb fb Lb
  have hw := hw9
  clear hw9
  obtain rfl : r9 = 0 := hp.1
  have hS : Wc g q9o dS8 8 La fa := hp.2
  clear hp
  refine lv_if_ne (tgt := 730) hx hb dL_days_414 (by decide) (fun h9 => absurd h9 (by decide)) (fun _ => ?_)
  refine lv_aload_n hx hb dL_days_417 rfl (lv_at hl 0 rfl) ?_
  refine lv_bipush (v := 7) hx hb dL_days_418 (by decide) ?_
  refine lv_iconst (v := 0) hx hb dL_days_420 (by decide) ?_
  refine lv_iconst (v := 0) hx hb dL_days_421 (by decide) ?_
  refine lv_iconst (v := 0) hx hb dL_days_422 (by decide) ?_
  refine lv_iconst (v := 0) hx hb dL_days_423 (by decide) ?_
  refine px_ic hw (vx_runSX (As := [.ref q9o, .int 7, .int 0, .int 0, .int 0, .int 0]) (rest := []) CF (za_taken l hst g _ _ hS 0 (c := (0, 0, 0, 100, 30, 0, 16)) rfl (by decide +kernel) (by decide +kernel) 0 0 0 _) (vx_cwSW 6 hts gL_days_L_act rfl rfl rfl (by decide +kernel) ⟨Nat.le_of_ble_eq_true rfl, Nat.le_of_ble_eq_true rfl⟩) (pn_preS hw hs hN) rfl rfl hl.1 rfl (lv_room (Nat.le_of_ble_eq_true rfl)) dL_days_424 ⟨Nat.le_of_ble_eq_true rfl, Nat.le_of_ble_eq_true rfl⟩) (fun E9 ce9 q9 L9 f9 H9 locs9 he9 _ _ _ _ => False.elim he9) (fun r9 Lb fb Hb locb hp hw9 => ?_)
  clear hw hS
  try clear loca Ha fa La
  have hw := hw9
  clear hw9
  obtain rfl : r9 = (-90000003) := hp.1
  have hS : Wc g q9o dS8 8 Lb fb := hp.2
  clear hp
  refine lv_ldc (v := (-90000003)) hx hb hown (hts (.constant RL 79 (-90000003)) (by decide +kernel)) dL_days_427 ?_
  refine lv_icmp_ne (tgt := 730) hx hb dL_days_429 (by decide) (fun h9 => absurd h9 (by decide)) (fun _ => ?_)
  refine lv_aload_n hx hb dL_days_432 rfl (lv_at hl 0 rfl) ?_
  refine lv_bipush (v := 15) hx hb dL_days_433 (by decide) ?_
  refine lv_sipush (v := 380) hx hb dL_days_435 (by decide) ?_
  refine px_ic hw (vx_runS (As := [.ref q9o, .int 15, .int 380]) (rest := []) CF (z_lpremium l hst g _ _ hS 15 (by decide +kernel) dY8_0_15 (by decide +kernel) (by decide +kernel) _) (va_cwS 3 hts gL_days_L_premium rfl rfl rfl (by decide +kernel) ⟨Nat.le_of_ble_eq_true rfl, Nat.le_of_ble_eq_true rfl⟩) (pn_preS hw hs hN) rfl rfl hl.1 rfl (lv_room (Nat.le_of_ble_eq_true rfl)) dL_days_438 ⟨Nat.le_of_ble_eq_true rfl, Nat.le_of_ble_eq_true rfl⟩) (fun E9 ce9 q9 L9 f9 H9 locs9 he9 _ _ _ _ => False.elim he9) (fun r9 La fa Ha loca hp hw9 => ?_)
  clear hw hS
  try clear locb Hb fb Lb
  have hw := hw9
  clear hw9
  obtain rfl : r9 = 1 := hp.1
  have hS : Wc g q9o dS8 8 La fa := hp.2
  clear hp
  refine lv_if_eq (tgt := 730) hx hb dL_days_441 (by decide) (fun h9 => absurd h9 (by decide)) (fun _ => ?_)
  refine lv_aload_n hx hb dL_days_444 rfl (lv_at hl 0 rfl) ?_
  refine lv_bipush (v := 14) hx hb dL_days_445 (by decide) ?_
  refine lv_sipush (v := 387) hx hb dL_days_447 (by decide) ?_
  refine px_ic hw (vx_runS (As := [.ref q9o, .int 14, .int 387]) (rest := []) CF (z_lpremium l hst g _ _ hS 14 (by decide +kernel) dY8_0_14 (by decide +kernel) (by decide +kernel) _) (va_cwS 3 hts gL_days_L_premium rfl rfl rfl (by decide +kernel) ⟨Nat.le_of_ble_eq_true rfl, Nat.le_of_ble_eq_true rfl⟩) (pn_preS hw hs hN) rfl rfl hl.1 rfl (lv_room (Nat.le_of_ble_eq_true rfl)) dL_days_450 ⟨Nat.le_of_ble_eq_true rfl, Nat.le_of_ble_eq_true rfl⟩) (fun E9 ce9 q9 L9 f9 H9 locs9 he9 _ _ _ _ => False.elim he9) (fun r9 Lb fb Hb locb hp hw9 => ?_)
  clear hw hS
  try clear loca Ha fa La
  have hw := hw9
  clear hw9
  obtain rfl : r9 = 1 := hp.1
  have hS : Wc g q9o dS8 8 Lb fb := hp.2
  clear hp
  refine lv_if_eq (tgt := 730) hx hb dL_days_453 (by decide) (fun h9 => absurd h9 (by decide)) (fun _ => ?_)
  refine lv_aload_n hx hb dL_days_456 rfl (lv_at hl 0 rfl) ?_
  refine lv_iconst (v := 0) hx hb dL_days_457 (by decide) ?_
  refine lv_sipush (v := 376) hx hb dL_days_458 (by decide) ?_
  refine px_ic hw (vx_runS (As := [.ref q9o, .int 0, .int 376]) (rest := []) CF (z_lpremium l hst g _ _ hS 0 (by decide +kernel) dY8_0_0 (by decide +kernel) (by decide +kernel) _) (va_cwS 3 hts gL_days_L_premium rfl rfl rfl (by decide +kernel) ⟨Nat.le_of_ble_eq_true rfl, Nat.le_of_ble_eq_true rfl⟩) (pn_preS hw hs hN) rfl rfl hl.1 rfl (lv_room (Nat.le_of_ble_eq_true rfl)) dL_days_461 ⟨Nat.le_of_ble_eq_true rfl, Nat.le_of_ble_eq_true rfl⟩) (fun E9 ce9 q9 L9 f9 H9 locs9 he9 _ _ _ _ => False.elim he9) (fun r9 La fa Ha loca hp hw9 => ?_)
  clear hw hS
  try clear locb Hb fb Lb
  have hw := hw9
  clear hw9
  obtain rfl : r9 = 1 := hp.1
  have hS : Wc g q9o dS8 8 La fa := hp.2
  clear hp
  refine lv_if_eq (tgt := 730) hx hb dL_days_464 (by decide) (fun h9 => absurd h9 (by decide)) (fun _ => ?_)
  refine lv_aload_n hx hb dL_days_467 rfl (lv_at hl 0 rfl) ?_
  refine lv_iconst (v := 1) hx hb dL_days_468 (by decide) ?_
  obtain ⟨fs9, hq9, hf9⟩ := hS.rcv
  refine px_ic hw (vx_runV (As := [.int 1]) (rest := []) CF (z_laidAnew l hst g _ _ hS 1 (by decide +kernel) (c := (0, 1, 0, 50, 15, 10, 0)) rfl (v := 0) (by decide +kernel) _) (cwV 1 hts gL_days_X6_laidAnew rfl rfl rfl (by decide +kernel) ⟨Nat.le_of_ble_eq_true rfl, Nat.le_of_ble_eq_true rfl⟩) (pm_preV hw hs (pm_recv hw hq9 hf9 rfl)) rfl rfl hl.1 rfl (lv_room (Nat.le_of_ble_eq_true rfl)) dL_days_469 ⟨Nat.le_of_ble_eq_true rfl, Nat.le_of_ble_eq_true rfl⟩) (fun E9 ce9 q9 L9 f9 H9 locs9 he9 _ _ _ _ => False.elim he9) (fun r9 Lb fb Hb locb hp hw9 => ?_)
  clear hw hS fs9 hq9 hf9
  try clear loca Ha fa La
  have hw := hw9
  clear hw9
  obtain rfl : r9 = 0 := hp.1
  have hS : Wc g q9o dS8 8 Lb fb := hp.2
  clear hp
  refine lv_if_ne (tgt := 730) hx hb dL_days_472 (by decide) (fun h9 => absurd h9 (by decide)) (fun _ => ?_)
  refine lv_aload_n hx hb dL_days_475 rfl (lv_at hl 0 rfl) ?_
  refine lv_iconst (v := 0) hx hb dL_days_476 (by decide) ?_
  refine lv_iconst (v := 0) hx hb dL_days_477 (by decide) ?_
  refine lv_sipush (v := 160) hx hb dL_days_478 (by decide) ?_
  refine lv_bipush (v := 15) hx hb dL_days_481 (by decide) ?_
  obtain ⟨fs9, hq9, hf9⟩ := hS.rcv
  refine px_ic hw (vx_runV (As := [.int 0, .int 0, .int 160, .int 15]) (rest := []) CF (z_value l hst g _ _ hS 0 0 160 15 (by decide +kernel) (by decide +kernel) (by decide +kernel) (by decide +kernel) (by decide +kernel) (by decide +kernel) (v := 15) (by decide +kernel) _) (cwV 4 hts gL_days_X6_value rfl rfl rfl (by decide +kernel) ⟨Nat.le_of_ble_eq_true rfl, Nat.le_of_ble_eq_true rfl⟩) (pm_preV hw hs (pm_recv hw hq9 hf9 rfl)) rfl rfl hl.1 rfl (lv_room (Nat.le_of_ble_eq_true rfl)) dL_days_483 ⟨Nat.le_of_ble_eq_true rfl, Nat.le_of_ble_eq_true rfl⟩) (fun E9 ce9 q9 L9 f9 H9 locs9 he9 _ _ _ _ => False.elim he9) (fun r9 La fa Ha loca hp hw9 => ?_)
  clear hw hS fs9 hq9 hf9
  try clear locb Hb fb Lb
  have hw := hw9
  clear hw9
  obtain rfl : r9 = 15 := hp.1
  have hS : Wc g q9o dS8 8 La fa := hp.2
  clear hp
  refine lv_bipush (v := 15) hx hb dL_days_486 (by decide) ?_
  refine lv_icmp_ne (tgt := 730) hx hb dL_days_488 (by decide) (fun h9 => absurd h9 (by decide)) (fun _ => ?_)
  refine lv_aload_n hx hb dL_days_491 rfl (lv_at hl 0 rfl) ?_
  refine lv_iconst (v := 0) hx hb dL_days_492 (by decide) ?_
  obtain ⟨fs9, hq9, hf9⟩ := hS.rcv
  refine px_ic hw (vx_runV (As := [.int 0]) (rest := []) CF (z_billed l hst g _ _ hS 0 (by decide +kernel) (v := 0) (by decide +kernel) _) (cwV 1 hts gL_days_X6_billed rfl rfl rfl (by decide +kernel) ⟨Nat.le_of_ble_eq_true rfl, Nat.le_of_ble_eq_true rfl⟩) (pm_preV hw hs (pm_recv hw hq9 hf9 rfl)) rfl rfl hl.1 rfl (lv_room (Nat.le_of_ble_eq_true rfl)) dL_days_493 ⟨Nat.le_of_ble_eq_true rfl, Nat.le_of_ble_eq_true rfl⟩) (fun E9 ce9 q9 L9 f9 H9 locs9 he9 _ _ _ _ => False.elim he9) (fun r9 Lb fb Hb locb hp hw9 => ?_)
  clear hw hS fs9 hq9 hf9
  try clear loca Ha fa La
  have hw := hw9
  clear hw9
  obtain rfl : r9 = 0 := hp.1
  have hS : Wc g q9o dS8 8 Lb fb := hp.2
  clear hp
  refine lv_if_ne (tgt := 730) hx hb dL_days_496 (by decide) (fun h9 => absurd h9 (by decide)) (fun _ => ?_)
  refine lv_aload_n hx hb dL_days_499 rfl (lv_at hl 0 rfl) ?_
  refine lv_iconst (v := 0) hx hb dL_days_500 (by decide) ?_
  obtain ⟨fs9, hq9, hf9⟩ := hS.rcv
  refine px_ic hw (vx_runV (As := [.int 0]) (rest := []) CF (z_bill l hst g _ _ hS 0 (by decide +kernel) dY8_0_15 (pd := 0) (pm := 380) (v := 380) (by decide +kernel) (by decide +kernel) (by decide +kernel) (S2 := dS9) rfl _) (cwV 1 hts gL_days_X6_bill rfl rfl rfl (by decide +kernel) ⟨Nat.le_of_ble_eq_true rfl, Nat.le_of_ble_eq_true rfl⟩) (pm_preV hw hs (pm_recv hw hq9 hf9 rfl)) rfl rfl hl.1 rfl (lv_room (Nat.le_of_ble_eq_true rfl)) dL_days_501 ⟨Nat.le_of_ble_eq_true rfl, Nat.le_of_ble_eq_true rfl⟩) (fun E9 ce9 q9 L9 f9 H9 locs9 he9 _ _ _ _ => False.elim he9) (fun r9 La fa Ha loca hp hw9 => ?_)
  clear hw hS fs9 hq9 hf9
  try clear locb Hb fb Lb
  have hw := hw9
  clear hw9
  obtain rfl : r9 = 380 := hp.1
  have hS : Wc g q9o dS9 9 La fa := hp.2
  clear hp
  refine lv_sipush (v := 380) hx hb dL_days_504 (by decide) ?_
  refine lv_icmp_ne (tgt := 730) hx hb dL_days_507 (by decide) (fun h9 => absurd h9 (by decide)) (fun _ => ?_)
  refine lv_aload_n hx hb dL_days_510 rfl (lv_at hl 0 rfl) ?_
  refine lv_iconst (v := 0) hx hb dL_days_511 (by decide) ?_
  obtain ⟨fs9, hq9, hf9⟩ := hS.rcv
  refine px_ic hw (vx_runV (As := [.int 0]) (rest := []) CF (z_bill l hst g _ _ hS 0 (by decide +kernel) dY9_0_15 (pd := 380) (pm := 380) (v := 0) (by decide +kernel) (by decide +kernel) (by decide +kernel) (S2 := dS10) rfl _) (cwV 1 hts gL_days_X6_bill rfl rfl rfl (by decide +kernel) ⟨Nat.le_of_ble_eq_true rfl, Nat.le_of_ble_eq_true rfl⟩) (pm_preV hw hs (pm_recv hw hq9 hf9 rfl)) rfl rfl hl.1 rfl (lv_room (Nat.le_of_ble_eq_true rfl)) dL_days_512 ⟨Nat.le_of_ble_eq_true rfl, Nat.le_of_ble_eq_true rfl⟩) (fun E9 ce9 q9 L9 f9 H9 locs9 he9 _ _ _ _ => False.elim he9) (fun r9 Lb fb Hb locb hp hw9 => ?_)
  clear hw hS fs9 hq9 hf9
  try clear loca Ha fa La
  have hw := hw9
  clear hw9
  obtain rfl : r9 = 0 := hp.1
  have hS : Wc g q9o dS10 10 Lb fb := hp.2
  clear hp
  refine lv_if_ne (tgt := 730) hx hb dL_days_515 (by decide) (fun h9 => absurd h9 (by decide)) (fun _ => ?_)
  refine lv_aload_n hx hb dL_days_518 rfl (lv_at hl 0 rfl) ?_
  refine lv_iconst (v := 0) hx hb dL_days_519 (by decide) ?_
  refine lv_sipush (v := 300) hx hb dL_days_520 (by decide) ?_
  obtain ⟨fs9, hq9, hf9⟩ := hS.rcv
  refine px_ic hw (vx_runV (As := [.int 0, .int 300]) (rest := []) CF (z_cancel l hst g _ _ hS 0 300 (by decide +kernel) (by decide +kernel) (by decide +kernel) (by unfold okC; decide +kernel) (by decide +kernel) (v := 3) (by decide +kernel) (S2 := dS11) rfl _) (cwV 2 hts gL_days_X6_cancel rfl rfl rfl (by decide +kernel) ⟨Nat.le_of_ble_eq_true rfl, Nat.le_of_ble_eq_true rfl⟩) (pm_preV hw hs (pm_recv hw hq9 hf9 rfl)) rfl rfl hl.1 rfl (lv_room (Nat.le_of_ble_eq_true rfl)) dL_days_523 ⟨Nat.le_of_ble_eq_true rfl, Nat.le_of_ble_eq_true rfl⟩) (fun E9 ce9 q9 L9 f9 H9 locs9 he9 _ _ _ _ => False.elim he9) (fun r9 La fa Ha loca hp hw9 => ?_)
  clear hw hS fs9 hq9 hf9
  try clear locb Hb fb Lb
  have hw := hw9
  clear hw9
  obtain rfl : r9 = 3 := hp.1
  have hS : Wc g q9o dS11 11 La fa := hp.2
  clear hp
  refine lv_iconst (v := 3) hx hb dL_days_526 (by decide) ?_
  refine lv_icmp_ne (tgt := 730) hx hb dL_days_527 (by decide) (fun h9 => absurd h9 (by decide)) (fun _ => ?_)
  refine lv_aload_n hx hb dL_days_530 rfl (lv_at hl 0 rfl) ?_
  refine lv_iconst (v := 0) hx hb dL_days_531 (by decide) ?_
  refine lv_sipush (v := 300) hx hb dL_days_532 (by decide) ?_
  refine lv_bipush (v := 15) hx hb dL_days_535 (by decide) ?_
  obtain ⟨fs9, hq9, hf9⟩ := hS.rcv
  refine px_ic hw (vx_runV (As := [.int 0, .int 300, .int 15]) (rest := []) CF (z_isCovered l hst g _ _ hS 0 300 15 (by decide +kernel) (by decide +kernel) (by decide +kernel) (by decide +kernel) (by decide +kernel) (v := 0) (by decide +kernel) _) (cwV 3 hts gL_days_X6_isCovered rfl rfl rfl (by decide +kernel) ⟨Nat.le_of_ble_eq_true rfl, Nat.le_of_ble_eq_true rfl⟩) (pm_preV hw hs (pm_recv hw hq9 hf9 rfl)) rfl rfl hl.1 rfl (lv_room (Nat.le_of_ble_eq_true rfl)) dL_days_537 ⟨Nat.le_of_ble_eq_true rfl, Nat.le_of_ble_eq_true rfl⟩) (fun E9 ce9 q9 L9 f9 H9 locs9 he9 _ _ _ _ => False.elim he9) (fun r9 Lb fb Hb locb hp hw9 => ?_)
  clear hw hS fs9 hq9 hf9
  try clear loca Ha fa La
  have hw := hw9
  clear hw9
  obtain rfl : r9 = 0 := hp.1
  have hS : Wc g q9o dS11 11 Lb fb := hp.2
  clear hp
  refine lv_if_ne (tgt := 730) hx hb dL_days_540 (by decide) (fun h9 => absurd h9 (by decide)) (fun _ => ?_)
  refine lv_aload_n hx hb dL_days_543 rfl (lv_at hl 0 rfl) ?_
  refine lv_iconst (v := 0) hx hb dL_days_544 (by decide) ?_
  refine lv_sipush (v := 299) hx hb dL_days_545 (by decide) ?_
  refine lv_bipush (v := 15) hx hb dL_days_548 (by decide) ?_
  obtain ⟨fs9, hq9, hf9⟩ := hS.rcv
  refine px_ic hw (vx_runV (As := [.int 0, .int 299, .int 15]) (rest := []) CF (z_isCovered l hst g _ _ hS 0 299 15 (by decide +kernel) (by decide +kernel) (by decide +kernel) (by decide +kernel) (by decide +kernel) (v := 1) (by decide +kernel) _) (cwV 3 hts gL_days_X6_isCovered rfl rfl rfl (by decide +kernel) ⟨Nat.le_of_ble_eq_true rfl, Nat.le_of_ble_eq_true rfl⟩) (pm_preV hw hs (pm_recv hw hq9 hf9 rfl)) rfl rfl hl.1 rfl (lv_room (Nat.le_of_ble_eq_true rfl)) dL_days_550 ⟨Nat.le_of_ble_eq_true rfl, Nat.le_of_ble_eq_true rfl⟩) (fun E9 ce9 q9 L9 f9 H9 locs9 he9 _ _ _ _ => False.elim he9) (fun r9 La fa Ha loca hp hw9 => ?_)
  clear hw hS fs9 hq9 hf9
  try clear locb Hb fb Lb
  have hw := hw9
  clear hw9
  obtain rfl : r9 = 1 := hp.1
  have hS : Wc g q9o dS11 11 La fa := hp.2
  clear hp
  refine lv_if_eq (tgt := 730) hx hb dL_days_553 (by decide) (fun h9 => absurd h9 (by decide)) (fun _ => ?_)
  refine lv_aload_n hx hb dL_days_556 rfl (lv_at hl 0 rfl) ?_
  refine lv_iconst (v := 0) hx hb dL_days_557 (by decide) ?_
  refine lv_sipush (v := 300) hx hb dL_days_558 (by decide) ?_
  refine lv_bipush (v := 14) hx hb dL_days_561 (by decide) ?_
  obtain ⟨fs9, hq9, hf9⟩ := hS.rcv
  refine px_ic hw (vx_runV (As := [.int 0, .int 300, .int 14]) (rest := []) CF (z_isCovered l hst g _ _ hS 0 300 14 (by decide +kernel) (by decide +kernel) (by decide +kernel) (by decide +kernel) (by decide +kernel) (v := 1) (by decide +kernel) _) (cwV 3 hts gL_days_X6_isCovered rfl rfl rfl (by decide +kernel) ⟨Nat.le_of_ble_eq_true rfl, Nat.le_of_ble_eq_true rfl⟩) (pm_preV hw hs (pm_recv hw hq9 hf9 rfl)) rfl rfl hl.1 rfl (lv_room (Nat.le_of_ble_eq_true rfl)) dL_days_563 ⟨Nat.le_of_ble_eq_true rfl, Nat.le_of_ble_eq_true rfl⟩) (fun E9 ce9 q9 L9 f9 H9 locs9 he9 _ _ _ _ => False.elim he9) (fun r9 Lb fb Hb locb hp hw9 => ?_)
  clear hw hS fs9 hq9 hf9
  try clear loca Ha fa La
  have hw := hw9
  clear hw9
  obtain rfl : r9 = 1 := hp.1
  have hS : Wc g q9o dS11 11 Lb fb := hp.2
  clear hp
  refine lv_if_eq (tgt := 730) hx hb dL_days_566 (by decide) (fun h9 => absurd h9 (by decide)) (fun _ => ?_)
  refine lv_aload_n hx hb dL_days_569 rfl (lv_at hl 0 rfl) ?_
  refine lv_iconst (v := 0) hx hb dL_days_570 (by decide) ?_
  refine lv_sipush (v := 300) hx hb dL_days_571 (by decide) ?_
  refine lv_bipush (v := 15) hx hb dL_days_574 (by decide) ?_
  obtain ⟨fs9, hq9, hf9⟩ := hS.rcv
  refine px_ic hw (vx_runV (As := [.int 0, .int 300, .int 15]) (rest := []) CF (z_rate l hst g _ _ hS 0 365 300 15 (by decide +kernel) (by decide +kernel) (by decide +kernel) (by decide +kernel) (by decide +kernel) (v := 0) (by decide +kernel) _) (cwV 3 hts gL_days_X6_rate rfl rfl rfl (by decide +kernel) ⟨Nat.le_of_ble_eq_true rfl, Nat.le_of_ble_eq_true rfl⟩) (pm_preV hw hs (pm_recv hw hq9 hf9 rfl)) rfl rfl hl.1 rfl (lv_room (Nat.le_of_ble_eq_true rfl)) dL_days_576 ⟨Nat.le_of_ble_eq_true rfl, Nat.le_of_ble_eq_true rfl⟩) (fun E9 ce9 q9 L9 f9 H9 locs9 he9 _ _ _ _ => False.elim he9) (fun r9 La fa Ha loca hp hw9 => ?_)
  clear hw hS fs9 hq9 hf9
  try clear locb Hb fb Lb
  have hw := hw9
  clear hw9
  obtain rfl : r9 = 0 := hp.1
  have hS : Wc g q9o dS11 11 La fa := hp.2
  clear hp
  refine lv_if_ne (tgt := 730) hx hb dL_days_579 (by decide) (fun h9 => absurd h9 (by decide)) (fun _ => ?_)
  refine lv_aload_n hx hb dL_days_582 rfl (lv_at hl 0 rfl) ?_
  refine lv_iconst (v := 0) hx hb dL_days_583 (by decide) ?_
  refine lv_iconst (v := 0) hx hb dL_days_584 (by decide) ?_
  refine lv_sipush (v := 300) hx hb dL_days_585 (by decide) ?_
  refine lv_bipush (v := 15) hx hb dL_days_588 (by decide) ?_
  obtain ⟨fs9, hq9, hf9⟩ := hS.rcv
  refine px_ic hw (vx_runV (As := [.int 0, .int 0, .int 300, .int 15]) (rest := []) CF (z_value l hst g _ _ hS 0 0 300 15 (by decide +kernel) (by decide +kernel) (by decide +kernel) (by decide +kernel) (by decide +kernel) (by decide +kernel) (v := 15) (by decide +kernel) _) (cwV 4 hts gL_days_X6_value rfl rfl rfl (by decide +kernel) ⟨Nat.le_of_ble_eq_true rfl, Nat.le_of_ble_eq_true rfl⟩) (pm_preV hw hs (pm_recv hw hq9 hf9 rfl)) rfl rfl hl.1 rfl (lv_room (Nat.le_of_ble_eq_true rfl)) dL_days_590 ⟨Nat.le_of_ble_eq_true rfl, Nat.le_of_ble_eq_true rfl⟩) (fun E9 ce9 q9 L9 f9 H9 locs9 he9 _ _ _ _ => False.elim he9) (fun r9 Lb fb Hb locb hp hw9 => ?_)
  clear hw hS fs9 hq9 hf9
  try clear loca Ha fa La
  have hw := hw9
  clear hw9
  obtain rfl : r9 = 15 := hp.1
  have hS : Wc g q9o dS11 11 Lb fb := hp.2
  clear hp
  refine lv_bipush (v := 15) hx hb dL_days_593 (by decide) ?_
  refine lv_icmp_ne (tgt := 730) hx hb dL_days_595 (by decide) (fun h9 => absurd h9 (by decide)) (fun _ => ?_)
  refine lv_aload_n hx hb dL_days_598 rfl (lv_at hl 0 rfl) ?_
  refine lv_iconst (v := 0) hx hb dL_days_599 (by decide) ?_
  refine lv_bipush (v := 15) hx hb dL_days_600 (by decide) ?_
  obtain ⟨fs9, hq9, hf9⟩ := hS.rcv
  refine px_ic hw (vx_runV (As := [.int 0, .int 15]) (rest := []) CF (z_segments l hst g _ _ hS 0 15 (by decide +kernel) (by decide +kernel) dY11_0_15 (by decide +kernel) (v := 3) (by decide +kernel) _) (cwV 2 hts gL_days_X6_segments rfl rfl rfl (by decide +kernel) ⟨Nat.le_of_ble_eq_true rfl, Nat.le_of_ble_eq_true rfl⟩) (pm_preV hw hs (pm_recv hw hq9 hf9 rfl)) rfl rfl hl.1 rfl (lv_room (Nat.le_of_ble_eq_true rfl)) dL_days_602 ⟨Nat.le_of_ble_eq_true rfl, Nat.le_of_ble_eq_true rfl⟩) (fun E9 ce9 q9 L9 f9 H9 locs9 he9 _ _ _ _ => False.elim he9) (fun r9 La fa Ha loca hp hw9 => ?_)
  clear hw hS fs9 hq9 hf9
  try clear locb Hb fb Lb
  have hw := hw9
  clear hw9
  obtain rfl : r9 = 3 := hp.1
  have hS : Wc g q9o dS11 11 La fa := hp.2
  clear hp
  refine lv_iconst (v := 3) hx hb dL_days_605 (by decide) ?_
  refine lv_icmp_ne (tgt := 730) hx hb dL_days_606 (by decide) (fun h9 => absurd h9 (by decide)) (fun _ => ?_)
  refine lv_aload_n hx hb dL_days_609 rfl (lv_at hl 0 rfl) ?_
  refine lv_iconst (v := 0) hx hb dL_days_610 (by decide) ?_
  obtain ⟨fs9, hq9, hf9⟩ := hS.rcv
  refine px_ic hw (vx_runV (As := [.int 0]) (rest := []) CF (z_bill l hst g _ _ hS 0 (by decide +kernel) dY11_0_15 (pd := 380) (pm := 310) (v := (-70)) (by decide +kernel) (by decide +kernel) (by decide +kernel) (S2 := dS12) rfl _) (cwV 1 hts gL_days_X6_bill rfl rfl rfl (by decide +kernel) ⟨Nat.le_of_ble_eq_true rfl, Nat.le_of_ble_eq_true rfl⟩) (pm_preV hw hs (pm_recv hw hq9 hf9 rfl)) rfl rfl hl.1 rfl (lv_room (Nat.le_of_ble_eq_true rfl)) dL_days_611 ⟨Nat.le_of_ble_eq_true rfl, Nat.le_of_ble_eq_true rfl⟩) (fun E9 ce9 q9 L9 f9 H9 locs9 he9 _ _ _ _ => False.elim he9) (fun r9 Lb fb Hb locb hp hw9 => ?_)
  clear hw hS fs9 hq9 hf9
  try clear loca Ha fa La
  have hw := hw9
  clear hw9
  obtain rfl : r9 = (-70) := hp.1
  have hS : Wc g q9o dS12 12 Lb fb := hp.2
  clear hp
  refine lv_bipush (v := (-70)) hx hb dL_days_614 (by decide) ?_
  refine lv_icmp_ne (tgt := 730) hx hb dL_days_616 (by decide) (fun h9 => absurd h9 (by decide)) (fun _ => ?_)
  refine lv_aload_n hx hb dL_days_619 rfl (lv_at hl 0 rfl) ?_
  refine lv_iconst (v := 0) hx hb dL_days_620 (by decide) ?_
  obtain ⟨fs9, hq9, hf9⟩ := hS.rcv
  refine px_ic hw (vx_runV (As := [.int 0]) (rest := []) CF (z_billed l hst g _ _ hS 0 (by decide +kernel) (v := 310) (by decide +kernel) _) (cwV 1 hts gL_days_X6_billed rfl rfl rfl (by decide +kernel) ⟨Nat.le_of_ble_eq_true rfl, Nat.le_of_ble_eq_true rfl⟩) (pm_preV hw hs (pm_recv hw hq9 hf9 rfl)) rfl rfl hl.1 rfl (lv_room (Nat.le_of_ble_eq_true rfl)) dL_days_621 ⟨Nat.le_of_ble_eq_true rfl, Nat.le_of_ble_eq_true rfl⟩) (fun E9 ce9 q9 L9 f9 H9 locs9 he9 _ _ _ _ => False.elim he9) (fun r9 La fa Ha loca hp hw9 => ?_)
  clear hw hS fs9 hq9 hf9
  try clear locb Hb fb Lb
  have hw := hw9
  clear hw9
  obtain rfl : r9 = 310 := hp.1
  have hS : Wc g q9o dS12 12 La fa := hp.2
  clear hp
  refine lv_sipush (v := 310) hx hb dL_days_624 (by decide) ?_
  refine lv_icmp_ne (tgt := 730) hx hb dL_days_627 (by decide) (fun h9 => absurd h9 (by decide)) (fun _ => ?_)
  refine lv_aload_n hx hb dL_days_630 rfl (lv_at hl 0 rfl) ?_
  refine lv_iconst (v := 0) hx hb dL_days_631 (by decide) ?_
  refine lv_sipush (v := 330) hx hb dL_days_632 (by decide) ?_
  obtain ⟨fs9, hq9, hf9⟩ := hS.rcv
  refine px_ic hw (vx_runV (As := [.int 0, .int 330]) (rest := []) CF (z_reinstate l hst g _ _ hS 0 330 (by decide +kernel) (by decide +kernel) (by decide +kernel) (by unfold okC; decide +kernel) (by decide +kernel) (v := 4) (by decide +kernel) (S2 := dS13) rfl _) (cwV 2 hts gL_days_X6_reinstate rfl rfl rfl (by decide +kernel) ⟨Nat.le_of_ble_eq_true rfl, Nat.le_of_ble_eq_true rfl⟩) (pm_preV hw hs (pm_recv hw hq9 hf9 rfl)) rfl rfl hl.1 rfl (lv_room (Nat.le_of_ble_eq_true rfl)) dL_days_635 ⟨Nat.le_of_ble_eq_true rfl, Nat.le_of_ble_eq_true rfl⟩) (fun E9 ce9 q9 L9 f9 H9 locs9 he9 _ _ _ _ => False.elim he9) (fun r9 Lb fb Hb locb hp hw9 => ?_)
  clear hw hS fs9 hq9 hf9
  try clear loca Ha fa La
  have hw := hw9
  clear hw9
  obtain rfl : r9 = 4 := hp.1
  have hS : Wc g q9o dS13 13 Lb fb := hp.2
  clear hp
  refine lv_iconst (v := 4) hx hb dL_days_638 (by decide) ?_
  refine lv_icmp_ne (tgt := 730) hx hb dL_days_639 (by decide) (fun h9 => absurd h9 (by decide)) (fun _ => ?_)
  refine lv_aload_n hx hb dL_days_642 rfl (lv_at hl 0 rfl) ?_
  refine lv_iconst (v := 0) hx hb dL_days_643 (by decide) ?_
  refine lv_bipush (v := 15) hx hb dL_days_644 (by decide) ?_
  obtain ⟨fs9, hq9, hf9⟩ := hS.rcv
  refine px_ic hw (vx_runV (As := [.int 0, .int 15]) (rest := []) CF (z_segments l hst g _ _ hS 0 15 (by decide +kernel) (by decide +kernel) dY13_0_15 (by decide +kernel) (v := 4) (by decide +kernel) _) (cwV 2 hts gL_days_X6_segments rfl rfl rfl (by decide +kernel) ⟨Nat.le_of_ble_eq_true rfl, Nat.le_of_ble_eq_true rfl⟩) (pm_preV hw hs (pm_recv hw hq9 hf9 rfl)) rfl rfl hl.1 rfl (lv_room (Nat.le_of_ble_eq_true rfl)) dL_days_646 ⟨Nat.le_of_ble_eq_true rfl, Nat.le_of_ble_eq_true rfl⟩) (fun E9 ce9 q9 L9 f9 H9 locs9 he9 _ _ _ _ => False.elim he9) (fun r9 La fa Ha loca hp hw9 => ?_)
  clear hw hS fs9 hq9 hf9
  try clear locb Hb fb Lb
  have hw := hw9
  clear hw9
  obtain rfl : r9 = 4 := hp.1
  have hS : Wc g q9o dS13 13 La fa := hp.2
  clear hp
  refine lv_iconst (v := 4) hx hb dL_days_649 (by decide) ?_
  refine lv_icmp_ne (tgt := 730) hx hb dL_days_650 (by decide) (fun h9 => absurd h9 (by decide)) (fun _ => ?_)
  refine lv_aload_n hx hb dL_days_653 rfl (lv_at hl 0 rfl) ?_
  refine lv_iconst (v := 0) hx hb dL_days_654 (by decide) ?_
  refine lv_bipush (v := 15) hx hb dL_days_655 (by decide) ?_
  refine lv_iconst (v := 0) hx hb dL_days_657 (by decide) ?_
  refine lv_sipush (v := 150) hx hb dL_days_658 (by decide) ?_
  refine px_ic hw (vx_runS (As := [.ref q9o, .int 0, .int 15, .int 0, .int 150]) (rest := []) CF (z_lsegment l hst g _ _ hS 0 15 0 150 (by decide +kernel) (by decide +kernel) dY13_0_15 (by decide +kernel) (by unfold sgOK; decide +kernel) (by decide +kernel) _) (va_cwS 5 hts gL_days_L_segment rfl rfl rfl (by decide +kernel) ⟨Nat.le_of_ble_eq_true rfl, Nat.le_of_ble_eq_true rfl⟩) (pn_preS hw hs hN) rfl rfl hl.1 rfl (lv_room (Nat.le_of_ble_eq_true rfl)) dL_days_661 ⟨Nat.le_of_ble_eq_true rfl, Nat.le_of_ble_eq_true rfl⟩) (fun E9 ce9 q9 L9 f9 H9 locs9 he9 _ _ _ _ => False.elim he9) (fun r9 Lb fb Hb locb hp hw9 => ?_)
  clear hw hS
  try clear loca Ha fa La
  have hw := hw9
  clear hw9
  obtain rfl : r9 = 1 := hp.1
  have hS : Wc g q9o dS13 13 Lb fb := hp.2
  clear hp
  refine lv_if_eq (tgt := 730) hx hb dL_days_664 (by decide) (fun h9 => absurd h9 (by decide)) (fun _ => ?_)
  refine lv_aload_n hx hb dL_days_667 rfl (lv_at hl 0 rfl) ?_
  refine lv_iconst (v := 1) hx hb dL_days_668 (by decide) ?_
  refine lv_bipush (v := 15) hx hb dL_days_669 (by decide) ?_
  refine lv_sipush (v := 150) hx hb dL_days_671 (by decide) ?_
  refine lv_bipush (v := 52) hx hb dL_days_674 (by decide) ?_
  refine px_ic hw (vx_runS (As := [.ref q9o, .int 1, .int 15, .int 150, .int 52]) (rest := []) CF (z_lsegment l hst g _ _ hS 1 15 150 200 (by decide +kernel) (by decide +kernel) dY13_0_15 (by decide +kernel) (by unfold sgOK; decide +kernel) (by decide +kernel) _) (va_cwS 5 hts gL_days_L_segment rfl rfl rfl (by decide +kernel) ⟨Nat.le_of_ble_eq_true rfl, Nat.le_of_ble_eq_true rfl⟩) (pn_preS hw hs hN) rfl rfl hl.1 rfl (lv_room (Nat.le_of_ble_eq_true rfl)) dL_days_676 ⟨Nat.le_of_ble_eq_true rfl, Nat.le_of_ble_eq_true rfl⟩) (fun E9 ce9 q9 L9 f9 H9 locs9 he9 _ _ _ _ => False.elim he9) (fun r9 La fa Ha loca hp hw9 => ?_)
  clear hw hS
  try clear locb Hb fb Lb
  have hw := hw9
  clear hw9
  obtain rfl : r9 = 1 := hp.1
  have hS : Wc g q9o dS13 13 La fa := hp.2
  clear hp
  refine lv_if_eq (tgt := 730) hx hb dL_days_679 (by decide) (fun h9 => absurd h9 (by decide)) (fun _ => ?_)
  refine lv_aload_n hx hb dL_days_682 rfl (lv_at hl 0 rfl) ?_
  refine lv_iconst (v := 2) hx hb dL_days_683 (by decide) ?_
  refine lv_bipush (v := 15) hx hb dL_days_684 (by decide) ?_
  refine lv_sipush (v := 200) hx hb dL_days_686 (by decide) ?_
  refine lv_bipush (v := 108) hx hb dL_days_689 (by decide) ?_
  refine px_ic hw (vx_runS (As := [.ref q9o, .int 2, .int 15, .int 200, .int 108]) (rest := []) CF (z_lsegment l hst g _ _ hS 2 15 200 300 (by decide +kernel) (by decide +kernel) dY13_0_15 (by decide +kernel) (by unfold sgOK; decide +kernel) (by decide +kernel) _) (va_cwS 5 hts gL_days_L_segment rfl rfl rfl (by decide +kernel) ⟨Nat.le_of_ble_eq_true rfl, Nat.le_of_ble_eq_true rfl⟩) (pn_preS hw hs hN) rfl rfl hl.1 rfl (lv_room (Nat.le_of_ble_eq_true rfl)) dL_days_691 ⟨Nat.le_of_ble_eq_true rfl, Nat.le_of_ble_eq_true rfl⟩) (fun E9 ce9 q9 L9 f9 H9 locs9 he9 _ _ _ _ => False.elim he9) (fun r9 Lb fb Hb locb hp hw9 => ?_)
  clear hw hS
  try clear loca Ha fa La
  have hw := hw9
  clear hw9
  obtain rfl : r9 = 1 := hp.1
  have hS : Wc g q9o dS13 13 Lb fb := hp.2
  clear hp
  refine lv_if_eq (tgt := 730) hx hb dL_days_694 (by decide) (fun h9 => absurd h9 (by decide)) (fun _ => ?_)
  refine lv_aload_n hx hb dL_days_697 rfl (lv_at hl 0 rfl) ?_
  refine lv_iconst (v := 3) hx hb dL_days_698 (by decide) ?_
  refine lv_bipush (v := 15) hx hb dL_days_699 (by decide) ?_
  refine lv_sipush (v := 330) hx hb dL_days_701 (by decide) ?_
  refine lv_bipush (v := 38) hx hb dL_days_704 (by decide) ?_
  refine px_ic hw (vx_runS (As := [.ref q9o, .int 3, .int 15, .int 330, .int 38]) (rest := []) CF (z_lsegment l hst g _ _ hS 3 15 330 365 (by decide +kernel) (by decide +kernel) dY13_0_15 (by decide +kernel) (by unfold sgOK; decide +kernel) (by decide +kernel) _) (va_cwS 5 hts gL_days_L_segment rfl rfl rfl (by decide +kernel) ⟨Nat.le_of_ble_eq_true rfl, Nat.le_of_ble_eq_true rfl⟩) (pn_preS hw hs hN) rfl rfl hl.1 rfl (lv_room (Nat.le_of_ble_eq_true rfl)) dL_days_706 ⟨Nat.le_of_ble_eq_true rfl, Nat.le_of_ble_eq_true rfl⟩) (fun E9 ce9 q9 L9 f9 H9 locs9 he9 _ _ _ _ => False.elim he9) (fun r9 La fa Ha loca hp hw9 => ?_)
  clear hw hS
  try clear locb Hb fb Lb
  have hw := hw9
  clear hw9
  obtain rfl : r9 = 1 := hp.1
  have hS : Wc g q9o dS13 13 La fa := hp.2
  clear hp
  refine lv_if_eq (tgt := 730) hx hb dL_days_709 (by decide) (fun h9 => absurd h9 (by decide)) (fun _ => ?_)
  refine lv_aload_n hx hb dL_days_712 rfl (lv_at hl 0 rfl) ?_
  refine lv_iconst (v := 0) hx hb dL_days_713 (by decide) ?_
  obtain ⟨fs9, hq9, hf9⟩ := hS.rcv
  refine px_ic hw (vx_runV (As := [.int 0]) (rest := []) CF (z_bill l hst g _ _ hS 0 (by decide +kernel) dY13_0_15 (pd := 310) (pm := 348) (v := 38) (by decide +kernel) (by decide +kernel) (by decide +kernel) (S2 := dS14) rfl _) (cwV 1 hts gL_days_X6_bill rfl rfl rfl (by decide +kernel) ⟨Nat.le_of_ble_eq_true rfl, Nat.le_of_ble_eq_true rfl⟩) (pm_preV hw hs (pm_recv hw hq9 hf9 rfl)) rfl rfl hl.1 rfl (lv_room (Nat.le_of_ble_eq_true rfl)) dL_days_714 ⟨Nat.le_of_ble_eq_true rfl, Nat.le_of_ble_eq_true rfl⟩) (fun E9 ce9 q9 L9 f9 H9 locs9 he9 _ _ _ _ => False.elim he9) (fun r9 Lb fb Hb locb hp hw9 => ?_)
  clear hw hS fs9 hq9 hf9
  try clear loca Ha fa La
  have hw := hw9
  clear hw9
  obtain rfl : r9 = 38 := hp.1
  have hS : Wc g q9o dS14 14 Lb fb := hp.2
  clear hp
  refine lv_bipush (v := 38) hx hb dL_days_717 (by decide) ?_
  refine lv_icmp_ne (tgt := 730) hx hb dL_days_719 (by decide) (fun h9 => absurd h9 (by decide)) (fun _ => ?_)
  refine lv_aload_n hx hb dL_days_722 rfl (lv_at hl 0 rfl) ?_
  refine lv_iconst (v := 1) hx hb dL_days_723 (by decide) ?_
  refine px_ic hw (vx_runS (As := [.ref q9o, .int 1]) (rest := []) CF (z_refuses l hst g _ _ hS (by decide) (by decide +kernel) (by decide +kernel) _) (va_cwS 2 hts gL_days_L_refuses rfl rfl rfl (by decide +kernel) ⟨Nat.le_of_ble_eq_true rfl, Nat.le_of_ble_eq_true rfl⟩) (pn_preS hw hs hN) rfl rfl hl.1 rfl (lv_room (Nat.le_of_ble_eq_true rfl)) dL_days_724 ⟨Nat.le_of_ble_eq_true rfl, Nat.le_of_ble_eq_true rfl⟩) (fun E9 ce9 q9 L9 f9 H9 locs9 he9 _ _ _ _ => False.elim he9) (fun r9 La fa Ha loca hp hw9 => ?_)
  clear hw hS
  try clear locb Hb fb Lb
  have hw := hw9
  clear hw9
  obtain rfl : r9 = 1 := hp.1
  have hS : Wc g q9o dS14 14 La fa := hp.2
  clear hp
  refine lv_if_ne (tgt := 732) hx hb dL_days_727 (by decide) (fun _ => ?_) (fun h9 => absurd h9 (by decide))
  refine lv_aload_n hx hb dL_days_732 rfl (lv_at hl 0 rfl) ?_
  refine lv_iconst (v := 0) hx hb dL_days_733 (by decide) ?_
  refine lv_sipush (v := 330) hx hb dL_days_734 (by decide) ?_
  obtain ⟨fs9, hq9, hf9⟩ := hS.rcv
  refine px_ic hw (vx_runV (As := [.int 0, .int 330]) (rest := []) CF (z_cancel l hst g _ _ hS 0 330 (by decide +kernel) (by decide +kernel) (by decide +kernel) (by unfold okC; decide +kernel) (by decide +kernel) (v := 5) (by decide +kernel) (S2 := dS15) rfl _) (cwV 2 hts gL_days_X6_cancel rfl rfl rfl (by decide +kernel) ⟨Nat.le_of_ble_eq_true rfl, Nat.le_of_ble_eq_true rfl⟩) (pm_preV hw hs (pm_recv hw hq9 hf9 rfl)) rfl rfl hl.1 rfl (lv_room (Nat.le_of_ble_eq_true rfl)) dL_days_737 ⟨Nat.le_of_ble_eq_true rfl, Nat.le_of_ble_eq_true rfl⟩) (fun E9 ce9 q9 L9 f9 H9 locs9 he9 _ _ _ _ => False.elim he9) (fun r9 Lb fb Hb locb hp hw9 => ?_)
  clear hw hS fs9 hq9 hf9
  try clear loca Ha fa La
  have hw := hw9
  clear hw9
  obtain rfl : r9 = 5 := hp.1
  have hS : Wc g q9o dS15 15 Lb fb := hp.2
  clear hp
  refine lv_iconst (v := 5) hx hb dL_days_740 (by decide) ?_
  refine lv_icmp_ne (tgt := 910) hx hb dL_days_741 (by decide) (fun h9 => absurd h9 (by decide)) (fun _ => ?_)
  refine lv_aload_n hx hb dL_days_744 rfl (lv_at hl 0 rfl) ?_
  refine lv_iconst (v := 0) hx hb dL_days_745 (by decide) ?_
  refine lv_bipush (v := 15) hx hb dL_days_746 (by decide) ?_
  obtain ⟨fs9, hq9, hf9⟩ := hS.rcv
  refine px_ic hw (vx_runV (As := [.int 0, .int 15]) (rest := []) CF (z_segments l hst g _ _ hS 0 15 (by decide +kernel) (by decide +kernel) dY15_0_15 (by decide +kernel) (v := 3) (by decide +kernel) _) (cwV 2 hts gL_days_X6_segments rfl rfl rfl (by decide +kernel) ⟨Nat.le_of_ble_eq_true rfl, Nat.le_of_ble_eq_true rfl⟩) (pm_preV hw hs (pm_recv hw hq9 hf9 rfl)) rfl rfl hl.1 rfl (lv_room (Nat.le_of_ble_eq_true rfl)) dL_days_748 ⟨Nat.le_of_ble_eq_true rfl, Nat.le_of_ble_eq_true rfl⟩) (fun E9 ce9 q9 L9 f9 H9 locs9 he9 _ _ _ _ => False.elim he9) (fun r9 La fa Ha loca hp hw9 => ?_)
  clear hw hS fs9 hq9 hf9
  try clear locb Hb fb Lb
  have hw := hw9
  clear hw9
  obtain rfl : r9 = 3 := hp.1
  have hS : Wc g q9o dS15 15 La fa := hp.2
  clear hp
  refine lv_iconst (v := 3) hx hb dL_days_751 (by decide) ?_
  refine lv_icmp_ne (tgt := 910) hx hb dL_days_752 (by decide) (fun h9 => absurd h9 (by decide)) (fun _ => ?_)
  refine lv_aload_n hx hb dL_days_755 rfl (lv_at hl 0 rfl) ?_
  refine lv_iconst (v := 0) hx hb dL_days_756 (by decide) ?_
  refine lv_sipush (v := 364) hx hb dL_days_757 (by decide) ?_
  refine lv_bipush (v := 15) hx hb dL_days_760 (by decide) ?_
  obtain ⟨fs9, hq9, hf9⟩ := hS.rcv
  refine px_ic hw (vx_runV (As := [.int 0, .int 364, .int 15]) (rest := []) CF (z_isCovered l hst g _ _ hS 0 364 15 (by decide +kernel) (by decide +kernel) (by decide +kernel) (by decide +kernel) (by decide +kernel) (v := 0) (by decide +kernel) _) (cwV 3 hts gL_days_X6_isCovered rfl rfl rfl (by decide +kernel) ⟨Nat.le_of_ble_eq_true rfl, Nat.le_of_ble_eq_true rfl⟩) (pm_preV hw hs (pm_recv hw hq9 hf9 rfl)) rfl rfl hl.1 rfl (lv_room (Nat.le_of_ble_eq_true rfl)) dL_days_762 ⟨Nat.le_of_ble_eq_true rfl, Nat.le_of_ble_eq_true rfl⟩) (fun E9 ce9 q9 L9 f9 H9 locs9 he9 _ _ _ _ => False.elim he9) (fun r9 Lb fb Hb locb hp hw9 => ?_)
  clear hw hS fs9 hq9 hf9
  try clear loca Ha fa La
  have hw := hw9
  clear hw9
  obtain rfl : r9 = 0 := hp.1
  have hS : Wc g q9o dS15 15 Lb fb := hp.2
  clear hp
  refine lv_if_ne (tgt := 910) hx hb dL_days_765 (by decide) (fun h9 => absurd h9 (by decide)) (fun _ => ?_)
  refine lv_aload_n hx hb dL_days_768 rfl (lv_at hl 0 rfl) ?_
  refine lv_iconst (v := 5) hx hb dL_days_769 (by decide) ?_
  obtain ⟨fs9, hq9, hf9⟩ := hS.rcv
  refine px_ic hw (vx_runV (As := [.int 5]) (rest := []) CF (z_takeBack l hst g _ _ hS 5 (by decide +kernel) (c := (0, 2, 0, 330, 20, 15, 0)) rfl (by decide +kernel) (v := 15) (by decide +kernel) (S2 := dS16) rfl _) (cwV 1 hts gL_days_X6_takeBack rfl rfl rfl (by decide +kernel) ⟨Nat.le_of_ble_eq_true rfl, Nat.le_of_ble_eq_true rfl⟩) (pm_preV hw hs (pm_recv hw hq9 hf9 rfl)) rfl rfl hl.1 rfl (lv_room (Nat.le_of_ble_eq_true rfl)) dL_days_770 ⟨Nat.le_of_ble_eq_true rfl, Nat.le_of_ble_eq_true rfl⟩) (fun E9 ce9 q9 L9 f9 H9 locs9 he9 _ _ _ _ => False.elim he9) (fun r9 La fa Ha loca hp hw9 => ?_)
  clear hw hS fs9 hq9 hf9
  try clear locb Hb fb Lb
  have hw := hw9
  clear hw9
  obtain rfl : r9 = 15 := hp.1
  have hS : Wc g q9o dS16 16 La fa := hp.2
  clear hp
  refine lv_bipush (v := 15) hx hb dL_days_773 (by decide) ?_
  refine lv_icmp_ne (tgt := 910) hx hb dL_days_775 (by decide) (fun h9 => absurd h9 (by decide)) (fun _ => ?_)
  refine lv_aload_n hx hb dL_days_778 rfl (lv_at hl 0 rfl) ?_
  refine lv_iconst (v := 0) hx hb dL_days_779 (by decide) ?_
  refine lv_bipush (v := 15) hx hb dL_days_780 (by decide) ?_
  obtain ⟨fs9, hq9, hf9⟩ := hS.rcv
  refine px_ic hw (vx_runV (As := [.int 0, .int 15]) (rest := []) CF (z_segments l hst g _ _ hS 0 15 (by decide +kernel) (by decide +kernel) dY16_0_15 (by decide +kernel) (v := 4) (by decide +kernel) _) (cwV 2 hts gL_days_X6_segments rfl rfl rfl (by decide +kernel) ⟨Nat.le_of_ble_eq_true rfl, Nat.le_of_ble_eq_true rfl⟩) (pm_preV hw hs (pm_recv hw hq9 hf9 rfl)) rfl rfl hl.1 rfl (lv_room (Nat.le_of_ble_eq_true rfl)) dL_days_782 ⟨Nat.le_of_ble_eq_true rfl, Nat.le_of_ble_eq_true rfl⟩) (fun E9 ce9 q9 L9 f9 H9 locs9 he9 _ _ _ _ => False.elim he9) (fun r9 Lb fb Hb locb hp hw9 => ?_)
  clear hw hS fs9 hq9 hf9
  try clear loca Ha fa La
  have hw := hw9
  clear hw9
  obtain rfl : r9 = 4 := hp.1
  have hS : Wc g q9o dS16 16 Lb fb := hp.2
  clear hp
  refine lv_iconst (v := 4) hx hb dL_days_785 (by decide) ?_
  refine lv_icmp_ne (tgt := 910) hx hb dL_days_786 (by decide) (fun h9 => absurd h9 (by decide)) (fun _ => ?_)
  refine lv_aload_n hx hb dL_days_789 rfl (lv_at hl 0 rfl) ?_
  refine lv_iconst (v := 0) hx hb dL_days_790 (by decide) ?_
  refine lv_iconst (v := 1) hx hb dL_days_791 (by decide) ?_
  refine lv_iconst (v := 0) hx hb dL_days_792 (by decide) ?_
  refine lv_bipush (v := 20) hx hb dL_days_793 (by decide) ?_
  obtain ⟨fs9, hq9, hf9⟩ := hS.rcv
  refine px_ic hw (vx_runV (As := [.int 0, .int 1, .int 0, .int 20]) (rest := []) CF (z_change l hst g _ _ hS 0 1 0 40 (by decide +kernel) (by decide +kernel) (by decide +kernel) (by decide +kernel) (by decide +kernel) (by unfold okC; decide +kernel) (by decide +kernel) (v := 6) (by decide +kernel) (S2 := dS17) rfl _) (cwV 4 hts gL_days_X6_change rfl rfl rfl (by decide +kernel) ⟨Nat.le_of_ble_eq_true rfl, Nat.le_of_ble_eq_true rfl⟩) (pm_preV hw hs (pm_recv hw hq9 hf9 rfl)) rfl rfl hl.1 rfl (lv_room (Nat.le_of_ble_eq_true rfl)) dL_days_795 ⟨Nat.le_of_ble_eq_true rfl, Nat.le_of_ble_eq_true rfl⟩) (fun E9 ce9 q9 L9 f9 H9 locs9 he9 _ _ _ _ => False.elim he9) (fun r9 La fa Ha loca hp hw9 => ?_)
  clear hw hS fs9 hq9 hf9
  try clear locb Hb fb Lb
  have hw := hw9
  clear hw9
  obtain rfl : r9 = 6 := hp.1
  have hS : Wc g q9o dS17 17 La fa := hp.2
  clear hp
  refine lv_bipush (v := 6) hx hb dL_days_798 (by decide) ?_
  refine lv_icmp_ne (tgt := 910) hx hb dL_days_800 (by decide) (fun h9 => absurd h9 (by decide)) (fun _ => ?_)
  refine lv_aload_n hx hb dL_days_803 rfl (lv_at hl 0 rfl) ?_
  refine lv_iconst (v := 0) hx hb dL_days_804 (by decide) ?_
  refine lv_iconst (v := 0) hx hb dL_days_805 (by decide) ?_
  refine lv_bipush (v := 15) hx hb dL_days_806 (by decide) ?_
  obtain ⟨fs9, hq9, hf9⟩ := hS.rcv
  refine px_ic hw (vx_runV (As := [.int 0, .int 0, .int 15]) (rest := []) CF (z_rate l hst g _ _ hS 0 365 0 15 (by decide +kernel) (by decide +kernel) (by decide +kernel) (by decide +kernel) (by decide +kernel) (v := 385) (by decide +kernel) _) (cwV 3 hts gL_days_X6_rate rfl rfl rfl (by decide +kernel) ⟨Nat.le_of_ble_eq_true rfl, Nat.le_of_ble_eq_true rfl⟩) (pm_preV hw hs (pm_recv hw hq9 hf9 rfl)) rfl rfl hl.1 rfl (lv_room (Nat.le_of_ble_eq_true rfl)) dL_days_808 ⟨Nat.le_of_ble_eq_true rfl, Nat.le_of_ble_eq_true rfl⟩) (fun E9 ce9 q9 L9 f9 H9 locs9 he9 _ _ _ _ => False.elim he9) (fun r9 Lb fb Hb locb hp hw9 => ?_)
  clear hw hS fs9 hq9 hf9
  try clear loca Ha fa La
  have hw := hw9
  clear hw9
  obtain rfl : r9 = 385 := hp.1
  have hS : Wc g q9o dS17 17 Lb fb := hp.2
  clear hp
  refine lv_sipush (v := 385) hx hb dL_days_811 (by decide) ?_
  refine lv_icmp_ne (tgt := 910) hx hb dL_days_814 (by decide) (fun h9 => absurd h9 (by decide)) (fun _ => ?_)
  refine lv_aload_n hx hb dL_days_817 rfl (lv_at hl 0 rfl) ?_
  refine lv_bipush (v := 6) hx hb dL_days_818 (by decide) ?_
  obtain ⟨fs9, hq9, hf9⟩ := hS.rcv
  refine px_ic hw (vx_runV (As := [.int 6]) (rest := []) CF (z_laidAnew l hst g _ _ hS 6 (by decide +kernel) (c := (0, 0, 1, 0, 40, 15, 0)) rfl (v := 4) (by decide +kernel) _) (cwV 1 hts gL_days_X6_laidAnew rfl rfl rfl (by decide +kernel) ⟨Nat.le_of_ble_eq_true rfl, Nat.le_of_ble_eq_true rfl⟩) (pm_preV hw hs (pm_recv hw hq9 hf9 rfl)) rfl rfl hl.1 rfl (lv_room (Nat.le_of_ble_eq_true rfl)) dL_days_820 ⟨Nat.le_of_ble_eq_true rfl, Nat.le_of_ble_eq_true rfl⟩) (fun E9 ce9 q9 L9 f9 H9 locs9 he9 _ _ _ _ => False.elim he9) (fun r9 La fa Ha loca hp hw9 => ?_)
  clear hw hS fs9 hq9 hf9
  try clear locb Hb fb Lb
  have hw := hw9
  clear hw9
  obtain rfl : r9 = 4 := hp.1
  have hS : Wc g q9o dS17 17 La fa := hp.2
  clear hp
  refine lv_iconst (v := 4) hx hb dL_days_823 (by decide) ?_
  refine lv_icmp_ne (tgt := 910) hx hb dL_days_824 (by decide) (fun h9 => absurd h9 (by decide)) (fun _ => ?_)
  refine lv_aload_n hx hb dL_days_827 rfl (lv_at hl 0 rfl) ?_
  refine lv_bipush (v := 6) hx hb dL_days_828 (by decide) ?_
  obtain ⟨fs9, hq9, hf9⟩ := hS.rcv
  refine px_ic hw (vx_runV (As := [.int 6]) (rest := []) CF (z_takeBack l hst g _ _ hS 6 (by decide +kernel) (c := (0, 0, 1, 0, 40, 15, 0)) rfl (by decide +kernel) (v := 15) (by decide +kernel) (S2 := dS18) rfl _) (cwV 1 hts gL_days_X6_takeBack rfl rfl rfl (by decide +kernel) ⟨Nat.le_of_ble_eq_true rfl, Nat.le_of_ble_eq_true rfl⟩) (pm_preV hw hs (pm_recv hw hq9 hf9 rfl)) rfl rfl hl.1 rfl (lv_room (Nat.le_of_ble_eq_true rfl)) dL_days_830 ⟨Nat.le_of_ble_eq_true rfl, Nat.le_of_ble_eq_true rfl⟩) (fun E9 ce9 q9 L9 f9 H9 locs9 he9 _ _ _ _ => False.elim he9) (fun r9 Lb fb Hb locb hp hw9 => ?_)
  clear hw hS fs9 hq9 hf9
  try clear loca Ha fa La
  have hw := hw9
  clear hw9
  obtain rfl : r9 = 15 := hp.1
  have hS : Wc g q9o dS18 18 Lb fb := hp.2
  clear hp
  refine lv_bipush (v := 15) hx hb dL_days_833 (by decide) ?_
  refine lv_icmp_ne (tgt := 910) hx hb dL_days_835 (by decide) (fun h9 => absurd h9 (by decide)) (fun _ => ?_)
  refine lv_aload_n hx hb dL_days_838 rfl (lv_at hl 0 rfl) ?_
  refine lv_iconst (v := 0) hx hb dL_days_839 (by decide) ?_
  refine lv_iconst (v := 0) hx hb dL_days_840 (by decide) ?_
  refine lv_bipush (v := 15) hx hb dL_days_841 (by decide) ?_
  obtain ⟨fs9, hq9, hf9⟩ := hS.rcv
  refine px_ic hw (vx_runV (As := [.int 0, .int 0, .int 15]) (rest := []) CF (z_rate l hst g _ _ hS 0 365 0 15 (by decide +kernel) (by decide +kernel) (by decide +kernel) (by decide +kernel) (by decide +kernel) (v := 365) (by decide +kernel) _) (cwV 3 hts gL_days_X6_rate rfl rfl rfl (by decide +kernel) ⟨Nat.le_of_ble_eq_true rfl, Nat.le_of_ble_eq_true rfl⟩) (pm_preV hw hs (pm_recv hw hq9 hf9 rfl)) rfl rfl hl.1 rfl (lv_room (Nat.le_of_ble_eq_true rfl)) dL_days_843 ⟨Nat.le_of_ble_eq_true rfl, Nat.le_of_ble_eq_true rfl⟩) (fun E9 ce9 q9 L9 f9 H9 locs9 he9 _ _ _ _ => False.elim he9) (fun r9 La fa Ha loca hp hw9 => ?_)
  clear hw hS fs9 hq9 hf9
  try clear locb Hb fb Lb
  have hw := hw9
  clear hw9
  obtain rfl : r9 = 365 := hp.1
  have hS : Wc g q9o dS18 18 La fa := hp.2
  clear hp
  refine lv_sipush (v := 365) hx hb dL_days_846 (by decide) ?_
  refine lv_icmp_ne (tgt := 910) hx hb dL_days_849 (by decide) (fun h9 => absurd h9 (by decide)) (fun _ => ?_)
  refine lv_aload_n hx hb dL_days_852 rfl (lv_at hl 0 rfl) ?_
  refine lv_iconst (v := 1) hx hb dL_days_853 (by decide) ?_
  obtain ⟨fs9, hq9, hf9⟩ := hS.rcv
  refine px_ic hw (vx_runV (As := [.int 1]) (rest := []) CF (z_pass l hst g _ _ hS (by decide) 1 (by decide +kernel) (by decide +kernel) (by decide +kernel) (v := 16) (by decide +kernel) (S2 := dS19) rfl _) (cwV 1 hts gL_days_X6_pass rfl rfl rfl (by decide +kernel) ⟨Nat.le_of_ble_eq_true rfl, Nat.le_of_ble_eq_true rfl⟩) (pm_preV hw hs (pm_recv hw hq9 hf9 rfl)) rfl rfl hl.1 rfl (lv_room (Nat.le_of_ble_eq_true rfl)) dL_days_854 ⟨Nat.le_of_ble_eq_true rfl, Nat.le_of_ble_eq_true rfl⟩) (fun E9 ce9 q9 L9 f9 H9 locs9 he9 _ _ _ _ => False.elim he9) (fun r9 Lb fb Hb locb hp hw9 => ?_)
  clear hw hS fs9 hq9 hf9
  try clear loca Ha fa La
  have hw := hw9
  clear hw9
  obtain rfl : r9 = 16 := hp.1
  have hS : Wc g q9o dS19 19 Lb fb := hp.2
  clear hp
  refine lv_bipush (v := 16) hx hb dL_days_857 (by decide) ?_
  refine lv_icmp_ne (tgt := 910) hx hb dL_days_859 (by decide) (fun h9 => absurd h9 (by decide)) (fun _ => ?_)
  refine lv_aload_n hx hb dL_days_862 rfl (lv_at hl 0 rfl) ?_
  refine lv_iconst (v := 0) hx hb dL_days_863 (by decide) ?_
  refine lv_iconst (v := 0) hx hb dL_days_864 (by decide) ?_
  refine lv_bipush (v := 16) hx hb dL_days_865 (by decide) ?_
  obtain ⟨fs9, hq9, hf9⟩ := hS.rcv
  refine px_ic hw (vx_runV (As := [.int 0, .int 0, .int 16]) (rest := []) CF (z_rate l hst g _ _ hS 0 365 0 16 (by decide +kernel) (by decide +kernel) (by decide +kernel) (by decide +kernel) (by decide +kernel) (v := 365) (by decide +kernel) _) (cwV 3 hts gL_days_X6_rate rfl rfl rfl (by decide +kernel) ⟨Nat.le_of_ble_eq_true rfl, Nat.le_of_ble_eq_true rfl⟩) (pm_preV hw hs (pm_recv hw hq9 hf9 rfl)) rfl rfl hl.1 rfl (lv_room (Nat.le_of_ble_eq_true rfl)) dL_days_867 ⟨Nat.le_of_ble_eq_true rfl, Nat.le_of_ble_eq_true rfl⟩) (fun E9 ce9 q9 L9 f9 H9 locs9 he9 _ _ _ _ => False.elim he9) (fun r9 La fa Ha loca hp hw9 => ?_)
  clear hw hS fs9 hq9 hf9
  try clear locb Hb fb Lb
  have hw := hw9
  clear hw9
  obtain rfl : r9 = 365 := hp.1
  have hS : Wc g q9o dS19 19 La fa := hp.2
  clear hp
  refine lv_sipush (v := 365) hx hb dL_days_870 (by decide) ?_
  refine lv_icmp_ne (tgt := 910) hx hb dL_days_873 (by decide) (fun h9 => absurd h9 (by decide)) (fun _ => ?_)
  refine lv_aload_n hx hb dL_days_876 rfl (lv_at hl 0 rfl) ?_
  refine lv_iconst (v := 0) hx hb dL_days_877 (by decide) ?_
  refine lv_iconst (v := 0) hx hb dL_days_878 (by decide) ?_
  refine lv_bipush (v := 15) hx hb dL_days_879 (by decide) ?_
  obtain ⟨fs9, hq9, hf9⟩ := hS.rcv
  refine px_ic hw (vx_runV (As := [.int 0, .int 0, .int 15]) (rest := []) CF (z_rate l hst g _ _ hS 0 365 0 15 (by decide +kernel) (by decide +kernel) (by decide +kernel) (by decide +kernel) (by decide +kernel) (v := 365) (by decide +kernel) _) (cwV 3 hts gL_days_X6_rate rfl rfl rfl (by decide +kernel) ⟨Nat.le_of_ble_eq_true rfl, Nat.le_of_ble_eq_true rfl⟩) (pm_preV hw hs (pm_recv hw hq9 hf9 rfl)) rfl rfl hl.1 rfl (lv_room (Nat.le_of_ble_eq_true rfl)) dL_days_881 ⟨Nat.le_of_ble_eq_true rfl, Nat.le_of_ble_eq_true rfl⟩) (fun E9 ce9 q9 L9 f9 H9 locs9 he9 _ _ _ _ => False.elim he9) (fun r9 Lb fb Hb locb hp hw9 => ?_)
  clear hw hS fs9 hq9 hf9
  try clear loca Ha fa La
  have hw := hw9
  clear hw9
  obtain rfl : r9 = 365 := hp.1
  have hS : Wc g q9o dS19 19 Lb fb := hp.2
  clear hp
  refine lv_sipush (v := 365) hx hb dL_days_884 (by decide) ?_
  refine lv_icmp_ne (tgt := 910) hx hb dL_days_887 (by decide) (fun h9 => absurd h9 (by decide)) (fun _ => ?_)
  refine lv_aload_n hx hb dL_days_890 rfl (lv_at hl 0 rfl) ?_
  refine lv_iconst (v := 0) hx hb dL_days_891 (by decide) ?_
  obtain ⟨fs9, hq9, hf9⟩ := hS.rcv
  refine px_ic hw (vx_runV (As := [.int 0]) (rest := []) CF (z_bill l hst g _ _ hS 0 (by decide +kernel) dY19_0_16 (pd := 348) (pm := 348) (v := 0) (by decide +kernel) (by decide +kernel) (by decide +kernel) (S2 := dS20) rfl _) (cwV 1 hts gL_days_X6_bill rfl rfl rfl (by decide +kernel) ⟨Nat.le_of_ble_eq_true rfl, Nat.le_of_ble_eq_true rfl⟩) (pm_preV hw hs (pm_recv hw hq9 hf9 rfl)) rfl rfl hl.1 rfl (lv_room (Nat.le_of_ble_eq_true rfl)) dL_days_892 ⟨Nat.le_of_ble_eq_true rfl, Nat.le_of_ble_eq_true rfl⟩) (fun E9 ce9 q9 L9 f9 H9 locs9 he9 _ _ _ _ => False.elim he9) (fun r9 La fa Ha loca hp hw9 => ?_)
  clear hw hS fs9 hq9 hf9
  try clear locb Hb fb Lb
  have hw := hw9
  clear hw9
  obtain rfl : r9 = 0 := hp.1
  have hS : Wc g q9o dS20 20 La fa := hp.2
  clear hp
  refine lv_if_ne (tgt := 910) hx hb dL_days_895 (by decide) (fun h9 => absurd h9 (by decide)) (fun _ => ?_)
  refine lv_aload_n hx hb dL_days_898 rfl (lv_at hl 0 rfl) ?_
  refine lv_iconst (v := 1) hx hb dL_days_899 (by decide) ?_
  refine px_ic hw (vx_runS (As := [.ref q9o, .int 1]) (rest := []) CF (z_refuses l hst g _ _ hS (by decide) (by decide +kernel) (by decide +kernel) _) (va_cwS 2 hts gL_days_L_refuses rfl rfl rfl (by decide +kernel) ⟨Nat.le_of_ble_eq_true rfl, Nat.le_of_ble_eq_true rfl⟩) (pn_preS hw hs hN) rfl rfl hl.1 rfl (lv_room (Nat.le_of_ble_eq_true rfl)) dL_days_900 ⟨Nat.le_of_ble_eq_true rfl, Nat.le_of_ble_eq_true rfl⟩) (fun E9 ce9 q9 L9 f9 H9 locs9 he9 _ _ _ _ => False.elim he9) (fun r9 Lb fb Hb locb hp hw9 => ?_)
  clear hw hS
  try clear loca Ha fa La
  have hw := hw9
  clear hw9
  obtain rfl : r9 = 1 := hp.1
  have hS : Wc g q9o dS20 20 Lb fb := hp.2
  clear hp
  refine lv_if_eq (tgt := 910) hx hb dL_days_903 (by decide) (fun h9 => absurd h9 (by decide)) (fun _ => ?_)
  refine lv_iconst (v := 1) hx hb dL_days_906 (by decide) ?_
  refine lv_goto (tgt := 911) hx hb dL_days_907 (by decide) ?_
  exact vx_ret (pr_i (v := 1) hx hb hr hlocks hw rfl ⟨Nat.le_of_ble_eq_true rfl, Nat.le_of_ble_eq_true rfl⟩ rfl dL_days_911)
end DAYS
