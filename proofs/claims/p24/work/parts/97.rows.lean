/-! rows() -/
section ROWS
set_option maxHeartbeats 8000000 in
set_option maxRecDepth 100000 in
theorem l_rows (l : Launch) (hst : l.stackTraces = false) (g : GE) (L : List Nat) (f : Nat → va_E) : Ni l yL_rows wsL_rows (rmH 12 2157 138506) g L f [] (fun r _ => r = 1) 2157 138506 := by
  intro sz
  refine vx_ofW (cc := cL_rows) (maxL := 2) (ret := some .boolean) (by decide) rfl ?_
  intro p e s m args below meth c s₁ B hml htab hv
  obtain ⟨rfl, hv⟩ := hv
  have hx := B.exec
  have hb := B.bytes
  have hr := B.returns
  have hts := atoms_spec (ws := wsL_rows) B.pre
  have hown : s.vm.findClass RL = some m.cls := findClass_of_methodNamed B.named
  have hlocks := B.notSynchronized
  obtain ⟨⟨rfl, hw, hs⟩, hN⟩ := pn_begin hv
  generalize va_A (va_pl L f) s.heap.size = A at hw hs ⊢
  have CF := (⟨hx, hb, hml, hown, hts⟩ : CallFix p m c cL_rows 2 s _ wsL_rows RL)
  have hl := lv_entry ([] : List Value) (n := 2) (Nat.le_of_ble_eq_true rfl)
  rw [lg_entry_eq]
  generalize (lg_sl ([] : List Value) ++ List.replicate (2 - (lg_sl ([] : List Value)).length) Slot.unset).toArray = ls at hl ⊢
  have hin_X6 : ∀ w ∈ wsX60, w ∈ wsL_rows := by decide +kernel
  have hl : lv_has ls 2 ([] : List (Nat × Value)) := hl
  refine pm_new (ci := 8) (fs := [.null, .null, .null, .null, .null, .int 0]) (C := RX6) (T := TX6) (N := 6) hx hb hts hin_X6 tyX6 tyX6_ok hown (hts (.classLink RL 8 RX6) (by decide +kernel)) (hts (.instantiable RX6 6) (by decide +kernel)) (hts (.initialized RX6) (by decide +kernel)) hw rfl (fun j hj => by rcases (show j = 0 ∨ j = 1 ∨ j = 2 ∨ j = 3 ∨ j = 4 ∨ j = 5 by omega) with rfl | rfl | rfl | rfl | rfl | rfl <;> rfl) (Nat.le_of_ble_eq_true rfl) (Nat.le_of_ble_eq_true rfl) dL_rows_0 (fun q9o Hn hq hwa => ?_)
  refine lv_dup hx hb dL_rows_3 rfl ?_
  refine pc_v hwa (va_runI (As := []) (rest := [.ref q9o]) CF (c_Backdater_init l g _ _ q9o (List.mem_append_right _ (List.mem_singleton.mpr rfl)) pu_s _) (cwI 0 hts gL_rows_X6_init rfl rfl rfl (hts (.initialized RX6) (by decide +kernel)) (hts (.methodLink RL 94 yX6_init) (by decide +kernel)) (hts (.instanceMethod yX6_init) (by decide +kernel)) rfl (by decide +kernel) ⟨Nat.le_of_ble_eq_true rfl, Nat.le_of_ble_eq_true rfl⟩) (pm_preS hwa hs) rfl rfl hl.1 rfl (lv_room (Nat.le_of_ble_eq_true rfl)) dL_rows_4 ⟨Nat.le_of_ble_eq_true rfl, Nat.le_of_ble_eq_true rfl⟩) (fun Lb fb Hb locb hp hw => ?_)
  obtain ⟨a9, ha9, -, hk9⟩ := hp
  have hS : Wc g q9o rS0 0 Lb fb := wc_new ha9 hk9
  clear hwa ha9 hk9 a9
  refine lv_astore_n (lv' := [(0, .ref q9o)]) hx hb dL_rows_7 rfl hl (by decide) rfl (fun ls hl => ?_)
  refine lv_iconst (v := 0) hx hb dL_rows_8 (by decide) ?_
  refine lv_istore_n (lv' := [(1, .int 0), (0, .ref q9o)]) hx hb dL_rows_9 rfl hl (by decide) rfl (fun ls hl => ?_)
  refine lv_iload_n hx hb dL_rows_10 rfl (lv_at hl 0 rfl) ?_
  refine lv_iconst (v := 5) hx hb dL_rows_11 (by decide) ?_
  refine lv_icmp_ge (tgt := 50) hx hb dL_rows_12 (by decide) (fun h9 => absurd h9 (by decide)) (fun _ => ?_)
  refine lv_aload_n hx hb dL_rows_15 rfl (lv_at hl 1 rfl) ?_
  refine lv_iconst (v := 0) hx hb dL_rows_16 (by decide) ?_
  refine lv_sipush (v := 1000) hx hb dL_rows_17 (by decide) ?_
  refine lv_iload_n hx hb dL_rows_20 rfl (lv_at hl 0 rfl) ?_
  refine lv_isub hx hb dL_rows_21 ?_
  refine lv_topi (fun z9 hz9 => ?_)
  obtain rfl : z9 = 1000 := hz9.trans (by decide)
  refine lv_iconst (v := 0) hx hb dL_rows_22 (by decide) ?_
  refine lv_iconst (v := 0) hx hb dL_rows_23 (by decide) ?_
  refine lv_iconst (v := 0) hx hb dL_rows_24 (by decide) ?_
  refine px_ic hw (vx_runSX (As := [.ref q9o, .int 0, .int 1000, .int 0, .int 0, .int 0]) (rest := []) CF (za_open l hst g _ _ hS 1000 (by decide +kernel) (by decide +kernel) (by decide +kernel) (v := 0) (by decide +kernel) (S2 := rS1) rfl _) (vx_cwSW 6 hts gL_rows_L_act rfl rfl rfl (by decide +kernel) ⟨Nat.le_of_ble_eq_true rfl, Nat.le_of_ble_eq_true rfl⟩) (pn_preS hw hs hN) rfl rfl hl.1 rfl (lv_room (Nat.le_of_ble_eq_true rfl)) dL_rows_25 ⟨Nat.le_of_ble_eq_true rfl, Nat.le_of_ble_eq_true rfl⟩) (fun E9 ce9 q9 L9 f9 H9 locs9 he9 _ _ _ _ => False.elim he9) (fun r9 La fa Ha loca hp hw9 => ?_)
  clear hw hS
  try clear locb Hb fb Lb
  have hw := hw9
  clear hw9
  obtain rfl : r9 = 0 := hp.1
  have hS : Wc g q9o rS1 1 La fa := hp.2
  clear hp
  refine lv_iload_n hx hb dL_rows_28 rfl (lv_at hl 0 rfl) ?_
  refine lv_iconst (v := 4) hx hb dL_rows_29 (by decide) ?_
  refine lv_icmp_ge (tgt := 37) hx hb dL_rows_30 (by decide) (fun h9 => absurd h9 (by decide)) (fun _ => ?_)
  refine lv_iload_n hx hb dL_rows_33 rfl (lv_at hl 0 rfl) ?_
  refine lv_goto (tgt := 39) hx hb dL_rows_34 (by decide) ?_
  refine lv_icmp_eq (tgt := 44) hx hb dL_rows_39 (by decide) (fun _ => ?_) (fun h9 => absurd h9 (by decide))
  refine lv_iinc (v := 1) (lv' := [(1, .int 1), (0, .ref q9o)]) hx hb dL_rows_44 hl (k := 0) rfl (by decide) (by decide) rfl (fun ls hl => ?_)
  refine lv_goto (tgt := 10) hx hb dL_rows_47 (by decide) ?_
  refine lv_iload_n hx hb dL_rows_10 rfl (lv_at hl 0 rfl) ?_
  refine lv_iconst (v := 5) hx hb dL_rows_11 (by decide) ?_
  refine lv_icmp_ge (tgt := 50) hx hb dL_rows_12 (by decide) (fun h9 => absurd h9 (by decide)) (fun _ => ?_)
  refine lv_aload_n hx hb dL_rows_15 rfl (lv_at hl 1 rfl) ?_
  refine lv_iconst (v := 0) hx hb dL_rows_16 (by decide) ?_
  refine lv_sipush (v := 1000) hx hb dL_rows_17 (by decide) ?_
  refine lv_iload_n hx hb dL_rows_20 rfl (lv_at hl 0 rfl) ?_
  refine lv_isub hx hb dL_rows_21 ?_
  refine lv_topi (fun z9 hz9 => ?_)
  obtain rfl : z9 = 999 := hz9.trans (by decide)
  refine lv_iconst (v := 0) hx hb dL_rows_22 (by decide) ?_
  refine lv_iconst (v := 0) hx hb dL_rows_23 (by decide) ?_
  refine lv_iconst (v := 0) hx hb dL_rows_24 (by decide) ?_
  refine px_ic hw (vx_runSX (As := [.ref q9o, .int 0, .int 999, .int 0, .int 0, .int 0]) (rest := []) CF (za_open l hst g _ _ hS 999 (by decide +kernel) (by decide +kernel) (by decide +kernel) (v := 1) (by decide +kernel) (S2 := rS2) rfl _) (vx_cwSW 6 hts gL_rows_L_act rfl rfl rfl (by decide +kernel) ⟨Nat.le_of_ble_eq_true rfl, Nat.le_of_ble_eq_true rfl⟩) (pn_preS hw hs hN) rfl rfl hl.1 rfl (lv_room (Nat.le_of_ble_eq_true rfl)) dL_rows_25 ⟨Nat.le_of_ble_eq_true rfl, Nat.le_of_ble_eq_true rfl⟩) (fun E9 ce9 q9 L9 f9 H9 locs9 he9 _ _ _ _ => False.elim he9) (fun r9 Lb fb Hb locb hp hw9 => ?_)
  clear hw hS
  try clear loca Ha fa La
  have hw := hw9
  clear hw9
  obtain rfl : r9 = 1 := hp.1
  have hS : Wc g q9o rS2 2 Lb fb := hp.2
  clear hp
  refine lv_iload_n hx hb dL_rows_28 rfl (lv_at hl 0 rfl) ?_
  refine lv_iconst (v := 4) hx hb dL_rows_29 (by decide) ?_
  refine lv_icmp_ge (tgt := 37) hx hb dL_rows_30 (by decide) (fun h9 => absurd h9 (by decide)) (fun _ => ?_)
  refine lv_iload_n hx hb dL_rows_33 rfl (lv_at hl 0 rfl) ?_
  refine lv_goto (tgt := 39) hx hb dL_rows_34 (by decide) ?_
  refine lv_icmp_eq (tgt := 44) hx hb dL_rows_39 (by decide) (fun _ => ?_) (fun h9 => absurd h9 (by decide))
  refine lv_iinc (v := 2) (lv' := [(1, .int 2), (0, .ref q9o)]) hx hb dL_rows_44 hl (k := 0) rfl (by decide) (by decide) rfl (fun ls hl => ?_)
  refine lv_goto (tgt := 10) hx hb dL_rows_47 (by decide) ?_
  refine lv_iload_n hx hb dL_rows_10 rfl (lv_at hl 0 rfl) ?_
  refine lv_iconst (v := 5) hx hb dL_rows_11 (by decide) ?_
  refine lv_icmp_ge (tgt := 50) hx hb dL_rows_12 (by decide) (fun h9 => absurd h9 (by decide)) (fun _ => ?_)
  refine lv_aload_n hx hb dL_rows_15 rfl (lv_at hl 1 rfl) ?_
  refine lv_iconst (v := 0) hx hb dL_rows_16 (by decide) ?_
  refine lv_sipush (v := 1000) hx hb dL_rows_17 (by decide) ?_
  refine lv_iload_n hx hb dL_rows_20 rfl (lv_at hl 0 rfl) ?_
  refine lv_isub hx hb dL_rows_21 ?_
  refine lv_topi (fun z9 hz9 => ?_)
  obtain rfl : z9 = 998 := hz9.trans (by decide)
  refine lv_iconst (v := 0) hx hb dL_rows_22 (by decide) ?_
  refine lv_iconst (v := 0) hx hb dL_rows_23 (by decide) ?_
  refine lv_iconst (v := 0) hx hb dL_rows_24 (by decide) ?_
  refine px_ic hw (vx_runSX (As := [.ref q9o, .int 0, .int 998, .int 0, .int 0, .int 0]) (rest := []) CF (za_open l hst g _ _ hS 998 (by decide +kernel) (by decide +kernel) (by decide +kernel) (v := 2) (by decide +kernel) (S2 := rS3) rfl _) (vx_cwSW 6 hts gL_rows_L_act rfl rfl rfl (by decide +kernel) ⟨Nat.le_of_ble_eq_true rfl, Nat.le_of_ble_eq_true rfl⟩) (pn_preS hw hs hN) rfl rfl hl.1 rfl (lv_room (Nat.le_of_ble_eq_true rfl)) dL_rows_25 ⟨Nat.le_of_ble_eq_true rfl, Nat.le_of_ble_eq_true rfl⟩) (fun E9 ce9 q9 L9 f9 H9 locs9 he9 _ _ _ _ => False.elim he9) (fun r9 La fa Ha loca hp hw9 => ?_)
  clear hw hS
  try clear locb Hb fb Lb
  have hw := hw9
  clear hw9
  obtain rfl : r9 = 2 := hp.1
  have hS : Wc g q9o rS3 3 La fa := hp.2
  clear hp
  refine lv_iload_n hx hb dL_rows_28 rfl (lv_at hl 0 rfl) ?_
  refine lv_iconst (v := 4) hx hb dL_rows_29 (by decide) ?_
  refine lv_icmp_ge (tgt := 37) hx hb dL_rows_30 (by decide) (fun h9 => absurd h9 (by decide)) (fun _ => ?_)
  refine lv_iload_n hx hb dL_rows_33 rfl (lv_at hl 0 rfl) ?_
  refine lv_goto (tgt := 39) hx hb dL_rows_34 (by decide) ?_
  refine lv_icmp_eq (tgt := 44) hx hb dL_rows_39 (by decide) (fun _ => ?_) (fun h9 => absurd h9 (by decide))
  refine lv_iinc (v := 3) (lv' := [(1, .int 3), (0, .ref q9o)]) hx hb dL_rows_44 hl (k := 0) rfl (by decide) (by decide) rfl (fun ls hl => ?_)
  refine lv_goto (tgt := 10) hx hb dL_rows_47 (by decide) ?_
  refine lv_iload_n hx hb dL_rows_10 rfl (lv_at hl 0 rfl) ?_
  refine lv_iconst (v := 5) hx hb dL_rows_11 (by decide) ?_
  refine lv_icmp_ge (tgt := 50) hx hb dL_rows_12 (by decide) (fun h9 => absurd h9 (by decide)) (fun _ => ?_)
  refine lv_aload_n hx hb dL_rows_15 rfl (lv_at hl 1 rfl) ?_
  refine lv_iconst (v := 0) hx hb dL_rows_16 (by decide) ?_
  refine lv_sipush (v := 1000) hx hb dL_rows_17 (by decide) ?_
  refine lv_iload_n hx hb dL_rows_20 rfl (lv_at hl 0 rfl) ?_
  refine lv_isub hx hb dL_rows_21 ?_
  refine lv_topi (fun z9 hz9 => ?_)
  obtain rfl : z9 = 997 := hz9.trans (by decide)
  refine lv_iconst (v := 0) hx hb dL_rows_22 (by decide) ?_
  refine lv_iconst (v := 0) hx hb dL_rows_23 (by decide) ?_
  refine lv_iconst (v := 0) hx hb dL_rows_24 (by decide) ?_
  refine px_ic hw (vx_runSX (As := [.ref q9o, .int 0, .int 997, .int 0, .int 0, .int 0]) (rest := []) CF (za_open l hst g _ _ hS 997 (by decide +kernel) (by decide +kernel) (by decide +kernel) (v := 3) (by decide +kernel) (S2 := rS4) rfl _) (vx_cwSW 6 hts gL_rows_L_act rfl rfl rfl (by decide +kernel) ⟨Nat.le_of_ble_eq_true rfl, Nat.le_of_ble_eq_true rfl⟩) (pn_preS hw hs hN) rfl rfl hl.1 rfl (lv_room (Nat.le_of_ble_eq_true rfl)) dL_rows_25 ⟨Nat.le_of_ble_eq_true rfl, Nat.le_of_ble_eq_true rfl⟩) (fun E9 ce9 q9 L9 f9 H9 locs9 he9 _ _ _ _ => False.elim he9) (fun r9 Lb fb Hb locb hp hw9 => ?_)
  clear hw hS
  try clear loca Ha fa La
  have hw := hw9
  clear hw9
  obtain rfl : r9 = 3 := hp.1
  have hS : Wc g q9o rS4 4 Lb fb := hp.2
  clear hp
  refine lv_iload_n hx hb dL_rows_28 rfl (lv_at hl 0 rfl) ?_
  refine lv_iconst (v := 4) hx hb dL_rows_29 (by decide) ?_
  refine lv_icmp_ge (tgt := 37) hx hb dL_rows_30 (by decide) (fun h9 => absurd h9 (by decide)) (fun _ => ?_)
  refine lv_iload_n hx hb dL_rows_33 rfl (lv_at hl 0 rfl) ?_
  refine lv_goto (tgt := 39) hx hb dL_rows_34 (by decide) ?_
  refine lv_icmp_eq (tgt := 44) hx hb dL_rows_39 (by decide) (fun _ => ?_) (fun h9 => absurd h9 (by decide))
  refine lv_iinc (v := 4) (lv' := [(1, .int 4), (0, .ref q9o)]) hx hb dL_rows_44 hl (k := 0) rfl (by decide) (by decide) rfl (fun ls hl => ?_)
  refine lv_goto (tgt := 10) hx hb dL_rows_47 (by decide) ?_
  refine lv_iload_n hx hb dL_rows_10 rfl (lv_at hl 0 rfl) ?_
  refine lv_iconst (v := 5) hx hb dL_rows_11 (by decide) ?_
  refine lv_icmp_ge (tgt := 50) hx hb dL_rows_12 (by decide) (fun h9 => absurd h9 (by decide)) (fun _ => ?_)
  refine lv_aload_n hx hb dL_rows_15 rfl (lv_at hl 1 rfl) ?_
  refine lv_iconst (v := 0) hx hb dL_rows_16 (by decide) ?_
  refine lv_sipush (v := 1000) hx hb dL_rows_17 (by decide) ?_
  refine lv_iload_n hx hb dL_rows_20 rfl (lv_at hl 0 rfl) ?_
  refine lv_isub hx hb dL_rows_21 ?_
  refine lv_topi (fun z9 hz9 => ?_)
  obtain rfl : z9 = 996 := hz9.trans (by decide)
  refine lv_iconst (v := 0) hx hb dL_rows_22 (by decide) ?_
  refine lv_iconst (v := 0) hx hb dL_rows_23 (by decide) ?_
  refine lv_iconst (v := 0) hx hb dL_rows_24 (by decide) ?_
  refine px_ic hw (vx_runSX (As := [.ref q9o, .int 0, .int 996, .int 0, .int 0, .int 0]) (rest := []) CF (za_open4 l hst g _ _ hS (by decide) (by decide +kernel) _) (vx_cwSW 6 hts gL_rows_L_act rfl rfl rfl (by decide +kernel) ⟨Nat.le_of_ble_eq_true rfl, Nat.le_of_ble_eq_true rfl⟩) (pn_preS hw hs hN) rfl rfl hl.1 rfl (lv_room (Nat.le_of_ble_eq_true rfl)) dL_rows_25 ⟨Nat.le_of_ble_eq_true rfl, Nat.le_of_ble_eq_true rfl⟩) (fun E9 ce9 q9 L9 f9 H9 locs9 he9 _ _ _ _ => False.elim he9) (fun r9 La fa Ha loca hp hw9 => ?_)
  clear hw hS
  try clear locb Hb fb Lb
  have hw := hw9
  clear hw9
  obtain rfl : r9 = (-90000003) := hp.1
  have hS : Wc g q9o rS4 4 La fa := hp.2
  clear hp
  refine lv_iload_n hx hb dL_rows_28 rfl (lv_at hl 0 rfl) ?_
  refine lv_iconst (v := 4) hx hb dL_rows_29 (by decide) ?_
  refine lv_icmp_ge (tgt := 37) hx hb dL_rows_30 (by decide) (fun _ => ?_) (fun h9 => absurd h9 (by decide))
  refine lv_ldc (v := (-90000003)) hx hb hown (hts (.constant RL 79 (-90000003)) (by decide +kernel)) dL_rows_37 ?_
  refine lv_icmp_eq (tgt := 44) hx hb dL_rows_39 (by decide) (fun _ => ?_) (fun h9 => absurd h9 (by decide))
  refine lv_iinc (v := 5) (lv' := [(1, .int 5), (0, .ref q9o)]) hx hb dL_rows_44 hl (k := 0) rfl (by decide) (by decide) rfl (fun ls hl => ?_)
  refine lv_goto (tgt := 10) hx hb dL_rows_47 (by decide) ?_
  refine lv_iload_n hx hb dL_rows_10 rfl (lv_at hl 0 rfl) ?_
  refine lv_iconst (v := 5) hx hb dL_rows_11 (by decide) ?_
  refine lv_icmp_ge (tgt := 50) hx hb dL_rows_12 (by decide) (fun _ => ?_) (fun h9 => absurd h9 (by decide))
  refine lv_aload_n hx hb dL_rows_50 rfl (lv_at hl 1 rfl) ?_
  refine lv_iconst (v := 1) hx hb dL_rows_51 (by decide) ?_
  refine lv_bipush (v := 100) hx hb dL_rows_52 (by decide) ?_
  refine lv_bipush (v := 10) hx hb dL_rows_54 (by decide) ?_
  obtain ⟨fs9, hq9, hf9⟩ := hS.rcv
  refine px_ic hw (vx_runV (As := [.int 1, .int 100, .int 10]) (rest := []) CF (z_setWeight l hst g _ _ hS 1 100 10 (by decide +kernel) (by decide +kernel) (by decide +kernel) (by unfold okT; decide +kernel) (by decide +kernel) (v := 1) (by decide +kernel) (S2 := rS5) rfl _) (cwV 3 hts gL_rows_X6_setWeight rfl rfl rfl (by decide +kernel) ⟨Nat.le_of_ble_eq_true rfl, Nat.le_of_ble_eq_true rfl⟩) (pm_preV hw hs (pm_recv hw hq9 hf9 rfl)) rfl rfl hl.1 rfl (lv_room (Nat.le_of_ble_eq_true rfl)) dL_rows_56 ⟨Nat.le_of_ble_eq_true rfl, Nat.le_of_ble_eq_true rfl⟩) (fun E9 ce9 q9 L9 f9 H9 locs9 he9 _ _ _ _ => False.elim he9) (fun r9 Lb fb Hb locb hp hw9 => ?_)
  clear hw hS fs9 hq9 hf9
  try clear loca Ha fa La
  have hw := hw9
  clear hw9
  obtain rfl : r9 = 1 := hp.1
  have hS : Wc g q9o rS5 5 Lb fb := hp.2
  clear hp
  refine lv_iconst (v := 1) hx hb dL_rows_59 (by decide) ?_
  refine lv_icmp_ne (tgt := 323) hx hb dL_rows_60 (by decide) (fun h9 => absurd h9 (by decide)) (fun _ => ?_)
  refine lv_aload_n hx hb dL_rows_63 rfl (lv_at hl 1 rfl) ?_
  refine lv_iconst (v := 1) hx hb dL_rows_64 (by decide) ?_
  refine lv_bipush (v := 50) hx hb dL_rows_65 (by decide) ?_
  refine lv_bipush (v := 10) hx hb dL_rows_67 (by decide) ?_
  obtain ⟨fs9, hq9, hf9⟩ := hS.rcv
  refine px_ic hw (vx_runV (As := [.int 1, .int 50, .int 10]) (rest := []) CF (z_setWeight l hst g _ _ hS 1 50 10 (by decide +kernel) (by decide +kernel) (by decide +kernel) (by unfold okT; decide +kernel) (by decide +kernel) (v := 2) (by decide +kernel) (S2 := rS6) rfl _) (cwV 3 hts gL_rows_X6_setWeight rfl rfl rfl (by decide +kernel) ⟨Nat.le_of_ble_eq_true rfl, Nat.le_of_ble_eq_true rfl⟩) (pm_preV hw hs (pm_recv hw hq9 hf9 rfl)) rfl rfl hl.1 rfl (lv_room (Nat.le_of_ble_eq_true rfl)) dL_rows_69 ⟨Nat.le_of_ble_eq_true rfl, Nat.le_of_ble_eq_true rfl⟩) (fun E9 ce9 q9 L9 f9 H9 locs9 he9 _ _ _ _ => False.elim he9) (fun r9 La fa Ha loca hp hw9 => ?_)
  clear hw hS fs9 hq9 hf9
  try clear locb Hb fb Lb
  have hw := hw9
  clear hw9
  obtain rfl : r9 = 2 := hp.1
  have hS : Wc g q9o rS6 6 La fa := hp.2
  clear hp
  refine lv_iconst (v := 2) hx hb dL_rows_72 (by decide) ?_
  refine lv_icmp_ne (tgt := 323) hx hb dL_rows_73 (by decide) (fun h9 => absurd h9 (by decide)) (fun _ => ?_)
  refine lv_aload_n hx hb dL_rows_76 rfl (lv_at hl 1 rfl) ?_
  refine lv_iconst (v := 1) hx hb dL_rows_77 (by decide) ?_
  refine lv_bipush (v := 7) hx hb dL_rows_78 (by decide) ?_
  refine lv_iconst (v := 5) hx hb dL_rows_80 (by decide) ?_
  obtain ⟨fs9, hq9, hf9⟩ := hS.rcv
  refine px_ic hw (vx_runV (As := [.int 1, .int 7, .int 5]) (rest := []) CF (z_setWeight l hst g _ _ hS 1 7 5 (by decide +kernel) (by decide +kernel) (by decide +kernel) (by unfold okT; decide +kernel) (by decide +kernel) (v := 3) (by decide +kernel) (S2 := rS7) rfl _) (cwV 3 hts gL_rows_X6_setWeight rfl rfl rfl (by decide +kernel) ⟨Nat.le_of_ble_eq_true rfl, Nat.le_of_ble_eq_true rfl⟩) (pm_preV hw hs (pm_recv hw hq9 hf9 rfl)) rfl rfl hl.1 rfl (lv_room (Nat.le_of_ble_eq_true rfl)) dL_rows_81 ⟨Nat.le_of_ble_eq_true rfl, Nat.le_of_ble_eq_true rfl⟩) (fun E9 ce9 q9 L9 f9 H9 locs9 he9 _ _ _ _ => False.elim he9) (fun r9 Lb fb Hb locb hp hw9 => ?_)
  clear hw hS fs9 hq9 hf9
  try clear loca Ha fa La
  have hw := hw9
  clear hw9
  obtain rfl : r9 = 3 := hp.1
  have hS : Wc g q9o rS7 7 Lb fb := hp.2
  clear hp
  refine lv_iconst (v := 3) hx hb dL_rows_84 (by decide) ?_
  refine lv_icmp_ne (tgt := 323) hx hb dL_rows_85 (by decide) (fun h9 => absurd h9 (by decide)) (fun _ => ?_)
  refine lv_aload_n hx hb dL_rows_88 rfl (lv_at hl 1 rfl) ?_
  refine lv_iconst (v := 3) hx hb dL_rows_89 (by decide) ?_
  refine lv_iconst (v := 1) hx hb dL_rows_90 (by decide) ?_
  refine lv_iconst (v := 0) hx hb dL_rows_91 (by decide) ?_
  refine lv_bipush (v := 20) hx hb dL_rows_92 (by decide) ?_
  obtain ⟨fs9, hq9, hf9⟩ := hS.rcv
  refine px_ic hw (vx_runV (As := [.int 3, .int 1, .int 0, .int 20]) (rest := []) CF (z_change l hst g _ _ hS 3 1 0 40 (by decide +kernel) (by decide +kernel) (by decide +kernel) (by decide +kernel) (by decide +kernel) (by unfold okC; decide +kernel) (by decide +kernel) (v := 0) (by decide +kernel) (S2 := rS8) rfl _) (cwV 4 hts gL_rows_X6_change rfl rfl rfl (by decide +kernel) ⟨Nat.le_of_ble_eq_true rfl, Nat.le_of_ble_eq_true rfl⟩) (pm_preV hw hs (pm_recv hw hq9 hf9 rfl)) rfl rfl hl.1 rfl (lv_room (Nat.le_of_ble_eq_true rfl)) dL_rows_94 ⟨Nat.le_of_ble_eq_true rfl, Nat.le_of_ble_eq_true rfl⟩) (fun E9 ce9 q9 L9 f9 H9 locs9 he9 _ _ _ _ => False.elim he9) (fun r9 La fa Ha loca hp hw9 => ?_)
  clear hw hS fs9 hq9 hf9
  try clear locb Hb fb Lb
  have hw := hw9
  clear hw9
  obtain rfl : r9 = 0 := hp.1
  have hS : Wc g q9o rS8 8 La fa := hp.2
  clear hp
  refine lv_if_ne (tgt := 323) hx hb dL_rows_97 (by decide) (fun h9 => absurd h9 (by decide)) (fun _ => ?_)
  refine lv_aload_n hx hb dL_rows_100 rfl (lv_at hl 1 rfl) ?_
  refine lv_iconst (v := 3) hx hb dL_rows_101 (by decide) ?_
  refine lv_iconst (v := 4) hx hb dL_rows_102 (by decide) ?_
  refine lv_iconst (v := 0) hx hb dL_rows_103 (by decide) ?_
  obtain ⟨fs9, hq9, hf9⟩ := hS.rcv
  refine px_ic hw (vx_runV (As := [.int 3, .int 4, .int 0]) (rest := []) CF (z_rate l hst g _ _ hS 3 997 4 0 (by decide +kernel) (by decide +kernel) (by decide +kernel) (by decide +kernel) (by decide +kernel) (v := 1017) (by decide +kernel) _) (cwV 3 hts gL_rows_X6_rate rfl rfl rfl (by decide +kernel) ⟨Nat.le_of_ble_eq_true rfl, Nat.le_of_ble_eq_true rfl⟩) (pm_preV hw hs (pm_recv hw hq9 hf9 rfl)) rfl rfl hl.1 rfl (lv_room (Nat.le_of_ble_eq_true rfl)) dL_rows_104 ⟨Nat.le_of_ble_eq_true rfl, Nat.le_of_ble_eq_true rfl⟩) (fun E9 ce9 q9 L9 f9 H9 locs9 he9 _ _ _ _ => False.elim he9) (fun r9 Lb fb Hb locb hp hw9 => ?_)
  clear hw hS fs9 hq9 hf9
  try clear loca Ha fa La
  have hw := hw9
  clear hw9
  obtain rfl : r9 = 1017 := hp.1
  have hS : Wc g q9o rS8 8 Lb fb := hp.2
  clear hp
  refine lv_sipush (v := 1017) hx hb dL_rows_107 (by decide) ?_
  refine lv_icmp_ne (tgt := 323) hx hb dL_rows_110 (by decide) (fun h9 => absurd h9 (by decide)) (fun _ => ?_)
  refine lv_aload_n hx hb dL_rows_113 rfl (lv_at hl 1 rfl) ?_
  refine lv_iconst (v := 3) hx hb dL_rows_114 (by decide) ?_
  refine lv_iconst (v := 5) hx hb dL_rows_115 (by decide) ?_
  refine lv_iconst (v := 0) hx hb dL_rows_116 (by decide) ?_
  obtain ⟨fs9, hq9, hf9⟩ := hS.rcv
  refine px_ic hw (vx_runV (As := [.int 3, .int 5, .int 0]) (rest := []) CF (z_rate l hst g _ _ hS 3 997 5 0 (by decide +kernel) (by decide +kernel) (by decide +kernel) (by decide +kernel) (by decide +kernel) (v := 1137) (by decide +kernel) _) (cwV 3 hts gL_rows_X6_rate rfl rfl rfl (by decide +kernel) ⟨Nat.le_of_ble_eq_true rfl, Nat.le_of_ble_eq_true rfl⟩) (pm_preV hw hs (pm_recv hw hq9 hf9 rfl)) rfl rfl hl.1 rfl (lv_room (Nat.le_of_ble_eq_true rfl)) dL_rows_117 ⟨Nat.le_of_ble_eq_true rfl, Nat.le_of_ble_eq_true rfl⟩) (fun E9 ce9 q9 L9 f9 H9 locs9 he9 _ _ _ _ => False.elim he9) (fun r9 La fa Ha loca hp hw9 => ?_)
  clear hw hS fs9 hq9 hf9
  try clear locb Hb fb Lb
  have hw := hw9
  clear hw9
  obtain rfl : r9 = 1137 := hp.1
  have hS : Wc g q9o rS8 8 La fa := hp.2
  clear hp
  refine lv_sipush (v := 1137) hx hb dL_rows_120 (by decide) ?_
  refine lv_icmp_ne (tgt := 323) hx hb dL_rows_123 (by decide) (fun h9 => absurd h9 (by decide)) (fun _ => ?_)
  refine lv_aload_n hx hb dL_rows_126 rfl (lv_at hl 1 rfl) ?_
  refine lv_iconst (v := 3) hx hb dL_rows_127 (by decide) ?_
  refine lv_bipush (v := 9) hx hb dL_rows_128 (by decide) ?_
  refine lv_iconst (v := 0) hx hb dL_rows_130 (by decide) ?_
  obtain ⟨fs9, hq9, hf9⟩ := hS.rcv
  refine px_ic hw (vx_runV (As := [.int 3, .int 9, .int 0]) (rest := []) CF (z_rate l hst g _ _ hS 3 997 9 0 (by decide +kernel) (by decide +kernel) (by decide +kernel) (by decide +kernel) (by decide +kernel) (v := 1137) (by decide +kernel) _) (cwV 3 hts gL_rows_X6_rate rfl rfl rfl (by decide +kernel) ⟨Nat.le_of_ble_eq_true rfl, Nat.le_of_ble_eq_true rfl⟩) (pm_preV hw hs (pm_recv hw hq9 hf9 rfl)) rfl rfl hl.1 rfl (lv_room (Nat.le_of_ble_eq_true rfl)) dL_rows_131 ⟨Nat.le_of_ble_eq_true rfl, Nat.le_of_ble_eq_true rfl⟩) (fun E9 ce9 q9 L9 f9 H9 locs9 he9 _ _ _ _ => False.elim he9) (fun r9 Lb fb Hb locb hp hw9 => ?_)
  clear hw hS fs9 hq9 hf9
  try clear loca Ha fa La
  have hw := hw9
  clear hw9
  obtain rfl : r9 = 1137 := hp.1
  have hS : Wc g q9o rS8 8 Lb fb := hp.2
  clear hp
  refine lv_sipush (v := 1137) hx hb dL_rows_134 (by decide) ?_
  refine lv_icmp_ne (tgt := 323) hx hb dL_rows_137 (by decide) (fun h9 => absurd h9 (by decide)) (fun _ => ?_)
  refine lv_aload_n hx hb dL_rows_140 rfl (lv_at hl 1 rfl) ?_
  refine lv_iconst (v := 3) hx hb dL_rows_141 (by decide) ?_
  refine lv_bipush (v := 10) hx hb dL_rows_142 (by decide) ?_
  refine lv_iconst (v := 0) hx hb dL_rows_144 (by decide) ?_
  obtain ⟨fs9, hq9, hf9⟩ := hS.rcv
  refine px_ic hw (vx_runV (As := [.int 3, .int 10, .int 0]) (rest := []) CF (z_rate l hst g _ _ hS 3 997 10 0 (by decide +kernel) (by decide +kernel) (by decide +kernel) (by decide +kernel) (by decide +kernel) (v := 1997) (by decide +kernel) _) (cwV 3 hts gL_rows_X6_rate rfl rfl rfl (by decide +kernel) ⟨Nat.le_of_ble_eq_true rfl, Nat.le_of_ble_eq_true rfl⟩) (pm_preV hw hs (pm_recv hw hq9 hf9 rfl)) rfl rfl hl.1 rfl (lv_room (Nat.le_of_ble_eq_true rfl)) dL_rows_145 ⟨Nat.le_of_ble_eq_true rfl, Nat.le_of_ble_eq_true rfl⟩) (fun E9 ce9 q9 L9 f9 H9 locs9 he9 _ _ _ _ => False.elim he9) (fun r9 La fa Ha loca hp hw9 => ?_)
  clear hw hS fs9 hq9 hf9
  try clear locb Hb fb Lb
  have hw := hw9
  clear hw9
  obtain rfl : r9 = 1997 := hp.1
  have hS : Wc g q9o rS8 8 La fa := hp.2
  clear hp
  refine lv_sipush (v := 1997) hx hb dL_rows_148 (by decide) ?_
  refine lv_icmp_ne (tgt := 323) hx hb dL_rows_151 (by decide) (fun h9 => absurd h9 (by decide)) (fun _ => ?_)
  refine lv_aload_n hx hb dL_rows_154 rfl (lv_at hl 1 rfl) ?_
  refine lv_iconst (v := 2) hx hb dL_rows_155 (by decide) ?_
  refine lv_bipush (v := 10) hx hb dL_rows_156 (by decide) ?_
  refine lv_iconst (v := 0) hx hb dL_rows_158 (by decide) ?_
  obtain ⟨fs9, hq9, hf9⟩ := hS.rcv
  refine px_ic hw (vx_runV (As := [.int 2, .int 10, .int 0]) (rest := []) CF (z_rate l hst g _ _ hS 2 998 10 0 (by decide +kernel) (by decide +kernel) (by decide +kernel) (by decide +kernel) (by decide +kernel) (v := 998) (by decide +kernel) _) (cwV 3 hts gL_rows_X6_rate rfl rfl rfl (by decide +kernel) ⟨Nat.le_of_ble_eq_true rfl, Nat.le_of_ble_eq_true rfl⟩) (pm_preV hw hs (pm_recv hw hq9 hf9 rfl)) rfl rfl hl.1 rfl (lv_room (Nat.le_of_ble_eq_true rfl)) dL_rows_159 ⟨Nat.le_of_ble_eq_true rfl, Nat.le_of_ble_eq_true rfl⟩) (fun E9 ce9 q9 L9 f9 H9 locs9 he9 _ _ _ _ => False.elim he9) (fun r9 Lb fb Hb locb hp hw9 => ?_)
  clear hw hS fs9 hq9 hf9
  try clear loca Ha fa La
  have hw := hw9
  clear hw9
  obtain rfl : r9 = 998 := hp.1
  have hS : Wc g q9o rS8 8 Lb fb := hp.2
  clear hp
  refine lv_sipush (v := 998) hx hb dL_rows_162 (by decide) ?_
  refine lv_icmp_ne (tgt := 323) hx hb dL_rows_165 (by decide) (fun h9 => absurd h9 (by decide)) (fun _ => ?_)
  refine lv_aload_n hx hb dL_rows_168 rfl (lv_at hl 1 rfl) ?_
  refine lv_iconst (v := 3) hx hb dL_rows_169 (by decide) ?_
  refine lv_iconst (v := 1) hx hb dL_rows_170 (by decide) ?_
  refine lv_bipush (v := 10) hx hb dL_rows_171 (by decide) ?_
  refine lv_bipush (v := 20) hx hb dL_rows_173 (by decide) ?_
  obtain ⟨fs9, hq9, hf9⟩ := hS.rcv
  refine px_ic hw (vx_runV (As := [.int 3, .int 1, .int 10, .int 20]) (rest := []) CF (z_add l hst g _ _ hS 3 1 10 40 (by decide +kernel) (by decide +kernel) (by decide +kernel) (by decide +kernel) (by decide +kernel) (by unfold okC; decide +kernel) (by decide +kernel) (v := 1) (by decide +kernel) (S2 := rS9) rfl _) (cwV 4 hts gL_rows_X6_add rfl rfl rfl (by decide +kernel) ⟨Nat.le_of_ble_eq_true rfl, Nat.le_of_ble_eq_true rfl⟩) (pm_preV hw hs (pm_recv hw hq9 hf9 rfl)) rfl rfl hl.1 rfl (lv_room (Nat.le_of_ble_eq_true rfl)) dL_rows_175 ⟨Nat.le_of_ble_eq_true rfl, Nat.le_of_ble_eq_true rfl⟩) (fun E9 ce9 q9 L9 f9 H9 locs9 he9 _ _ _ _ => False.elim he9) (fun r9 La fa Ha loca hp hw9 => ?_)
  clear hw hS fs9 hq9 hf9
  try clear locb Hb fb Lb
  have hw := hw9
  clear hw9
  obtain rfl : r9 = 1 := hp.1
  have hS : Wc g q9o rS9 9 La fa := hp.2
  clear hp
  refine lv_iconst (v := 1) hx hb dL_rows_178 (by decide) ?_
  refine lv_icmp_ne (tgt := 323) hx hb dL_rows_179 (by decide) (fun h9 => absurd h9 (by decide)) (fun _ => ?_)
  refine lv_aload_n hx hb dL_rows_182 rfl (lv_at hl 1 rfl) ?_
  refine lv_iconst (v := 3) hx hb dL_rows_183 (by decide) ?_
  refine lv_iconst (v := 1) hx hb dL_rows_184 (by decide) ?_
  refine lv_bipush (v := 10) hx hb dL_rows_185 (by decide) ?_
  refine lv_iconst (v := 0) hx hb dL_rows_187 (by decide) ?_
  obtain ⟨fs9, hq9, hf9⟩ := hS.rcv
  refine px_ic hw (vx_runV (As := [.int 3, .int 1, .int 10, .int 0]) (rest := []) CF (z_value l hst g _ _ hS 3 1 10 0 (by decide +kernel) (by decide +kernel) (by decide +kernel) (by decide +kernel) (by decide +kernel) (by decide +kernel) (v := 20) (by decide +kernel) _) (cwV 4 hts gL_rows_X6_value rfl rfl rfl (by decide +kernel) ⟨Nat.le_of_ble_eq_true rfl, Nat.le_of_ble_eq_true rfl⟩) (pm_preV hw hs (pm_recv hw hq9 hf9 rfl)) rfl rfl hl.1 rfl (lv_room (Nat.le_of_ble_eq_true rfl)) dL_rows_188 ⟨Nat.le_of_ble_eq_true rfl, Nat.le_of_ble_eq_true rfl⟩) (fun E9 ce9 q9 L9 f9 H9 locs9 he9 _ _ _ _ => False.elim he9) (fun r9 Lb fb Hb locb hp hw9 => ?_)
  clear hw hS fs9 hq9 hf9
  try clear loca Ha fa La
  have hw := hw9
  clear hw9
  obtain rfl : r9 = 20 := hp.1
  have hS : Wc g q9o rS9 9 Lb fb := hp.2
  clear hp
  refine lv_bipush (v := 20) hx hb dL_rows_191 (by decide) ?_
  refine lv_icmp_ne (tgt := 323) hx hb dL_rows_193 (by decide) (fun h9 => absurd h9 (by decide)) (fun _ => ?_)
  refine lv_aload_n hx hb dL_rows_196 rfl (lv_at hl 1 rfl) ?_
  refine lv_iconst (v := 3) hx hb dL_rows_197 (by decide) ?_
  refine lv_iconst (v := 1) hx hb dL_rows_198 (by decide) ?_
  refine lv_bipush (v := 10) hx hb dL_rows_199 (by decide) ?_
  refine lv_bipush (v := (-20)) hx hb dL_rows_201 (by decide) ?_
  obtain ⟨fs9, hq9, hf9⟩ := hS.rcv
  refine px_ic hw (vx_runV (As := [.int 3, .int 1, .int 10, .int (-20)]) (rest := []) CF (z_add l hst g _ _ hS 3 1 10 0 (by decide +kernel) (by decide +kernel) (by decide +kernel) (by decide +kernel) (by decide +kernel) (by unfold okC; decide +kernel) (by decide +kernel) (v := 2) (by decide +kernel) (S2 := rS10) rfl _) (cwV 4 hts gL_rows_X6_add rfl rfl rfl (by decide +kernel) ⟨Nat.le_of_ble_eq_true rfl, Nat.le_of_ble_eq_true rfl⟩) (pm_preV hw hs (pm_recv hw hq9 hf9 rfl)) rfl rfl hl.1 rfl (lv_room (Nat.le_of_ble_eq_true rfl)) dL_rows_203 ⟨Nat.le_of_ble_eq_true rfl, Nat.le_of_ble_eq_true rfl⟩) (fun E9 ce9 q9 L9 f9 H9 locs9 he9 _ _ _ _ => False.elim he9) (fun r9 La fa Ha loca hp hw9 => ?_)
  clear hw hS fs9 hq9 hf9
  try clear locb Hb fb Lb
  have hw := hw9
  clear hw9
  obtain rfl : r9 = 2 := hp.1
  have hS : Wc g q9o rS10 10 La fa := hp.2
  clear hp
  refine lv_iconst (v := 2) hx hb dL_rows_206 (by decide) ?_
  refine lv_icmp_ne (tgt := 323) hx hb dL_rows_207 (by decide) (fun h9 => absurd h9 (by decide)) (fun _ => ?_)
  refine lv_aload_n hx hb dL_rows_210 rfl (lv_at hl 1 rfl) ?_
  refine lv_iconst (v := 3) hx hb dL_rows_211 (by decide) ?_
  refine lv_iconst (v := 1) hx hb dL_rows_212 (by decide) ?_
  refine lv_bipush (v := 10) hx hb dL_rows_213 (by decide) ?_
  refine lv_iconst (v := 0) hx hb dL_rows_215 (by decide) ?_
  obtain ⟨fs9, hq9, hf9⟩ := hS.rcv
  refine px_ic hw (vx_runV (As := [.int 3, .int 1, .int 10, .int 0]) (rest := []) CF (z_value l hst g _ _ hS 3 1 10 0 (by decide +kernel) (by decide +kernel) (by decide +kernel) (by decide +kernel) (by decide +kernel) (by decide +kernel) (v := 0) (by decide +kernel) _) (cwV 4 hts gL_rows_X6_value rfl rfl rfl (by decide +kernel) ⟨Nat.le_of_ble_eq_true rfl, Nat.le_of_ble_eq_true rfl⟩) (pm_preV hw hs (pm_recv hw hq9 hf9 rfl)) rfl rfl hl.1 rfl (lv_room (Nat.le_of_ble_eq_true rfl)) dL_rows_216 ⟨Nat.le_of_ble_eq_true rfl, Nat.le_of_ble_eq_true rfl⟩) (fun E9 ce9 q9 L9 f9 H9 locs9 he9 _ _ _ _ => False.elim he9) (fun r9 Lb fb Hb locb hp hw9 => ?_)
  clear hw hS fs9 hq9 hf9
  try clear loca Ha fa La
  have hw := hw9
  clear hw9
  obtain rfl : r9 = 0 := hp.1
  have hS : Wc g q9o rS10 10 Lb fb := hp.2
  clear hp
  refine lv_if_ne (tgt := 323) hx hb dL_rows_219 (by decide) (fun h9 => absurd h9 (by decide)) (fun _ => ?_)
  refine lv_aload_n hx hb dL_rows_222 rfl (lv_at hl 1 rfl) ?_
  refine lv_iconst (v := 3) hx hb dL_rows_223 (by decide) ?_
  refine lv_iconst (v := 1) hx hb dL_rows_224 (by decide) ?_
  refine lv_bipush (v := 11) hx hb dL_rows_225 (by decide) ?_
  refine lv_iconst (v := (-1)) hx hb dL_rows_227 (by decide) ?_
  obtain ⟨fs9, hq9, hf9⟩ := hS.rcv
  refine px_ic hw (vx_runV (As := [.int 3, .int 1, .int 11, .int (-1)]) (rest := []) CF (z_add l hst g _ _ hS 3 1 11 19 (by decide +kernel) (by decide +kernel) (by decide +kernel) (by decide +kernel) (by decide +kernel) (by unfold okC; decide +kernel) (by decide +kernel) (v := 3) (by decide +kernel) (S2 := rS11) rfl _) (cwV 4 hts gL_rows_X6_add rfl rfl rfl (by decide +kernel) ⟨Nat.le_of_ble_eq_true rfl, Nat.le_of_ble_eq_true rfl⟩) (pm_preV hw hs (pm_recv hw hq9 hf9 rfl)) rfl rfl hl.1 rfl (lv_room (Nat.le_of_ble_eq_true rfl)) dL_rows_228 ⟨Nat.le_of_ble_eq_true rfl, Nat.le_of_ble_eq_true rfl⟩) (fun E9 ce9 q9 L9 f9 H9 locs9 he9 _ _ _ _ => False.elim he9) (fun r9 La fa Ha loca hp hw9 => ?_)
  clear hw hS fs9 hq9 hf9
  try clear locb Hb fb Lb
  have hw := hw9
  clear hw9
  obtain rfl : r9 = 3 := hp.1
  have hS : Wc g q9o rS11 11 La fa := hp.2
  clear hp
  refine lv_iconst (v := 3) hx hb dL_rows_231 (by decide) ?_
  refine lv_icmp_ne (tgt := 323) hx hb dL_rows_232 (by decide) (fun h9 => absurd h9 (by decide)) (fun _ => ?_)
  refine lv_aload_n hx hb dL_rows_235 rfl (lv_at hl 1 rfl) ?_
  refine lv_iconst (v := 3) hx hb dL_rows_236 (by decide) ?_
  refine lv_iconst (v := 1) hx hb dL_rows_237 (by decide) ?_
  refine lv_bipush (v := 12) hx hb dL_rows_238 (by decide) ?_
  refine lv_iconst (v := 3) hx hb dL_rows_240 (by decide) ?_
  obtain ⟨fs9, hq9, hf9⟩ := hS.rcv
  refine px_ic hw (vx_runV (As := [.int 3, .int 1, .int 12, .int 3]) (rest := []) CF (z_add l hst g _ _ hS 3 1 12 23 (by decide +kernel) (by decide +kernel) (by decide +kernel) (by decide +kernel) (by decide +kernel) (by unfold okC; decide +kernel) (by decide +kernel) (v := 4) (by decide +kernel) (S2 := rS12) rfl _) (cwV 4 hts gL_rows_X6_add rfl rfl rfl (by decide +kernel) ⟨Nat.le_of_ble_eq_true rfl, Nat.le_of_ble_eq_true rfl⟩) (pm_preV hw hs (pm_recv hw hq9 hf9 rfl)) rfl rfl hl.1 rfl (lv_room (Nat.le_of_ble_eq_true rfl)) dL_rows_241 ⟨Nat.le_of_ble_eq_true rfl, Nat.le_of_ble_eq_true rfl⟩) (fun E9 ce9 q9 L9 f9 H9 locs9 he9 _ _ _ _ => False.elim he9) (fun r9 Lb fb Hb locb hp hw9 => ?_)
  clear hw hS fs9 hq9 hf9
  try clear loca Ha fa La
  have hw := hw9
  clear hw9
  obtain rfl : r9 = 4 := hp.1
  have hS : Wc g q9o rS12 12 Lb fb := hp.2
  clear hp
  refine lv_iconst (v := 4) hx hb dL_rows_244 (by decide) ?_
  refine lv_icmp_ne (tgt := 323) hx hb dL_rows_245 (by decide) (fun h9 => absurd h9 (by decide)) (fun _ => ?_)
  refine lv_aload_n hx hb dL_rows_248 rfl (lv_at hl 1 rfl) ?_
  refine lv_iconst (v := 3) hx hb dL_rows_249 (by decide) ?_
  refine lv_iconst (v := 1) hx hb dL_rows_250 (by decide) ?_
  refine lv_bipush (v := 12) hx hb dL_rows_251 (by decide) ?_
  refine lv_iconst (v := 0) hx hb dL_rows_253 (by decide) ?_
  obtain ⟨fs9, hq9, hf9⟩ := hS.rcv
  refine px_ic hw (vx_runV (As := [.int 3, .int 1, .int 12, .int 0]) (rest := []) CF (z_value l hst g _ _ hS 3 1 12 0 (by decide +kernel) (by decide +kernel) (by decide +kernel) (by decide +kernel) (by decide +kernel) (by decide +kernel) (v := 3) (by decide +kernel) _) (cwV 4 hts gL_rows_X6_value rfl rfl rfl (by decide +kernel) ⟨Nat.le_of_ble_eq_true rfl, Nat.le_of_ble_eq_true rfl⟩) (pm_preV hw hs (pm_recv hw hq9 hf9 rfl)) rfl rfl hl.1 rfl (lv_room (Nat.le_of_ble_eq_true rfl)) dL_rows_254 ⟨Nat.le_of_ble_eq_true rfl, Nat.le_of_ble_eq_true rfl⟩) (fun E9 ce9 q9 L9 f9 H9 locs9 he9 _ _ _ _ => False.elim he9) (fun r9 La fa Ha loca hp hw9 => ?_)
  clear hw hS fs9 hq9 hf9
  try clear locb Hb fb Lb
  have hw := hw9
  clear hw9
  obtain rfl : r9 = 3 := hp.1
  have hS : Wc g q9o rS12 12 La fa := hp.2
  clear hp
  refine lv_iconst (v := 3) hx hb dL_rows_257 (by decide) ?_
  refine lv_icmp_ne (tgt := 323) hx hb dL_rows_258 (by decide) (fun h9 => absurd h9 (by decide)) (fun _ => ?_)
  refine lv_aload_n hx hb dL_rows_261 rfl (lv_at hl 1 rfl) ?_
  refine lv_iconst (v := 2) hx hb dL_rows_262 (by decide) ?_
  refine lv_iconst (v := 0) hx hb dL_rows_263 (by decide) ?_
  refine lv_iconst (v := 0) hx hb dL_rows_264 (by decide) ?_
  obtain ⟨fs9, hq9, hf9⟩ := hS.rcv
  refine px_ic hw (vx_runV (As := [.int 2, .int 0, .int 0]) (rest := []) CF (z_setWeight l hst g _ _ hS 2 0 0 (by decide +kernel) (by decide +kernel) (by decide +kernel) (by unfold okT; decide +kernel) (by decide +kernel) (v := 4) (by decide +kernel) (S2 := rS13) rfl _) (cwV 3 hts gL_rows_X6_setWeight rfl rfl rfl (by decide +kernel) ⟨Nat.le_of_ble_eq_true rfl, Nat.le_of_ble_eq_true rfl⟩) (pm_preV hw hs (pm_recv hw hq9 hf9 rfl)) rfl rfl hl.1 rfl (lv_room (Nat.le_of_ble_eq_true rfl)) dL_rows_265 ⟨Nat.le_of_ble_eq_true rfl, Nat.le_of_ble_eq_true rfl⟩) (fun E9 ce9 q9 L9 f9 H9 locs9 he9 _ _ _ _ => False.elim he9) (fun r9 Lb fb Hb locb hp hw9 => ?_)
  clear hw hS fs9 hq9 hf9
  try clear loca Ha fa La
  have hw := hw9
  clear hw9
  obtain rfl : r9 = 4 := hp.1
  have hS : Wc g q9o rS13 13 Lb fb := hp.2
  clear hp
  refine lv_iconst (v := 4) hx hb dL_rows_268 (by decide) ?_
  refine lv_icmp_ne (tgt := 323) hx hb dL_rows_269 (by decide) (fun h9 => absurd h9 (by decide)) (fun _ => ?_)
  refine lv_aload_n hx hb dL_rows_272 rfl (lv_at hl 1 rfl) ?_
  refine lv_iconst (v := 3) hx hb dL_rows_273 (by decide) ?_
  refine lv_iconst (v := 2) hx hb dL_rows_274 (by decide) ?_
  refine lv_bipush (v := 20) hx hb dL_rows_275 (by decide) ?_
  refine lv_bipush (v := 20) hx hb dL_rows_277 (by decide) ?_
  obtain ⟨fs9, hq9, hf9⟩ := hS.rcv
  refine px_ic hw (vx_runV (As := [.int 3, .int 2, .int 20, .int 20]) (rest := []) CF (z_change l hst g _ _ hS 3 2 20 40 (by decide +kernel) (by decide +kernel) (by decide +kernel) (by decide +kernel) (by decide +kernel) (by unfold okC; decide +kernel) (by decide +kernel) (v := 5) (by decide +kernel) (S2 := rS14) rfl _) (cwV 4 hts gL_rows_X6_change rfl rfl rfl (by decide +kernel) ⟨Nat.le_of_ble_eq_true rfl, Nat.le_of_ble_eq_true rfl⟩) (pm_preV hw hs (pm_recv hw hq9 hf9 rfl)) rfl rfl hl.1 rfl (lv_room (Nat.le_of_ble_eq_true rfl)) dL_rows_279 ⟨Nat.le_of_ble_eq_true rfl, Nat.le_of_ble_eq_true rfl⟩) (fun E9 ce9 q9 L9 f9 H9 locs9 he9 _ _ _ _ => False.elim he9) (fun r9 La fa Ha loca hp hw9 => ?_)
  clear hw hS fs9 hq9 hf9
  try clear locb Hb fb Lb
  have hw := hw9
  clear hw9
  obtain rfl : r9 = 5 := hp.1
  have hS : Wc g q9o rS14 14 La fa := hp.2
  clear hp
  refine lv_iconst (v := 5) hx hb dL_rows_282 (by decide) ?_
  refine lv_icmp_ne (tgt := 323) hx hb dL_rows_283 (by decide) (fun h9 => absurd h9 (by decide)) (fun _ => ?_)
  refine lv_aload_n hx hb dL_rows_286 rfl (lv_at hl 1 rfl) ?_
  refine lv_iconst (v := 3) hx hb dL_rows_287 (by decide) ?_
  refine lv_iconst (v := 0) hx hb dL_rows_288 (by decide) ?_
  obtain ⟨fs9, hq9, hf9⟩ := hS.rcv
  refine px_ic hw (vx_runV (As := [.int 3, .int 0]) (rest := []) CF (z_segments l hst g _ _ hS 3 0 (by decide +kernel) (by decide +kernel) rY14_3_0 (by decide +kernel) (v := 4) (by decide +kernel) _) (cwV 2 hts gL_rows_X6_segments rfl rfl rfl (by decide +kernel) ⟨Nat.le_of_ble_eq_true rfl, Nat.le_of_ble_eq_true rfl⟩) (pm_preV hw hs (pm_recv hw hq9 hf9 rfl)) rfl rfl hl.1 rfl (lv_room (Nat.le_of_ble_eq_true rfl)) dL_rows_289 ⟨Nat.le_of_ble_eq_true rfl, Nat.le_of_ble_eq_true rfl⟩) (fun E9 ce9 q9 L9 f9 H9 locs9 he9 _ _ _ _ => False.elim he9) (fun r9 Lb fb Hb locb hp hw9 => ?_)
  clear hw hS fs9 hq9 hf9
  try clear loca Ha fa La
  have hw := hw9
  clear hw9
  obtain rfl : r9 = 4 := hp.1
  have hS : Wc g q9o rS14 14 Lb fb := hp.2
  clear hp
  refine lv_iconst (v := 4) hx hb dL_rows_292 (by decide) ?_
  refine lv_icmp_ne (tgt := 323) hx hb dL_rows_293 (by decide) (fun h9 => absurd h9 (by decide)) (fun _ => ?_)
  refine lv_aload_n hx hb dL_rows_296 rfl (lv_at hl 1 rfl) ?_
  refine lv_iconst (v := 3) hx hb dL_rows_297 (by decide) ?_
  refine lv_iconst (v := 3) hx hb dL_rows_298 (by decide) ?_
  refine lv_iconst (v := 0) hx hb dL_rows_299 (by decide) ?_
  obtain ⟨fs9, hq9, hf9⟩ := hS.rcv
  refine px_ic hw (vx_runV (As := [.int 3, .int 3, .int 0]) (rest := []) CF (z_segmentStart l hst g _ _ hS 3 12 365 3 0 (by decide +kernel) (by decide +kernel) (by decide +kernel) rY14_3_0 (by decide +kernel) (pr := 1110) (v := 12) (by unfold sgOK; decide +kernel) (by decide +kernel) _) (cwV 3 hts gL_rows_X6_segmentStart rfl rfl rfl (by decide +kernel) ⟨Nat.le_of_ble_eq_true rfl, Nat.le_of_ble_eq_true rfl⟩) (pm_preV hw hs (pm_recv hw hq9 hf9 rfl)) rfl rfl hl.1 rfl (lv_room (Nat.le_of_ble_eq_true rfl)) dL_rows_300 ⟨Nat.le_of_ble_eq_true rfl, Nat.le_of_ble_eq_true rfl⟩) (fun E9 ce9 q9 L9 f9 H9 locs9 he9 _ _ _ _ => False.elim he9) (fun r9 La fa Ha loca hp hw9 => ?_)
  clear hw hS fs9 hq9 hf9
  try clear locb Hb fb Lb
  have hw := hw9
  clear hw9
  obtain rfl : r9 = 12 := hp.1
  have hS : Wc g q9o rS14 14 La fa := hp.2
  clear hp
  refine lv_bipush (v := 12) hx hb dL_rows_303 (by decide) ?_
  refine lv_icmp_ne (tgt := 323) hx hb dL_rows_305 (by decide) (fun h9 => absurd h9 (by decide)) (fun _ => ?_)
  refine lv_aload_n hx hb dL_rows_308 rfl (lv_at hl 1 rfl) ?_
  refine lv_iconst (v := 3) hx hb dL_rows_309 (by decide) ?_
  refine lv_iconst (v := 0) hx hb dL_rows_310 (by decide) ?_
  obtain ⟨fs9, hq9, hf9⟩ := hS.rcv
  refine px_ic hw (vx_runV (As := [.int 3, .int 0]) (rest := []) CF (z_premium l hst g _ _ hS 3 0 (by decide +kernel) (by decide +kernel) rY14_3_0 (by decide +kernel) (v := 1144) (by decide +kernel) _) (cwV 2 hts gL_rows_X6_premium rfl rfl rfl (by decide +kernel) ⟨Nat.le_of_ble_eq_true rfl, Nat.le_of_ble_eq_true rfl⟩) (pm_preV hw hs (pm_recv hw hq9 hf9 rfl)) rfl rfl hl.1 rfl (lv_room (Nat.le_of_ble_eq_true rfl)) dL_rows_311 ⟨Nat.le_of_ble_eq_true rfl, Nat.le_of_ble_eq_true rfl⟩) (fun E9 ce9 q9 L9 f9 H9 locs9 he9 _ _ _ _ => False.elim he9) (fun r9 Lb fb Hb locb hp hw9 => ?_)
  clear hw hS fs9 hq9 hf9
  try clear loca Ha fa La
  have hw := hw9
  clear hw9
  obtain rfl : r9 = 1144 := hp.1
  have hS : Wc g q9o rS14 14 Lb fb := hp.2
  clear hp
  refine lv_aload_n hx hb dL_rows_314 rfl (lv_at hl 1 rfl) ?_
  refine lv_iconst (v := 3) hx hb dL_rows_315 (by decide) ?_
  refine lv_iconst (v := 0) hx hb dL_rows_316 (by decide) ?_
  obtain ⟨fs9, hq9, hf9⟩ := hS.rcv
  refine px_ic hw (vx_runV (As := [.int 3, .int 0]) (rest := [.int 1144]) CF (z_premiumByDays l hst g _ _ hS 3 0 (by decide +kernel) (by decide +kernel) rY14_3_0 (by decide +kernel) (v := 1144) (by decide +kernel) _) (cwV 2 hts gL_rows_X6_premiumByDays rfl rfl rfl (by decide +kernel) ⟨Nat.le_of_ble_eq_true rfl, Nat.le_of_ble_eq_true rfl⟩) (pm_preV hw hs (pm_recv hw hq9 hf9 rfl)) rfl rfl hl.1 rfl (lv_room (Nat.le_of_ble_eq_true rfl)) dL_rows_317 ⟨Nat.le_of_ble_eq_true rfl, Nat.le_of_ble_eq_true rfl⟩) (fun E9 ce9 q9 L9 f9 H9 locs9 he9 _ _ _ _ => False.elim he9) (fun r9 La fa Ha loca hp hw9 => ?_)
  clear hw hS fs9 hq9 hf9
  try clear locb Hb fb Lb
  have hw := hw9
  clear hw9
  obtain rfl : r9 = 1144 := hp.1
  have hS : Wc g q9o rS14 14 La fa := hp.2
  clear hp
  refine lv_icmp_eq (tgt := 325) hx hb dL_rows_320 (by decide) (fun _ => ?_) (fun h9 => absurd h9 (by decide))
  refine lv_iconst (v := 5) hx hb dL_rows_325 (by decide) ?_
  refine lv_istore_n (lv' := [(1, .int 5), (0, .ref q9o)]) hx hb dL_rows_326 rfl hl (by decide) rfl (fun ls hl => ?_)
  refine lv_iload_n hx hb dL_rows_327 rfl (lv_at hl 0 rfl) ?_
  refine lv_bipush (v := 22) hx hb dL_rows_328 (by decide) ?_
  refine lv_icmp_ge (tgt := 367) hx hb dL_rows_330 (by decide) (fun h9 => absurd h9 (by decide)) (fun _ => ?_)
  refine lv_aload_n hx hb dL_rows_333 rfl (lv_at hl 1 rfl) ?_
  refine lv_iconst (v := 1) hx hb dL_rows_334 (by decide) ?_
  refine lv_iconst (v := 0) hx hb dL_rows_335 (by decide) ?_
  refine lv_iconst (v := 1) hx hb dL_rows_336 (by decide) ?_
  refine lv_sipush (v := 364) hx hb dL_rows_337 (by decide) ?_
  refine lv_iconst (v := 0) hx hb dL_rows_340 (by decide) ?_
  refine px_ic hw (vx_runSX (As := [.ref q9o, .int 1, .int 0, .int 1, .int 364, .int 0]) (rest := []) CF (za_setWeight l hst g _ _ hS 0 1 364 (by decide +kernel) (by decide +kernel) (by decide +kernel) (by unfold okT; decide +kernel) (by decide +kernel) (v := 5) (by decide +kernel) (S2 := rS15) rfl _) (vx_cwSW 6 hts gL_rows_L_act rfl rfl rfl (by decide +kernel) ⟨Nat.le_of_ble_eq_true rfl, Nat.le_of_ble_eq_true rfl⟩) (pn_preS hw hs hN) rfl rfl hl.1 rfl (lv_room (Nat.le_of_ble_eq_true rfl)) dL_rows_341 ⟨Nat.le_of_ble_eq_true rfl, Nat.le_of_ble_eq_true rfl⟩) (fun E9 ce9 q9 L9 f9 H9 locs9 he9 _ _ _ _ => False.elim he9) (fun r9 Lb fb Hb locb hp hw9 => ?_)
  clear hw hS
  try clear loca Ha fa La
  have hw := hw9
  clear hw9
  obtain rfl : r9 = 5 := hp.1
  have hS : Wc g q9o rS15 15 Lb fb := hp.2
  clear hp
  refine lv_iload_n hx hb dL_rows_344 rfl (lv_at hl 0 rfl) ?_
  refine lv_bipush (v := 21) hx hb dL_rows_345 (by decide) ?_
  refine lv_icmp_ge (tgt := 354) hx hb dL_rows_347 (by decide) (fun h9 => absurd h9 (by decide)) (fun _ => ?_)
  refine lv_iload_n hx hb dL_rows_350 rfl (lv_at hl 0 rfl) ?_
  refine lv_goto (tgt := 356) hx hb dL_rows_351 (by decide) ?_
  refine lv_icmp_eq (tgt := 361) hx hb dL_rows_356 (by decide) (fun _ => ?_) (fun h9 => absurd h9 (by decide))
  refine lv_iinc (v := 6) (lv' := [(1, .int 6), (0, .ref q9o)]) hx hb dL_rows_361 hl (k := 0) rfl (by decide) (by decide) rfl (fun ls hl => ?_)
  refine lv_goto (tgt := 327) hx hb dL_rows_364 (by decide) ?_
  refine lv_iload_n hx hb dL_rows_327 rfl (lv_at hl 0 rfl) ?_
  refine lv_bipush (v := 22) hx hb dL_rows_328 (by decide) ?_
  refine lv_icmp_ge (tgt := 367) hx hb dL_rows_330 (by decide) (fun h9 => absurd h9 (by decide)) (fun _ => ?_)
  refine lv_aload_n hx hb dL_rows_333 rfl (lv_at hl 1 rfl) ?_
  refine lv_iconst (v := 1) hx hb dL_rows_334 (by decide) ?_
  refine lv_iconst (v := 0) hx hb dL_rows_335 (by decide) ?_
  refine lv_iconst (v := 1) hx hb dL_rows_336 (by decide) ?_
  refine lv_sipush (v := 364) hx hb dL_rows_337 (by decide) ?_
  refine lv_iconst (v := 0) hx hb dL_rows_340 (by decide) ?_
  refine px_ic hw (vx_runSX (As := [.ref q9o, .int 1, .int 0, .int 1, .int 364, .int 0]) (rest := []) CF (za_setWeight l hst g _ _ hS 0 1 364 (by decide +kernel) (by decide +kernel) (by decide +kernel) (by unfold okT; decide +kernel) (by decide +kernel) (v := 6) (by decide +kernel) (S2 := rS16) rfl _) (vx_cwSW 6 hts gL_rows_L_act rfl rfl rfl (by decide +kernel) ⟨Nat.le_of_ble_eq_true rfl, Nat.le_of_ble_eq_true rfl⟩) (pn_preS hw hs hN) rfl rfl hl.1 rfl (lv_room (Nat.le_of_ble_eq_true rfl)) dL_rows_341 ⟨Nat.le_of_ble_eq_true rfl, Nat.le_of_ble_eq_true rfl⟩) (fun E9 ce9 q9 L9 f9 H9 locs9 he9 _ _ _ _ => False.elim he9) (fun r9 La fa Ha loca hp hw9 => ?_)
  clear hw hS
  try clear locb Hb fb Lb
  have hw := hw9
  clear hw9
  obtain rfl : r9 = 6 := hp.1
  have hS : Wc g q9o rS16 16 La fa := hp.2
  clear hp
  refine lv_iload_n hx hb dL_rows_344 rfl (lv_at hl 0 rfl) ?_
  refine lv_bipush (v := 21) hx hb dL_rows_345 (by decide) ?_
  refine lv_icmp_ge (tgt := 354) hx hb dL_rows_347 (by decide) (fun h9 => absurd h9 (by decide)) (fun _ => ?_)
  refine lv_iload_n hx hb dL_rows_350 rfl (lv_at hl 0 rfl) ?_
  refine lv_goto (tgt := 356) hx hb dL_rows_351 (by decide) ?_
  refine lv_icmp_eq (tgt := 361) hx hb dL_rows_356 (by decide) (fun _ => ?_) (fun h9 => absurd h9 (by decide))
  refine lv_iinc (v := 7) (lv' := [(1, .int 7), (0, .ref q9o)]) hx hb dL_rows_361 hl (k := 0) rfl (by decide) (by decide) rfl (fun ls hl => ?_)
  refine lv_goto (tgt := 327) hx hb dL_rows_364 (by decide) ?_
  refine lv_iload_n hx hb dL_rows_327 rfl (lv_at hl 0 rfl) ?_
  refine lv_bipush (v := 22) hx hb dL_rows_328 (by decide) ?_
  refine lv_icmp_ge (tgt := 367) hx hb dL_rows_330 (by decide) (fun h9 => absurd h9 (by decide)) (fun _ => ?_)
  refine lv_aload_n hx hb dL_rows_333 rfl (lv_at hl 1 rfl) ?_
  refine lv_iconst (v := 1) hx hb dL_rows_334 (by decide) ?_
  refine lv_iconst (v := 0) hx hb dL_rows_335 (by decide) ?_
  refine lv_iconst (v := 1) hx hb dL_rows_336 (by decide) ?_
  refine lv_sipush (v := 364) hx hb dL_rows_337 (by decide) ?_
  refine lv_iconst (v := 0) hx hb dL_rows_340 (by decide) ?_
  refine px_ic hw (vx_runSX (As := [.ref q9o, .int 1, .int 0, .int 1, .int 364, .int 0]) (rest := []) CF (za_setWeight l hst g _ _ hS 0 1 364 (by decide +kernel) (by decide +kernel) (by decide +kernel) (by unfold okT; decide +kernel) (by decide +kernel) (v := 7) (by decide +kernel) (S2 := rS17) rfl _) (vx_cwSW 6 hts gL_rows_L_act rfl rfl rfl (by decide +kernel) ⟨Nat.le_of_ble_eq_true rfl, Nat.le_of_ble_eq_true rfl⟩) (pn_preS hw hs hN) rfl rfl hl.1 rfl (lv_room (Nat.le_of_ble_eq_true rfl)) dL_rows_341 ⟨Nat.le_of_ble_eq_true rfl, Nat.le_of_ble_eq_true rfl⟩) (fun E9 ce9 q9 L9 f9 H9 locs9 he9 _ _ _ _ => False.elim he9) (fun r9 Lb fb Hb locb hp hw9 => ?_)
  clear hw hS
  try clear loca Ha fa La
  have hw := hw9
  clear hw9
  obtain rfl : r9 = 7 := hp.1
  have hS : Wc g q9o rS17 17 Lb fb := hp.2
  clear hp
  refine lv_iload_n hx hb dL_rows_344 rfl (lv_at hl 0 rfl) ?_
  refine lv_bipush (v := 21) hx hb dL_rows_345 (by decide) ?_
  refine lv_icmp_ge (tgt := 354) hx hb dL_rows_347 (by decide) (fun h9 => absurd h9 (by decide)) (fun _ => ?_)
  refine lv_iload_n hx hb dL_rows_350 rfl (lv_at hl 0 rfl) ?_
  refine lv_goto (tgt := 356) hx hb dL_rows_351 (by decide) ?_
  refine lv_icmp_eq (tgt := 361) hx hb dL_rows_356 (by decide) (fun _ => ?_) (fun h9 => absurd h9 (by decide))
  refine lv_iinc (v := 8) (lv' := [(1, .int 8), (0, .ref q9o)]) hx hb dL_rows_361 hl (k := 0) rfl (by decide) (by decide) rfl (fun ls hl => ?_)
  refine lv_goto (tgt := 327) hx hb dL_rows_364 (by decide) ?_
  refine lv_iload_n hx hb dL_rows_327 rfl (lv_at hl 0 rfl) ?_
  refine lv_bipush (v := 22) hx hb dL_rows_328 (by decide) ?_
  refine lv_icmp_ge (tgt := 367) hx hb dL_rows_330 (by decide) (fun h9 => absurd h9 (by decide)) (fun _ => ?_)
  refine lv_aload_n hx hb dL_rows_333 rfl (lv_at hl 1 rfl) ?_
  refine lv_iconst (v := 1) hx hb dL_rows_334 (by decide) ?_
  refine lv_iconst (v := 0) hx hb dL_rows_335 (by decide) ?_
  refine lv_iconst (v := 1) hx hb dL_rows_336 (by decide) ?_
  refine lv_sipush (v := 364) hx hb dL_rows_337 (by decide) ?_
  refine lv_iconst (v := 0) hx hb dL_rows_340 (by decide) ?_
  refine px_ic hw (vx_runSX (As := [.ref q9o, .int 1, .int 0, .int 1, .int 364, .int 0]) (rest := []) CF (za_setWeight l hst g _ _ hS 0 1 364 (by decide +kernel) (by decide +kernel) (by decide +kernel) (by unfold okT; decide +kernel) (by decide +kernel) (v := 8) (by decide +kernel) (S2 := rS18) rfl _) (vx_cwSW 6 hts gL_rows_L_act rfl rfl rfl (by decide +kernel) ⟨Nat.le_of_ble_eq_true rfl, Nat.le_of_ble_eq_true rfl⟩) (pn_preS hw hs hN) rfl rfl hl.1 rfl (lv_room (Nat.le_of_ble_eq_true rfl)) dL_rows_341 ⟨Nat.le_of_ble_eq_true rfl, Nat.le_of_ble_eq_true rfl⟩) (fun E9 ce9 q9 L9 f9 H9 locs9 he9 _ _ _ _ => False.elim he9) (fun r9 La fa Ha loca hp hw9 => ?_)
  clear hw hS
  try clear locb Hb fb Lb
  have hw := hw9
  clear hw9
  obtain rfl : r9 = 8 := hp.1
  have hS : Wc g q9o rS18 18 La fa := hp.2
  clear hp
  refine lv_iload_n hx hb dL_rows_344 rfl (lv_at hl 0 rfl) ?_
  refine lv_bipush (v := 21) hx hb dL_rows_345 (by decide) ?_
  refine lv_icmp_ge (tgt := 354) hx hb dL_rows_347 (by decide) (fun h9 => absurd h9 (by decide)) (fun _ => ?_)
  refine lv_iload_n hx hb dL_rows_350 rfl (lv_at hl 0 rfl) ?_
  refine lv_goto (tgt := 356) hx hb dL_rows_351 (by decide) ?_
  refine lv_icmp_eq (tgt := 361) hx hb dL_rows_356 (by decide) (fun _ => ?_) (fun h9 => absurd h9 (by decide))
  refine lv_iinc (v := 9) (lv' := [(1, .int 9), (0, .ref q9o)]) hx hb dL_rows_361 hl (k := 0) rfl (by decide) (by decide) rfl (fun ls hl => ?_)
  refine lv_goto (tgt := 327) hx hb dL_rows_364 (by decide) ?_
  refine lv_iload_n hx hb dL_rows_327 rfl (lv_at hl 0 rfl) ?_
  refine lv_bipush (v := 22) hx hb dL_rows_328 (by decide) ?_
  refine lv_icmp_ge (tgt := 367) hx hb dL_rows_330 (by decide) (fun h9 => absurd h9 (by decide)) (fun _ => ?_)
  refine lv_aload_n hx hb dL_rows_333 rfl (lv_at hl 1 rfl) ?_
  refine lv_iconst (v := 1) hx hb dL_rows_334 (by decide) ?_
  refine lv_iconst (v := 0) hx hb dL_rows_335 (by decide) ?_
  refine lv_iconst (v := 1) hx hb dL_rows_336 (by decide) ?_
  refine lv_sipush (v := 364) hx hb dL_rows_337 (by decide) ?_
  refine lv_iconst (v := 0) hx hb dL_rows_340 (by decide) ?_
  refine px_ic hw (vx_runSX (As := [.ref q9o, .int 1, .int 0, .int 1, .int 364, .int 0]) (rest := []) CF (za_setWeight l hst g _ _ hS 0 1 364 (by decide +kernel) (by decide +kernel) (by decide +kernel) (by unfold okT; decide +kernel) (by decide +kernel) (v := 9) (by decide +kernel) (S2 := rS19) rfl _) (vx_cwSW 6 hts gL_rows_L_act rfl rfl rfl (by decide +kernel) ⟨Nat.le_of_ble_eq_true rfl, Nat.le_of_ble_eq_true rfl⟩) (pn_preS hw hs hN) rfl rfl hl.1 rfl (lv_room (Nat.le_of_ble_eq_true rfl)) dL_rows_341 ⟨Nat.le_of_ble_eq_true rfl, Nat.le_of_ble_eq_true rfl⟩) (fun E9 ce9 q9 L9 f9 H9 locs9 he9 _ _ _ _ => False.elim he9) (fun r9 Lb fb Hb locb hp hw9 => ?_)
  clear hw hS
  try clear loca Ha fa La
  have hw := hw9
  clear hw9
  obtain rfl : r9 = 9 := hp.1
  have hS : Wc g q9o rS19 19 Lb fb := hp.2
  clear hp
  refine lv_iload_n hx hb dL_rows_344 rfl (lv_at hl 0 rfl) ?_
  refine lv_bipush (v := 21) hx hb dL_rows_345 (by decide) ?_
  refine lv_icmp_ge (tgt := 354) hx hb dL_rows_347 (by decide) (fun h9 => absurd h9 (by decide)) (fun _ => ?_)
  refine lv_iload_n hx hb dL_rows_350 rfl (lv_at hl 0 rfl) ?_
  refine lv_goto (tgt := 356) hx hb dL_rows_351 (by decide) ?_
  refine lv_icmp_eq (tgt := 361) hx hb dL_rows_356 (by decide) (fun _ => ?_) (fun h9 => absurd h9 (by decide))
  refine lv_iinc (v := 10) (lv' := [(1, .int 10), (0, .ref q9o)]) hx hb dL_rows_361 hl (k := 0) rfl (by decide) (by decide) rfl (fun ls hl => ?_)
  refine lv_goto (tgt := 327) hx hb dL_rows_364 (by decide) ?_
  refine lv_iload_n hx hb dL_rows_327 rfl (lv_at hl 0 rfl) ?_
  refine lv_bipush (v := 22) hx hb dL_rows_328 (by decide) ?_
  refine lv_icmp_ge (tgt := 367) hx hb dL_rows_330 (by decide) (fun h9 => absurd h9 (by decide)) (fun _ => ?_)
  refine lv_aload_n hx hb dL_rows_333 rfl (lv_at hl 1 rfl) ?_
  refine lv_iconst (v := 1) hx hb dL_rows_334 (by decide) ?_
  refine lv_iconst (v := 0) hx hb dL_rows_335 (by decide) ?_
  refine lv_iconst (v := 1) hx hb dL_rows_336 (by decide) ?_
  refine lv_sipush (v := 364) hx hb dL_rows_337 (by decide) ?_
  refine lv_iconst (v := 0) hx hb dL_rows_340 (by decide) ?_
  refine px_ic hw (vx_runSX (As := [.ref q9o, .int 1, .int 0, .int 1, .int 364, .int 0]) (rest := []) CF (za_setWeight l hst g _ _ hS 0 1 364 (by decide +kernel) (by decide +kernel) (by decide +kernel) (by unfold okT; decide +kernel) (by decide +kernel) (v := 10) (by decide +kernel) (S2 := rS20) rfl _) (vx_cwSW 6 hts gL_rows_L_act rfl rfl rfl (by decide +kernel) ⟨Nat.le_of_ble_eq_true rfl, Nat.le_of_ble_eq_true rfl⟩) (pn_preS hw hs hN) rfl rfl hl.1 rfl (lv_room (Nat.le_of_ble_eq_true rfl)) dL_rows_341 ⟨Nat.le_of_ble_eq_true rfl, Nat.le_of_ble_eq_true rfl⟩) (fun E9 ce9 q9 L9 f9 H9 locs9 he9 _ _ _ _ => False.elim he9) (fun r9 La fa Ha loca hp hw9 => ?_)
  clear hw hS
  try clear locb Hb fb Lb
  have hw := hw9
  clear hw9
  obtain rfl : r9 = 10 := hp.1
  have hS : Wc g q9o rS20 20 La fa := hp.2
  clear hp
  refine lv_iload_n hx hb dL_rows_344 rfl (lv_at hl 0 rfl) ?_
  refine lv_bipush (v := 21) hx hb dL_rows_345 (by decide) ?_
  refine lv_icmp_ge (tgt := 354) hx hb dL_rows_347 (by decide) (fun h9 => absurd h9 (by decide)) (fun _ => ?_)
  refine lv_iload_n hx hb dL_rows_350 rfl (lv_at hl 0 rfl) ?_
  refine lv_goto (tgt := 356) hx hb dL_rows_351 (by decide) ?_
  refine lv_icmp_eq (tgt := 361) hx hb dL_rows_356 (by decide) (fun _ => ?_) (fun h9 => absurd h9 (by decide))
  refine lv_iinc (v := 11) (lv' := [(1, .int 11), (0, .ref q9o)]) hx hb dL_rows_361 hl (k := 0) rfl (by decide) (by decide) rfl (fun ls hl => ?_)
  refine lv_goto (tgt := 327) hx hb dL_rows_364 (by decide) ?_
  refine lv_iload_n hx hb dL_rows_327 rfl (lv_at hl 0 rfl) ?_
  refine lv_bipush (v := 22) hx hb dL_rows_328 (by decide) ?_
  refine lv_icmp_ge (tgt := 367) hx hb dL_rows_330 (by decide) (fun h9 => absurd h9 (by decide)) (fun _ => ?_)
  refine lv_aload_n hx hb dL_rows_333 rfl (lv_at hl 1 rfl) ?_
  refine lv_iconst (v := 1) hx hb dL_rows_334 (by decide) ?_
  refine lv_iconst (v := 0) hx hb dL_rows_335 (by decide) ?_
  refine lv_iconst (v := 1) hx hb dL_rows_336 (by decide) ?_
  refine lv_sipush (v := 364) hx hb dL_rows_337 (by decide) ?_
  refine lv_iconst (v := 0) hx hb dL_rows_340 (by decide) ?_
  refine px_ic hw (vx_runSX (As := [.ref q9o, .int 1, .int 0, .int 1, .int 364, .int 0]) (rest := []) CF (za_setWeight l hst g _ _ hS 0 1 364 (by decide +kernel) (by decide +kernel) (by decide +kernel) (by unfold okT; decide +kernel) (by decide +kernel) (v := 11) (by decide +kernel) (S2 := rS21) rfl _) (vx_cwSW 6 hts gL_rows_L_act rfl rfl rfl (by decide +kernel) ⟨Nat.le_of_ble_eq_true rfl, Nat.le_of_ble_eq_true rfl⟩) (pn_preS hw hs hN) rfl rfl hl.1 rfl (lv_room (Nat.le_of_ble_eq_true rfl)) dL_rows_341 ⟨Nat.le_of_ble_eq_true rfl, Nat.le_of_ble_eq_true rfl⟩) (fun E9 ce9 q9 L9 f9 H9 locs9 he9 _ _ _ _ => False.elim he9) (fun r9 Lb fb Hb locb hp hw9 => ?_)
  clear hw hS
  try clear loca Ha fa La
  have hw := hw9
  clear hw9
  obtain rfl : r9 = 11 := hp.1
  have hS : Wc g q9o rS21 21 Lb fb := hp.2
  clear hp
  refine lv_iload_n hx hb dL_rows_344 rfl (lv_at hl 0 rfl) ?_
  refine lv_bipush (v := 21) hx hb dL_rows_345 (by decide) ?_
  refine lv_icmp_ge (tgt := 354) hx hb dL_rows_347 (by decide) (fun h9 => absurd h9 (by decide)) (fun _ => ?_)
  refine lv_iload_n hx hb dL_rows_350 rfl (lv_at hl 0 rfl) ?_
  refine lv_goto (tgt := 356) hx hb dL_rows_351 (by decide) ?_
  refine lv_icmp_eq (tgt := 361) hx hb dL_rows_356 (by decide) (fun _ => ?_) (fun h9 => absurd h9 (by decide))
  refine lv_iinc (v := 12) (lv' := [(1, .int 12), (0, .ref q9o)]) hx hb dL_rows_361 hl (k := 0) rfl (by decide) (by decide) rfl (fun ls hl => ?_)
  refine lv_goto (tgt := 327) hx hb dL_rows_364 (by decide) ?_
  refine lv_iload_n hx hb dL_rows_327 rfl (lv_at hl 0 rfl) ?_
  refine lv_bipush (v := 22) hx hb dL_rows_328 (by decide) ?_
  refine lv_icmp_ge (tgt := 367) hx hb dL_rows_330 (by decide) (fun h9 => absurd h9 (by decide)) (fun _ => ?_)
  refine lv_aload_n hx hb dL_rows_333 rfl (lv_at hl 1 rfl) ?_
  refine lv_iconst (v := 1) hx hb dL_rows_334 (by decide) ?_
  refine lv_iconst (v := 0) hx hb dL_rows_335 (by decide) ?_
  refine lv_iconst (v := 1) hx hb dL_rows_336 (by decide) ?_
  refine lv_sipush (v := 364) hx hb dL_rows_337 (by decide) ?_
  refine lv_iconst (v := 0) hx hb dL_rows_340 (by decide) ?_
  refine px_ic hw (vx_runSX (As := [.ref q9o, .int 1, .int 0, .int 1, .int 364, .int 0]) (rest := []) CF (za_setWeight l hst g _ _ hS 0 1 364 (by decide +kernel) (by decide +kernel) (by decide +kernel) (by unfold okT; decide +kernel) (by decide +kernel) (v := 12) (by decide +kernel) (S2 := rS22) rfl _) (vx_cwSW 6 hts gL_rows_L_act rfl rfl rfl (by decide +kernel) ⟨Nat.le_of_ble_eq_true rfl, Nat.le_of_ble_eq_true rfl⟩) (pn_preS hw hs hN) rfl rfl hl.1 rfl (lv_room (Nat.le_of_ble_eq_true rfl)) dL_rows_341 ⟨Nat.le_of_ble_eq_true rfl, Nat.le_of_ble_eq_true rfl⟩) (fun E9 ce9 q9 L9 f9 H9 locs9 he9 _ _ _ _ => False.elim he9) (fun r9 La fa Ha loca hp hw9 => ?_)
  clear hw hS
  try clear locb Hb fb Lb
  have hw := hw9
  clear hw9
  obtain rfl : r9 = 12 := hp.1
  have hS : Wc g q9o rS22 22 La fa := hp.2
  clear hp
  refine lv_iload_n hx hb dL_rows_344 rfl (lv_at hl 0 rfl) ?_
  refine lv_bipush (v := 21) hx hb dL_rows_345 (by decide) ?_
  refine lv_icmp_ge (tgt := 354) hx hb dL_rows_347 (by decide) (fun h9 => absurd h9 (by decide)) (fun _ => ?_)
  refine lv_iload_n hx hb dL_rows_350 rfl (lv_at hl 0 rfl) ?_
  refine lv_goto (tgt := 356) hx hb dL_rows_351 (by decide) ?_
  refine lv_icmp_eq (tgt := 361) hx hb dL_rows_356 (by decide) (fun _ => ?_) (fun h9 => absurd h9 (by decide))
  refine lv_iinc (v := 13) (lv' := [(1, .int 13), (0, .ref q9o)]) hx hb dL_rows_361 hl (k := 0) rfl (by decide) (by decide) rfl (fun ls hl => ?_)
  refine lv_goto (tgt := 327) hx hb dL_rows_364 (by decide) ?_
  refine lv_iload_n hx hb dL_rows_327 rfl (lv_at hl 0 rfl) ?_
  refine lv_bipush (v := 22) hx hb dL_rows_328 (by decide) ?_
  refine lv_icmp_ge (tgt := 367) hx hb dL_rows_330 (by decide) (fun h9 => absurd h9 (by decide)) (fun _ => ?_)
  refine lv_aload_n hx hb dL_rows_333 rfl (lv_at hl 1 rfl) ?_
  refine lv_iconst (v := 1) hx hb dL_rows_334 (by decide) ?_
  refine lv_iconst (v := 0) hx hb dL_rows_335 (by decide) ?_
  refine lv_iconst (v := 1) hx hb dL_rows_336 (by decide) ?_
  refine lv_sipush (v := 364) hx hb dL_rows_337 (by decide) ?_
  refine lv_iconst (v := 0) hx hb dL_rows_340 (by decide) ?_
  refine px_ic hw (vx_runSX (As := [.ref q9o, .int 1, .int 0, .int 1, .int 364, .int 0]) (rest := []) CF (za_setWeight l hst g _ _ hS 0 1 364 (by decide +kernel) (by decide +kernel) (by decide +kernel) (by unfold okT; decide +kernel) (by decide +kernel) (v := 13) (by decide +kernel) (S2 := rS23) rfl _) (vx_cwSW 6 hts gL_rows_L_act rfl rfl rfl (by decide +kernel) ⟨Nat.le_of_ble_eq_true rfl, Nat.le_of_ble_eq_true rfl⟩) (pn_preS hw hs hN) rfl rfl hl.1 rfl (lv_room (Nat.le_of_ble_eq_true rfl)) dL_rows_341 ⟨Nat.le_of_ble_eq_true rfl, Nat.le_of_ble_eq_true rfl⟩) (fun E9 ce9 q9 L9 f9 H9 locs9 he9 _ _ _ _ => False.elim he9) (fun r9 Lb fb Hb locb hp hw9 => ?_)
  clear hw hS
  try clear loca Ha fa La
  have hw := hw9
  clear hw9
  obtain rfl : r9 = 13 := hp.1
  have hS : Wc g q9o rS23 23 Lb fb := hp.2
  clear hp
  refine lv_iload_n hx hb dL_rows_344 rfl (lv_at hl 0 rfl) ?_
  refine lv_bipush (v := 21) hx hb dL_rows_345 (by decide) ?_
  refine lv_icmp_ge (tgt := 354) hx hb dL_rows_347 (by decide) (fun h9 => absurd h9 (by decide)) (fun _ => ?_)
  refine lv_iload_n hx hb dL_rows_350 rfl (lv_at hl 0 rfl) ?_
  refine lv_goto (tgt := 356) hx hb dL_rows_351 (by decide) ?_
  refine lv_icmp_eq (tgt := 361) hx hb dL_rows_356 (by decide) (fun _ => ?_) (fun h9 => absurd h9 (by decide))
  refine lv_iinc (v := 14) (lv' := [(1, .int 14), (0, .ref q9o)]) hx hb dL_rows_361 hl (k := 0) rfl (by decide) (by decide) rfl (fun ls hl => ?_)
  refine lv_goto (tgt := 327) hx hb dL_rows_364 (by decide) ?_
  refine lv_iload_n hx hb dL_rows_327 rfl (lv_at hl 0 rfl) ?_
  refine lv_bipush (v := 22) hx hb dL_rows_328 (by decide) ?_
  refine lv_icmp_ge (tgt := 367) hx hb dL_rows_330 (by decide) (fun h9 => absurd h9 (by decide)) (fun _ => ?_)
  refine lv_aload_n hx hb dL_rows_333 rfl (lv_at hl 1 rfl) ?_
  refine lv_iconst (v := 1) hx hb dL_rows_334 (by decide) ?_
  refine lv_iconst (v := 0) hx hb dL_rows_335 (by decide) ?_
  refine lv_iconst (v := 1) hx hb dL_rows_336 (by decide) ?_
  refine lv_sipush (v := 364) hx hb dL_rows_337 (by decide) ?_
  refine lv_iconst (v := 0) hx hb dL_rows_340 (by decide) ?_
  refine px_ic hw (vx_runSX (As := [.ref q9o, .int 1, .int 0, .int 1, .int 364, .int 0]) (rest := []) CF (za_setWeight l hst g _ _ hS 0 1 364 (by decide +kernel) (by decide +kernel) (by decide +kernel) (by unfold okT; decide +kernel) (by decide +kernel) (v := 14) (by decide +kernel) (S2 := rS24) rfl _) (vx_cwSW 6 hts gL_rows_L_act rfl rfl rfl (by decide +kernel) ⟨Nat.le_of_ble_eq_true rfl, Nat.le_of_ble_eq_true rfl⟩) (pn_preS hw hs hN) rfl rfl hl.1 rfl (lv_room (Nat.le_of_ble_eq_true rfl)) dL_rows_341 ⟨Nat.le_of_ble_eq_true rfl, Nat.le_of_ble_eq_true rfl⟩) (fun E9 ce9 q9 L9 f9 H9 locs9 he9 _ _ _ _ => False.elim he9) (fun r9 La fa Ha loca hp hw9 => ?_)
  clear hw hS
  try clear locb Hb fb Lb
  have hw := hw9
  clear hw9
  obtain rfl : r9 = 14 := hp.1
  have hS : Wc g q9o rS24 24 La fa := hp.2
  clear hp
  refine lv_iload_n hx hb dL_rows_344 rfl (lv_at hl 0 rfl) ?_
  refine lv_bipush (v := 21) hx hb dL_rows_345 (by decide) ?_
  refine lv_icmp_ge (tgt := 354) hx hb dL_rows_347 (by decide) (fun h9 => absurd h9 (by decide)) (fun _ => ?_)
  refine lv_iload_n hx hb dL_rows_350 rfl (lv_at hl 0 rfl) ?_
  refine lv_goto (tgt := 356) hx hb dL_rows_351 (by decide) ?_
  refine lv_icmp_eq (tgt := 361) hx hb dL_rows_356 (by decide) (fun _ => ?_) (fun h9 => absurd h9 (by decide))
  refine lv_iinc (v := 15) (lv' := [(1, .int 15), (0, .ref q9o)]) hx hb dL_rows_361 hl (k := 0) rfl (by decide) (by decide) rfl (fun ls hl => ?_)
  refine lv_goto (tgt := 327) hx hb dL_rows_364 (by decide) ?_
  refine lv_iload_n hx hb dL_rows_327 rfl (lv_at hl 0 rfl) ?_
  refine lv_bipush (v := 22) hx hb dL_rows_328 (by decide) ?_
  refine lv_icmp_ge (tgt := 367) hx hb dL_rows_330 (by decide) (fun h9 => absurd h9 (by decide)) (fun _ => ?_)
  refine lv_aload_n hx hb dL_rows_333 rfl (lv_at hl 1 rfl) ?_
  refine lv_iconst (v := 1) hx hb dL_rows_334 (by decide) ?_
  refine lv_iconst (v := 0) hx hb dL_rows_335 (by decide) ?_
  refine lv_iconst (v := 1) hx hb dL_rows_336 (by decide) ?_
  refine lv_sipush (v := 364) hx hb dL_rows_337 (by decide) ?_
  refine lv_iconst (v := 0) hx hb dL_rows_340 (by decide) ?_
  refine px_ic hw (vx_runSX (As := [.ref q9o, .int 1, .int 0, .int 1, .int 364, .int 0]) (rest := []) CF (za_setWeight l hst g _ _ hS 0 1 364 (by decide +kernel) (by decide +kernel) (by decide +kernel) (by unfold okT; decide +kernel) (by decide +kernel) (v := 15) (by decide +kernel) (S2 := rS25) rfl _) (vx_cwSW 6 hts gL_rows_L_act rfl rfl rfl (by decide +kernel) ⟨Nat.le_of_ble_eq_true rfl, Nat.le_of_ble_eq_true rfl⟩) (pn_preS hw hs hN) rfl rfl hl.1 rfl (lv_room (Nat.le_of_ble_eq_true rfl)) dL_rows_341 ⟨Nat.le_of_ble_eq_true rfl, Nat.le_of_ble_eq_true rfl⟩) (fun E9 ce9 q9 L9 f9 H9 locs9 he9 _ _ _ _ => False.elim he9) (fun r9 Lb fb Hb locb hp hw9 => ?_)
  clear hw hS
  try clear loca Ha fa La
  have hw := hw9
  clear hw9
  obtain rfl : r9 = 15 := hp.1
  have hS : Wc g q9o rS25 25 Lb fb := hp.2
  clear hp
  refine lv_iload_n hx hb dL_rows_344 rfl (lv_at hl 0 rfl) ?_
  refine lv_bipush (v := 21) hx hb dL_rows_345 (by decide) ?_
  refine lv_icmp_ge (tgt := 354) hx hb dL_rows_347 (by decide) (fun h9 => absurd h9 (by decide)) (fun _ => ?_)
  refine lv_iload_n hx hb dL_rows_350 rfl (lv_at hl 0 rfl) ?_
  refine lv_goto (tgt := 356) hx hb dL_rows_351 (by decide) ?_
  refine lv_icmp_eq (tgt := 361) hx hb dL_rows_356 (by decide) (fun _ => ?_) (fun h9 => absurd h9 (by decide))
  refine lv_iinc (v := 16) (lv' := [(1, .int 16), (0, .ref q9o)]) hx hb dL_rows_361 hl (k := 0) rfl (by decide) (by decide) rfl (fun ls hl => ?_)
  refine lv_goto (tgt := 327) hx hb dL_rows_364 (by decide) ?_
  refine lv_iload_n hx hb dL_rows_327 rfl (lv_at hl 0 rfl) ?_
  refine lv_bipush (v := 22) hx hb dL_rows_328 (by decide) ?_
  refine lv_icmp_ge (tgt := 367) hx hb dL_rows_330 (by decide) (fun h9 => absurd h9 (by decide)) (fun _ => ?_)
  refine lv_aload_n hx hb dL_rows_333 rfl (lv_at hl 1 rfl) ?_
  refine lv_iconst (v := 1) hx hb dL_rows_334 (by decide) ?_
  refine lv_iconst (v := 0) hx hb dL_rows_335 (by decide) ?_
  refine lv_iconst (v := 1) hx hb dL_rows_336 (by decide) ?_
  refine lv_sipush (v := 364) hx hb dL_rows_337 (by decide) ?_
  refine lv_iconst (v := 0) hx hb dL_rows_340 (by decide) ?_
  refine px_ic hw (vx_runSX (As := [.ref q9o, .int 1, .int 0, .int 1, .int 364, .int 0]) (rest := []) CF (za_setWeight l hst g _ _ hS 0 1 364 (by decide +kernel) (by decide +kernel) (by decide +kernel) (by unfold okT; decide +kernel) (by decide +kernel) (v := 16) (by decide +kernel) (S2 := rS26) rfl _) (vx_cwSW 6 hts gL_rows_L_act rfl rfl rfl (by decide +kernel) ⟨Nat.le_of_ble_eq_true rfl, Nat.le_of_ble_eq_true rfl⟩) (pn_preS hw hs hN) rfl rfl hl.1 rfl (lv_room (Nat.le_of_ble_eq_true rfl)) dL_rows_341 ⟨Nat.le_of_ble_eq_true rfl, Nat.le_of_ble_eq_true rfl⟩) (fun E9 ce9 q9 L9 f9 H9 locs9 he9 _ _ _ _ => False.elim he9) (fun r9 La fa Ha loca hp hw9 => ?_)
  clear hw hS
  try clear locb Hb fb Lb
  have hw := hw9
  clear hw9
  obtain rfl : r9 = 16 := hp.1
  have hS : Wc g q9o rS26 26 La fa := hp.2
  clear hp
  refine lv_iload_n hx hb dL_rows_344 rfl (lv_at hl 0 rfl) ?_
  refine lv_bipush (v := 21) hx hb dL_rows_345 (by decide) ?_
  refine lv_icmp_ge (tgt := 354) hx hb dL_rows_347 (by decide) (fun h9 => absurd h9 (by decide)) (fun _ => ?_)
  refine lv_iload_n hx hb dL_rows_350 rfl (lv_at hl 0 rfl) ?_
  refine lv_goto (tgt := 356) hx hb dL_rows_351 (by decide) ?_
  refine lv_icmp_eq (tgt := 361) hx hb dL_rows_356 (by decide) (fun _ => ?_) (fun h9 => absurd h9 (by decide))
  refine lv_iinc (v := 17) (lv' := [(1, .int 17), (0, .ref q9o)]) hx hb dL_rows_361 hl (k := 0) rfl (by decide) (by decide) rfl (fun ls hl => ?_)
  refine lv_goto (tgt := 327) hx hb dL_rows_364 (by decide) ?_
  refine lv_iload_n hx hb dL_rows_327 rfl (lv_at hl 0 rfl) ?_
  refine lv_bipush (v := 22) hx hb dL_rows_328 (by decide) ?_
  refine lv_icmp_ge (tgt := 367) hx hb dL_rows_330 (by decide) (fun h9 => absurd h9 (by decide)) (fun _ => ?_)
  refine lv_aload_n hx hb dL_rows_333 rfl (lv_at hl 1 rfl) ?_
  refine lv_iconst (v := 1) hx hb dL_rows_334 (by decide) ?_
  refine lv_iconst (v := 0) hx hb dL_rows_335 (by decide) ?_
  refine lv_iconst (v := 1) hx hb dL_rows_336 (by decide) ?_
  refine lv_sipush (v := 364) hx hb dL_rows_337 (by decide) ?_
  refine lv_iconst (v := 0) hx hb dL_rows_340 (by decide) ?_
  refine px_ic hw (vx_runSX (As := [.ref q9o, .int 1, .int 0, .int 1, .int 364, .int 0]) (rest := []) CF (za_setWeight l hst g _ _ hS 0 1 364 (by decide +kernel) (by decide +kernel) (by decide +kernel) (by unfold okT; decide +kernel) (by decide +kernel) (v := 17) (by decide +kernel) (S2 := rS27) rfl _) (vx_cwSW 6 hts gL_rows_L_act rfl rfl rfl (by decide +kernel) ⟨Nat.le_of_ble_eq_true rfl, Nat.le_of_ble_eq_true rfl⟩) (pn_preS hw hs hN) rfl rfl hl.1 rfl (lv_room (Nat.le_of_ble_eq_true rfl)) dL_rows_341 ⟨Nat.le_of_ble_eq_true rfl, Nat.le_of_ble_eq_true rfl⟩) (fun E9 ce9 q9 L9 f9 H9 locs9 he9 _ _ _ _ => False.elim he9) (fun r9 Lb fb Hb locb hp hw9 => ?_)
  clear hw hS
  try clear loca Ha fa La
  have hw := hw9
  clear hw9
  obtain rfl : r9 = 17 := hp.1
  have hS : Wc g q9o rS27 27 Lb fb := hp.2
  clear hp
  refine lv_iload_n hx hb dL_rows_344 rfl (lv_at hl 0 rfl) ?_
  refine lv_bipush (v := 21) hx hb dL_rows_345 (by decide) ?_
  refine lv_icmp_ge (tgt := 354) hx hb dL_rows_347 (by decide) (fun h9 => absurd h9 (by decide)) (fun _ => ?_)
  refine lv_iload_n hx hb dL_rows_350 rfl (lv_at hl 0 rfl) ?_
  refine lv_goto (tgt := 356) hx hb dL_rows_351 (by decide) ?_
  refine lv_icmp_eq (tgt := 361) hx hb dL_rows_356 (by decide) (fun _ => ?_) (fun h9 => absurd h9 (by decide))
  refine lv_iinc (v := 18) (lv' := [(1, .int 18), (0, .ref q9o)]) hx hb dL_rows_361 hl (k := 0) rfl (by decide) (by decide) rfl (fun ls hl => ?_)
  refine lv_goto (tgt := 327) hx hb dL_rows_364 (by decide) ?_
  refine lv_iload_n hx hb dL_rows_327 rfl (lv_at hl 0 rfl) ?_
  refine lv_bipush (v := 22) hx hb dL_rows_328 (by decide) ?_
  refine lv_icmp_ge (tgt := 367) hx hb dL_rows_330 (by decide) (fun h9 => absurd h9 (by decide)) (fun _ => ?_)
  refine lv_aload_n hx hb dL_rows_333 rfl (lv_at hl 1 rfl) ?_
  refine lv_iconst (v := 1) hx hb dL_rows_334 (by decide) ?_
  refine lv_iconst (v := 0) hx hb dL_rows_335 (by decide) ?_
  refine lv_iconst (v := 1) hx hb dL_rows_336 (by decide) ?_
  refine lv_sipush (v := 364) hx hb dL_rows_337 (by decide) ?_
  refine lv_iconst (v := 0) hx hb dL_rows_340 (by decide) ?_
  refine px_ic hw (vx_runSX (As := [.ref q9o, .int 1, .int 0, .int 1, .int 364, .int 0]) (rest := []) CF (za_setWeight l hst g _ _ hS 0 1 364 (by decide +kernel) (by decide +kernel) (by decide +kernel) (by unfold okT; decide +kernel) (by decide +kernel) (v := 18) (by decide +kernel) (S2 := rS28) rfl _) (vx_cwSW 6 hts gL_rows_L_act rfl rfl rfl (by decide +kernel) ⟨Nat.le_of_ble_eq_true rfl, Nat.le_of_ble_eq_true rfl⟩) (pn_preS hw hs hN) rfl rfl hl.1 rfl (lv_room (Nat.le_of_ble_eq_true rfl)) dL_rows_341 ⟨Nat.le_of_ble_eq_true rfl, Nat.le_of_ble_eq_true rfl⟩) (fun E9 ce9 q9 L9 f9 H9 locs9 he9 _ _ _ _ => False.elim he9) (fun r9 La fa Ha loca hp hw9 => ?_)
  clear hw hS
  try clear locb Hb fb Lb
  have hw := hw9
  clear hw9
  obtain rfl : r9 = 18 := hp.1
  have hS : Wc g q9o rS28 28 La fa := hp.2
  clear hp
  refine lv_iload_n hx hb dL_rows_344 rfl (lv_at hl 0 rfl) ?_
  refine lv_bipush (v := 21) hx hb dL_rows_345 (by decide) ?_
  refine lv_icmp_ge (tgt := 354) hx hb dL_rows_347 (by decide) (fun h9 => absurd h9 (by decide)) (fun _ => ?_)
  refine lv_iload_n hx hb dL_rows_350 rfl (lv_at hl 0 rfl) ?_
  refine lv_goto (tgt := 356) hx hb dL_rows_351 (by decide) ?_
  refine lv_icmp_eq (tgt := 361) hx hb dL_rows_356 (by decide) (fun _ => ?_) (fun h9 => absurd h9 (by decide))
  refine lv_iinc (v := 19) (lv' := [(1, .int 19), (0, .ref q9o)]) hx hb dL_rows_361 hl (k := 0) rfl (by decide) (by decide) rfl (fun ls hl => ?_)
  refine lv_goto (tgt := 327) hx hb dL_rows_364 (by decide) ?_
  refine lv_iload_n hx hb dL_rows_327 rfl (lv_at hl 0 rfl) ?_
  refine lv_bipush (v := 22) hx hb dL_rows_328 (by decide) ?_
  refine lv_icmp_ge (tgt := 367) hx hb dL_rows_330 (by decide) (fun h9 => absurd h9 (by decide)) (fun _ => ?_)
  refine lv_aload_n hx hb dL_rows_333 rfl (lv_at hl 1 rfl) ?_
  refine lv_iconst (v := 1) hx hb dL_rows_334 (by decide) ?_
  refine lv_iconst (v := 0) hx hb dL_rows_335 (by decide) ?_
  refine lv_iconst (v := 1) hx hb dL_rows_336 (by decide) ?_
  refine lv_sipush (v := 364) hx hb dL_rows_337 (by decide) ?_
  refine lv_iconst (v := 0) hx hb dL_rows_340 (by decide) ?_
  refine px_ic hw (vx_runSX (As := [.ref q9o, .int 1, .int 0, .int 1, .int 364, .int 0]) (rest := []) CF (za_setWeight l hst g _ _ hS 0 1 364 (by decide +kernel) (by decide +kernel) (by decide +kernel) (by unfold okT; decide +kernel) (by decide +kernel) (v := 19) (by decide +kernel) (S2 := rS29) rfl _) (vx_cwSW 6 hts gL_rows_L_act rfl rfl rfl (by decide +kernel) ⟨Nat.le_of_ble_eq_true rfl, Nat.le_of_ble_eq_true rfl⟩) (pn_preS hw hs hN) rfl rfl hl.1 rfl (lv_room (Nat.le_of_ble_eq_true rfl)) dL_rows_341 ⟨Nat.le_of_ble_eq_true rfl, Nat.le_of_ble_eq_true rfl⟩) (fun E9 ce9 q9 L9 f9 H9 locs9 he9 _ _ _ _ => False.elim he9) (fun r9 Lb fb Hb locb hp hw9 => ?_)
  clear hw hS
  try clear loca Ha fa La
  have hw := hw9
  clear hw9
  obtain rfl : r9 = 19 := hp.1
  have hS : Wc g q9o rS29 29 Lb fb := hp.2
  clear hp
  refine lv_iload_n hx hb dL_rows_344 rfl (lv_at hl 0 rfl) ?_
  refine lv_bipush (v := 21) hx hb dL_rows_345 (by decide) ?_
  refine lv_icmp_ge (tgt := 354) hx hb dL_rows_347 (by decide) (fun h9 => absurd h9 (by decide)) (fun _ => ?_)
  refine lv_iload_n hx hb dL_rows_350 rfl (lv_at hl 0 rfl) ?_
  refine lv_goto (tgt := 356) hx hb dL_rows_351 (by decide) ?_
  refine lv_icmp_eq (tgt := 361) hx hb dL_rows_356 (by decide) (fun _ => ?_) (fun h9 => absurd h9 (by decide))
  refine lv_iinc (v := 20) (lv' := [(1, .int 20), (0, .ref q9o)]) hx hb dL_rows_361 hl (k := 0) rfl (by decide) (by decide) rfl (fun ls hl => ?_)
  refine lv_goto (tgt := 327) hx hb dL_rows_364 (by decide) ?_
  refine lv_iload_n hx hb dL_rows_327 rfl (lv_at hl 0 rfl) ?_
  refine lv_bipush (v := 22) hx hb dL_rows_328 (by decide) ?_
  refine lv_icmp_ge (tgt := 367) hx hb dL_rows_330 (by decide) (fun h9 => absurd h9 (by decide)) (fun _ => ?_)
  refine lv_aload_n hx hb dL_rows_333 rfl (lv_at hl 1 rfl) ?_
  refine lv_iconst (v := 1) hx hb dL_rows_334 (by decide) ?_
  refine lv_iconst (v := 0) hx hb dL_rows_335 (by decide) ?_
  refine lv_iconst (v := 1) hx hb dL_rows_336 (by decide) ?_
  refine lv_sipush (v := 364) hx hb dL_rows_337 (by decide) ?_
  refine lv_iconst (v := 0) hx hb dL_rows_340 (by decide) ?_
  refine px_ic hw (vx_runSX (As := [.ref q9o, .int 1, .int 0, .int 1, .int 364, .int 0]) (rest := []) CF (za_setWeight l hst g _ _ hS 0 1 364 (by decide +kernel) (by decide +kernel) (by decide +kernel) (by unfold okT; decide +kernel) (by decide +kernel) (v := 20) (by decide +kernel) (S2 := rS30) rfl _) (vx_cwSW 6 hts gL_rows_L_act rfl rfl rfl (by decide +kernel) ⟨Nat.le_of_ble_eq_true rfl, Nat.le_of_ble_eq_true rfl⟩) (pn_preS hw hs hN) rfl rfl hl.1 rfl (lv_room (Nat.le_of_ble_eq_true rfl)) dL_rows_341 ⟨Nat.le_of_ble_eq_true rfl, Nat.le_of_ble_eq_true rfl⟩) (fun E9 ce9 q9 L9 f9 H9 locs9 he9 _ _ _ _ => False.elim he9) (fun r9 La fa Ha loca hp hw9 => ?_)
  clear hw hS
  try clear locb Hb fb Lb
  have hw := hw9
  clear hw9
  obtain rfl : r9 = 20 := hp.1
  have hS : Wc g q9o rS30 30 La fa := hp.2
  clear hp
  refine lv_iload_n hx hb dL_rows_344 rfl (lv_at hl 0 rfl) ?_
  refine lv_bipush (v := 21) hx hb dL_rows_345 (by decide) ?_
  refine lv_icmp_ge (tgt := 354) hx hb dL_rows_347 (by decide) (fun h9 => absurd h9 (by decide)) (fun _ => ?_)
  refine lv_iload_n hx hb dL_rows_350 rfl (lv_at hl 0 rfl) ?_
  refine lv_goto (tgt := 356) hx hb dL_rows_351 (by decide) ?_
  refine lv_icmp_eq (tgt := 361) hx hb dL_rows_356 (by decide) (fun _ => ?_) (fun h9 => absurd h9 (by decide))
  refine lv_iinc (v := 21) (lv' := [(1, .int 21), (0, .ref q9o)]) hx hb dL_rows_361 hl (k := 0) rfl (by decide) (by decide) rfl (fun ls hl => ?_)
  refine lv_goto (tgt := 327) hx hb dL_rows_364 (by decide) ?_
  refine lv_iload_n hx hb dL_rows_327 rfl (lv_at hl 0 rfl) ?_
  refine lv_bipush (v := 22) hx hb dL_rows_328 (by decide) ?_
  refine lv_icmp_ge (tgt := 367) hx hb dL_rows_330 (by decide) (fun h9 => absurd h9 (by decide)) (fun _ => ?_)
  refine lv_aload_n hx hb dL_rows_333 rfl (lv_at hl 1 rfl) ?_
  refine lv_iconst (v := 1) hx hb dL_rows_334 (by decide) ?_
  refine lv_iconst (v := 0) hx hb dL_rows_335 (by decide) ?_
  refine lv_iconst (v := 1) hx hb dL_rows_336 (by decide) ?_
  refine lv_sipush (v := 364) hx hb dL_rows_337 (by decide) ?_
  refine lv_iconst (v := 0) hx hb dL_rows_340 (by decide) ?_
  refine px_ic hw (vx_runSX (As := [.ref q9o, .int 1, .int 0, .int 1, .int 364, .int 0]) (rest := []) CF (za_set20 l hst g _ _ hS (by decide) (by decide) (by decide) (by decide +kernel) _) (vx_cwSW 6 hts gL_rows_L_act rfl rfl rfl (by decide +kernel) ⟨Nat.le_of_ble_eq_true rfl, Nat.le_of_ble_eq_true rfl⟩) (pn_preS hw hs hN) rfl rfl hl.1 rfl (lv_room (Nat.le_of_ble_eq_true rfl)) dL_rows_341 ⟨Nat.le_of_ble_eq_true rfl, Nat.le_of_ble_eq_true rfl⟩) (fun E9 ce9 q9 L9 f9 H9 locs9 he9 _ _ _ _ => False.elim he9) (fun r9 Lb fb Hb locb hp hw9 => ?_)
  clear hw hS
  try clear loca Ha fa La
  have hw := hw9
  clear hw9
  obtain rfl : r9 = (-90000003) := hp.1
  have hS : Wc g q9o rS30 30 Lb fb := hp.2
  clear hp
  refine lv_iload_n hx hb dL_rows_344 rfl (lv_at hl 0 rfl) ?_
  refine lv_bipush (v := 21) hx hb dL_rows_345 (by decide) ?_
  refine lv_icmp_ge (tgt := 354) hx hb dL_rows_347 (by decide) (fun _ => ?_) (fun h9 => absurd h9 (by decide))
  refine lv_ldc (v := (-90000003)) hx hb hown (hts (.constant RL 79 (-90000003)) (by decide +kernel)) dL_rows_354 ?_
  refine lv_icmp_eq (tgt := 361) hx hb dL_rows_356 (by decide) (fun _ => ?_) (fun h9 => absurd h9 (by decide))
  refine lv_iinc (v := 22) (lv' := [(1, .int 22), (0, .ref q9o)]) hx hb dL_rows_361 hl (k := 0) rfl (by decide) (by decide) rfl (fun ls hl => ?_)
  refine lv_goto (tgt := 327) hx hb dL_rows_364 (by decide) ?_
  refine lv_iload_n hx hb dL_rows_327 rfl (lv_at hl 0 rfl) ?_
  refine lv_bipush (v := 22) hx hb dL_rows_328 (by decide) ?_
  refine lv_icmp_ge (tgt := 367) hx hb dL_rows_330 (by decide) (fun _ => ?_) (fun h9 => absurd h9 (by decide))
  refine lv_bipush (v := 6) hx hb dL_rows_367 (by decide) ?_
  refine lv_istore_n (lv' := [(1, .int 6), (0, .ref q9o)]) hx hb dL_rows_369 rfl hl (by decide) rfl (fun ls hl => ?_)
  refine lv_iload_n hx hb dL_rows_370 rfl (lv_at hl 0 rfl) ?_
  refine lv_bipush (v := 61) hx hb dL_rows_371 (by decide) ?_
  refine lv_icmp_ge (tgt := 423) hx hb dL_rows_373 (by decide) (fun h9 => absurd h9 (by decide)) (fun _ => ?_)
  refine lv_aload_n hx hb dL_rows_376 rfl (lv_at hl 1 rfl) ?_
  refine lv_iconst (v := 3) hx hb dL_rows_377 (by decide) ?_
  refine lv_iload_n hx hb dL_rows_378 rfl (lv_at hl 0 rfl) ?_
  refine lv_iconst (v := 4) hx hb dL_rows_379 (by decide) ?_
  refine lv_irem hx hb dL_rows_380 (by decide) ?_
  refine lv_topi (fun z9 hz9 => ?_)
  obtain rfl : z9 = 2 := hz9.trans (by decide)
  refine lv_iadd hx hb dL_rows_381 ?_
  refine lv_topi (fun z9 hz9 => ?_)
  obtain rfl : z9 = 5 := hz9.trans (by decide)
  refine lv_iconst (v := 1) hx hb dL_rows_382 (by decide) ?_
  refine lv_iload_n hx hb dL_rows_383 rfl (lv_at hl 0 rfl) ?_
  refine lv_iconst (v := 4) hx hb dL_rows_384 (by decide) ?_
  refine lv_irem hx hb dL_rows_385 (by decide) ?_
  refine lv_topi (fun z9 hz9 => ?_)
  obtain rfl : z9 = 2 := hz9.trans (by decide)
  refine lv_iconst (v := 1) hx hb dL_rows_386 (by decide) ?_
  refine lv_icmp_le (tgt := 394) hx hb dL_rows_387 (by decide) (fun h9 => absurd h9 (by decide)) (fun _ => ?_)
  refine lv_iload_n hx hb dL_rows_390 rfl (lv_at hl 0 rfl) ?_
  refine lv_goto (tgt := 395) hx hb dL_rows_391 (by decide) ?_
  refine lv_iload_n hx hb dL_rows_395 rfl (lv_at hl 0 rfl) ?_
  refine lv_iconst (v := 0) hx hb dL_rows_396 (by decide) ?_
  refine px_ic hw (vx_runSX (As := [.ref q9o, .int 5, .int 1, .int 6, .int 6, .int 0]) (rest := []) CF (za_cancel l hst g _ _ hS 1 6 (by decide +kernel) (by decide +kernel) (by decide +kernel) (by unfold okC; decide +kernel) (by decide +kernel) (v := 6) (by decide +kernel) (S2 := rS31) rfl _) (vx_cwSW 6 hts gL_rows_L_act rfl rfl rfl (by decide +kernel) ⟨Nat.le_of_ble_eq_true rfl, Nat.le_of_ble_eq_true rfl⟩) (pn_preS hw hs hN) rfl rfl hl.1 rfl (lv_room (Nat.le_of_ble_eq_true rfl)) dL_rows_397 ⟨Nat.le_of_ble_eq_true rfl, Nat.le_of_ble_eq_true rfl⟩) (fun E9 ce9 q9 L9 f9 H9 locs9 he9 _ _ _ _ => False.elim he9) (fun r9 La fa Ha loca hp hw9 => ?_)
  clear hw hS
  try clear locb Hb fb Lb
  have hw := hw9
  clear hw9
  obtain rfl : r9 = 6 := hp.1
  have hS : Wc g q9o rS31 31 La fa := hp.2
  clear hp
  refine lv_iload_n hx hb dL_rows_400 rfl (lv_at hl 0 rfl) ?_
  refine lv_bipush (v := 60) hx hb dL_rows_401 (by decide) ?_
  refine lv_icmp_ge (tgt := 410) hx hb dL_rows_403 (by decide) (fun h9 => absurd h9 (by decide)) (fun _ => ?_)
  refine lv_iload_n hx hb dL_rows_406 rfl (lv_at hl 0 rfl) ?_
  refine lv_goto (tgt := 412) hx hb dL_rows_407 (by decide) ?_
  refine lv_icmp_eq (tgt := 417) hx hb dL_rows_412 (by decide) (fun _ => ?_) (fun h9 => absurd h9 (by decide))
  refine lv_iinc (v := 7) (lv' := [(1, .int 7), (0, .ref q9o)]) hx hb dL_rows_417 hl (k := 0) rfl (by decide) (by decide) rfl (fun ls hl => ?_)
  refine lv_goto (tgt := 370) hx hb dL_rows_420 (by decide) ?_
  refine lv_iload_n hx hb dL_rows_370 rfl (lv_at hl 0 rfl) ?_
  refine lv_bipush (v := 61) hx hb dL_rows_371 (by decide) ?_
  refine lv_icmp_ge (tgt := 423) hx hb dL_rows_373 (by decide) (fun h9 => absurd h9 (by decide)) (fun _ => ?_)
  refine lv_aload_n hx hb dL_rows_376 rfl (lv_at hl 1 rfl) ?_
  refine lv_iconst (v := 3) hx hb dL_rows_377 (by decide) ?_
  refine lv_iload_n hx hb dL_rows_378 rfl (lv_at hl 0 rfl) ?_
  refine lv_iconst (v := 4) hx hb dL_rows_379 (by decide) ?_
  refine lv_irem hx hb dL_rows_380 (by decide) ?_
  refine lv_topi (fun z9 hz9 => ?_)
  obtain rfl : z9 = 3 := hz9.trans (by decide)
  refine lv_iadd hx hb dL_rows_381 ?_
  refine lv_topi (fun z9 hz9 => ?_)
  obtain rfl : z9 = 6 := hz9.trans (by decide)
  refine lv_iconst (v := 1) hx hb dL_rows_382 (by decide) ?_
  refine lv_iload_n hx hb dL_rows_383 rfl (lv_at hl 0 rfl) ?_
  refine lv_iconst (v := 4) hx hb dL_rows_384 (by decide) ?_
  refine lv_irem hx hb dL_rows_385 (by decide) ?_
  refine lv_topi (fun z9 hz9 => ?_)
  obtain rfl : z9 = 3 := hz9.trans (by decide)
  refine lv_iconst (v := 1) hx hb dL_rows_386 (by decide) ?_
  refine lv_icmp_le (tgt := 394) hx hb dL_rows_387 (by decide) (fun h9 => absurd h9 (by decide)) (fun _ => ?_)
  refine lv_iload_n hx hb dL_rows_390 rfl (lv_at hl 0 rfl) ?_
  refine lv_goto (tgt := 395) hx hb dL_rows_391 (by decide) ?_
  refine lv_iload_n hx hb dL_rows_395 rfl (lv_at hl 0 rfl) ?_
  refine lv_iconst (v := 0) hx hb dL_rows_396 (by decide) ?_
  refine px_ic hw (vx_runSX (As := [.ref q9o, .int 6, .int 1, .int 7, .int 7, .int 0]) (rest := []) CF (za_reinstate l hst g _ _ hS 1 7 (by decide +kernel) (by decide +kernel) (by decide +kernel) (by unfold okC; decide +kernel) (by decide +kernel) (v := 7) (by decide +kernel) (S2 := rS32) rfl _) (vx_cwSW 6 hts gL_rows_L_act rfl rfl rfl (by decide +kernel) ⟨Nat.le_of_ble_eq_true rfl, Nat.le_of_ble_eq_true rfl⟩) (pn_preS hw hs hN) rfl rfl hl.1 rfl (lv_room (Nat.le_of_ble_eq_true rfl)) dL_rows_397 ⟨Nat.le_of_ble_eq_true rfl, Nat.le_of_ble_eq_true rfl⟩) (fun E9 ce9 q9 L9 f9 H9 locs9 he9 _ _ _ _ => False.elim he9) (fun r9 Lb fb Hb locb hp hw9 => ?_)
  clear hw hS
  try clear loca Ha fa La
  have hw := hw9
  clear hw9
  obtain rfl : r9 = 7 := hp.1
  have hS : Wc g q9o rS32 32 Lb fb := hp.2
  clear hp
  refine lv_iload_n hx hb dL_rows_400 rfl (lv_at hl 0 rfl) ?_
  refine lv_bipush (v := 60) hx hb dL_rows_401 (by decide) ?_
  refine lv_icmp_ge (tgt := 410) hx hb dL_rows_403 (by decide) (fun h9 => absurd h9 (by decide)) (fun _ => ?_)
  refine lv_iload_n hx hb dL_rows_406 rfl (lv_at hl 0 rfl) ?_
  refine lv_goto (tgt := 412) hx hb dL_rows_407 (by decide) ?_
  refine lv_icmp_eq (tgt := 417) hx hb dL_rows_412 (by decide) (fun _ => ?_) (fun h9 => absurd h9 (by decide))
  refine lv_iinc (v := 8) (lv' := [(1, .int 8), (0, .ref q9o)]) hx hb dL_rows_417 hl (k := 0) rfl (by decide) (by decide) rfl (fun ls hl => ?_)
  refine lv_goto (tgt := 370) hx hb dL_rows_420 (by decide) ?_
  refine lv_iload_n hx hb dL_rows_370 rfl (lv_at hl 0 rfl) ?_
  refine lv_bipush (v := 61) hx hb dL_rows_371 (by decide) ?_
  refine lv_icmp_ge (tgt := 423) hx hb dL_rows_373 (by decide) (fun h9 => absurd h9 (by decide)) (fun _ => ?_)
  refine lv_aload_n hx hb dL_rows_376 rfl (lv_at hl 1 rfl) ?_
  refine lv_iconst (v := 3) hx hb dL_rows_377 (by decide) ?_
  refine lv_iload_n hx hb dL_rows_378 rfl (lv_at hl 0 rfl) ?_
  refine lv_iconst (v := 4) hx hb dL_rows_379 (by decide) ?_
  refine lv_irem hx hb dL_rows_380 (by decide) ?_
  refine lv_topi (fun z9 hz9 => ?_)
  obtain rfl : z9 = 0 := hz9.trans (by decide)
  refine lv_iadd hx hb dL_rows_381 ?_
  refine lv_topi (fun z9 hz9 => ?_)
  obtain rfl : z9 = 3 := hz9.trans (by decide)
  refine lv_iconst (v := 1) hx hb dL_rows_382 (by decide) ?_
  refine lv_iload_n hx hb dL_rows_383 rfl (lv_at hl 0 rfl) ?_
  refine lv_iconst (v := 4) hx hb dL_rows_384 (by decide) ?_
  refine lv_irem hx hb dL_rows_385 (by decide) ?_
  refine lv_topi (fun z9 hz9 => ?_)
  obtain rfl : z9 = 0 := hz9.trans (by decide)
  refine lv_iconst (v := 1) hx hb dL_rows_386 (by decide) ?_
  refine lv_icmp_le (tgt := 394) hx hb dL_rows_387 (by decide) (fun _ => ?_) (fun h9 => absurd h9 (by decide))
  refine lv_iconst (v := 0) hx hb dL_rows_394 (by decide) ?_
  refine lv_iload_n hx hb dL_rows_395 rfl (lv_at hl 0 rfl) ?_
  refine lv_iconst (v := 0) hx hb dL_rows_396 (by decide) ?_
  refine px_ic hw (vx_runSX (As := [.ref q9o, .int 3, .int 1, .int 0, .int 8, .int 0]) (rest := []) CF (za_change l hst g _ _ hS 1 0 8 20 (by decide +kernel) (by decide +kernel) (by decide +kernel) (by decide +kernel) (by decide +kernel) (by unfold okC; decide +kernel) (by decide +kernel) (v := 8) (by decide +kernel) (S2 := rS33) rfl _) (vx_cwSW 6 hts gL_rows_L_act rfl rfl rfl (by decide +kernel) ⟨Nat.le_of_ble_eq_true rfl, Nat.le_of_ble_eq_true rfl⟩) (pn_preS hw hs hN) rfl rfl hl.1 rfl (lv_room (Nat.le_of_ble_eq_true rfl)) dL_rows_397 ⟨Nat.le_of_ble_eq_true rfl, Nat.le_of_ble_eq_true rfl⟩) (fun E9 ce9 q9 L9 f9 H9 locs9 he9 _ _ _ _ => False.elim he9) (fun r9 La fa Ha loca hp hw9 => ?_)
  clear hw hS
  try clear locb Hb fb Lb
  have hw := hw9
  clear hw9
  obtain rfl : r9 = 8 := hp.1
  have hS : Wc g q9o rS33 33 La fa := hp.2
  clear hp
  refine lv_iload_n hx hb dL_rows_400 rfl (lv_at hl 0 rfl) ?_
  refine lv_bipush (v := 60) hx hb dL_rows_401 (by decide) ?_
  refine lv_icmp_ge (tgt := 410) hx hb dL_rows_403 (by decide) (fun h9 => absurd h9 (by decide)) (fun _ => ?_)
  refine lv_iload_n hx hb dL_rows_406 rfl (lv_at hl 0 rfl) ?_
  refine lv_goto (tgt := 412) hx hb dL_rows_407 (by decide) ?_
  refine lv_icmp_eq (tgt := 417) hx hb dL_rows_412 (by decide) (fun _ => ?_) (fun h9 => absurd h9 (by decide))
  refine lv_iinc (v := 9) (lv' := [(1, .int 9), (0, .ref q9o)]) hx hb dL_rows_417 hl (k := 0) rfl (by decide) (by decide) rfl (fun ls hl => ?_)
  refine lv_goto (tgt := 370) hx hb dL_rows_420 (by decide) ?_
  refine lv_iload_n hx hb dL_rows_370 rfl (lv_at hl 0 rfl) ?_
  refine lv_bipush (v := 61) hx hb dL_rows_371 (by decide) ?_
  refine lv_icmp_ge (tgt := 423) hx hb dL_rows_373 (by decide) (fun h9 => absurd h9 (by decide)) (fun _ => ?_)
  refine lv_aload_n hx hb dL_rows_376 rfl (lv_at hl 1 rfl) ?_
  refine lv_iconst (v := 3) hx hb dL_rows_377 (by decide) ?_
  refine lv_iload_n hx hb dL_rows_378 rfl (lv_at hl 0 rfl) ?_
  refine lv_iconst (v := 4) hx hb dL_rows_379 (by decide) ?_
  refine lv_irem hx hb dL_rows_380 (by decide) ?_
  refine lv_topi (fun z9 hz9 => ?_)
  obtain rfl : z9 = 1 := hz9.trans (by decide)
  refine lv_iadd hx hb dL_rows_381 ?_
  refine lv_topi (fun z9 hz9 => ?_)
  obtain rfl : z9 = 4 := hz9.trans (by decide)
  refine lv_iconst (v := 1) hx hb dL_rows_382 (by decide) ?_
  refine lv_iload_n hx hb dL_rows_383 rfl (lv_at hl 0 rfl) ?_
  refine lv_iconst (v := 4) hx hb dL_rows_384 (by decide) ?_
  refine lv_irem hx hb dL_rows_385 (by decide) ?_
  refine lv_topi (fun z9 hz9 => ?_)
  obtain rfl : z9 = 1 := hz9.trans (by decide)
  refine lv_iconst (v := 1) hx hb dL_rows_386 (by decide) ?_
  refine lv_icmp_le (tgt := 394) hx hb dL_rows_387 (by decide) (fun _ => ?_) (fun h9 => absurd h9 (by decide))
  refine lv_iconst (v := 0) hx hb dL_rows_394 (by decide) ?_
  refine lv_iload_n hx hb dL_rows_395 rfl (lv_at hl 0 rfl) ?_
  refine lv_iconst (v := 0) hx hb dL_rows_396 (by decide) ?_
  refine px_ic hw (vx_runSX (As := [.ref q9o, .int 4, .int 1, .int 0, .int 9, .int 0]) (rest := []) CF (za_add l hst g _ _ hS 1 0 9 20 (by decide +kernel) (by decide +kernel) (by decide +kernel) (by decide +kernel) (by decide +kernel) (by unfold okC; decide +kernel) (by decide +kernel) (v := 9) (by decide +kernel) (S2 := rS34) rfl _) (vx_cwSW 6 hts gL_rows_L_act rfl rfl rfl (by decide +kernel) ⟨Nat.le_of_ble_eq_true rfl, Nat.le_of_ble_eq_true rfl⟩) (pn_preS hw hs hN) rfl rfl hl.1 rfl (lv_room (Nat.le_of_ble_eq_true rfl)) dL_rows_397 ⟨Nat.le_of_ble_eq_true rfl, Nat.le_of_ble_eq_true rfl⟩) (fun E9 ce9 q9 L9 f9 H9 locs9 he9 _ _ _ _ => False.elim he9) (fun r9 Lb fb Hb locb hp hw9 => ?_)
  clear hw hS
  try clear loca Ha fa La
  have hw := hw9
  clear hw9
  obtain rfl : r9 = 9 := hp.1
  have hS : Wc g q9o rS34 34 Lb fb := hp.2
  clear hp
  refine lv_iload_n hx hb dL_rows_400 rfl (lv_at hl 0 rfl) ?_
  refine lv_bipush (v := 60) hx hb dL_rows_401 (by decide) ?_
  refine lv_icmp_ge (tgt := 410) hx hb dL_rows_403 (by decide) (fun h9 => absurd h9 (by decide)) (fun _ => ?_)
  refine lv_iload_n hx hb dL_rows_406 rfl (lv_at hl 0 rfl) ?_
  refine lv_goto (tgt := 412) hx hb dL_rows_407 (by decide) ?_
  refine lv_icmp_eq (tgt := 417) hx hb dL_rows_412 (by decide) (fun _ => ?_) (fun h9 => absurd h9 (by decide))
  refine lv_iinc (v := 10) (lv' := [(1, .int 10), (0, .ref q9o)]) hx hb dL_rows_417 hl (k := 0) rfl (by decide) (by decide) rfl (fun ls hl => ?_)
  refine lv_goto (tgt := 370) hx hb dL_rows_420 (by decide) ?_
  refine lv_iload_n hx hb dL_rows_370 rfl (lv_at hl 0 rfl) ?_
  refine lv_bipush (v := 61) hx hb dL_rows_371 (by decide) ?_
  refine lv_icmp_ge (tgt := 423) hx hb dL_rows_373 (by decide) (fun h9 => absurd h9 (by decide)) (fun _ => ?_)
  refine lv_aload_n hx hb dL_rows_376 rfl (lv_at hl 1 rfl) ?_
  refine lv_iconst (v := 3) hx hb dL_rows_377 (by decide) ?_
  refine lv_iload_n hx hb dL_rows_378 rfl (lv_at hl 0 rfl) ?_
  refine lv_iconst (v := 4) hx hb dL_rows_379 (by decide) ?_
  refine lv_irem hx hb dL_rows_380 (by decide) ?_
  refine lv_topi (fun z9 hz9 => ?_)
  obtain rfl : z9 = 2 := hz9.trans (by decide)
  refine lv_iadd hx hb dL_rows_381 ?_
  refine lv_topi (fun z9 hz9 => ?_)
  obtain rfl : z9 = 5 := hz9.trans (by decide)
  refine lv_iconst (v := 1) hx hb dL_rows_382 (by decide) ?_
  refine lv_iload_n hx hb dL_rows_383 rfl (lv_at hl 0 rfl) ?_
  refine lv_iconst (v := 4) hx hb dL_rows_384 (by decide) ?_
  refine lv_irem hx hb dL_rows_385 (by decide) ?_
  refine lv_topi (fun z9 hz9 => ?_)
  obtain rfl : z9 = 2 := hz9.trans (by decide)
  refine lv_iconst (v := 1) hx hb dL_rows_386 (by decide) ?_
  refine lv_icmp_le (tgt := 394) hx hb dL_rows_387 (by decide) (fun h9 => absurd h9 (by decide)) (fun _ => ?_)
  refine lv_iload_n hx hb dL_rows_390 rfl (lv_at hl 0 rfl) ?_
  refine lv_goto (tgt := 395) hx hb dL_rows_391 (by decide) ?_
  refine lv_iload_n hx hb dL_rows_395 rfl (lv_at hl 0 rfl) ?_
  refine lv_iconst (v := 0) hx hb dL_rows_396 (by decide) ?_
  refine px_ic hw (vx_runSX (As := [.ref q9o, .int 5, .int 1, .int 10, .int 10, .int 0]) (rest := []) CF (za_cancel l hst g _ _ hS 1 10 (by decide +kernel) (by decide +kernel) (by decide +kernel) (by unfold okC; decide +kernel) (by decide +kernel) (v := 10) (by decide +kernel) (S2 := rS35) rfl _) (vx_cwSW 6 hts gL_rows_L_act rfl rfl rfl (by decide +kernel) ⟨Nat.le_of_ble_eq_true rfl, Nat.le_of_ble_eq_true rfl⟩) (pn_preS hw hs hN) rfl rfl hl.1 rfl (lv_room (Nat.le_of_ble_eq_true rfl)) dL_rows_397 ⟨Nat.le_of_ble_eq_true rfl, Nat.le_of_ble_eq_true rfl⟩) (fun E9 ce9 q9 L9 f9 H9 locs9 he9 _ _ _ _ => False.elim he9) (fun r9 La fa Ha loca hp hw9 => ?_)
  clear hw hS
  try clear locb Hb fb Lb
  have hw := hw9
  clear hw9
  obtain rfl : r9 = 10 := hp.1
  have hS : Wc g q9o rS35 35 La fa := hp.2
  clear hp
  refine lv_iload_n hx hb dL_rows_400 rfl (lv_at hl 0 rfl) ?_
  refine lv_bipush (v := 60) hx hb dL_rows_401 (by decide) ?_
  refine lv_icmp_ge (tgt := 410) hx hb dL_rows_403 (by decide) (fun h9 => absurd h9 (by decide)) (fun _ => ?_)
  refine lv_iload_n hx hb dL_rows_406 rfl (lv_at hl 0 rfl) ?_
  refine lv_goto (tgt := 412) hx hb dL_rows_407 (by decide) ?_
  refine lv_icmp_eq (tgt := 417) hx hb dL_rows_412 (by decide) (fun _ => ?_) (fun h9 => absurd h9 (by decide))
  refine lv_iinc (v := 11) (lv' := [(1, .int 11), (0, .ref q9o)]) hx hb dL_rows_417 hl (k := 0) rfl (by decide) (by decide) rfl (fun ls hl => ?_)
  refine lv_goto (tgt := 370) hx hb dL_rows_420 (by decide) ?_
  refine lv_iload_n hx hb dL_rows_370 rfl (lv_at hl 0 rfl) ?_
  refine lv_bipush (v := 61) hx hb dL_rows_371 (by decide) ?_
  refine lv_icmp_ge (tgt := 423) hx hb dL_rows_373 (by decide) (fun h9 => absurd h9 (by decide)) (fun _ => ?_)
  refine lv_aload_n hx hb dL_rows_376 rfl (lv_at hl 1 rfl) ?_
  refine lv_iconst (v := 3) hx hb dL_rows_377 (by decide) ?_
  refine lv_iload_n hx hb dL_rows_378 rfl (lv_at hl 0 rfl) ?_
  refine lv_iconst (v := 4) hx hb dL_rows_379 (by decide) ?_
  refine lv_irem hx hb dL_rows_380 (by decide) ?_
  refine lv_topi (fun z9 hz9 => ?_)
  obtain rfl : z9 = 3 := hz9.trans (by decide)
  refine lv_iadd hx hb dL_rows_381 ?_
  refine lv_topi (fun z9 hz9 => ?_)
  obtain rfl : z9 = 6 := hz9.trans (by decide)
  refine lv_iconst (v := 1) hx hb dL_rows_382 (by decide) ?_
  refine lv_iload_n hx hb dL_rows_383 rfl (lv_at hl 0 rfl) ?_
  refine lv_iconst (v := 4) hx hb dL_rows_384 (by decide) ?_
  refine lv_irem hx hb dL_rows_385 (by decide) ?_
  refine lv_topi (fun z9 hz9 => ?_)
  obtain rfl : z9 = 3 := hz9.trans (by decide)
  refine lv_iconst (v := 1) hx hb dL_rows_386 (by decide) ?_
  refine lv_icmp_le (tgt := 394) hx hb dL_rows_387 (by decide) (fun h9 => absurd h9 (by decide)) (fun _ => ?_)
  refine lv_iload_n hx hb dL_rows_390 rfl (lv_at hl 0 rfl) ?_
  refine lv_goto (tgt := 395) hx hb dL_rows_391 (by decide) ?_
  refine lv_iload_n hx hb dL_rows_395 rfl (lv_at hl 0 rfl) ?_
  refine lv_iconst (v := 0) hx hb dL_rows_396 (by decide) ?_
  refine px_ic hw (vx_runSX (As := [.ref q9o, .int 6, .int 1, .int 11, .int 11, .int 0]) (rest := []) CF (za_reinstate l hst g _ _ hS 1 11 (by decide +kernel) (by decide +kernel) (by decide +kernel) (by unfold okC; decide +kernel) (by decide +kernel) (v := 11) (by decide +kernel) (S2 := rS36) rfl _) (vx_cwSW 6 hts gL_rows_L_act rfl rfl rfl (by decide +kernel) ⟨Nat.le_of_ble_eq_true rfl, Nat.le_of_ble_eq_true rfl⟩) (pn_preS hw hs hN) rfl rfl hl.1 rfl (lv_room (Nat.le_of_ble_eq_true rfl)) dL_rows_397 ⟨Nat.le_of_ble_eq_true rfl, Nat.le_of_ble_eq_true rfl⟩) (fun E9 ce9 q9 L9 f9 H9 locs9 he9 _ _ _ _ => False.elim he9) (fun r9 Lb fb Hb locb hp hw9 => ?_)
  clear hw hS
  try clear loca Ha fa La
  have hw := hw9
  clear hw9
  obtain rfl : r9 = 11 := hp.1
  have hS : Wc g q9o rS36 36 Lb fb := hp.2
  clear hp
  refine lv_iload_n hx hb dL_rows_400 rfl (lv_at hl 0 rfl) ?_
  refine lv_bipush (v := 60) hx hb dL_rows_401 (by decide) ?_
  refine lv_icmp_ge (tgt := 410) hx hb dL_rows_403 (by decide) (fun h9 => absurd h9 (by decide)) (fun _ => ?_)
  refine lv_iload_n hx hb dL_rows_406 rfl (lv_at hl 0 rfl) ?_
  refine lv_goto (tgt := 412) hx hb dL_rows_407 (by decide) ?_
  refine lv_icmp_eq (tgt := 417) hx hb dL_rows_412 (by decide) (fun _ => ?_) (fun h9 => absurd h9 (by decide))
  refine lv_iinc (v := 12) (lv' := [(1, .int 12), (0, .ref q9o)]) hx hb dL_rows_417 hl (k := 0) rfl (by decide) (by decide) rfl (fun ls hl => ?_)
  refine lv_goto (tgt := 370) hx hb dL_rows_420 (by decide) ?_
  refine lv_iload_n hx hb dL_rows_370 rfl (lv_at hl 0 rfl) ?_
  refine lv_bipush (v := 61) hx hb dL_rows_371 (by decide) ?_
  refine lv_icmp_ge (tgt := 423) hx hb dL_rows_373 (by decide) (fun h9 => absurd h9 (by decide)) (fun _ => ?_)
  refine lv_aload_n hx hb dL_rows_376 rfl (lv_at hl 1 rfl) ?_
  refine lv_iconst (v := 3) hx hb dL_rows_377 (by decide) ?_
  refine lv_iload_n hx hb dL_rows_378 rfl (lv_at hl 0 rfl) ?_
  refine lv_iconst (v := 4) hx hb dL_rows_379 (by decide) ?_
  refine lv_irem hx hb dL_rows_380 (by decide) ?_
  refine lv_topi (fun z9 hz9 => ?_)
  obtain rfl : z9 = 0 := hz9.trans (by decide)
  refine lv_iadd hx hb dL_rows_381 ?_
  refine lv_topi (fun z9 hz9 => ?_)
  obtain rfl : z9 = 3 := hz9.trans (by decide)
  refine lv_iconst (v := 1) hx hb dL_rows_382 (by decide) ?_
  refine lv_iload_n hx hb dL_rows_383 rfl (lv_at hl 0 rfl) ?_
  refine lv_iconst (v := 4) hx hb dL_rows_384 (by decide) ?_
  refine lv_irem hx hb dL_rows_385 (by decide) ?_
  refine lv_topi (fun z9 hz9 => ?_)
  obtain rfl : z9 = 0 := hz9.trans (by decide)
  refine lv_iconst (v := 1) hx hb dL_rows_386 (by decide) ?_
  refine lv_icmp_le (tgt := 394) hx hb dL_rows_387 (by decide) (fun _ => ?_) (fun h9 => absurd h9 (by decide))
  refine lv_iconst (v := 0) hx hb dL_rows_394 (by decide) ?_
  refine lv_iload_n hx hb dL_rows_395 rfl (lv_at hl 0 rfl) ?_
  refine lv_iconst (v := 0) hx hb dL_rows_396 (by decide) ?_
  refine px_ic hw (vx_runSX (As := [.ref q9o, .int 3, .int 1, .int 0, .int 12, .int 0]) (rest := []) CF (za_change l hst g _ _ hS 1 0 12 20 (by decide +kernel) (by decide +kernel) (by decide +kernel) (by decide +kernel) (by decide +kernel) (by unfold okC; decide +kernel) (by decide +kernel) (v := 12) (by decide +kernel) (S2 := rS37) rfl _) (vx_cwSW 6 hts gL_rows_L_act rfl rfl rfl (by decide +kernel) ⟨Nat.le_of_ble_eq_true rfl, Nat.le_of_ble_eq_true rfl⟩) (pn_preS hw hs hN) rfl rfl hl.1 rfl (lv_room (Nat.le_of_ble_eq_true rfl)) dL_rows_397 ⟨Nat.le_of_ble_eq_true rfl, Nat.le_of_ble_eq_true rfl⟩) (fun E9 ce9 q9 L9 f9 H9 locs9 he9 _ _ _ _ => False.elim he9) (fun r9 La fa Ha loca hp hw9 => ?_)
  clear hw hS
  try clear locb Hb fb Lb
  have hw := hw9
  clear hw9
  obtain rfl : r9 = 12 := hp.1
  have hS : Wc g q9o rS37 37 La fa := hp.2
  clear hp
  refine lv_iload_n hx hb dL_rows_400 rfl (lv_at hl 0 rfl) ?_
  refine lv_bipush (v := 60) hx hb dL_rows_401 (by decide) ?_
  refine lv_icmp_ge (tgt := 410) hx hb dL_rows_403 (by decide) (fun h9 => absurd h9 (by decide)) (fun _ => ?_)
  refine lv_iload_n hx hb dL_rows_406 rfl (lv_at hl 0 rfl) ?_
  refine lv_goto (tgt := 412) hx hb dL_rows_407 (by decide) ?_
  refine lv_icmp_eq (tgt := 417) hx hb dL_rows_412 (by decide) (fun _ => ?_) (fun h9 => absurd h9 (by decide))
  refine lv_iinc (v := 13) (lv' := [(1, .int 13), (0, .ref q9o)]) hx hb dL_rows_417 hl (k := 0) rfl (by decide) (by decide) rfl (fun ls hl => ?_)
  refine lv_goto (tgt := 370) hx hb dL_rows_420 (by decide) ?_
  refine lv_iload_n hx hb dL_rows_370 rfl (lv_at hl 0 rfl) ?_
  refine lv_bipush (v := 61) hx hb dL_rows_371 (by decide) ?_
  refine lv_icmp_ge (tgt := 423) hx hb dL_rows_373 (by decide) (fun h9 => absurd h9 (by decide)) (fun _ => ?_)
  refine lv_aload_n hx hb dL_rows_376 rfl (lv_at hl 1 rfl) ?_
  refine lv_iconst (v := 3) hx hb dL_rows_377 (by decide) ?_
  refine lv_iload_n hx hb dL_rows_378 rfl (lv_at hl 0 rfl) ?_
  refine lv_iconst (v := 4) hx hb dL_rows_379 (by decide) ?_
  refine lv_irem hx hb dL_rows_380 (by decide) ?_
  refine lv_topi (fun z9 hz9 => ?_)
  obtain rfl : z9 = 1 := hz9.trans (by decide)
  refine lv_iadd hx hb dL_rows_381 ?_
  refine lv_topi (fun z9 hz9 => ?_)
  obtain rfl : z9 = 4 := hz9.trans (by decide)
  refine lv_iconst (v := 1) hx hb dL_rows_382 (by decide) ?_
  refine lv_iload_n hx hb dL_rows_383 rfl (lv_at hl 0 rfl) ?_
  refine lv_iconst (v := 4) hx hb dL_rows_384 (by decide) ?_
  refine lv_irem hx hb dL_rows_385 (by decide) ?_
  refine lv_topi (fun z9 hz9 => ?_)
  obtain rfl : z9 = 1 := hz9.trans (by decide)
  refine lv_iconst (v := 1) hx hb dL_rows_386 (by decide) ?_
  refine lv_icmp_le (tgt := 394) hx hb dL_rows_387 (by decide) (fun _ => ?_) (fun h9 => absurd h9 (by decide))
  refine lv_iconst (v := 0) hx hb dL_rows_394 (by decide) ?_
  refine lv_iload_n hx hb dL_rows_395 rfl (lv_at hl 0 rfl) ?_
  refine lv_iconst (v := 0) hx hb dL_rows_396 (by decide) ?_
  refine px_ic hw (vx_runSX (As := [.ref q9o, .int 4, .int 1, .int 0, .int 13, .int 0]) (rest := []) CF (za_add l hst g _ _ hS 1 0 13 20 (by decide +kernel) (by decide +kernel) (by decide +kernel) (by decide +kernel) (by decide +kernel) (by unfold okC; decide +kernel) (by decide +kernel) (v := 13) (by decide +kernel) (S2 := rS38) rfl _) (vx_cwSW 6 hts gL_rows_L_act rfl rfl rfl (by decide +kernel) ⟨Nat.le_of_ble_eq_true rfl, Nat.le_of_ble_eq_true rfl⟩) (pn_preS hw hs hN) rfl rfl hl.1 rfl (lv_room (Nat.le_of_ble_eq_true rfl)) dL_rows_397 ⟨Nat.le_of_ble_eq_true rfl, Nat.le_of_ble_eq_true rfl⟩) (fun E9 ce9 q9 L9 f9 H9 locs9 he9 _ _ _ _ => False.elim he9) (fun r9 Lb fb Hb locb hp hw9 => ?_)
  clear hw hS
  try clear loca Ha fa La
  have hw := hw9
  clear hw9
  obtain rfl : r9 = 13 := hp.1
  have hS : Wc g q9o rS38 38 Lb fb := hp.2
  clear hp
  refine lv_iload_n hx hb dL_rows_400 rfl (lv_at hl 0 rfl) ?_
  refine lv_bipush (v := 60) hx hb dL_rows_401 (by decide) ?_
  refine lv_icmp_ge (tgt := 410) hx hb dL_rows_403 (by decide) (fun h9 => absurd h9 (by decide)) (fun _ => ?_)
  refine lv_iload_n hx hb dL_rows_406 rfl (lv_at hl 0 rfl) ?_
  refine lv_goto (tgt := 412) hx hb dL_rows_407 (by decide) ?_
  refine lv_icmp_eq (tgt := 417) hx hb dL_rows_412 (by decide) (fun _ => ?_) (fun h9 => absurd h9 (by decide))
  refine lv_iinc (v := 14) (lv' := [(1, .int 14), (0, .ref q9o)]) hx hb dL_rows_417 hl (k := 0) rfl (by decide) (by decide) rfl (fun ls hl => ?_)
  refine lv_goto (tgt := 370) hx hb dL_rows_420 (by decide) ?_
  refine lv_iload_n hx hb dL_rows_370 rfl (lv_at hl 0 rfl) ?_
  refine lv_bipush (v := 61) hx hb dL_rows_371 (by decide) ?_
  refine lv_icmp_ge (tgt := 423) hx hb dL_rows_373 (by decide) (fun h9 => absurd h9 (by decide)) (fun _ => ?_)
  refine lv_aload_n hx hb dL_rows_376 rfl (lv_at hl 1 rfl) ?_
  refine lv_iconst (v := 3) hx hb dL_rows_377 (by decide) ?_
  refine lv_iload_n hx hb dL_rows_378 rfl (lv_at hl 0 rfl) ?_
  refine lv_iconst (v := 4) hx hb dL_rows_379 (by decide) ?_
  refine lv_irem hx hb dL_rows_380 (by decide) ?_
  refine lv_topi (fun z9 hz9 => ?_)
  obtain rfl : z9 = 2 := hz9.trans (by decide)
  refine lv_iadd hx hb dL_rows_381 ?_
  refine lv_topi (fun z9 hz9 => ?_)
  obtain rfl : z9 = 5 := hz9.trans (by decide)
  refine lv_iconst (v := 1) hx hb dL_rows_382 (by decide) ?_
  refine lv_iload_n hx hb dL_rows_383 rfl (lv_at hl 0 rfl) ?_
  refine lv_iconst (v := 4) hx hb dL_rows_384 (by decide) ?_
  refine lv_irem hx hb dL_rows_385 (by decide) ?_
  refine lv_topi (fun z9 hz9 => ?_)
  obtain rfl : z9 = 2 := hz9.trans (by decide)
  refine lv_iconst (v := 1) hx hb dL_rows_386 (by decide) ?_
  refine lv_icmp_le (tgt := 394) hx hb dL_rows_387 (by decide) (fun h9 => absurd h9 (by decide)) (fun _ => ?_)
  refine lv_iload_n hx hb dL_rows_390 rfl (lv_at hl 0 rfl) ?_
  refine lv_goto (tgt := 395) hx hb dL_rows_391 (by decide) ?_
  refine lv_iload_n hx hb dL_rows_395 rfl (lv_at hl 0 rfl) ?_
  refine lv_iconst (v := 0) hx hb dL_rows_396 (by decide) ?_
  refine px_ic hw (vx_runSX (As := [.ref q9o, .int 5, .int 1, .int 14, .int 14, .int 0]) (rest := []) CF (za_cancel l hst g _ _ hS 1 14 (by decide +kernel) (by decide +kernel) (by decide +kernel) (by unfold okC; decide +kernel) (by decide +kernel) (v := 14) (by decide +kernel) (S2 := rS39) rfl _) (vx_cwSW 6 hts gL_rows_L_act rfl rfl rfl (by decide +kernel) ⟨Nat.le_of_ble_eq_true rfl, Nat.le_of_ble_eq_true rfl⟩) (pn_preS hw hs hN) rfl rfl hl.1 rfl (lv_room (Nat.le_of_ble_eq_true rfl)) dL_rows_397 ⟨Nat.le_of_ble_eq_true rfl, Nat.le_of_ble_eq_true rfl⟩) (fun E9 ce9 q9 L9 f9 H9 locs9 he9 _ _ _ _ => False.elim he9) (fun r9 La fa Ha loca hp hw9 => ?_)
  clear hw hS
  try clear locb Hb fb Lb
  have hw := hw9
  clear hw9
  obtain rfl : r9 = 14 := hp.1
  have hS : Wc g q9o rS39 39 La fa := hp.2
  clear hp
  refine lv_iload_n hx hb dL_rows_400 rfl (lv_at hl 0 rfl) ?_
  refine lv_bipush (v := 60) hx hb dL_rows_401 (by decide) ?_
  refine lv_icmp_ge (tgt := 410) hx hb dL_rows_403 (by decide) (fun h9 => absurd h9 (by decide)) (fun _ => ?_)
  refine lv_iload_n hx hb dL_rows_406 rfl (lv_at hl 0 rfl) ?_
  refine lv_goto (tgt := 412) hx hb dL_rows_407 (by decide) ?_
  refine lv_icmp_eq (tgt := 417) hx hb dL_rows_412 (by decide) (fun _ => ?_) (fun h9 => absurd h9 (by decide))
  refine lv_iinc (v := 15) (lv' := [(1, .int 15), (0, .ref q9o)]) hx hb dL_rows_417 hl (k := 0) rfl (by decide) (by decide) rfl (fun ls hl => ?_)
  refine lv_goto (tgt := 370) hx hb dL_rows_420 (by decide) ?_
  refine lv_iload_n hx hb dL_rows_370 rfl (lv_at hl 0 rfl) ?_
  refine lv_bipush (v := 61) hx hb dL_rows_371 (by decide) ?_
  refine lv_icmp_ge (tgt := 423) hx hb dL_rows_373 (by decide) (fun h9 => absurd h9 (by decide)) (fun _ => ?_)
  refine lv_aload_n hx hb dL_rows_376 rfl (lv_at hl 1 rfl) ?_
  refine lv_iconst (v := 3) hx hb dL_rows_377 (by decide) ?_
  refine lv_iload_n hx hb dL_rows_378 rfl (lv_at hl 0 rfl) ?_
  refine lv_iconst (v := 4) hx hb dL_rows_379 (by decide) ?_
  refine lv_irem hx hb dL_rows_380 (by decide) ?_
  refine lv_topi (fun z9 hz9 => ?_)
  obtain rfl : z9 = 3 := hz9.trans (by decide)
  refine lv_iadd hx hb dL_rows_381 ?_
  refine lv_topi (fun z9 hz9 => ?_)
  obtain rfl : z9 = 6 := hz9.trans (by decide)
  refine lv_iconst (v := 1) hx hb dL_rows_382 (by decide) ?_
  refine lv_iload_n hx hb dL_rows_383 rfl (lv_at hl 0 rfl) ?_
  refine lv_iconst (v := 4) hx hb dL_rows_384 (by decide) ?_
  refine lv_irem hx hb dL_rows_385 (by decide) ?_
  refine lv_topi (fun z9 hz9 => ?_)
  obtain rfl : z9 = 3 := hz9.trans (by decide)
  refine lv_iconst (v := 1) hx hb dL_rows_386 (by decide) ?_
  refine lv_icmp_le (tgt := 394) hx hb dL_rows_387 (by decide) (fun h9 => absurd h9 (by decide)) (fun _ => ?_)
  refine lv_iload_n hx hb dL_rows_390 rfl (lv_at hl 0 rfl) ?_
  refine lv_goto (tgt := 395) hx hb dL_rows_391 (by decide) ?_
  refine lv_iload_n hx hb dL_rows_395 rfl (lv_at hl 0 rfl) ?_
  refine lv_iconst (v := 0) hx hb dL_rows_396 (by decide) ?_
  refine px_ic hw (vx_runSX (As := [.ref q9o, .int 6, .int 1, .int 15, .int 15, .int 0]) (rest := []) CF (za_reinstate l hst g _ _ hS 1 15 (by decide +kernel) (by decide +kernel) (by decide +kernel) (by unfold okC; decide +kernel) (by decide +kernel) (v := 15) (by decide +kernel) (S2 := rS40) rfl _) (vx_cwSW 6 hts gL_rows_L_act rfl rfl rfl (by decide +kernel) ⟨Nat.le_of_ble_eq_true rfl, Nat.le_of_ble_eq_true rfl⟩) (pn_preS hw hs hN) rfl rfl hl.1 rfl (lv_room (Nat.le_of_ble_eq_true rfl)) dL_rows_397 ⟨Nat.le_of_ble_eq_true rfl, Nat.le_of_ble_eq_true rfl⟩) (fun E9 ce9 q9 L9 f9 H9 locs9 he9 _ _ _ _ => False.elim he9) (fun r9 Lb fb Hb locb hp hw9 => ?_)
  clear hw hS
  try clear loca Ha fa La
  have hw := hw9
  clear hw9
  obtain rfl : r9 = 15 := hp.1
  have hS : Wc g q9o rS40 40 Lb fb := hp.2
  clear hp
  refine lv_iload_n hx hb dL_rows_400 rfl (lv_at hl 0 rfl) ?_
  refine lv_bipush (v := 60) hx hb dL_rows_401 (by decide) ?_
  refine lv_icmp_ge (tgt := 410) hx hb dL_rows_403 (by decide) (fun h9 => absurd h9 (by decide)) (fun _ => ?_)
  refine lv_iload_n hx hb dL_rows_406 rfl (lv_at hl 0 rfl) ?_
  refine lv_goto (tgt := 412) hx hb dL_rows_407 (by decide) ?_
  refine lv_icmp_eq (tgt := 417) hx hb dL_rows_412 (by decide) (fun _ => ?_) (fun h9 => absurd h9 (by decide))
  refine lv_iinc (v := 16) (lv' := [(1, .int 16), (0, .ref q9o)]) hx hb dL_rows_417 hl (k := 0) rfl (by decide) (by decide) rfl (fun ls hl => ?_)
  refine lv_goto (tgt := 370) hx hb dL_rows_420 (by decide) ?_
  refine lv_iload_n hx hb dL_rows_370 rfl (lv_at hl 0 rfl) ?_
  refine lv_bipush (v := 61) hx hb dL_rows_371 (by decide) ?_
  refine lv_icmp_ge (tgt := 423) hx hb dL_rows_373 (by decide) (fun h9 => absurd h9 (by decide)) (fun _ => ?_)
  refine lv_aload_n hx hb dL_rows_376 rfl (lv_at hl 1 rfl) ?_
  refine lv_iconst (v := 3) hx hb dL_rows_377 (by decide) ?_
  refine lv_iload_n hx hb dL_rows_378 rfl (lv_at hl 0 rfl) ?_
  refine lv_iconst (v := 4) hx hb dL_rows_379 (by decide) ?_
  refine lv_irem hx hb dL_rows_380 (by decide) ?_
  refine lv_topi (fun z9 hz9 => ?_)
  obtain rfl : z9 = 0 := hz9.trans (by decide)
  refine lv_iadd hx hb dL_rows_381 ?_
  refine lv_topi (fun z9 hz9 => ?_)
  obtain rfl : z9 = 3 := hz9.trans (by decide)
  refine lv_iconst (v := 1) hx hb dL_rows_382 (by decide) ?_
  refine lv_iload_n hx hb dL_rows_383 rfl (lv_at hl 0 rfl) ?_
  refine lv_iconst (v := 4) hx hb dL_rows_384 (by decide) ?_
  refine lv_irem hx hb dL_rows_385 (by decide) ?_
  refine lv_topi (fun z9 hz9 => ?_)
  obtain rfl : z9 = 0 := hz9.trans (by decide)
  refine lv_iconst (v := 1) hx hb dL_rows_386 (by decide) ?_
  refine lv_icmp_le (tgt := 394) hx hb dL_rows_387 (by decide) (fun _ => ?_) (fun h9 => absurd h9 (by decide))
  refine lv_iconst (v := 0) hx hb dL_rows_394 (by decide) ?_
  refine lv_iload_n hx hb dL_rows_395 rfl (lv_at hl 0 rfl) ?_
  refine lv_iconst (v := 0) hx hb dL_rows_396 (by decide) ?_
  refine px_ic hw (vx_runSX (As := [.ref q9o, .int 3, .int 1, .int 0, .int 16, .int 0]) (rest := []) CF (za_change l hst g _ _ hS 1 0 16 20 (by decide +kernel) (by decide +kernel) (by decide +kernel) (by decide +kernel) (by decide +kernel) (by unfold okC; decide +kernel) (by decide +kernel) (v := 16) (by decide +kernel) (S2 := rS41) rfl _) (vx_cwSW 6 hts gL_rows_L_act rfl rfl rfl (by decide +kernel) ⟨Nat.le_of_ble_eq_true rfl, Nat.le_of_ble_eq_true rfl⟩) (pn_preS hw hs hN) rfl rfl hl.1 rfl (lv_room (Nat.le_of_ble_eq_true rfl)) dL_rows_397 ⟨Nat.le_of_ble_eq_true rfl, Nat.le_of_ble_eq_true rfl⟩) (fun E9 ce9 q9 L9 f9 H9 locs9 he9 _ _ _ _ => False.elim he9) (fun r9 La fa Ha loca hp hw9 => ?_)
  clear hw hS
  try clear locb Hb fb Lb
  have hw := hw9
  clear hw9
  obtain rfl : r9 = 16 := hp.1
  have hS : Wc g q9o rS41 41 La fa := hp.2
  clear hp
  refine lv_iload_n hx hb dL_rows_400 rfl (lv_at hl 0 rfl) ?_
  refine lv_bipush (v := 60) hx hb dL_rows_401 (by decide) ?_
  refine lv_icmp_ge (tgt := 410) hx hb dL_rows_403 (by decide) (fun h9 => absurd h9 (by decide)) (fun _ => ?_)
  refine lv_iload_n hx hb dL_rows_406 rfl (lv_at hl 0 rfl) ?_
  refine lv_goto (tgt := 412) hx hb dL_rows_407 (by decide) ?_
  refine lv_icmp_eq (tgt := 417) hx hb dL_rows_412 (by decide) (fun _ => ?_) (fun h9 => absurd h9 (by decide))
  refine lv_iinc (v := 17) (lv' := [(1, .int 17), (0, .ref q9o)]) hx hb dL_rows_417 hl (k := 0) rfl (by decide) (by decide) rfl (fun ls hl => ?_)
  refine lv_goto (tgt := 370) hx hb dL_rows_420 (by decide) ?_
  refine lv_iload_n hx hb dL_rows_370 rfl (lv_at hl 0 rfl) ?_
  refine lv_bipush (v := 61) hx hb dL_rows_371 (by decide) ?_
  refine lv_icmp_ge (tgt := 423) hx hb dL_rows_373 (by decide) (fun h9 => absurd h9 (by decide)) (fun _ => ?_)
  refine lv_aload_n hx hb dL_rows_376 rfl (lv_at hl 1 rfl) ?_
  refine lv_iconst (v := 3) hx hb dL_rows_377 (by decide) ?_
  refine lv_iload_n hx hb dL_rows_378 rfl (lv_at hl 0 rfl) ?_
  refine lv_iconst (v := 4) hx hb dL_rows_379 (by decide) ?_
  refine lv_irem hx hb dL_rows_380 (by decide) ?_
  refine lv_topi (fun z9 hz9 => ?_)
  obtain rfl : z9 = 1 := hz9.trans (by decide)
  refine lv_iadd hx hb dL_rows_381 ?_
  refine lv_topi (fun z9 hz9 => ?_)
  obtain rfl : z9 = 4 := hz9.trans (by decide)
  refine lv_iconst (v := 1) hx hb dL_rows_382 (by decide) ?_
  refine lv_iload_n hx hb dL_rows_383 rfl (lv_at hl 0 rfl) ?_
  refine lv_iconst (v := 4) hx hb dL_rows_384 (by decide) ?_
  refine lv_irem hx hb dL_rows_385 (by decide) ?_
  refine lv_topi (fun z9 hz9 => ?_)
  obtain rfl : z9 = 1 := hz9.trans (by decide)
  refine lv_iconst (v := 1) hx hb dL_rows_386 (by decide) ?_
  refine lv_icmp_le (tgt := 394) hx hb dL_rows_387 (by decide) (fun _ => ?_) (fun h9 => absurd h9 (by decide))
  refine lv_iconst (v := 0) hx hb dL_rows_394 (by decide) ?_
  refine lv_iload_n hx hb dL_rows_395 rfl (lv_at hl 0 rfl) ?_
  refine lv_iconst (v := 0) hx hb dL_rows_396 (by decide) ?_
  refine px_ic hw (vx_runSX (As := [.ref q9o, .int 4, .int 1, .int 0, .int 17, .int 0]) (rest := []) CF (za_add l hst g _ _ hS 1 0 17 20 (by decide +kernel) (by decide +kernel) (by decide +kernel) (by decide +kernel) (by decide +kernel) (by unfold okC; decide +kernel) (by decide +kernel) (v := 17) (by decide +kernel) (S2 := rS42) rfl _) (vx_cwSW 6 hts gL_rows_L_act rfl rfl rfl (by decide +kernel) ⟨Nat.le_of_ble_eq_true rfl, Nat.le_of_ble_eq_true rfl⟩) (pn_preS hw hs hN) rfl rfl hl.1 rfl (lv_room (Nat.le_of_ble_eq_true rfl)) dL_rows_397 ⟨Nat.le_of_ble_eq_true rfl, Nat.le_of_ble_eq_true rfl⟩) (fun E9 ce9 q9 L9 f9 H9 locs9 he9 _ _ _ _ => False.elim he9) (fun r9 Lb fb Hb locb hp hw9 => ?_)
  clear hw hS
  try clear loca Ha fa La
  have hw := hw9
  clear hw9
  obtain rfl : r9 = 17 := hp.1
  have hS : Wc g q9o rS42 42 Lb fb := hp.2
  clear hp
  refine lv_iload_n hx hb dL_rows_400 rfl (lv_at hl 0 rfl) ?_
  refine lv_bipush (v := 60) hx hb dL_rows_401 (by decide) ?_
  refine lv_icmp_ge (tgt := 410) hx hb dL_rows_403 (by decide) (fun h9 => absurd h9 (by decide)) (fun _ => ?_)
  refine lv_iload_n hx hb dL_rows_406 rfl (lv_at hl 0 rfl) ?_
  refine lv_goto (tgt := 412) hx hb dL_rows_407 (by decide) ?_
  refine lv_icmp_eq (tgt := 417) hx hb dL_rows_412 (by decide) (fun _ => ?_) (fun h9 => absurd h9 (by decide))
  refine lv_iinc (v := 18) (lv' := [(1, .int 18), (0, .ref q9o)]) hx hb dL_rows_417 hl (k := 0) rfl (by decide) (by decide) rfl (fun ls hl => ?_)
  refine lv_goto (tgt := 370) hx hb dL_rows_420 (by decide) ?_
  refine lv_iload_n hx hb dL_rows_370 rfl (lv_at hl 0 rfl) ?_
  refine lv_bipush (v := 61) hx hb dL_rows_371 (by decide) ?_
  refine lv_icmp_ge (tgt := 423) hx hb dL_rows_373 (by decide) (fun h9 => absurd h9 (by decide)) (fun _ => ?_)
  refine lv_aload_n hx hb dL_rows_376 rfl (lv_at hl 1 rfl) ?_
  refine lv_iconst (v := 3) hx hb dL_rows_377 (by decide) ?_
  refine lv_iload_n hx hb dL_rows_378 rfl (lv_at hl 0 rfl) ?_
  refine lv_iconst (v := 4) hx hb dL_rows_379 (by decide) ?_
  refine lv_irem hx hb dL_rows_380 (by decide) ?_
  refine lv_topi (fun z9 hz9 => ?_)
  obtain rfl : z9 = 2 := hz9.trans (by decide)
  refine lv_iadd hx hb dL_rows_381 ?_
  refine lv_topi (fun z9 hz9 => ?_)
  obtain rfl : z9 = 5 := hz9.trans (by decide)
  refine lv_iconst (v := 1) hx hb dL_rows_382 (by decide) ?_
  refine lv_iload_n hx hb dL_rows_383 rfl (lv_at hl 0 rfl) ?_
  refine lv_iconst (v := 4) hx hb dL_rows_384 (by decide) ?_
  refine lv_irem hx hb dL_rows_385 (by decide) ?_
  refine lv_topi (fun z9 hz9 => ?_)
  obtain rfl : z9 = 2 := hz9.trans (by decide)
  refine lv_iconst (v := 1) hx hb dL_rows_386 (by decide) ?_
  refine lv_icmp_le (tgt := 394) hx hb dL_rows_387 (by decide) (fun h9 => absurd h9 (by decide)) (fun _ => ?_)
  refine lv_iload_n hx hb dL_rows_390 rfl (lv_at hl 0 rfl) ?_
  refine lv_goto (tgt := 395) hx hb dL_rows_391 (by decide) ?_
  refine lv_iload_n hx hb dL_rows_395 rfl (lv_at hl 0 rfl) ?_
  refine lv_iconst (v := 0) hx hb dL_rows_396 (by decide) ?_
  refine px_ic hw (vx_runSX (As := [.ref q9o, .int 5, .int 1, .int 18, .int 18, .int 0]) (rest := []) CF (za_cancel l hst g _ _ hS 1 18 (by decide +kernel) (by decide +kernel) (by decide +kernel) (by unfold okC; decide +kernel) (by decide +kernel) (v := 18) (by decide +kernel) (S2 := rS43) rfl _) (vx_cwSW 6 hts gL_rows_L_act rfl rfl rfl (by decide +kernel) ⟨Nat.le_of_ble_eq_true rfl, Nat.le_of_ble_eq_true rfl⟩) (pn_preS hw hs hN) rfl rfl hl.1 rfl (lv_room (Nat.le_of_ble_eq_true rfl)) dL_rows_397 ⟨Nat.le_of_ble_eq_true rfl, Nat.le_of_ble_eq_true rfl⟩) (fun E9 ce9 q9 L9 f9 H9 locs9 he9 _ _ _ _ => False.elim he9) (fun r9 La fa Ha loca hp hw9 => ?_)
  clear hw hS
  try clear locb Hb fb Lb
  have hw := hw9
  clear hw9
  obtain rfl : r9 = 18 := hp.1
  have hS : Wc g q9o rS43 43 La fa := hp.2
  clear hp
  refine lv_iload_n hx hb dL_rows_400 rfl (lv_at hl 0 rfl) ?_
  refine lv_bipush (v := 60) hx hb dL_rows_401 (by decide) ?_
  refine lv_icmp_ge (tgt := 410) hx hb dL_rows_403 (by decide) (fun h9 => absurd h9 (by decide)) (fun _ => ?_)
  refine lv_iload_n hx hb dL_rows_406 rfl (lv_at hl 0 rfl) ?_
  refine lv_goto (tgt := 412) hx hb dL_rows_407 (by decide) ?_
  refine lv_icmp_eq (tgt := 417) hx hb dL_rows_412 (by decide) (fun _ => ?_) (fun h9 => absurd h9 (by decide))
  refine lv_iinc (v := 19) (lv' := [(1, .int 19), (0, .ref q9o)]) hx hb dL_rows_417 hl (k := 0) rfl (by decide) (by decide) rfl (fun ls hl => ?_)
  refine lv_goto (tgt := 370) hx hb dL_rows_420 (by decide) ?_
  refine lv_iload_n hx hb dL_rows_370 rfl (lv_at hl 0 rfl) ?_
  refine lv_bipush (v := 61) hx hb dL_rows_371 (by decide) ?_
  refine lv_icmp_ge (tgt := 423) hx hb dL_rows_373 (by decide) (fun h9 => absurd h9 (by decide)) (fun _ => ?_)
  refine lv_aload_n hx hb dL_rows_376 rfl (lv_at hl 1 rfl) ?_
  refine lv_iconst (v := 3) hx hb dL_rows_377 (by decide) ?_
  refine lv_iload_n hx hb dL_rows_378 rfl (lv_at hl 0 rfl) ?_
  refine lv_iconst (v := 4) hx hb dL_rows_379 (by decide) ?_
  refine lv_irem hx hb dL_rows_380 (by decide) ?_
  refine lv_topi (fun z9 hz9 => ?_)
  obtain rfl : z9 = 3 := hz9.trans (by decide)
  refine lv_iadd hx hb dL_rows_381 ?_
  refine lv_topi (fun z9 hz9 => ?_)
  obtain rfl : z9 = 6 := hz9.trans (by decide)
  refine lv_iconst (v := 1) hx hb dL_rows_382 (by decide) ?_
  refine lv_iload_n hx hb dL_rows_383 rfl (lv_at hl 0 rfl) ?_
  refine lv_iconst (v := 4) hx hb dL_rows_384 (by decide) ?_
  refine lv_irem hx hb dL_rows_385 (by decide) ?_
  refine lv_topi (fun z9 hz9 => ?_)
  obtain rfl : z9 = 3 := hz9.trans (by decide)
  refine lv_iconst (v := 1) hx hb dL_rows_386 (by decide) ?_
  refine lv_icmp_le (tgt := 394) hx hb dL_rows_387 (by decide) (fun h9 => absurd h9 (by decide)) (fun _ => ?_)
  refine lv_iload_n hx hb dL_rows_390 rfl (lv_at hl 0 rfl) ?_
  refine lv_goto (tgt := 395) hx hb dL_rows_391 (by decide) ?_
  refine lv_iload_n hx hb dL_rows_395 rfl (lv_at hl 0 rfl) ?_
  refine lv_iconst (v := 0) hx hb dL_rows_396 (by decide) ?_
  refine px_ic hw (vx_runSX (As := [.ref q9o, .int 6, .int 1, .int 19, .int 19, .int 0]) (rest := []) CF (za_reinstate l hst g _ _ hS 1 19 (by decide +kernel) (by decide +kernel) (by decide +kernel) (by unfold okC; decide +kernel) (by decide +kernel) (v := 19) (by decide +kernel) (S2 := rS44) rfl _) (vx_cwSW 6 hts gL_rows_L_act rfl rfl rfl (by decide +kernel) ⟨Nat.le_of_ble_eq_true rfl, Nat.le_of_ble_eq_true rfl⟩) (pn_preS hw hs hN) rfl rfl hl.1 rfl (lv_room (Nat.le_of_ble_eq_true rfl)) dL_rows_397 ⟨Nat.le_of_ble_eq_true rfl, Nat.le_of_ble_eq_true rfl⟩) (fun E9 ce9 q9 L9 f9 H9 locs9 he9 _ _ _ _ => False.elim he9) (fun r9 Lb fb Hb locb hp hw9 => ?_)
  clear hw hS
  try clear loca Ha fa La
  have hw := hw9
  clear hw9
  obtain rfl : r9 = 19 := hp.1
  have hS : Wc g q9o rS44 44 Lb fb := hp.2
  clear hp
  refine lv_iload_n hx hb dL_rows_400 rfl (lv_at hl 0 rfl) ?_
  refine lv_bipush (v := 60) hx hb dL_rows_401 (by decide) ?_
  refine lv_icmp_ge (tgt := 410) hx hb dL_rows_403 (by decide) (fun h9 => absurd h9 (by decide)) (fun _ => ?_)
  refine lv_iload_n hx hb dL_rows_406 rfl (lv_at hl 0 rfl) ?_
  refine lv_goto (tgt := 412) hx hb dL_rows_407 (by decide) ?_
  refine lv_icmp_eq (tgt := 417) hx hb dL_rows_412 (by decide) (fun _ => ?_) (fun h9 => absurd h9 (by decide))
  refine lv_iinc (v := 20) (lv' := [(1, .int 20), (0, .ref q9o)]) hx hb dL_rows_417 hl (k := 0) rfl (by decide) (by decide) rfl (fun ls hl => ?_)
  refine lv_goto (tgt := 370) hx hb dL_rows_420 (by decide) ?_
  refine lv_iload_n hx hb dL_rows_370 rfl (lv_at hl 0 rfl) ?_
  refine lv_bipush (v := 61) hx hb dL_rows_371 (by decide) ?_
  refine lv_icmp_ge (tgt := 423) hx hb dL_rows_373 (by decide) (fun h9 => absurd h9 (by decide)) (fun _ => ?_)
  refine lv_aload_n hx hb dL_rows_376 rfl (lv_at hl 1 rfl) ?_
  refine lv_iconst (v := 3) hx hb dL_rows_377 (by decide) ?_
  refine lv_iload_n hx hb dL_rows_378 rfl (lv_at hl 0 rfl) ?_
  refine lv_iconst (v := 4) hx hb dL_rows_379 (by decide) ?_
  refine lv_irem hx hb dL_rows_380 (by decide) ?_
  refine lv_topi (fun z9 hz9 => ?_)
  obtain rfl : z9 = 0 := hz9.trans (by decide)
  refine lv_iadd hx hb dL_rows_381 ?_
  refine lv_topi (fun z9 hz9 => ?_)
  obtain rfl : z9 = 3 := hz9.trans (by decide)
  refine lv_iconst (v := 1) hx hb dL_rows_382 (by decide) ?_
  refine lv_iload_n hx hb dL_rows_383 rfl (lv_at hl 0 rfl) ?_
  refine lv_iconst (v := 4) hx hb dL_rows_384 (by decide) ?_
  refine lv_irem hx hb dL_rows_385 (by decide) ?_
  refine lv_topi (fun z9 hz9 => ?_)
  obtain rfl : z9 = 0 := hz9.trans (by decide)
  refine lv_iconst (v := 1) hx hb dL_rows_386 (by decide) ?_
  refine lv_icmp_le (tgt := 394) hx hb dL_rows_387 (by decide) (fun _ => ?_) (fun h9 => absurd h9 (by decide))
  refine lv_iconst (v := 0) hx hb dL_rows_394 (by decide) ?_
  refine lv_iload_n hx hb dL_rows_395 rfl (lv_at hl 0 rfl) ?_
  refine lv_iconst (v := 0) hx hb dL_rows_396 (by decide) ?_
  refine px_ic hw (vx_runSX (As := [.ref q9o, .int 3, .int 1, .int 0, .int 20, .int 0]) (rest := []) CF (za_change l hst g _ _ hS 1 0 20 20 (by decide +kernel) (by decide +kernel) (by decide +kernel) (by decide +kernel) (by decide +kernel) (by unfold okC; decide +kernel) (by decide +kernel) (v := 20) (by decide +kernel) (S2 := rS45) rfl _) (vx_cwSW 6 hts gL_rows_L_act rfl rfl rfl (by decide +kernel) ⟨Nat.le_of_ble_eq_true rfl, Nat.le_of_ble_eq_true rfl⟩) (pn_preS hw hs hN) rfl rfl hl.1 rfl (lv_room (Nat.le_of_ble_eq_true rfl)) dL_rows_397 ⟨Nat.le_of_ble_eq_true rfl, Nat.le_of_ble_eq_true rfl⟩) (fun E9 ce9 q9 L9 f9 H9 locs9 he9 _ _ _ _ => False.elim he9) (fun r9 La fa Ha loca hp hw9 => ?_)
  clear hw hS
  try clear locb Hb fb Lb
  have hw := hw9
  clear hw9
  obtain rfl : r9 = 20 := hp.1
  have hS : Wc g q9o rS45 45 La fa := hp.2
  clear hp
  refine lv_iload_n hx hb dL_rows_400 rfl (lv_at hl 0 rfl) ?_
  refine lv_bipush (v := 60) hx hb dL_rows_401 (by decide) ?_
  refine lv_icmp_ge (tgt := 410) hx hb dL_rows_403 (by decide) (fun h9 => absurd h9 (by decide)) (fun _ => ?_)
  refine lv_iload_n hx hb dL_rows_406 rfl (lv_at hl 0 rfl) ?_
  refine lv_goto (tgt := 412) hx hb dL_rows_407 (by decide) ?_
  refine lv_icmp_eq (tgt := 417) hx hb dL_rows_412 (by decide) (fun _ => ?_) (fun h9 => absurd h9 (by decide))
  refine lv_iinc (v := 21) (lv' := [(1, .int 21), (0, .ref q9o)]) hx hb dL_rows_417 hl (k := 0) rfl (by decide) (by decide) rfl (fun ls hl => ?_)
  refine lv_goto (tgt := 370) hx hb dL_rows_420 (by decide) ?_
  refine lv_iload_n hx hb dL_rows_370 rfl (lv_at hl 0 rfl) ?_
  refine lv_bipush (v := 61) hx hb dL_rows_371 (by decide) ?_
  refine lv_icmp_ge (tgt := 423) hx hb dL_rows_373 (by decide) (fun h9 => absurd h9 (by decide)) (fun _ => ?_)
  refine lv_aload_n hx hb dL_rows_376 rfl (lv_at hl 1 rfl) ?_
  refine lv_iconst (v := 3) hx hb dL_rows_377 (by decide) ?_
  refine lv_iload_n hx hb dL_rows_378 rfl (lv_at hl 0 rfl) ?_
  refine lv_iconst (v := 4) hx hb dL_rows_379 (by decide) ?_
  refine lv_irem hx hb dL_rows_380 (by decide) ?_
  refine lv_topi (fun z9 hz9 => ?_)
  obtain rfl : z9 = 1 := hz9.trans (by decide)
  refine lv_iadd hx hb dL_rows_381 ?_
  refine lv_topi (fun z9 hz9 => ?_)
  obtain rfl : z9 = 4 := hz9.trans (by decide)
  refine lv_iconst (v := 1) hx hb dL_rows_382 (by decide) ?_
  refine lv_iload_n hx hb dL_rows_383 rfl (lv_at hl 0 rfl) ?_
  refine lv_iconst (v := 4) hx hb dL_rows_384 (by decide) ?_
  refine lv_irem hx hb dL_rows_385 (by decide) ?_
  refine lv_topi (fun z9 hz9 => ?_)
  obtain rfl : z9 = 1 := hz9.trans (by decide)
  refine lv_iconst (v := 1) hx hb dL_rows_386 (by decide) ?_
  refine lv_icmp_le (tgt := 394) hx hb dL_rows_387 (by decide) (fun _ => ?_) (fun h9 => absurd h9 (by decide))
  refine lv_iconst (v := 0) hx hb dL_rows_394 (by decide) ?_
  refine lv_iload_n hx hb dL_rows_395 rfl (lv_at hl 0 rfl) ?_
  refine lv_iconst (v := 0) hx hb dL_rows_396 (by decide) ?_
  refine px_ic hw (vx_runSX (As := [.ref q9o, .int 4, .int 1, .int 0, .int 21, .int 0]) (rest := []) CF (za_add l hst g _ _ hS 1 0 21 20 (by decide +kernel) (by decide +kernel) (by decide +kernel) (by decide +kernel) (by decide +kernel) (by unfold okC; decide +kernel) (by decide +kernel) (v := 21) (by decide +kernel) (S2 := rS46) rfl _) (vx_cwSW 6 hts gL_rows_L_act rfl rfl rfl (by decide +kernel) ⟨Nat.le_of_ble_eq_true rfl, Nat.le_of_ble_eq_true rfl⟩) (pn_preS hw hs hN) rfl rfl hl.1 rfl (lv_room (Nat.le_of_ble_eq_true rfl)) dL_rows_397 ⟨Nat.le_of_ble_eq_true rfl, Nat.le_of_ble_eq_true rfl⟩) (fun E9 ce9 q9 L9 f9 H9 locs9 he9 _ _ _ _ => False.elim he9) (fun r9 Lb fb Hb locb hp hw9 => ?_)
  clear hw hS
  try clear loca Ha fa La
  have hw := hw9
  clear hw9
  obtain rfl : r9 = 21 := hp.1
  have hS : Wc g q9o rS46 46 Lb fb := hp.2
  clear hp
  refine lv_iload_n hx hb dL_rows_400 rfl (lv_at hl 0 rfl) ?_
  refine lv_bipush (v := 60) hx hb dL_rows_401 (by decide) ?_
  refine lv_icmp_ge (tgt := 410) hx hb dL_rows_403 (by decide) (fun h9 => absurd h9 (by decide)) (fun _ => ?_)
  refine lv_iload_n hx hb dL_rows_406 rfl (lv_at hl 0 rfl) ?_
  refine lv_goto (tgt := 412) hx hb dL_rows_407 (by decide) ?_
  refine lv_icmp_eq (tgt := 417) hx hb dL_rows_412 (by decide) (fun _ => ?_) (fun h9 => absurd h9 (by decide))
  refine lv_iinc (v := 22) (lv' := [(1, .int 22), (0, .ref q9o)]) hx hb dL_rows_417 hl (k := 0) rfl (by decide) (by decide) rfl (fun ls hl => ?_)
  refine lv_goto (tgt := 370) hx hb dL_rows_420 (by decide) ?_
  refine lv_iload_n hx hb dL_rows_370 rfl (lv_at hl 0 rfl) ?_
  refine lv_bipush (v := 61) hx hb dL_rows_371 (by decide) ?_
  refine lv_icmp_ge (tgt := 423) hx hb dL_rows_373 (by decide) (fun h9 => absurd h9 (by decide)) (fun _ => ?_)
  refine lv_aload_n hx hb dL_rows_376 rfl (lv_at hl 1 rfl) ?_
  refine lv_iconst (v := 3) hx hb dL_rows_377 (by decide) ?_
  refine lv_iload_n hx hb dL_rows_378 rfl (lv_at hl 0 rfl) ?_
  refine lv_iconst (v := 4) hx hb dL_rows_379 (by decide) ?_
  refine lv_irem hx hb dL_rows_380 (by decide) ?_
  refine lv_topi (fun z9 hz9 => ?_)
  obtain rfl : z9 = 2 := hz9.trans (by decide)
  refine lv_iadd hx hb dL_rows_381 ?_
  refine lv_topi (fun z9 hz9 => ?_)
  obtain rfl : z9 = 5 := hz9.trans (by decide)
  refine lv_iconst (v := 1) hx hb dL_rows_382 (by decide) ?_
  refine lv_iload_n hx hb dL_rows_383 rfl (lv_at hl 0 rfl) ?_
  refine lv_iconst (v := 4) hx hb dL_rows_384 (by decide) ?_
  refine lv_irem hx hb dL_rows_385 (by decide) ?_
  refine lv_topi (fun z9 hz9 => ?_)
  obtain rfl : z9 = 2 := hz9.trans (by decide)
  refine lv_iconst (v := 1) hx hb dL_rows_386 (by decide) ?_
  refine lv_icmp_le (tgt := 394) hx hb dL_rows_387 (by decide) (fun h9 => absurd h9 (by decide)) (fun _ => ?_)
  refine lv_iload_n hx hb dL_rows_390 rfl (lv_at hl 0 rfl) ?_
  refine lv_goto (tgt := 395) hx hb dL_rows_391 (by decide) ?_
  refine lv_iload_n hx hb dL_rows_395 rfl (lv_at hl 0 rfl) ?_
  refine lv_iconst (v := 0) hx hb dL_rows_396 (by decide) ?_
  refine px_ic hw (vx_runSX (As := [.ref q9o, .int 5, .int 1, .int 22, .int 22, .int 0]) (rest := []) CF (za_cancel l hst g _ _ hS 1 22 (by decide +kernel) (by decide +kernel) (by decide +kernel) (by unfold okC; decide +kernel) (by decide +kernel) (v := 22) (by decide +kernel) (S2 := rS47) rfl _) (vx_cwSW 6 hts gL_rows_L_act rfl rfl rfl (by decide +kernel) ⟨Nat.le_of_ble_eq_true rfl, Nat.le_of_ble_eq_true rfl⟩) (pn_preS hw hs hN) rfl rfl hl.1 rfl (lv_room (Nat.le_of_ble_eq_true rfl)) dL_rows_397 ⟨Nat.le_of_ble_eq_true rfl, Nat.le_of_ble_eq_true rfl⟩) (fun E9 ce9 q9 L9 f9 H9 locs9 he9 _ _ _ _ => False.elim he9) (fun r9 La fa Ha loca hp hw9 => ?_)
  clear hw hS
  try clear locb Hb fb Lb
  have hw := hw9
  clear hw9
  obtain rfl : r9 = 22 := hp.1
  have hS : Wc g q9o rS47 47 La fa := hp.2
  clear hp
  refine lv_iload_n hx hb dL_rows_400 rfl (lv_at hl 0 rfl) ?_
  refine lv_bipush (v := 60) hx hb dL_rows_401 (by decide) ?_
  refine lv_icmp_ge (tgt := 410) hx hb dL_rows_403 (by decide) (fun h9 => absurd h9 (by decide)) (fun _ => ?_)
  refine lv_iload_n hx hb dL_rows_406 rfl (lv_at hl 0 rfl) ?_
  refine lv_goto (tgt := 412) hx hb dL_rows_407 (by decide) ?_
  refine lv_icmp_eq (tgt := 417) hx hb dL_rows_412 (by decide) (fun _ => ?_) (fun h9 => absurd h9 (by decide))
  refine lv_iinc (v := 23) (lv' := [(1, .int 23), (0, .ref q9o)]) hx hb dL_rows_417 hl (k := 0) rfl (by decide) (by decide) rfl (fun ls hl => ?_)
  refine lv_goto (tgt := 370) hx hb dL_rows_420 (by decide) ?_
  refine lv_iload_n hx hb dL_rows_370 rfl (lv_at hl 0 rfl) ?_
  refine lv_bipush (v := 61) hx hb dL_rows_371 (by decide) ?_
  refine lv_icmp_ge (tgt := 423) hx hb dL_rows_373 (by decide) (fun h9 => absurd h9 (by decide)) (fun _ => ?_)
  refine lv_aload_n hx hb dL_rows_376 rfl (lv_at hl 1 rfl) ?_
  refine lv_iconst (v := 3) hx hb dL_rows_377 (by decide) ?_
  refine lv_iload_n hx hb dL_rows_378 rfl (lv_at hl 0 rfl) ?_
  refine lv_iconst (v := 4) hx hb dL_rows_379 (by decide) ?_
  refine lv_irem hx hb dL_rows_380 (by decide) ?_
  refine lv_topi (fun z9 hz9 => ?_)
  obtain rfl : z9 = 3 := hz9.trans (by decide)
  refine lv_iadd hx hb dL_rows_381 ?_
  refine lv_topi (fun z9 hz9 => ?_)
  obtain rfl : z9 = 6 := hz9.trans (by decide)
  refine lv_iconst (v := 1) hx hb dL_rows_382 (by decide) ?_
  refine lv_iload_n hx hb dL_rows_383 rfl (lv_at hl 0 rfl) ?_
  refine lv_iconst (v := 4) hx hb dL_rows_384 (by decide) ?_
  refine lv_irem hx hb dL_rows_385 (by decide) ?_
  refine lv_topi (fun z9 hz9 => ?_)
  obtain rfl : z9 = 3 := hz9.trans (by decide)
  refine lv_iconst (v := 1) hx hb dL_rows_386 (by decide) ?_
  refine lv_icmp_le (tgt := 394) hx hb dL_rows_387 (by decide) (fun h9 => absurd h9 (by decide)) (fun _ => ?_)
  refine lv_iload_n hx hb dL_rows_390 rfl (lv_at hl 0 rfl) ?_
  refine lv_goto (tgt := 395) hx hb dL_rows_391 (by decide) ?_
  refine lv_iload_n hx hb dL_rows_395 rfl (lv_at hl 0 rfl) ?_
  refine lv_iconst (v := 0) hx hb dL_rows_396 (by decide) ?_
  refine px_ic hw (vx_runSX (As := [.ref q9o, .int 6, .int 1, .int 23, .int 23, .int 0]) (rest := []) CF (za_reinstate l hst g _ _ hS 1 23 (by decide +kernel) (by decide +kernel) (by decide +kernel) (by unfold okC; decide +kernel) (by decide +kernel) (v := 23) (by decide +kernel) (S2 := rS48) rfl _) (vx_cwSW 6 hts gL_rows_L_act rfl rfl rfl (by decide +kernel) ⟨Nat.le_of_ble_eq_true rfl, Nat.le_of_ble_eq_true rfl⟩) (pn_preS hw hs hN) rfl rfl hl.1 rfl (lv_room (Nat.le_of_ble_eq_true rfl)) dL_rows_397 ⟨Nat.le_of_ble_eq_true rfl, Nat.le_of_ble_eq_true rfl⟩) (fun E9 ce9 q9 L9 f9 H9 locs9 he9 _ _ _ _ => False.elim he9) (fun r9 Lb fb Hb locb hp hw9 => ?_)
  clear hw hS
  try clear loca Ha fa La
  have hw := hw9
  clear hw9
  obtain rfl : r9 = 23 := hp.1
  have hS : Wc g q9o rS48 48 Lb fb := hp.2
  clear hp
  refine lv_iload_n hx hb dL_rows_400 rfl (lv_at hl 0 rfl) ?_
  refine lv_bipush (v := 60) hx hb dL_rows_401 (by decide) ?_
  refine lv_icmp_ge (tgt := 410) hx hb dL_rows_403 (by decide) (fun h9 => absurd h9 (by decide)) (fun _ => ?_)
  refine lv_iload_n hx hb dL_rows_406 rfl (lv_at hl 0 rfl) ?_
  refine lv_goto (tgt := 412) hx hb dL_rows_407 (by decide) ?_
  refine lv_icmp_eq (tgt := 417) hx hb dL_rows_412 (by decide) (fun _ => ?_) (fun h9 => absurd h9 (by decide))
  refine lv_iinc (v := 24) (lv' := [(1, .int 24), (0, .ref q9o)]) hx hb dL_rows_417 hl (k := 0) rfl (by decide) (by decide) rfl (fun ls hl => ?_)
  refine lv_goto (tgt := 370) hx hb dL_rows_420 (by decide) ?_
  refine lv_iload_n hx hb dL_rows_370 rfl (lv_at hl 0 rfl) ?_
  refine lv_bipush (v := 61) hx hb dL_rows_371 (by decide) ?_
  refine lv_icmp_ge (tgt := 423) hx hb dL_rows_373 (by decide) (fun h9 => absurd h9 (by decide)) (fun _ => ?_)
  refine lv_aload_n hx hb dL_rows_376 rfl (lv_at hl 1 rfl) ?_
  refine lv_iconst (v := 3) hx hb dL_rows_377 (by decide) ?_
  refine lv_iload_n hx hb dL_rows_378 rfl (lv_at hl 0 rfl) ?_
  refine lv_iconst (v := 4) hx hb dL_rows_379 (by decide) ?_
  refine lv_irem hx hb dL_rows_380 (by decide) ?_
  refine lv_topi (fun z9 hz9 => ?_)
  obtain rfl : z9 = 0 := hz9.trans (by decide)
  refine lv_iadd hx hb dL_rows_381 ?_
  refine lv_topi (fun z9 hz9 => ?_)
  obtain rfl : z9 = 3 := hz9.trans (by decide)
  refine lv_iconst (v := 1) hx hb dL_rows_382 (by decide) ?_
  refine lv_iload_n hx hb dL_rows_383 rfl (lv_at hl 0 rfl) ?_
  refine lv_iconst (v := 4) hx hb dL_rows_384 (by decide) ?_
  refine lv_irem hx hb dL_rows_385 (by decide) ?_
  refine lv_topi (fun z9 hz9 => ?_)
  obtain rfl : z9 = 0 := hz9.trans (by decide)
  refine lv_iconst (v := 1) hx hb dL_rows_386 (by decide) ?_
  refine lv_icmp_le (tgt := 394) hx hb dL_rows_387 (by decide) (fun _ => ?_) (fun h9 => absurd h9 (by decide))
  refine lv_iconst (v := 0) hx hb dL_rows_394 (by decide) ?_
  refine lv_iload_n hx hb dL_rows_395 rfl (lv_at hl 0 rfl) ?_
  refine lv_iconst (v := 0) hx hb dL_rows_396 (by decide) ?_
  refine px_ic hw (vx_runSX (As := [.ref q9o, .int 3, .int 1, .int 0, .int 24, .int 0]) (rest := []) CF (za_change l hst g _ _ hS 1 0 24 20 (by decide +kernel) (by decide +kernel) (by decide +kernel) (by decide +kernel) (by decide +kernel) (by unfold okC; decide +kernel) (by decide +kernel) (v := 24) (by decide +kernel) (S2 := rS49) rfl _) (vx_cwSW 6 hts gL_rows_L_act rfl rfl rfl (by decide +kernel) ⟨Nat.le_of_ble_eq_true rfl, Nat.le_of_ble_eq_true rfl⟩) (pn_preS hw hs hN) rfl rfl hl.1 rfl (lv_room (Nat.le_of_ble_eq_true rfl)) dL_rows_397 ⟨Nat.le_of_ble_eq_true rfl, Nat.le_of_ble_eq_true rfl⟩) (fun E9 ce9 q9 L9 f9 H9 locs9 he9 _ _ _ _ => False.elim he9) (fun r9 La fa Ha loca hp hw9 => ?_)
  clear hw hS
  try clear locb Hb fb Lb
  have hw := hw9
  clear hw9
  obtain rfl : r9 = 24 := hp.1
  have hS : Wc g q9o rS49 49 La fa := hp.2
  clear hp
  refine lv_iload_n hx hb dL_rows_400 rfl (lv_at hl 0 rfl) ?_
  refine lv_bipush (v := 60) hx hb dL_rows_401 (by decide) ?_
  refine lv_icmp_ge (tgt := 410) hx hb dL_rows_403 (by decide) (fun h9 => absurd h9 (by decide)) (fun _ => ?_)
  refine lv_iload_n hx hb dL_rows_406 rfl (lv_at hl 0 rfl) ?_
  refine lv_goto (tgt := 412) hx hb dL_rows_407 (by decide) ?_
  refine lv_icmp_eq (tgt := 417) hx hb dL_rows_412 (by decide) (fun _ => ?_) (fun h9 => absurd h9 (by decide))
  refine lv_iinc (v := 25) (lv' := [(1, .int 25), (0, .ref q9o)]) hx hb dL_rows_417 hl (k := 0) rfl (by decide) (by decide) rfl (fun ls hl => ?_)
  refine lv_goto (tgt := 370) hx hb dL_rows_420 (by decide) ?_
  refine lv_iload_n hx hb dL_rows_370 rfl (lv_at hl 0 rfl) ?_
  refine lv_bipush (v := 61) hx hb dL_rows_371 (by decide) ?_
  refine lv_icmp_ge (tgt := 423) hx hb dL_rows_373 (by decide) (fun h9 => absurd h9 (by decide)) (fun _ => ?_)
  refine lv_aload_n hx hb dL_rows_376 rfl (lv_at hl 1 rfl) ?_
  refine lv_iconst (v := 3) hx hb dL_rows_377 (by decide) ?_
  refine lv_iload_n hx hb dL_rows_378 rfl (lv_at hl 0 rfl) ?_
  refine lv_iconst (v := 4) hx hb dL_rows_379 (by decide) ?_
  refine lv_irem hx hb dL_rows_380 (by decide) ?_
  refine lv_topi (fun z9 hz9 => ?_)
  obtain rfl : z9 = 1 := hz9.trans (by decide)
  refine lv_iadd hx hb dL_rows_381 ?_
  refine lv_topi (fun z9 hz9 => ?_)
  obtain rfl : z9 = 4 := hz9.trans (by decide)
  refine lv_iconst (v := 1) hx hb dL_rows_382 (by decide) ?_
  refine lv_iload_n hx hb dL_rows_383 rfl (lv_at hl 0 rfl) ?_
  refine lv_iconst (v := 4) hx hb dL_rows_384 (by decide) ?_
  refine lv_irem hx hb dL_rows_385 (by decide) ?_
  refine lv_topi (fun z9 hz9 => ?_)
  obtain rfl : z9 = 1 := hz9.trans (by decide)
  refine lv_iconst (v := 1) hx hb dL_rows_386 (by decide) ?_
  refine lv_icmp_le (tgt := 394) hx hb dL_rows_387 (by decide) (fun _ => ?_) (fun h9 => absurd h9 (by decide))
  refine lv_iconst (v := 0) hx hb dL_rows_394 (by decide) ?_
  refine lv_iload_n hx hb dL_rows_395 rfl (lv_at hl 0 rfl) ?_
  refine lv_iconst (v := 0) hx hb dL_rows_396 (by decide) ?_
  refine px_ic hw (vx_runSX (As := [.ref q9o, .int 4, .int 1, .int 0, .int 25, .int 0]) (rest := []) CF (za_add l hst g _ _ hS 1 0 25 20 (by decide +kernel) (by decide +kernel) (by decide +kernel) (by decide +kernel) (by decide +kernel) (by unfold okC; decide +kernel) (by decide +kernel) (v := 25) (by decide +kernel) (S2 := rS50) rfl _) (vx_cwSW 6 hts gL_rows_L_act rfl rfl rfl (by decide +kernel) ⟨Nat.le_of_ble_eq_true rfl, Nat.le_of_ble_eq_true rfl⟩) (pn_preS hw hs hN) rfl rfl hl.1 rfl (lv_room (Nat.le_of_ble_eq_true rfl)) dL_rows_397 ⟨Nat.le_of_ble_eq_true rfl, Nat.le_of_ble_eq_true rfl⟩) (fun E9 ce9 q9 L9 f9 H9 locs9 he9 _ _ _ _ => False.elim he9) (fun r9 Lb fb Hb locb hp hw9 => ?_)
  clear hw hS
  try clear loca Ha fa La
  have hw := hw9
  clear hw9
  obtain rfl : r9 = 25 := hp.1
  have hS : Wc g q9o rS50 50 Lb fb := hp.2
  clear hp
  refine lv_iload_n hx hb dL_rows_400 rfl (lv_at hl 0 rfl) ?_
  refine lv_bipush (v := 60) hx hb dL_rows_401 (by decide) ?_
  refine lv_icmp_ge (tgt := 410) hx hb dL_rows_403 (by decide) (fun h9 => absurd h9 (by decide)) (fun _ => ?_)
  refine lv_iload_n hx hb dL_rows_406 rfl (lv_at hl 0 rfl) ?_
  refine lv_goto (tgt := 412) hx hb dL_rows_407 (by decide) ?_
  refine lv_icmp_eq (tgt := 417) hx hb dL_rows_412 (by decide) (fun _ => ?_) (fun h9 => absurd h9 (by decide))
  refine lv_iinc (v := 26) (lv' := [(1, .int 26), (0, .ref q9o)]) hx hb dL_rows_417 hl (k := 0) rfl (by decide) (by decide) rfl (fun ls hl => ?_)
  refine lv_goto (tgt := 370) hx hb dL_rows_420 (by decide) ?_
  refine lv_iload_n hx hb dL_rows_370 rfl (lv_at hl 0 rfl) ?_
  refine lv_bipush (v := 61) hx hb dL_rows_371 (by decide) ?_
  refine lv_icmp_ge (tgt := 423) hx hb dL_rows_373 (by decide) (fun h9 => absurd h9 (by decide)) (fun _ => ?_)
  refine lv_aload_n hx hb dL_rows_376 rfl (lv_at hl 1 rfl) ?_
  refine lv_iconst (v := 3) hx hb dL_rows_377 (by decide) ?_
  refine lv_iload_n hx hb dL_rows_378 rfl (lv_at hl 0 rfl) ?_
  refine lv_iconst (v := 4) hx hb dL_rows_379 (by decide) ?_
  refine lv_irem hx hb dL_rows_380 (by decide) ?_
  refine lv_topi (fun z9 hz9 => ?_)
  obtain rfl : z9 = 2 := hz9.trans (by decide)
  refine lv_iadd hx hb dL_rows_381 ?_
  refine lv_topi (fun z9 hz9 => ?_)
  obtain rfl : z9 = 5 := hz9.trans (by decide)
  refine lv_iconst (v := 1) hx hb dL_rows_382 (by decide) ?_
  refine lv_iload_n hx hb dL_rows_383 rfl (lv_at hl 0 rfl) ?_
  refine lv_iconst (v := 4) hx hb dL_rows_384 (by decide) ?_
  refine lv_irem hx hb dL_rows_385 (by decide) ?_
  refine lv_topi (fun z9 hz9 => ?_)
  obtain rfl : z9 = 2 := hz9.trans (by decide)
  refine lv_iconst (v := 1) hx hb dL_rows_386 (by decide) ?_
  refine lv_icmp_le (tgt := 394) hx hb dL_rows_387 (by decide) (fun h9 => absurd h9 (by decide)) (fun _ => ?_)
  refine lv_iload_n hx hb dL_rows_390 rfl (lv_at hl 0 rfl) ?_
  refine lv_goto (tgt := 395) hx hb dL_rows_391 (by decide) ?_
  refine lv_iload_n hx hb dL_rows_395 rfl (lv_at hl 0 rfl) ?_
  refine lv_iconst (v := 0) hx hb dL_rows_396 (by decide) ?_
  refine px_ic hw (vx_runSX (As := [.ref q9o, .int 5, .int 1, .int 26, .int 26, .int 0]) (rest := []) CF (za_cancel l hst g _ _ hS 1 26 (by decide +kernel) (by decide +kernel) (by decide +kernel) (by unfold okC; decide +kernel) (by decide +kernel) (v := 26) (by decide +kernel) (S2 := rS51) rfl _) (vx_cwSW 6 hts gL_rows_L_act rfl rfl rfl (by decide +kernel) ⟨Nat.le_of_ble_eq_true rfl, Nat.le_of_ble_eq_true rfl⟩) (pn_preS hw hs hN) rfl rfl hl.1 rfl (lv_room (Nat.le_of_ble_eq_true rfl)) dL_rows_397 ⟨Nat.le_of_ble_eq_true rfl, Nat.le_of_ble_eq_true rfl⟩) (fun E9 ce9 q9 L9 f9 H9 locs9 he9 _ _ _ _ => False.elim he9) (fun r9 La fa Ha loca hp hw9 => ?_)
  clear hw hS
  try clear locb Hb fb Lb
  have hw := hw9
  clear hw9
  obtain rfl : r9 = 26 := hp.1
  have hS : Wc g q9o rS51 51 La fa := hp.2
  clear hp
  refine lv_iload_n hx hb dL_rows_400 rfl (lv_at hl 0 rfl) ?_
  refine lv_bipush (v := 60) hx hb dL_rows_401 (by decide) ?_
  refine lv_icmp_ge (tgt := 410) hx hb dL_rows_403 (by decide) (fun h9 => absurd h9 (by decide)) (fun _ => ?_)
  refine lv_iload_n hx hb dL_rows_406 rfl (lv_at hl 0 rfl) ?_
  refine lv_goto (tgt := 412) hx hb dL_rows_407 (by decide) ?_
  refine lv_icmp_eq (tgt := 417) hx hb dL_rows_412 (by decide) (fun _ => ?_) (fun h9 => absurd h9 (by decide))
  refine lv_iinc (v := 27) (lv' := [(1, .int 27), (0, .ref q9o)]) hx hb dL_rows_417 hl (k := 0) rfl (by decide) (by decide) rfl (fun ls hl => ?_)
  refine lv_goto (tgt := 370) hx hb dL_rows_420 (by decide) ?_
  refine lv_iload_n hx hb dL_rows_370 rfl (lv_at hl 0 rfl) ?_
  refine lv_bipush (v := 61) hx hb dL_rows_371 (by decide) ?_
  refine lv_icmp_ge (tgt := 423) hx hb dL_rows_373 (by decide) (fun h9 => absurd h9 (by decide)) (fun _ => ?_)
  refine lv_aload_n hx hb dL_rows_376 rfl (lv_at hl 1 rfl) ?_
  refine lv_iconst (v := 3) hx hb dL_rows_377 (by decide) ?_
  refine lv_iload_n hx hb dL_rows_378 rfl (lv_at hl 0 rfl) ?_
  refine lv_iconst (v := 4) hx hb dL_rows_379 (by decide) ?_
  refine lv_irem hx hb dL_rows_380 (by decide) ?_
  refine lv_topi (fun z9 hz9 => ?_)
  obtain rfl : z9 = 3 := hz9.trans (by decide)
  refine lv_iadd hx hb dL_rows_381 ?_
  refine lv_topi (fun z9 hz9 => ?_)
  obtain rfl : z9 = 6 := hz9.trans (by decide)
  refine lv_iconst (v := 1) hx hb dL_rows_382 (by decide) ?_
  refine lv_iload_n hx hb dL_rows_383 rfl (lv_at hl 0 rfl) ?_
  refine lv_iconst (v := 4) hx hb dL_rows_384 (by decide) ?_
  refine lv_irem hx hb dL_rows_385 (by decide) ?_
  refine lv_topi (fun z9 hz9 => ?_)
  obtain rfl : z9 = 3 := hz9.trans (by decide)
  refine lv_iconst (v := 1) hx hb dL_rows_386 (by decide) ?_
  refine lv_icmp_le (tgt := 394) hx hb dL_rows_387 (by decide) (fun h9 => absurd h9 (by decide)) (fun _ => ?_)
  refine lv_iload_n hx hb dL_rows_390 rfl (lv_at hl 0 rfl) ?_
  refine lv_goto (tgt := 395) hx hb dL_rows_391 (by decide) ?_
  refine lv_iload_n hx hb dL_rows_395 rfl (lv_at hl 0 rfl) ?_
  refine lv_iconst (v := 0) hx hb dL_rows_396 (by decide) ?_
  refine px_ic hw (vx_runSX (As := [.ref q9o, .int 6, .int 1, .int 27, .int 27, .int 0]) (rest := []) CF (za_reinstate l hst g _ _ hS 1 27 (by decide +kernel) (by decide +kernel) (by decide +kernel) (by unfold okC; decide +kernel) (by decide +kernel) (v := 27) (by decide +kernel) (S2 := rS52) rfl _) (vx_cwSW 6 hts gL_rows_L_act rfl rfl rfl (by decide +kernel) ⟨Nat.le_of_ble_eq_true rfl, Nat.le_of_ble_eq_true rfl⟩) (pn_preS hw hs hN) rfl rfl hl.1 rfl (lv_room (Nat.le_of_ble_eq_true rfl)) dL_rows_397 ⟨Nat.le_of_ble_eq_true rfl, Nat.le_of_ble_eq_true rfl⟩) (fun E9 ce9 q9 L9 f9 H9 locs9 he9 _ _ _ _ => False.elim he9) (fun r9 Lb fb Hb locb hp hw9 => ?_)
  clear hw hS
  try clear loca Ha fa La
  have hw := hw9
  clear hw9
  obtain rfl : r9 = 27 := hp.1
  have hS : Wc g q9o rS52 52 Lb fb := hp.2
  clear hp
  refine lv_iload_n hx hb dL_rows_400 rfl (lv_at hl 0 rfl) ?_
  refine lv_bipush (v := 60) hx hb dL_rows_401 (by decide) ?_
  refine lv_icmp_ge (tgt := 410) hx hb dL_rows_403 (by decide) (fun h9 => absurd h9 (by decide)) (fun _ => ?_)
  refine lv_iload_n hx hb dL_rows_406 rfl (lv_at hl 0 rfl) ?_
  refine lv_goto (tgt := 412) hx hb dL_rows_407 (by decide) ?_
  refine lv_icmp_eq (tgt := 417) hx hb dL_rows_412 (by decide) (fun _ => ?_) (fun h9 => absurd h9 (by decide))
  refine lv_iinc (v := 28) (lv' := [(1, .int 28), (0, .ref q9o)]) hx hb dL_rows_417 hl (k := 0) rfl (by decide) (by decide) rfl (fun ls hl => ?_)
  refine lv_goto (tgt := 370) hx hb dL_rows_420 (by decide) ?_
  refine lv_iload_n hx hb dL_rows_370 rfl (lv_at hl 0 rfl) ?_
  refine lv_bipush (v := 61) hx hb dL_rows_371 (by decide) ?_
  refine lv_icmp_ge (tgt := 423) hx hb dL_rows_373 (by decide) (fun h9 => absurd h9 (by decide)) (fun _ => ?_)
  refine lv_aload_n hx hb dL_rows_376 rfl (lv_at hl 1 rfl) ?_
  refine lv_iconst (v := 3) hx hb dL_rows_377 (by decide) ?_
  refine lv_iload_n hx hb dL_rows_378 rfl (lv_at hl 0 rfl) ?_
  refine lv_iconst (v := 4) hx hb dL_rows_379 (by decide) ?_
  refine lv_irem hx hb dL_rows_380 (by decide) ?_
  refine lv_topi (fun z9 hz9 => ?_)
  obtain rfl : z9 = 0 := hz9.trans (by decide)
  refine lv_iadd hx hb dL_rows_381 ?_
  refine lv_topi (fun z9 hz9 => ?_)
  obtain rfl : z9 = 3 := hz9.trans (by decide)
  refine lv_iconst (v := 1) hx hb dL_rows_382 (by decide) ?_
  refine lv_iload_n hx hb dL_rows_383 rfl (lv_at hl 0 rfl) ?_
  refine lv_iconst (v := 4) hx hb dL_rows_384 (by decide) ?_
  refine lv_irem hx hb dL_rows_385 (by decide) ?_
  refine lv_topi (fun z9 hz9 => ?_)
  obtain rfl : z9 = 0 := hz9.trans (by decide)
  refine lv_iconst (v := 1) hx hb dL_rows_386 (by decide) ?_
  refine lv_icmp_le (tgt := 394) hx hb dL_rows_387 (by decide) (fun _ => ?_) (fun h9 => absurd h9 (by decide))
  refine lv_iconst (v := 0) hx hb dL_rows_394 (by decide) ?_
  refine lv_iload_n hx hb dL_rows_395 rfl (lv_at hl 0 rfl) ?_
  refine lv_iconst (v := 0) hx hb dL_rows_396 (by decide) ?_
  refine px_ic hw (vx_runSX (As := [.ref q9o, .int 3, .int 1, .int 0, .int 28, .int 0]) (rest := []) CF (za_change l hst g _ _ hS 1 0 28 20 (by decide +kernel) (by decide +kernel) (by decide +kernel) (by decide +kernel) (by decide +kernel) (by unfold okC; decide +kernel) (by decide +kernel) (v := 28) (by decide +kernel) (S2 := rS53) rfl _) (vx_cwSW 6 hts gL_rows_L_act rfl rfl rfl (by decide +kernel) ⟨Nat.le_of_ble_eq_true rfl, Nat.le_of_ble_eq_true rfl⟩) (pn_preS hw hs hN) rfl rfl hl.1 rfl (lv_room (Nat.le_of_ble_eq_true rfl)) dL_rows_397 ⟨Nat.le_of_ble_eq_true rfl, Nat.le_of_ble_eq_true rfl⟩) (fun E9 ce9 q9 L9 f9 H9 locs9 he9 _ _ _ _ => False.elim he9) (fun r9 La fa Ha loca hp hw9 => ?_)
  clear hw hS
  try clear locb Hb fb Lb
  have hw := hw9
  clear hw9
  obtain rfl : r9 = 28 := hp.1
  have hS : Wc g q9o rS53 53 La fa := hp.2
  clear hp
  refine lv_iload_n hx hb dL_rows_400 rfl (lv_at hl 0 rfl) ?_
  refine lv_bipush (v := 60) hx hb dL_rows_401 (by decide) ?_
  refine lv_icmp_ge (tgt := 410) hx hb dL_rows_403 (by decide) (fun h9 => absurd h9 (by decide)) (fun _ => ?_)
  refine lv_iload_n hx hb dL_rows_406 rfl (lv_at hl 0 rfl) ?_
  refine lv_goto (tgt := 412) hx hb dL_rows_407 (by decide) ?_
  refine lv_icmp_eq (tgt := 417) hx hb dL_rows_412 (by decide) (fun _ => ?_) (fun h9 => absurd h9 (by decide))
  refine lv_iinc (v := 29) (lv' := [(1, .int 29), (0, .ref q9o)]) hx hb dL_rows_417 hl (k := 0) rfl (by decide) (by decide) rfl (fun ls hl => ?_)
  refine lv_goto (tgt := 370) hx hb dL_rows_420 (by decide) ?_
  refine lv_iload_n hx hb dL_rows_370 rfl (lv_at hl 0 rfl) ?_
  refine lv_bipush (v := 61) hx hb dL_rows_371 (by decide) ?_
  refine lv_icmp_ge (tgt := 423) hx hb dL_rows_373 (by decide) (fun h9 => absurd h9 (by decide)) (fun _ => ?_)
  refine lv_aload_n hx hb dL_rows_376 rfl (lv_at hl 1 rfl) ?_
  refine lv_iconst (v := 3) hx hb dL_rows_377 (by decide) ?_
  refine lv_iload_n hx hb dL_rows_378 rfl (lv_at hl 0 rfl) ?_
  refine lv_iconst (v := 4) hx hb dL_rows_379 (by decide) ?_
  refine lv_irem hx hb dL_rows_380 (by decide) ?_
  refine lv_topi (fun z9 hz9 => ?_)
  obtain rfl : z9 = 1 := hz9.trans (by decide)
  refine lv_iadd hx hb dL_rows_381 ?_
  refine lv_topi (fun z9 hz9 => ?_)
  obtain rfl : z9 = 4 := hz9.trans (by decide)
  refine lv_iconst (v := 1) hx hb dL_rows_382 (by decide) ?_
  refine lv_iload_n hx hb dL_rows_383 rfl (lv_at hl 0 rfl) ?_
  refine lv_iconst (v := 4) hx hb dL_rows_384 (by decide) ?_
  refine lv_irem hx hb dL_rows_385 (by decide) ?_
  refine lv_topi (fun z9 hz9 => ?_)
  obtain rfl : z9 = 1 := hz9.trans (by decide)
  refine lv_iconst (v := 1) hx hb dL_rows_386 (by decide) ?_
  refine lv_icmp_le (tgt := 394) hx hb dL_rows_387 (by decide) (fun _ => ?_) (fun h9 => absurd h9 (by decide))
  refine lv_iconst (v := 0) hx hb dL_rows_394 (by decide) ?_
  refine lv_iload_n hx hb dL_rows_395 rfl (lv_at hl 0 rfl) ?_
  refine lv_iconst (v := 0) hx hb dL_rows_396 (by decide) ?_
  refine px_ic hw (vx_runSX (As := [.ref q9o, .int 4, .int 1, .int 0, .int 29, .int 0]) (rest := []) CF (za_add l hst g _ _ hS 1 0 29 20 (by decide +kernel) (by decide +kernel) (by decide +kernel) (by decide +kernel) (by decide +kernel) (by unfold okC; decide +kernel) (by decide +kernel) (v := 29) (by decide +kernel) (S2 := rS54) rfl _) (vx_cwSW 6 hts gL_rows_L_act rfl rfl rfl (by decide +kernel) ⟨Nat.le_of_ble_eq_true rfl, Nat.le_of_ble_eq_true rfl⟩) (pn_preS hw hs hN) rfl rfl hl.1 rfl (lv_room (Nat.le_of_ble_eq_true rfl)) dL_rows_397 ⟨Nat.le_of_ble_eq_true rfl, Nat.le_of_ble_eq_true rfl⟩) (fun E9 ce9 q9 L9 f9 H9 locs9 he9 _ _ _ _ => False.elim he9) (fun r9 Lb fb Hb locb hp hw9 => ?_)
  clear hw hS
  try clear loca Ha fa La
  have hw := hw9
  clear hw9
  obtain rfl : r9 = 29 := hp.1
  have hS : Wc g q9o rS54 54 Lb fb := hp.2
  clear hp
  refine lv_iload_n hx hb dL_rows_400 rfl (lv_at hl 0 rfl) ?_
  refine lv_bipush (v := 60) hx hb dL_rows_401 (by decide) ?_
  refine lv_icmp_ge (tgt := 410) hx hb dL_rows_403 (by decide) (fun h9 => absurd h9 (by decide)) (fun _ => ?_)
  refine lv_iload_n hx hb dL_rows_406 rfl (lv_at hl 0 rfl) ?_
  refine lv_goto (tgt := 412) hx hb dL_rows_407 (by decide) ?_
  refine lv_icmp_eq (tgt := 417) hx hb dL_rows_412 (by decide) (fun _ => ?_) (fun h9 => absurd h9 (by decide))
  refine lv_iinc (v := 30) (lv' := [(1, .int 30), (0, .ref q9o)]) hx hb dL_rows_417 hl (k := 0) rfl (by decide) (by decide) rfl (fun ls hl => ?_)
  refine lv_goto (tgt := 370) hx hb dL_rows_420 (by decide) ?_
  refine lv_iload_n hx hb dL_rows_370 rfl (lv_at hl 0 rfl) ?_
  refine lv_bipush (v := 61) hx hb dL_rows_371 (by decide) ?_
  refine lv_icmp_ge (tgt := 423) hx hb dL_rows_373 (by decide) (fun h9 => absurd h9 (by decide)) (fun _ => ?_)
  refine lv_aload_n hx hb dL_rows_376 rfl (lv_at hl 1 rfl) ?_
  refine lv_iconst (v := 3) hx hb dL_rows_377 (by decide) ?_
  refine lv_iload_n hx hb dL_rows_378 rfl (lv_at hl 0 rfl) ?_
  refine lv_iconst (v := 4) hx hb dL_rows_379 (by decide) ?_
  refine lv_irem hx hb dL_rows_380 (by decide) ?_
  refine lv_topi (fun z9 hz9 => ?_)
  obtain rfl : z9 = 2 := hz9.trans (by decide)
  refine lv_iadd hx hb dL_rows_381 ?_
  refine lv_topi (fun z9 hz9 => ?_)
  obtain rfl : z9 = 5 := hz9.trans (by decide)
  refine lv_iconst (v := 1) hx hb dL_rows_382 (by decide) ?_
  refine lv_iload_n hx hb dL_rows_383 rfl (lv_at hl 0 rfl) ?_
  refine lv_iconst (v := 4) hx hb dL_rows_384 (by decide) ?_
  refine lv_irem hx hb dL_rows_385 (by decide) ?_
  refine lv_topi (fun z9 hz9 => ?_)
  obtain rfl : z9 = 2 := hz9.trans (by decide)
  refine lv_iconst (v := 1) hx hb dL_rows_386 (by decide) ?_
  refine lv_icmp_le (tgt := 394) hx hb dL_rows_387 (by decide) (fun h9 => absurd h9 (by decide)) (fun _ => ?_)
  refine lv_iload_n hx hb dL_rows_390 rfl (lv_at hl 0 rfl) ?_
  refine lv_goto (tgt := 395) hx hb dL_rows_391 (by decide) ?_
  refine lv_iload_n hx hb dL_rows_395 rfl (lv_at hl 0 rfl) ?_
  refine lv_iconst (v := 0) hx hb dL_rows_396 (by decide) ?_
  refine px_ic hw (vx_runSX (As := [.ref q9o, .int 5, .int 1, .int 30, .int 30, .int 0]) (rest := []) CF (za_cancel l hst g _ _ hS 1 30 (by decide +kernel) (by decide +kernel) (by decide +kernel) (by unfold okC; decide +kernel) (by decide +kernel) (v := 30) (by decide +kernel) (S2 := rS55) rfl _) (vx_cwSW 6 hts gL_rows_L_act rfl rfl rfl (by decide +kernel) ⟨Nat.le_of_ble_eq_true rfl, Nat.le_of_ble_eq_true rfl⟩) (pn_preS hw hs hN) rfl rfl hl.1 rfl (lv_room (Nat.le_of_ble_eq_true rfl)) dL_rows_397 ⟨Nat.le_of_ble_eq_true rfl, Nat.le_of_ble_eq_true rfl⟩) (fun E9 ce9 q9 L9 f9 H9 locs9 he9 _ _ _ _ => False.elim he9) (fun r9 La fa Ha loca hp hw9 => ?_)
  clear hw hS
  try clear locb Hb fb Lb
  have hw := hw9
  clear hw9
  obtain rfl : r9 = 30 := hp.1
  have hS : Wc g q9o rS55 55 La fa := hp.2
  clear hp
  refine lv_iload_n hx hb dL_rows_400 rfl (lv_at hl 0 rfl) ?_
  refine lv_bipush (v := 60) hx hb dL_rows_401 (by decide) ?_
  refine lv_icmp_ge (tgt := 410) hx hb dL_rows_403 (by decide) (fun h9 => absurd h9 (by decide)) (fun _ => ?_)
  refine lv_iload_n hx hb dL_rows_406 rfl (lv_at hl 0 rfl) ?_
  refine lv_goto (tgt := 412) hx hb dL_rows_407 (by decide) ?_
  refine lv_icmp_eq (tgt := 417) hx hb dL_rows_412 (by decide) (fun _ => ?_) (fun h9 => absurd h9 (by decide))
  refine lv_iinc (v := 31) (lv' := [(1, .int 31), (0, .ref q9o)]) hx hb dL_rows_417 hl (k := 0) rfl (by decide) (by decide) rfl (fun ls hl => ?_)
  refine lv_goto (tgt := 370) hx hb dL_rows_420 (by decide) ?_
  refine lv_iload_n hx hb dL_rows_370 rfl (lv_at hl 0 rfl) ?_
  refine lv_bipush (v := 61) hx hb dL_rows_371 (by decide) ?_
  refine lv_icmp_ge (tgt := 423) hx hb dL_rows_373 (by decide) (fun h9 => absurd h9 (by decide)) (fun _ => ?_)
  refine lv_aload_n hx hb dL_rows_376 rfl (lv_at hl 1 rfl) ?_
  refine lv_iconst (v := 3) hx hb dL_rows_377 (by decide) ?_
  refine lv_iload_n hx hb dL_rows_378 rfl (lv_at hl 0 rfl) ?_
  refine lv_iconst (v := 4) hx hb dL_rows_379 (by decide) ?_
  refine lv_irem hx hb dL_rows_380 (by decide) ?_
  refine lv_topi (fun z9 hz9 => ?_)
  obtain rfl : z9 = 3 := hz9.trans (by decide)
  refine lv_iadd hx hb dL_rows_381 ?_
  refine lv_topi (fun z9 hz9 => ?_)
  obtain rfl : z9 = 6 := hz9.trans (by decide)
  refine lv_iconst (v := 1) hx hb dL_rows_382 (by decide) ?_
  refine lv_iload_n hx hb dL_rows_383 rfl (lv_at hl 0 rfl) ?_
  refine lv_iconst (v := 4) hx hb dL_rows_384 (by decide) ?_
  refine lv_irem hx hb dL_rows_385 (by decide) ?_
  refine lv_topi (fun z9 hz9 => ?_)
  obtain rfl : z9 = 3 := hz9.trans (by decide)
  refine lv_iconst (v := 1) hx hb dL_rows_386 (by decide) ?_
  refine lv_icmp_le (tgt := 394) hx hb dL_rows_387 (by decide) (fun h9 => absurd h9 (by decide)) (fun _ => ?_)
  refine lv_iload_n hx hb dL_rows_390 rfl (lv_at hl 0 rfl) ?_
  refine lv_goto (tgt := 395) hx hb dL_rows_391 (by decide) ?_
  refine lv_iload_n hx hb dL_rows_395 rfl (lv_at hl 0 rfl) ?_
  refine lv_iconst (v := 0) hx hb dL_rows_396 (by decide) ?_
  refine px_ic hw (vx_runSX (As := [.ref q9o, .int 6, .int 1, .int 31, .int 31, .int 0]) (rest := []) CF (za_reinstate l hst g _ _ hS 1 31 (by decide +kernel) (by decide +kernel) (by decide +kernel) (by unfold okC; decide +kernel) (by decide +kernel) (v := 31) (by decide +kernel) (S2 := rS56) rfl _) (vx_cwSW 6 hts gL_rows_L_act rfl rfl rfl (by decide +kernel) ⟨Nat.le_of_ble_eq_true rfl, Nat.le_of_ble_eq_true rfl⟩) (pn_preS hw hs hN) rfl rfl hl.1 rfl (lv_room (Nat.le_of_ble_eq_true rfl)) dL_rows_397 ⟨Nat.le_of_ble_eq_true rfl, Nat.le_of_ble_eq_true rfl⟩) (fun E9 ce9 q9 L9 f9 H9 locs9 he9 _ _ _ _ => False.elim he9) (fun r9 Lb fb Hb locb hp hw9 => ?_)
  clear hw hS
  try clear loca Ha fa La
  have hw := hw9
  clear hw9
  obtain rfl : r9 = 31 := hp.1
  have hS : Wc g q9o rS56 56 Lb fb := hp.2
  clear hp
  refine lv_iload_n hx hb dL_rows_400 rfl (lv_at hl 0 rfl) ?_
  refine lv_bipush (v := 60) hx hb dL_rows_401 (by decide) ?_
  refine lv_icmp_ge (tgt := 410) hx hb dL_rows_403 (by decide) (fun h9 => absurd h9 (by decide)) (fun _ => ?_)
  refine lv_iload_n hx hb dL_rows_406 rfl (lv_at hl 0 rfl) ?_
  refine lv_goto (tgt := 412) hx hb dL_rows_407 (by decide) ?_
  refine lv_icmp_eq (tgt := 417) hx hb dL_rows_412 (by decide) (fun _ => ?_) (fun h9 => absurd h9 (by decide))
  refine lv_iinc (v := 32) (lv' := [(1, .int 32), (0, .ref q9o)]) hx hb dL_rows_417 hl (k := 0) rfl (by decide) (by decide) rfl (fun ls hl => ?_)
  refine lv_goto (tgt := 370) hx hb dL_rows_420 (by decide) ?_
  refine lv_iload_n hx hb dL_rows_370 rfl (lv_at hl 0 rfl) ?_
  refine lv_bipush (v := 61) hx hb dL_rows_371 (by decide) ?_
  refine lv_icmp_ge (tgt := 423) hx hb dL_rows_373 (by decide) (fun h9 => absurd h9 (by decide)) (fun _ => ?_)
  refine lv_aload_n hx hb dL_rows_376 rfl (lv_at hl 1 rfl) ?_
  refine lv_iconst (v := 3) hx hb dL_rows_377 (by decide) ?_
  refine lv_iload_n hx hb dL_rows_378 rfl (lv_at hl 0 rfl) ?_
  refine lv_iconst (v := 4) hx hb dL_rows_379 (by decide) ?_
  refine lv_irem hx hb dL_rows_380 (by decide) ?_
  refine lv_topi (fun z9 hz9 => ?_)
  obtain rfl : z9 = 0 := hz9.trans (by decide)
  refine lv_iadd hx hb dL_rows_381 ?_
  refine lv_topi (fun z9 hz9 => ?_)
  obtain rfl : z9 = 3 := hz9.trans (by decide)
  refine lv_iconst (v := 1) hx hb dL_rows_382 (by decide) ?_
  refine lv_iload_n hx hb dL_rows_383 rfl (lv_at hl 0 rfl) ?_
  refine lv_iconst (v := 4) hx hb dL_rows_384 (by decide) ?_
  refine lv_irem hx hb dL_rows_385 (by decide) ?_
  refine lv_topi (fun z9 hz9 => ?_)
  obtain rfl : z9 = 0 := hz9.trans (by decide)
  refine lv_iconst (v := 1) hx hb dL_rows_386 (by decide) ?_
  refine lv_icmp_le (tgt := 394) hx hb dL_rows_387 (by decide) (fun _ => ?_) (fun h9 => absurd h9 (by decide))
  refine lv_iconst (v := 0) hx hb dL_rows_394 (by decide) ?_
  refine lv_iload_n hx hb dL_rows_395 rfl (lv_at hl 0 rfl) ?_
  refine lv_iconst (v := 0) hx hb dL_rows_396 (by decide) ?_
  refine px_ic hw (vx_runSX (As := [.ref q9o, .int 3, .int 1, .int 0, .int 32, .int 0]) (rest := []) CF (za_change l hst g _ _ hS 1 0 32 20 (by decide +kernel) (by decide +kernel) (by decide +kernel) (by decide +kernel) (by decide +kernel) (by unfold okC; decide +kernel) (by decide +kernel) (v := 32) (by decide +kernel) (S2 := rS57) rfl _) (vx_cwSW 6 hts gL_rows_L_act rfl rfl rfl (by decide +kernel) ⟨Nat.le_of_ble_eq_true rfl, Nat.le_of_ble_eq_true rfl⟩) (pn_preS hw hs hN) rfl rfl hl.1 rfl (lv_room (Nat.le_of_ble_eq_true rfl)) dL_rows_397 ⟨Nat.le_of_ble_eq_true rfl, Nat.le_of_ble_eq_true rfl⟩) (fun E9 ce9 q9 L9 f9 H9 locs9 he9 _ _ _ _ => False.elim he9) (fun r9 La fa Ha loca hp hw9 => ?_)
  clear hw hS
  try clear locb Hb fb Lb
  have hw := hw9
  clear hw9
  obtain rfl : r9 = 32 := hp.1
  have hS : Wc g q9o rS57 57 La fa := hp.2
  clear hp
  refine lv_iload_n hx hb dL_rows_400 rfl (lv_at hl 0 rfl) ?_
  refine lv_bipush (v := 60) hx hb dL_rows_401 (by decide) ?_
  refine lv_icmp_ge (tgt := 410) hx hb dL_rows_403 (by decide) (fun h9 => absurd h9 (by decide)) (fun _ => ?_)
  refine lv_iload_n hx hb dL_rows_406 rfl (lv_at hl 0 rfl) ?_
  refine lv_goto (tgt := 412) hx hb dL_rows_407 (by decide) ?_
  refine lv_icmp_eq (tgt := 417) hx hb dL_rows_412 (by decide) (fun _ => ?_) (fun h9 => absurd h9 (by decide))
  refine lv_iinc (v := 33) (lv' := [(1, .int 33), (0, .ref q9o)]) hx hb dL_rows_417 hl (k := 0) rfl (by decide) (by decide) rfl (fun ls hl => ?_)
  refine lv_goto (tgt := 370) hx hb dL_rows_420 (by decide) ?_
  refine lv_iload_n hx hb dL_rows_370 rfl (lv_at hl 0 rfl) ?_
  refine lv_bipush (v := 61) hx hb dL_rows_371 (by decide) ?_
  refine lv_icmp_ge (tgt := 423) hx hb dL_rows_373 (by decide) (fun h9 => absurd h9 (by decide)) (fun _ => ?_)
  refine lv_aload_n hx hb dL_rows_376 rfl (lv_at hl 1 rfl) ?_
  refine lv_iconst (v := 3) hx hb dL_rows_377 (by decide) ?_
  refine lv_iload_n hx hb dL_rows_378 rfl (lv_at hl 0 rfl) ?_
  refine lv_iconst (v := 4) hx hb dL_rows_379 (by decide) ?_
  refine lv_irem hx hb dL_rows_380 (by decide) ?_
  refine lv_topi (fun z9 hz9 => ?_)
  obtain rfl : z9 = 1 := hz9.trans (by decide)
  refine lv_iadd hx hb dL_rows_381 ?_
  refine lv_topi (fun z9 hz9 => ?_)
  obtain rfl : z9 = 4 := hz9.trans (by decide)
  refine lv_iconst (v := 1) hx hb dL_rows_382 (by decide) ?_
  refine lv_iload_n hx hb dL_rows_383 rfl (lv_at hl 0 rfl) ?_
  refine lv_iconst (v := 4) hx hb dL_rows_384 (by decide) ?_
  refine lv_irem hx hb dL_rows_385 (by decide) ?_
  refine lv_topi (fun z9 hz9 => ?_)
  obtain rfl : z9 = 1 := hz9.trans (by decide)
  refine lv_iconst (v := 1) hx hb dL_rows_386 (by decide) ?_
  refine lv_icmp_le (tgt := 394) hx hb dL_rows_387 (by decide) (fun _ => ?_) (fun h9 => absurd h9 (by decide))
  refine lv_iconst (v := 0) hx hb dL_rows_394 (by decide) ?_
  refine lv_iload_n hx hb dL_rows_395 rfl (lv_at hl 0 rfl) ?_
  refine lv_iconst (v := 0) hx hb dL_rows_396 (by decide) ?_
  refine px_ic hw (vx_runSX (As := [.ref q9o, .int 4, .int 1, .int 0, .int 33, .int 0]) (rest := []) CF (za_add l hst g _ _ hS 1 0 33 20 (by decide +kernel) (by decide +kernel) (by decide +kernel) (by decide +kernel) (by decide +kernel) (by unfold okC; decide +kernel) (by decide +kernel) (v := 33) (by decide +kernel) (S2 := rS58) rfl _) (vx_cwSW 6 hts gL_rows_L_act rfl rfl rfl (by decide +kernel) ⟨Nat.le_of_ble_eq_true rfl, Nat.le_of_ble_eq_true rfl⟩) (pn_preS hw hs hN) rfl rfl hl.1 rfl (lv_room (Nat.le_of_ble_eq_true rfl)) dL_rows_397 ⟨Nat.le_of_ble_eq_true rfl, Nat.le_of_ble_eq_true rfl⟩) (fun E9 ce9 q9 L9 f9 H9 locs9 he9 _ _ _ _ => False.elim he9) (fun r9 Lb fb Hb locb hp hw9 => ?_)
  clear hw hS
  try clear loca Ha fa La
  have hw := hw9
  clear hw9
  obtain rfl : r9 = 33 := hp.1
  have hS : Wc g q9o rS58 58 Lb fb := hp.2
  clear hp
  refine lv_iload_n hx hb dL_rows_400 rfl (lv_at hl 0 rfl) ?_
  refine lv_bipush (v := 60) hx hb dL_rows_401 (by decide) ?_
  refine lv_icmp_ge (tgt := 410) hx hb dL_rows_403 (by decide) (fun h9 => absurd h9 (by decide)) (fun _ => ?_)
  refine lv_iload_n hx hb dL_rows_406 rfl (lv_at hl 0 rfl) ?_
  refine lv_goto (tgt := 412) hx hb dL_rows_407 (by decide) ?_
  refine lv_icmp_eq (tgt := 417) hx hb dL_rows_412 (by decide) (fun _ => ?_) (fun h9 => absurd h9 (by decide))
  refine lv_iinc (v := 34) (lv' := [(1, .int 34), (0, .ref q9o)]) hx hb dL_rows_417 hl (k := 0) rfl (by decide) (by decide) rfl (fun ls hl => ?_)
  refine lv_goto (tgt := 370) hx hb dL_rows_420 (by decide) ?_
  refine lv_iload_n hx hb dL_rows_370 rfl (lv_at hl 0 rfl) ?_
  refine lv_bipush (v := 61) hx hb dL_rows_371 (by decide) ?_
  refine lv_icmp_ge (tgt := 423) hx hb dL_rows_373 (by decide) (fun h9 => absurd h9 (by decide)) (fun _ => ?_)
  refine lv_aload_n hx hb dL_rows_376 rfl (lv_at hl 1 rfl) ?_
  refine lv_iconst (v := 3) hx hb dL_rows_377 (by decide) ?_
  refine lv_iload_n hx hb dL_rows_378 rfl (lv_at hl 0 rfl) ?_
  refine lv_iconst (v := 4) hx hb dL_rows_379 (by decide) ?_
  refine lv_irem hx hb dL_rows_380 (by decide) ?_
  refine lv_topi (fun z9 hz9 => ?_)
  obtain rfl : z9 = 2 := hz9.trans (by decide)
  refine lv_iadd hx hb dL_rows_381 ?_
  refine lv_topi (fun z9 hz9 => ?_)
  obtain rfl : z9 = 5 := hz9.trans (by decide)
  refine lv_iconst (v := 1) hx hb dL_rows_382 (by decide) ?_
  refine lv_iload_n hx hb dL_rows_383 rfl (lv_at hl 0 rfl) ?_
  refine lv_iconst (v := 4) hx hb dL_rows_384 (by decide) ?_
  refine lv_irem hx hb dL_rows_385 (by decide) ?_
  refine lv_topi (fun z9 hz9 => ?_)
  obtain rfl : z9 = 2 := hz9.trans (by decide)
  refine lv_iconst (v := 1) hx hb dL_rows_386 (by decide) ?_
  refine lv_icmp_le (tgt := 394) hx hb dL_rows_387 (by decide) (fun h9 => absurd h9 (by decide)) (fun _ => ?_)
  refine lv_iload_n hx hb dL_rows_390 rfl (lv_at hl 0 rfl) ?_
  refine lv_goto (tgt := 395) hx hb dL_rows_391 (by decide) ?_
  refine lv_iload_n hx hb dL_rows_395 rfl (lv_at hl 0 rfl) ?_
  refine lv_iconst (v := 0) hx hb dL_rows_396 (by decide) ?_
  refine px_ic hw (vx_runSX (As := [.ref q9o, .int 5, .int 1, .int 34, .int 34, .int 0]) (rest := []) CF (za_cancel l hst g _ _ hS 1 34 (by decide +kernel) (by decide +kernel) (by decide +kernel) (by unfold okC; decide +kernel) (by decide +kernel) (v := 34) (by decide +kernel) (S2 := rS59) rfl _) (vx_cwSW 6 hts gL_rows_L_act rfl rfl rfl (by decide +kernel) ⟨Nat.le_of_ble_eq_true rfl, Nat.le_of_ble_eq_true rfl⟩) (pn_preS hw hs hN) rfl rfl hl.1 rfl (lv_room (Nat.le_of_ble_eq_true rfl)) dL_rows_397 ⟨Nat.le_of_ble_eq_true rfl, Nat.le_of_ble_eq_true rfl⟩) (fun E9 ce9 q9 L9 f9 H9 locs9 he9 _ _ _ _ => False.elim he9) (fun r9 La fa Ha loca hp hw9 => ?_)
  clear hw hS
  try clear locb Hb fb Lb
  have hw := hw9
  clear hw9
  obtain rfl : r9 = 34 := hp.1
  have hS : Wc g q9o rS59 59 La fa := hp.2
  clear hp
  refine lv_iload_n hx hb dL_rows_400 rfl (lv_at hl 0 rfl) ?_
  refine lv_bipush (v := 60) hx hb dL_rows_401 (by decide) ?_
  refine lv_icmp_ge (tgt := 410) hx hb dL_rows_403 (by decide) (fun h9 => absurd h9 (by decide)) (fun _ => ?_)
  refine lv_iload_n hx hb dL_rows_406 rfl (lv_at hl 0 rfl) ?_
  refine lv_goto (tgt := 412) hx hb dL_rows_407 (by decide) ?_
  refine lv_icmp_eq (tgt := 417) hx hb dL_rows_412 (by decide) (fun _ => ?_) (fun h9 => absurd h9 (by decide))
  refine lv_iinc (v := 35) (lv' := [(1, .int 35), (0, .ref q9o)]) hx hb dL_rows_417 hl (k := 0) rfl (by decide) (by decide) rfl (fun ls hl => ?_)
  refine lv_goto (tgt := 370) hx hb dL_rows_420 (by decide) ?_
  refine lv_iload_n hx hb dL_rows_370 rfl (lv_at hl 0 rfl) ?_
  refine lv_bipush (v := 61) hx hb dL_rows_371 (by decide) ?_
  refine lv_icmp_ge (tgt := 423) hx hb dL_rows_373 (by decide) (fun h9 => absurd h9 (by decide)) (fun _ => ?_)
  refine lv_aload_n hx hb dL_rows_376 rfl (lv_at hl 1 rfl) ?_
  refine lv_iconst (v := 3) hx hb dL_rows_377 (by decide) ?_
  refine lv_iload_n hx hb dL_rows_378 rfl (lv_at hl 0 rfl) ?_
  refine lv_iconst (v := 4) hx hb dL_rows_379 (by decide) ?_
  refine lv_irem hx hb dL_rows_380 (by decide) ?_
  refine lv_topi (fun z9 hz9 => ?_)
  obtain rfl : z9 = 3 := hz9.trans (by decide)
  refine lv_iadd hx hb dL_rows_381 ?_
  refine lv_topi (fun z9 hz9 => ?_)
  obtain rfl : z9 = 6 := hz9.trans (by decide)
  refine lv_iconst (v := 1) hx hb dL_rows_382 (by decide) ?_
  refine lv_iload_n hx hb dL_rows_383 rfl (lv_at hl 0 rfl) ?_
  refine lv_iconst (v := 4) hx hb dL_rows_384 (by decide) ?_
  refine lv_irem hx hb dL_rows_385 (by decide) ?_
  refine lv_topi (fun z9 hz9 => ?_)
  obtain rfl : z9 = 3 := hz9.trans (by decide)
  refine lv_iconst (v := 1) hx hb dL_rows_386 (by decide) ?_
  refine lv_icmp_le (tgt := 394) hx hb dL_rows_387 (by decide) (fun h9 => absurd h9 (by decide)) (fun _ => ?_)
  refine lv_iload_n hx hb dL_rows_390 rfl (lv_at hl 0 rfl) ?_
  refine lv_goto (tgt := 395) hx hb dL_rows_391 (by decide) ?_
  refine lv_iload_n hx hb dL_rows_395 rfl (lv_at hl 0 rfl) ?_
  refine lv_iconst (v := 0) hx hb dL_rows_396 (by decide) ?_
  refine px_ic hw (vx_runSX (As := [.ref q9o, .int 6, .int 1, .int 35, .int 35, .int 0]) (rest := []) CF (za_reinstate l hst g _ _ hS 1 35 (by decide +kernel) (by decide +kernel) (by decide +kernel) (by unfold okC; decide +kernel) (by decide +kernel) (v := 35) (by decide +kernel) (S2 := rS60) rfl _) (vx_cwSW 6 hts gL_rows_L_act rfl rfl rfl (by decide +kernel) ⟨Nat.le_of_ble_eq_true rfl, Nat.le_of_ble_eq_true rfl⟩) (pn_preS hw hs hN) rfl rfl hl.1 rfl (lv_room (Nat.le_of_ble_eq_true rfl)) dL_rows_397 ⟨Nat.le_of_ble_eq_true rfl, Nat.le_of_ble_eq_true rfl⟩) (fun E9 ce9 q9 L9 f9 H9 locs9 he9 _ _ _ _ => False.elim he9) (fun r9 Lb fb Hb locb hp hw9 => ?_)
  clear hw hS
  try clear loca Ha fa La
  have hw := hw9
  clear hw9
  obtain rfl : r9 = 35 := hp.1
  have hS : Wc g q9o rS60 60 Lb fb := hp.2
  clear hp
  refine lv_iload_n hx hb dL_rows_400 rfl (lv_at hl 0 rfl) ?_
  refine lv_bipush (v := 60) hx hb dL_rows_401 (by decide) ?_
  refine lv_icmp_ge (tgt := 410) hx hb dL_rows_403 (by decide) (fun h9 => absurd h9 (by decide)) (fun _ => ?_)
  refine lv_iload_n hx hb dL_rows_406 rfl (lv_at hl 0 rfl) ?_
  refine lv_goto (tgt := 412) hx hb dL_rows_407 (by decide) ?_
  refine lv_icmp_eq (tgt := 417) hx hb dL_rows_412 (by decide) (fun _ => ?_) (fun h9 => absurd h9 (by decide))
  refine lv_iinc (v := 36) (lv' := [(1, .int 36), (0, .ref q9o)]) hx hb dL_rows_417 hl (k := 0) rfl (by decide) (by decide) rfl (fun ls hl => ?_)
  refine lv_goto (tgt := 370) hx hb dL_rows_420 (by decide) ?_
  refine lv_iload_n hx hb dL_rows_370 rfl (lv_at hl 0 rfl) ?_
  refine lv_bipush (v := 61) hx hb dL_rows_371 (by decide) ?_
  refine lv_icmp_ge (tgt := 423) hx hb dL_rows_373 (by decide) (fun h9 => absurd h9 (by decide)) (fun _ => ?_)
  refine lv_aload_n hx hb dL_rows_376 rfl (lv_at hl 1 rfl) ?_
  refine lv_iconst (v := 3) hx hb dL_rows_377 (by decide) ?_
  refine lv_iload_n hx hb dL_rows_378 rfl (lv_at hl 0 rfl) ?_
  refine lv_iconst (v := 4) hx hb dL_rows_379 (by decide) ?_
  refine lv_irem hx hb dL_rows_380 (by decide) ?_
  refine lv_topi (fun z9 hz9 => ?_)
  obtain rfl : z9 = 0 := hz9.trans (by decide)
  refine lv_iadd hx hb dL_rows_381 ?_
  refine lv_topi (fun z9 hz9 => ?_)
  obtain rfl : z9 = 3 := hz9.trans (by decide)
  refine lv_iconst (v := 1) hx hb dL_rows_382 (by decide) ?_
  refine lv_iload_n hx hb dL_rows_383 rfl (lv_at hl 0 rfl) ?_
  refine lv_iconst (v := 4) hx hb dL_rows_384 (by decide) ?_
  refine lv_irem hx hb dL_rows_385 (by decide) ?_
  refine lv_topi (fun z9 hz9 => ?_)
  obtain rfl : z9 = 0 := hz9.trans (by decide)
  refine lv_iconst (v := 1) hx hb dL_rows_386 (by decide) ?_
  refine lv_icmp_le (tgt := 394) hx hb dL_rows_387 (by decide) (fun _ => ?_) (fun h9 => absurd h9 (by decide))
  refine lv_iconst (v := 0) hx hb dL_rows_394 (by decide) ?_
  refine lv_iload_n hx hb dL_rows_395 rfl (lv_at hl 0 rfl) ?_
  refine lv_iconst (v := 0) hx hb dL_rows_396 (by decide) ?_
  refine px_ic hw (vx_runSX (As := [.ref q9o, .int 3, .int 1, .int 0, .int 36, .int 0]) (rest := []) CF (za_change l hst g _ _ hS 1 0 36 20 (by decide +kernel) (by decide +kernel) (by decide +kernel) (by decide +kernel) (by decide +kernel) (by unfold okC; decide +kernel) (by decide +kernel) (v := 36) (by decide +kernel) (S2 := rS61) rfl _) (vx_cwSW 6 hts gL_rows_L_act rfl rfl rfl (by decide +kernel) ⟨Nat.le_of_ble_eq_true rfl, Nat.le_of_ble_eq_true rfl⟩) (pn_preS hw hs hN) rfl rfl hl.1 rfl (lv_room (Nat.le_of_ble_eq_true rfl)) dL_rows_397 ⟨Nat.le_of_ble_eq_true rfl, Nat.le_of_ble_eq_true rfl⟩) (fun E9 ce9 q9 L9 f9 H9 locs9 he9 _ _ _ _ => False.elim he9) (fun r9 La fa Ha loca hp hw9 => ?_)
  clear hw hS
  try clear locb Hb fb Lb
  have hw := hw9
  clear hw9
  obtain rfl : r9 = 36 := hp.1
  have hS : Wc g q9o rS61 61 La fa := hp.2
  clear hp
  refine lv_iload_n hx hb dL_rows_400 rfl (lv_at hl 0 rfl) ?_
  refine lv_bipush (v := 60) hx hb dL_rows_401 (by decide) ?_
  refine lv_icmp_ge (tgt := 410) hx hb dL_rows_403 (by decide) (fun h9 => absurd h9 (by decide)) (fun _ => ?_)
  refine lv_iload_n hx hb dL_rows_406 rfl (lv_at hl 0 rfl) ?_
  refine lv_goto (tgt := 412) hx hb dL_rows_407 (by decide) ?_
  refine lv_icmp_eq (tgt := 417) hx hb dL_rows_412 (by decide) (fun _ => ?_) (fun h9 => absurd h9 (by decide))
  refine lv_iinc (v := 37) (lv' := [(1, .int 37), (0, .ref q9o)]) hx hb dL_rows_417 hl (k := 0) rfl (by decide) (by decide) rfl (fun ls hl => ?_)
  refine lv_goto (tgt := 370) hx hb dL_rows_420 (by decide) ?_
  refine lv_iload_n hx hb dL_rows_370 rfl (lv_at hl 0 rfl) ?_
  refine lv_bipush (v := 61) hx hb dL_rows_371 (by decide) ?_
  refine lv_icmp_ge (tgt := 423) hx hb dL_rows_373 (by decide) (fun h9 => absurd h9 (by decide)) (fun _ => ?_)
  refine lv_aload_n hx hb dL_rows_376 rfl (lv_at hl 1 rfl) ?_
  refine lv_iconst (v := 3) hx hb dL_rows_377 (by decide) ?_
  refine lv_iload_n hx hb dL_rows_378 rfl (lv_at hl 0 rfl) ?_
  refine lv_iconst (v := 4) hx hb dL_rows_379 (by decide) ?_
  refine lv_irem hx hb dL_rows_380 (by decide) ?_
  refine lv_topi (fun z9 hz9 => ?_)
  obtain rfl : z9 = 1 := hz9.trans (by decide)
  refine lv_iadd hx hb dL_rows_381 ?_
  refine lv_topi (fun z9 hz9 => ?_)
  obtain rfl : z9 = 4 := hz9.trans (by decide)
  refine lv_iconst (v := 1) hx hb dL_rows_382 (by decide) ?_
  refine lv_iload_n hx hb dL_rows_383 rfl (lv_at hl 0 rfl) ?_
  refine lv_iconst (v := 4) hx hb dL_rows_384 (by decide) ?_
  refine lv_irem hx hb dL_rows_385 (by decide) ?_
  refine lv_topi (fun z9 hz9 => ?_)
  obtain rfl : z9 = 1 := hz9.trans (by decide)
  refine lv_iconst (v := 1) hx hb dL_rows_386 (by decide) ?_
  refine lv_icmp_le (tgt := 394) hx hb dL_rows_387 (by decide) (fun _ => ?_) (fun h9 => absurd h9 (by decide))
  refine lv_iconst (v := 0) hx hb dL_rows_394 (by decide) ?_
  refine lv_iload_n hx hb dL_rows_395 rfl (lv_at hl 0 rfl) ?_
  refine lv_iconst (v := 0) hx hb dL_rows_396 (by decide) ?_
  refine px_ic hw (vx_runSX (As := [.ref q9o, .int 4, .int 1, .int 0, .int 37, .int 0]) (rest := []) CF (za_add l hst g _ _ hS 1 0 37 20 (by decide +kernel) (by decide +kernel) (by decide +kernel) (by decide +kernel) (by decide +kernel) (by unfold okC; decide +kernel) (by decide +kernel) (v := 37) (by decide +kernel) (S2 := rS62) rfl _) (vx_cwSW 6 hts gL_rows_L_act rfl rfl rfl (by decide +kernel) ⟨Nat.le_of_ble_eq_true rfl, Nat.le_of_ble_eq_true rfl⟩) (pn_preS hw hs hN) rfl rfl hl.1 rfl (lv_room (Nat.le_of_ble_eq_true rfl)) dL_rows_397 ⟨Nat.le_of_ble_eq_true rfl, Nat.le_of_ble_eq_true rfl⟩) (fun E9 ce9 q9 L9 f9 H9 locs9 he9 _ _ _ _ => False.elim he9) (fun r9 Lb fb Hb locb hp hw9 => ?_)
  clear hw hS
  try clear loca Ha fa La
  have hw := hw9
  clear hw9
  obtain rfl : r9 = 37 := hp.1
  have hS : Wc g q9o rS62 62 Lb fb := hp.2
  clear hp
  refine lv_iload_n hx hb dL_rows_400 rfl (lv_at hl 0 rfl) ?_
  refine lv_bipush (v := 60) hx hb dL_rows_401 (by decide) ?_
  refine lv_icmp_ge (tgt := 410) hx hb dL_rows_403 (by decide) (fun h9 => absurd h9 (by decide)) (fun _ => ?_)
  refine lv_iload_n hx hb dL_rows_406 rfl (lv_at hl 0 rfl) ?_
  refine lv_goto (tgt := 412) hx hb dL_rows_407 (by decide) ?_
  refine lv_icmp_eq (tgt := 417) hx hb dL_rows_412 (by decide) (fun _ => ?_) (fun h9 => absurd h9 (by decide))
  refine lv_iinc (v := 38) (lv' := [(1, .int 38), (0, .ref q9o)]) hx hb dL_rows_417 hl (k := 0) rfl (by decide) (by decide) rfl (fun ls hl => ?_)
  refine lv_goto (tgt := 370) hx hb dL_rows_420 (by decide) ?_
  refine lv_iload_n hx hb dL_rows_370 rfl (lv_at hl 0 rfl) ?_
  refine lv_bipush (v := 61) hx hb dL_rows_371 (by decide) ?_
  refine lv_icmp_ge (tgt := 423) hx hb dL_rows_373 (by decide) (fun h9 => absurd h9 (by decide)) (fun _ => ?_)
  refine lv_aload_n hx hb dL_rows_376 rfl (lv_at hl 1 rfl) ?_
  refine lv_iconst (v := 3) hx hb dL_rows_377 (by decide) ?_
  refine lv_iload_n hx hb dL_rows_378 rfl (lv_at hl 0 rfl) ?_
  refine lv_iconst (v := 4) hx hb dL_rows_379 (by decide) ?_
  refine lv_irem hx hb dL_rows_380 (by decide) ?_
  refine lv_topi (fun z9 hz9 => ?_)
  obtain rfl : z9 = 2 := hz9.trans (by decide)
  refine lv_iadd hx hb dL_rows_381 ?_
  refine lv_topi (fun z9 hz9 => ?_)
  obtain rfl : z9 = 5 := hz9.trans (by decide)
  refine lv_iconst (v := 1) hx hb dL_rows_382 (by decide) ?_
  refine lv_iload_n hx hb dL_rows_383 rfl (lv_at hl 0 rfl) ?_
  refine lv_iconst (v := 4) hx hb dL_rows_384 (by decide) ?_
  refine lv_irem hx hb dL_rows_385 (by decide) ?_
  refine lv_topi (fun z9 hz9 => ?_)
  obtain rfl : z9 = 2 := hz9.trans (by decide)
  refine lv_iconst (v := 1) hx hb dL_rows_386 (by decide) ?_
  refine lv_icmp_le (tgt := 394) hx hb dL_rows_387 (by decide) (fun h9 => absurd h9 (by decide)) (fun _ => ?_)
  refine lv_iload_n hx hb dL_rows_390 rfl (lv_at hl 0 rfl) ?_
  refine lv_goto (tgt := 395) hx hb dL_rows_391 (by decide) ?_
  refine lv_iload_n hx hb dL_rows_395 rfl (lv_at hl 0 rfl) ?_
  refine lv_iconst (v := 0) hx hb dL_rows_396 (by decide) ?_
  refine px_ic hw (vx_runSX (As := [.ref q9o, .int 5, .int 1, .int 38, .int 38, .int 0]) (rest := []) CF (za_cancel l hst g _ _ hS 1 38 (by decide +kernel) (by decide +kernel) (by decide +kernel) (by unfold okC; decide +kernel) (by decide +kernel) (v := 38) (by decide +kernel) (S2 := rS63) rfl _) (vx_cwSW 6 hts gL_rows_L_act rfl rfl rfl (by decide +kernel) ⟨Nat.le_of_ble_eq_true rfl, Nat.le_of_ble_eq_true rfl⟩) (pn_preS hw hs hN) rfl rfl hl.1 rfl (lv_room (Nat.le_of_ble_eq_true rfl)) dL_rows_397 ⟨Nat.le_of_ble_eq_true rfl, Nat.le_of_ble_eq_true rfl⟩) (fun E9 ce9 q9 L9 f9 H9 locs9 he9 _ _ _ _ => False.elim he9) (fun r9 La fa Ha loca hp hw9 => ?_)
  clear hw hS
  try clear locb Hb fb Lb
  have hw := hw9
  clear hw9
  obtain rfl : r9 = 38 := hp.1
  have hS : Wc g q9o rS63 63 La fa := hp.2
  clear hp
  refine lv_iload_n hx hb dL_rows_400 rfl (lv_at hl 0 rfl) ?_
  refine lv_bipush (v := 60) hx hb dL_rows_401 (by decide) ?_
  refine lv_icmp_ge (tgt := 410) hx hb dL_rows_403 (by decide) (fun h9 => absurd h9 (by decide)) (fun _ => ?_)
  refine lv_iload_n hx hb dL_rows_406 rfl (lv_at hl 0 rfl) ?_
  refine lv_goto (tgt := 412) hx hb dL_rows_407 (by decide) ?_
  refine lv_icmp_eq (tgt := 417) hx hb dL_rows_412 (by decide) (fun _ => ?_) (fun h9 => absurd h9 (by decide))
  refine lv_iinc (v := 39) (lv' := [(1, .int 39), (0, .ref q9o)]) hx hb dL_rows_417 hl (k := 0) rfl (by decide) (by decide) rfl (fun ls hl => ?_)
  refine lv_goto (tgt := 370) hx hb dL_rows_420 (by decide) ?_
  refine lv_iload_n hx hb dL_rows_370 rfl (lv_at hl 0 rfl) ?_
  refine lv_bipush (v := 61) hx hb dL_rows_371 (by decide) ?_
  refine lv_icmp_ge (tgt := 423) hx hb dL_rows_373 (by decide) (fun h9 => absurd h9 (by decide)) (fun _ => ?_)
  refine lv_aload_n hx hb dL_rows_376 rfl (lv_at hl 1 rfl) ?_
  refine lv_iconst (v := 3) hx hb dL_rows_377 (by decide) ?_
  refine lv_iload_n hx hb dL_rows_378 rfl (lv_at hl 0 rfl) ?_
  refine lv_iconst (v := 4) hx hb dL_rows_379 (by decide) ?_
  refine lv_irem hx hb dL_rows_380 (by decide) ?_
  refine lv_topi (fun z9 hz9 => ?_)
  obtain rfl : z9 = 3 := hz9.trans (by decide)
  refine lv_iadd hx hb dL_rows_381 ?_
  refine lv_topi (fun z9 hz9 => ?_)
  obtain rfl : z9 = 6 := hz9.trans (by decide)
  refine lv_iconst (v := 1) hx hb dL_rows_382 (by decide) ?_
  refine lv_iload_n hx hb dL_rows_383 rfl (lv_at hl 0 rfl) ?_
  refine lv_iconst (v := 4) hx hb dL_rows_384 (by decide) ?_
  refine lv_irem hx hb dL_rows_385 (by decide) ?_
  refine lv_topi (fun z9 hz9 => ?_)
  obtain rfl : z9 = 3 := hz9.trans (by decide)
  refine lv_iconst (v := 1) hx hb dL_rows_386 (by decide) ?_
  refine lv_icmp_le (tgt := 394) hx hb dL_rows_387 (by decide) (fun h9 => absurd h9 (by decide)) (fun _ => ?_)
  refine lv_iload_n hx hb dL_rows_390 rfl (lv_at hl 0 rfl) ?_
  refine lv_goto (tgt := 395) hx hb dL_rows_391 (by decide) ?_
  refine lv_iload_n hx hb dL_rows_395 rfl (lv_at hl 0 rfl) ?_
  refine lv_iconst (v := 0) hx hb dL_rows_396 (by decide) ?_
  refine px_ic hw (vx_runSX (As := [.ref q9o, .int 6, .int 1, .int 39, .int 39, .int 0]) (rest := []) CF (za_reinstate l hst g _ _ hS 1 39 (by decide +kernel) (by decide +kernel) (by decide +kernel) (by unfold okC; decide +kernel) (by decide +kernel) (v := 39) (by decide +kernel) (S2 := rS64) rfl _) (vx_cwSW 6 hts gL_rows_L_act rfl rfl rfl (by decide +kernel) ⟨Nat.le_of_ble_eq_true rfl, Nat.le_of_ble_eq_true rfl⟩) (pn_preS hw hs hN) rfl rfl hl.1 rfl (lv_room (Nat.le_of_ble_eq_true rfl)) dL_rows_397 ⟨Nat.le_of_ble_eq_true rfl, Nat.le_of_ble_eq_true rfl⟩) (fun E9 ce9 q9 L9 f9 H9 locs9 he9 _ _ _ _ => False.elim he9) (fun r9 Lb fb Hb locb hp hw9 => ?_)
  clear hw hS
  try clear loca Ha fa La
  have hw := hw9
  clear hw9
  obtain rfl : r9 = 39 := hp.1
  have hS : Wc g q9o rS64 64 Lb fb := hp.2
  clear hp
  refine lv_iload_n hx hb dL_rows_400 rfl (lv_at hl 0 rfl) ?_
  refine lv_bipush (v := 60) hx hb dL_rows_401 (by decide) ?_
  refine lv_icmp_ge (tgt := 410) hx hb dL_rows_403 (by decide) (fun h9 => absurd h9 (by decide)) (fun _ => ?_)
  refine lv_iload_n hx hb dL_rows_406 rfl (lv_at hl 0 rfl) ?_
  refine lv_goto (tgt := 412) hx hb dL_rows_407 (by decide) ?_
  refine lv_icmp_eq (tgt := 417) hx hb dL_rows_412 (by decide) (fun _ => ?_) (fun h9 => absurd h9 (by decide))
  refine lv_iinc (v := 40) (lv' := [(1, .int 40), (0, .ref q9o)]) hx hb dL_rows_417 hl (k := 0) rfl (by decide) (by decide) rfl (fun ls hl => ?_)
  refine lv_goto (tgt := 370) hx hb dL_rows_420 (by decide) ?_
  refine lv_iload_n hx hb dL_rows_370 rfl (lv_at hl 0 rfl) ?_
  refine lv_bipush (v := 61) hx hb dL_rows_371 (by decide) ?_
  refine lv_icmp_ge (tgt := 423) hx hb dL_rows_373 (by decide) (fun h9 => absurd h9 (by decide)) (fun _ => ?_)
  refine lv_aload_n hx hb dL_rows_376 rfl (lv_at hl 1 rfl) ?_
  refine lv_iconst (v := 3) hx hb dL_rows_377 (by decide) ?_
  refine lv_iload_n hx hb dL_rows_378 rfl (lv_at hl 0 rfl) ?_
  refine lv_iconst (v := 4) hx hb dL_rows_379 (by decide) ?_
  refine lv_irem hx hb dL_rows_380 (by decide) ?_
  refine lv_topi (fun z9 hz9 => ?_)
  obtain rfl : z9 = 0 := hz9.trans (by decide)
  refine lv_iadd hx hb dL_rows_381 ?_
  refine lv_topi (fun z9 hz9 => ?_)
  obtain rfl : z9 = 3 := hz9.trans (by decide)
  refine lv_iconst (v := 1) hx hb dL_rows_382 (by decide) ?_
  refine lv_iload_n hx hb dL_rows_383 rfl (lv_at hl 0 rfl) ?_
  refine lv_iconst (v := 4) hx hb dL_rows_384 (by decide) ?_
  refine lv_irem hx hb dL_rows_385 (by decide) ?_
  refine lv_topi (fun z9 hz9 => ?_)
  obtain rfl : z9 = 0 := hz9.trans (by decide)
  refine lv_iconst (v := 1) hx hb dL_rows_386 (by decide) ?_
  refine lv_icmp_le (tgt := 394) hx hb dL_rows_387 (by decide) (fun _ => ?_) (fun h9 => absurd h9 (by decide))
  refine lv_iconst (v := 0) hx hb dL_rows_394 (by decide) ?_
  refine lv_iload_n hx hb dL_rows_395 rfl (lv_at hl 0 rfl) ?_
  refine lv_iconst (v := 0) hx hb dL_rows_396 (by decide) ?_
  refine px_ic hw (vx_runSX (As := [.ref q9o, .int 3, .int 1, .int 0, .int 40, .int 0]) (rest := []) CF (za_change l hst g _ _ hS 1 0 40 20 (by decide +kernel) (by decide +kernel) (by decide +kernel) (by decide +kernel) (by decide +kernel) (by unfold okC; decide +kernel) (by decide +kernel) (v := 40) (by decide +kernel) (S2 := rS65) rfl _) (vx_cwSW 6 hts gL_rows_L_act rfl rfl rfl (by decide +kernel) ⟨Nat.le_of_ble_eq_true rfl, Nat.le_of_ble_eq_true rfl⟩) (pn_preS hw hs hN) rfl rfl hl.1 rfl (lv_room (Nat.le_of_ble_eq_true rfl)) dL_rows_397 ⟨Nat.le_of_ble_eq_true rfl, Nat.le_of_ble_eq_true rfl⟩) (fun E9 ce9 q9 L9 f9 H9 locs9 he9 _ _ _ _ => False.elim he9) (fun r9 La fa Ha loca hp hw9 => ?_)
  clear hw hS
  try clear locb Hb fb Lb
  have hw := hw9
  clear hw9
  obtain rfl : r9 = 40 := hp.1
  have hS : Wc g q9o rS65 65 La fa := hp.2
  clear hp
  refine lv_iload_n hx hb dL_rows_400 rfl (lv_at hl 0 rfl) ?_
  refine lv_bipush (v := 60) hx hb dL_rows_401 (by decide) ?_
  refine lv_icmp_ge (tgt := 410) hx hb dL_rows_403 (by decide) (fun h9 => absurd h9 (by decide)) (fun _ => ?_)
  refine lv_iload_n hx hb dL_rows_406 rfl (lv_at hl 0 rfl) ?_
  refine lv_goto (tgt := 412) hx hb dL_rows_407 (by decide) ?_
  refine lv_icmp_eq (tgt := 417) hx hb dL_rows_412 (by decide) (fun _ => ?_) (fun h9 => absurd h9 (by decide))
  refine lv_iinc (v := 41) (lv' := [(1, .int 41), (0, .ref q9o)]) hx hb dL_rows_417 hl (k := 0) rfl (by decide) (by decide) rfl (fun ls hl => ?_)
  refine lv_goto (tgt := 370) hx hb dL_rows_420 (by decide) ?_
  refine lv_iload_n hx hb dL_rows_370 rfl (lv_at hl 0 rfl) ?_
  refine lv_bipush (v := 61) hx hb dL_rows_371 (by decide) ?_
  refine lv_icmp_ge (tgt := 423) hx hb dL_rows_373 (by decide) (fun h9 => absurd h9 (by decide)) (fun _ => ?_)
  refine lv_aload_n hx hb dL_rows_376 rfl (lv_at hl 1 rfl) ?_
  refine lv_iconst (v := 3) hx hb dL_rows_377 (by decide) ?_
  refine lv_iload_n hx hb dL_rows_378 rfl (lv_at hl 0 rfl) ?_
  refine lv_iconst (v := 4) hx hb dL_rows_379 (by decide) ?_
  refine lv_irem hx hb dL_rows_380 (by decide) ?_
  refine lv_topi (fun z9 hz9 => ?_)
  obtain rfl : z9 = 1 := hz9.trans (by decide)
  refine lv_iadd hx hb dL_rows_381 ?_
  refine lv_topi (fun z9 hz9 => ?_)
  obtain rfl : z9 = 4 := hz9.trans (by decide)
  refine lv_iconst (v := 1) hx hb dL_rows_382 (by decide) ?_
  refine lv_iload_n hx hb dL_rows_383 rfl (lv_at hl 0 rfl) ?_
  refine lv_iconst (v := 4) hx hb dL_rows_384 (by decide) ?_
  refine lv_irem hx hb dL_rows_385 (by decide) ?_
  refine lv_topi (fun z9 hz9 => ?_)
  obtain rfl : z9 = 1 := hz9.trans (by decide)
  refine lv_iconst (v := 1) hx hb dL_rows_386 (by decide) ?_
  refine lv_icmp_le (tgt := 394) hx hb dL_rows_387 (by decide) (fun _ => ?_) (fun h9 => absurd h9 (by decide))
  refine lv_iconst (v := 0) hx hb dL_rows_394 (by decide) ?_
  refine lv_iload_n hx hb dL_rows_395 rfl (lv_at hl 0 rfl) ?_
  refine lv_iconst (v := 0) hx hb dL_rows_396 (by decide) ?_
  refine px_ic hw (vx_runSX (As := [.ref q9o, .int 4, .int 1, .int 0, .int 41, .int 0]) (rest := []) CF (za_add l hst g _ _ hS 1 0 41 20 (by decide +kernel) (by decide +kernel) (by decide +kernel) (by decide +kernel) (by decide +kernel) (by unfold okC; decide +kernel) (by decide +kernel) (v := 41) (by decide +kernel) (S2 := rS66) rfl _) (vx_cwSW 6 hts gL_rows_L_act rfl rfl rfl (by decide +kernel) ⟨Nat.le_of_ble_eq_true rfl, Nat.le_of_ble_eq_true rfl⟩) (pn_preS hw hs hN) rfl rfl hl.1 rfl (lv_room (Nat.le_of_ble_eq_true rfl)) dL_rows_397 ⟨Nat.le_of_ble_eq_true rfl, Nat.le_of_ble_eq_true rfl⟩) (fun E9 ce9 q9 L9 f9 H9 locs9 he9 _ _ _ _ => False.elim he9) (fun r9 Lb fb Hb locb hp hw9 => ?_)
  clear hw hS
  try clear loca Ha fa La
  have hw := hw9
  clear hw9
  obtain rfl : r9 = 41 := hp.1
  have hS : Wc g q9o rS66 66 Lb fb := hp.2
  clear hp
  refine lv_iload_n hx hb dL_rows_400 rfl (lv_at hl 0 rfl) ?_
  refine lv_bipush (v := 60) hx hb dL_rows_401 (by decide) ?_
  refine lv_icmp_ge (tgt := 410) hx hb dL_rows_403 (by decide) (fun h9 => absurd h9 (by decide)) (fun _ => ?_)
  refine lv_iload_n hx hb dL_rows_406 rfl (lv_at hl 0 rfl) ?_
  refine lv_goto (tgt := 412) hx hb dL_rows_407 (by decide) ?_
  refine lv_icmp_eq (tgt := 417) hx hb dL_rows_412 (by decide) (fun _ => ?_) (fun h9 => absurd h9 (by decide))
  refine lv_iinc (v := 42) (lv' := [(1, .int 42), (0, .ref q9o)]) hx hb dL_rows_417 hl (k := 0) rfl (by decide) (by decide) rfl (fun ls hl => ?_)
  refine lv_goto (tgt := 370) hx hb dL_rows_420 (by decide) ?_
  refine lv_iload_n hx hb dL_rows_370 rfl (lv_at hl 0 rfl) ?_
  refine lv_bipush (v := 61) hx hb dL_rows_371 (by decide) ?_
  refine lv_icmp_ge (tgt := 423) hx hb dL_rows_373 (by decide) (fun h9 => absurd h9 (by decide)) (fun _ => ?_)
  refine lv_aload_n hx hb dL_rows_376 rfl (lv_at hl 1 rfl) ?_
  refine lv_iconst (v := 3) hx hb dL_rows_377 (by decide) ?_
  refine lv_iload_n hx hb dL_rows_378 rfl (lv_at hl 0 rfl) ?_
  refine lv_iconst (v := 4) hx hb dL_rows_379 (by decide) ?_
  refine lv_irem hx hb dL_rows_380 (by decide) ?_
  refine lv_topi (fun z9 hz9 => ?_)
  obtain rfl : z9 = 2 := hz9.trans (by decide)
  refine lv_iadd hx hb dL_rows_381 ?_
  refine lv_topi (fun z9 hz9 => ?_)
  obtain rfl : z9 = 5 := hz9.trans (by decide)
  refine lv_iconst (v := 1) hx hb dL_rows_382 (by decide) ?_
  refine lv_iload_n hx hb dL_rows_383 rfl (lv_at hl 0 rfl) ?_
  refine lv_iconst (v := 4) hx hb dL_rows_384 (by decide) ?_
  refine lv_irem hx hb dL_rows_385 (by decide) ?_
  refine lv_topi (fun z9 hz9 => ?_)
  obtain rfl : z9 = 2 := hz9.trans (by decide)
  refine lv_iconst (v := 1) hx hb dL_rows_386 (by decide) ?_
  refine lv_icmp_le (tgt := 394) hx hb dL_rows_387 (by decide) (fun h9 => absurd h9 (by decide)) (fun _ => ?_)
  refine lv_iload_n hx hb dL_rows_390 rfl (lv_at hl 0 rfl) ?_
  refine lv_goto (tgt := 395) hx hb dL_rows_391 (by decide) ?_
  refine lv_iload_n hx hb dL_rows_395 rfl (lv_at hl 0 rfl) ?_
  refine lv_iconst (v := 0) hx hb dL_rows_396 (by decide) ?_
  refine px_ic hw (vx_runSX (As := [.ref q9o, .int 5, .int 1, .int 42, .int 42, .int 0]) (rest := []) CF (za_cancel l hst g _ _ hS 1 42 (by decide +kernel) (by decide +kernel) (by decide +kernel) (by unfold okC; decide +kernel) (by decide +kernel) (v := 42) (by decide +kernel) (S2 := rS67) rfl _) (vx_cwSW 6 hts gL_rows_L_act rfl rfl rfl (by decide +kernel) ⟨Nat.le_of_ble_eq_true rfl, Nat.le_of_ble_eq_true rfl⟩) (pn_preS hw hs hN) rfl rfl hl.1 rfl (lv_room (Nat.le_of_ble_eq_true rfl)) dL_rows_397 ⟨Nat.le_of_ble_eq_true rfl, Nat.le_of_ble_eq_true rfl⟩) (fun E9 ce9 q9 L9 f9 H9 locs9 he9 _ _ _ _ => False.elim he9) (fun r9 La fa Ha loca hp hw9 => ?_)
  clear hw hS
  try clear locb Hb fb Lb
  have hw := hw9
  clear hw9
  obtain rfl : r9 = 42 := hp.1
  have hS : Wc g q9o rS67 67 La fa := hp.2
  clear hp
  refine lv_iload_n hx hb dL_rows_400 rfl (lv_at hl 0 rfl) ?_
  refine lv_bipush (v := 60) hx hb dL_rows_401 (by decide) ?_
  refine lv_icmp_ge (tgt := 410) hx hb dL_rows_403 (by decide) (fun h9 => absurd h9 (by decide)) (fun _ => ?_)
  refine lv_iload_n hx hb dL_rows_406 rfl (lv_at hl 0 rfl) ?_
  refine lv_goto (tgt := 412) hx hb dL_rows_407 (by decide) ?_
  refine lv_icmp_eq (tgt := 417) hx hb dL_rows_412 (by decide) (fun _ => ?_) (fun h9 => absurd h9 (by decide))
  refine lv_iinc (v := 43) (lv' := [(1, .int 43), (0, .ref q9o)]) hx hb dL_rows_417 hl (k := 0) rfl (by decide) (by decide) rfl (fun ls hl => ?_)
  refine lv_goto (tgt := 370) hx hb dL_rows_420 (by decide) ?_
  refine lv_iload_n hx hb dL_rows_370 rfl (lv_at hl 0 rfl) ?_
  refine lv_bipush (v := 61) hx hb dL_rows_371 (by decide) ?_
  refine lv_icmp_ge (tgt := 423) hx hb dL_rows_373 (by decide) (fun h9 => absurd h9 (by decide)) (fun _ => ?_)
  refine lv_aload_n hx hb dL_rows_376 rfl (lv_at hl 1 rfl) ?_
  refine lv_iconst (v := 3) hx hb dL_rows_377 (by decide) ?_
  refine lv_iload_n hx hb dL_rows_378 rfl (lv_at hl 0 rfl) ?_
  refine lv_iconst (v := 4) hx hb dL_rows_379 (by decide) ?_
  refine lv_irem hx hb dL_rows_380 (by decide) ?_
  refine lv_topi (fun z9 hz9 => ?_)
  obtain rfl : z9 = 3 := hz9.trans (by decide)
  refine lv_iadd hx hb dL_rows_381 ?_
  refine lv_topi (fun z9 hz9 => ?_)
  obtain rfl : z9 = 6 := hz9.trans (by decide)
  refine lv_iconst (v := 1) hx hb dL_rows_382 (by decide) ?_
  refine lv_iload_n hx hb dL_rows_383 rfl (lv_at hl 0 rfl) ?_
  refine lv_iconst (v := 4) hx hb dL_rows_384 (by decide) ?_
  refine lv_irem hx hb dL_rows_385 (by decide) ?_
  refine lv_topi (fun z9 hz9 => ?_)
  obtain rfl : z9 = 3 := hz9.trans (by decide)
  refine lv_iconst (v := 1) hx hb dL_rows_386 (by decide) ?_
  refine lv_icmp_le (tgt := 394) hx hb dL_rows_387 (by decide) (fun h9 => absurd h9 (by decide)) (fun _ => ?_)
  refine lv_iload_n hx hb dL_rows_390 rfl (lv_at hl 0 rfl) ?_
  refine lv_goto (tgt := 395) hx hb dL_rows_391 (by decide) ?_
  refine lv_iload_n hx hb dL_rows_395 rfl (lv_at hl 0 rfl) ?_
  refine lv_iconst (v := 0) hx hb dL_rows_396 (by decide) ?_
  refine px_ic hw (vx_runSX (As := [.ref q9o, .int 6, .int 1, .int 43, .int 43, .int 0]) (rest := []) CF (za_reinstate l hst g _ _ hS 1 43 (by decide +kernel) (by decide +kernel) (by decide +kernel) (by unfold okC; decide +kernel) (by decide +kernel) (v := 43) (by decide +kernel) (S2 := rS68) rfl _) (vx_cwSW 6 hts gL_rows_L_act rfl rfl rfl (by decide +kernel) ⟨Nat.le_of_ble_eq_true rfl, Nat.le_of_ble_eq_true rfl⟩) (pn_preS hw hs hN) rfl rfl hl.1 rfl (lv_room (Nat.le_of_ble_eq_true rfl)) dL_rows_397 ⟨Nat.le_of_ble_eq_true rfl, Nat.le_of_ble_eq_true rfl⟩) (fun E9 ce9 q9 L9 f9 H9 locs9 he9 _ _ _ _ => False.elim he9) (fun r9 Lb fb Hb locb hp hw9 => ?_)
  clear hw hS
  try clear loca Ha fa La
  have hw := hw9
  clear hw9
  obtain rfl : r9 = 43 := hp.1
  have hS : Wc g q9o rS68 68 Lb fb := hp.2
  clear hp
  refine lv_iload_n hx hb dL_rows_400 rfl (lv_at hl 0 rfl) ?_
  refine lv_bipush (v := 60) hx hb dL_rows_401 (by decide) ?_
  refine lv_icmp_ge (tgt := 410) hx hb dL_rows_403 (by decide) (fun h9 => absurd h9 (by decide)) (fun _ => ?_)
  refine lv_iload_n hx hb dL_rows_406 rfl (lv_at hl 0 rfl) ?_
  refine lv_goto (tgt := 412) hx hb dL_rows_407 (by decide) ?_
  refine lv_icmp_eq (tgt := 417) hx hb dL_rows_412 (by decide) (fun _ => ?_) (fun h9 => absurd h9 (by decide))
  refine lv_iinc (v := 44) (lv' := [(1, .int 44), (0, .ref q9o)]) hx hb dL_rows_417 hl (k := 0) rfl (by decide) (by decide) rfl (fun ls hl => ?_)
  refine lv_goto (tgt := 370) hx hb dL_rows_420 (by decide) ?_
  refine lv_iload_n hx hb dL_rows_370 rfl (lv_at hl 0 rfl) ?_
  refine lv_bipush (v := 61) hx hb dL_rows_371 (by decide) ?_
  refine lv_icmp_ge (tgt := 423) hx hb dL_rows_373 (by decide) (fun h9 => absurd h9 (by decide)) (fun _ => ?_)
  refine lv_aload_n hx hb dL_rows_376 rfl (lv_at hl 1 rfl) ?_
  refine lv_iconst (v := 3) hx hb dL_rows_377 (by decide) ?_
  refine lv_iload_n hx hb dL_rows_378 rfl (lv_at hl 0 rfl) ?_
  refine lv_iconst (v := 4) hx hb dL_rows_379 (by decide) ?_
  refine lv_irem hx hb dL_rows_380 (by decide) ?_
  refine lv_topi (fun z9 hz9 => ?_)
  obtain rfl : z9 = 0 := hz9.trans (by decide)
  refine lv_iadd hx hb dL_rows_381 ?_
  refine lv_topi (fun z9 hz9 => ?_)
  obtain rfl : z9 = 3 := hz9.trans (by decide)
  refine lv_iconst (v := 1) hx hb dL_rows_382 (by decide) ?_
  refine lv_iload_n hx hb dL_rows_383 rfl (lv_at hl 0 rfl) ?_
  refine lv_iconst (v := 4) hx hb dL_rows_384 (by decide) ?_
  refine lv_irem hx hb dL_rows_385 (by decide) ?_
  refine lv_topi (fun z9 hz9 => ?_)
  obtain rfl : z9 = 0 := hz9.trans (by decide)
  refine lv_iconst (v := 1) hx hb dL_rows_386 (by decide) ?_
  refine lv_icmp_le (tgt := 394) hx hb dL_rows_387 (by decide) (fun _ => ?_) (fun h9 => absurd h9 (by decide))
  refine lv_iconst (v := 0) hx hb dL_rows_394 (by decide) ?_
  refine lv_iload_n hx hb dL_rows_395 rfl (lv_at hl 0 rfl) ?_
  refine lv_iconst (v := 0) hx hb dL_rows_396 (by decide) ?_
  refine px_ic hw (vx_runSX (As := [.ref q9o, .int 3, .int 1, .int 0, .int 44, .int 0]) (rest := []) CF (za_change l hst g _ _ hS 1 0 44 20 (by decide +kernel) (by decide +kernel) (by decide +kernel) (by decide +kernel) (by decide +kernel) (by unfold okC; decide +kernel) (by decide +kernel) (v := 44) (by decide +kernel) (S2 := rS69) rfl _) (vx_cwSW 6 hts gL_rows_L_act rfl rfl rfl (by decide +kernel) ⟨Nat.le_of_ble_eq_true rfl, Nat.le_of_ble_eq_true rfl⟩) (pn_preS hw hs hN) rfl rfl hl.1 rfl (lv_room (Nat.le_of_ble_eq_true rfl)) dL_rows_397 ⟨Nat.le_of_ble_eq_true rfl, Nat.le_of_ble_eq_true rfl⟩) (fun E9 ce9 q9 L9 f9 H9 locs9 he9 _ _ _ _ => False.elim he9) (fun r9 La fa Ha loca hp hw9 => ?_)
  clear hw hS
  try clear locb Hb fb Lb
  have hw := hw9
  clear hw9
  obtain rfl : r9 = 44 := hp.1
  have hS : Wc g q9o rS69 69 La fa := hp.2
  clear hp
  refine lv_iload_n hx hb dL_rows_400 rfl (lv_at hl 0 rfl) ?_
  refine lv_bipush (v := 60) hx hb dL_rows_401 (by decide) ?_
  refine lv_icmp_ge (tgt := 410) hx hb dL_rows_403 (by decide) (fun h9 => absurd h9 (by decide)) (fun _ => ?_)
  refine lv_iload_n hx hb dL_rows_406 rfl (lv_at hl 0 rfl) ?_
  refine lv_goto (tgt := 412) hx hb dL_rows_407 (by decide) ?_
  refine lv_icmp_eq (tgt := 417) hx hb dL_rows_412 (by decide) (fun _ => ?_) (fun h9 => absurd h9 (by decide))
  refine lv_iinc (v := 45) (lv' := [(1, .int 45), (0, .ref q9o)]) hx hb dL_rows_417 hl (k := 0) rfl (by decide) (by decide) rfl (fun ls hl => ?_)
  refine lv_goto (tgt := 370) hx hb dL_rows_420 (by decide) ?_
  refine lv_iload_n hx hb dL_rows_370 rfl (lv_at hl 0 rfl) ?_
  refine lv_bipush (v := 61) hx hb dL_rows_371 (by decide) ?_
  refine lv_icmp_ge (tgt := 423) hx hb dL_rows_373 (by decide) (fun h9 => absurd h9 (by decide)) (fun _ => ?_)
  refine lv_aload_n hx hb dL_rows_376 rfl (lv_at hl 1 rfl) ?_
  refine lv_iconst (v := 3) hx hb dL_rows_377 (by decide) ?_
  refine lv_iload_n hx hb dL_rows_378 rfl (lv_at hl 0 rfl) ?_
  refine lv_iconst (v := 4) hx hb dL_rows_379 (by decide) ?_
  refine lv_irem hx hb dL_rows_380 (by decide) ?_
  refine lv_topi (fun z9 hz9 => ?_)
  obtain rfl : z9 = 1 := hz9.trans (by decide)
  refine lv_iadd hx hb dL_rows_381 ?_
  refine lv_topi (fun z9 hz9 => ?_)
  obtain rfl : z9 = 4 := hz9.trans (by decide)
  refine lv_iconst (v := 1) hx hb dL_rows_382 (by decide) ?_
  refine lv_iload_n hx hb dL_rows_383 rfl (lv_at hl 0 rfl) ?_
  refine lv_iconst (v := 4) hx hb dL_rows_384 (by decide) ?_
  refine lv_irem hx hb dL_rows_385 (by decide) ?_
  refine lv_topi (fun z9 hz9 => ?_)
  obtain rfl : z9 = 1 := hz9.trans (by decide)
  refine lv_iconst (v := 1) hx hb dL_rows_386 (by decide) ?_
  refine lv_icmp_le (tgt := 394) hx hb dL_rows_387 (by decide) (fun _ => ?_) (fun h9 => absurd h9 (by decide))
  refine lv_iconst (v := 0) hx hb dL_rows_394 (by decide) ?_
  refine lv_iload_n hx hb dL_rows_395 rfl (lv_at hl 0 rfl) ?_
  refine lv_iconst (v := 0) hx hb dL_rows_396 (by decide) ?_
  refine px_ic hw (vx_runSX (As := [.ref q9o, .int 4, .int 1, .int 0, .int 45, .int 0]) (rest := []) CF (za_add l hst g _ _ hS 1 0 45 20 (by decide +kernel) (by decide +kernel) (by decide +kernel) (by decide +kernel) (by decide +kernel) (by unfold okC; decide +kernel) (by decide +kernel) (v := 45) (by decide +kernel) (S2 := rS70) rfl _) (vx_cwSW 6 hts gL_rows_L_act rfl rfl rfl (by decide +kernel) ⟨Nat.le_of_ble_eq_true rfl, Nat.le_of_ble_eq_true rfl⟩) (pn_preS hw hs hN) rfl rfl hl.1 rfl (lv_room (Nat.le_of_ble_eq_true rfl)) dL_rows_397 ⟨Nat.le_of_ble_eq_true rfl, Nat.le_of_ble_eq_true rfl⟩) (fun E9 ce9 q9 L9 f9 H9 locs9 he9 _ _ _ _ => False.elim he9) (fun r9 Lb fb Hb locb hp hw9 => ?_)
  clear hw hS
  try clear loca Ha fa La
  have hw := hw9
  clear hw9
  obtain rfl : r9 = 45 := hp.1
  have hS : Wc g q9o rS70 70 Lb fb := hp.2
  clear hp
  refine lv_iload_n hx hb dL_rows_400 rfl (lv_at hl 0 rfl) ?_
  refine lv_bipush (v := 60) hx hb dL_rows_401 (by decide) ?_
  refine lv_icmp_ge (tgt := 410) hx hb dL_rows_403 (by decide) (fun h9 => absurd h9 (by decide)) (fun _ => ?_)
  refine lv_iload_n hx hb dL_rows_406 rfl (lv_at hl 0 rfl) ?_
  refine lv_goto (tgt := 412) hx hb dL_rows_407 (by decide) ?_
  refine lv_icmp_eq (tgt := 417) hx hb dL_rows_412 (by decide) (fun _ => ?_) (fun h9 => absurd h9 (by decide))
  refine lv_iinc (v := 46) (lv' := [(1, .int 46), (0, .ref q9o)]) hx hb dL_rows_417 hl (k := 0) rfl (by decide) (by decide) rfl (fun ls hl => ?_)
  refine lv_goto (tgt := 370) hx hb dL_rows_420 (by decide) ?_
  refine lv_iload_n hx hb dL_rows_370 rfl (lv_at hl 0 rfl) ?_
  refine lv_bipush (v := 61) hx hb dL_rows_371 (by decide) ?_
  refine lv_icmp_ge (tgt := 423) hx hb dL_rows_373 (by decide) (fun h9 => absurd h9 (by decide)) (fun _ => ?_)
  refine lv_aload_n hx hb dL_rows_376 rfl (lv_at hl 1 rfl) ?_
  refine lv_iconst (v := 3) hx hb dL_rows_377 (by decide) ?_
  refine lv_iload_n hx hb dL_rows_378 rfl (lv_at hl 0 rfl) ?_
  refine lv_iconst (v := 4) hx hb dL_rows_379 (by decide) ?_
  refine lv_irem hx hb dL_rows_380 (by decide) ?_
  refine lv_topi (fun z9 hz9 => ?_)
  obtain rfl : z9 = 2 := hz9.trans (by decide)
  refine lv_iadd hx hb dL_rows_381 ?_
  refine lv_topi (fun z9 hz9 => ?_)
  obtain rfl : z9 = 5 := hz9.trans (by decide)
  refine lv_iconst (v := 1) hx hb dL_rows_382 (by decide) ?_
  refine lv_iload_n hx hb dL_rows_383 rfl (lv_at hl 0 rfl) ?_
  refine lv_iconst (v := 4) hx hb dL_rows_384 (by decide) ?_
  refine lv_irem hx hb dL_rows_385 (by decide) ?_
  refine lv_topi (fun z9 hz9 => ?_)
  obtain rfl : z9 = 2 := hz9.trans (by decide)
  refine lv_iconst (v := 1) hx hb dL_rows_386 (by decide) ?_
  refine lv_icmp_le (tgt := 394) hx hb dL_rows_387 (by decide) (fun h9 => absurd h9 (by decide)) (fun _ => ?_)
  refine lv_iload_n hx hb dL_rows_390 rfl (lv_at hl 0 rfl) ?_
  refine lv_goto (tgt := 395) hx hb dL_rows_391 (by decide) ?_
  refine lv_iload_n hx hb dL_rows_395 rfl (lv_at hl 0 rfl) ?_
  refine lv_iconst (v := 0) hx hb dL_rows_396 (by decide) ?_
  refine px_ic hw (vx_runSX (As := [.ref q9o, .int 5, .int 1, .int 46, .int 46, .int 0]) (rest := []) CF (za_cancel l hst g _ _ hS 1 46 (by decide +kernel) (by decide +kernel) (by decide +kernel) (by unfold okC; decide +kernel) (by decide +kernel) (v := 46) (by decide +kernel) (S2 := rS71) rfl _) (vx_cwSW 6 hts gL_rows_L_act rfl rfl rfl (by decide +kernel) ⟨Nat.le_of_ble_eq_true rfl, Nat.le_of_ble_eq_true rfl⟩) (pn_preS hw hs hN) rfl rfl hl.1 rfl (lv_room (Nat.le_of_ble_eq_true rfl)) dL_rows_397 ⟨Nat.le_of_ble_eq_true rfl, Nat.le_of_ble_eq_true rfl⟩) (fun E9 ce9 q9 L9 f9 H9 locs9 he9 _ _ _ _ => False.elim he9) (fun r9 La fa Ha loca hp hw9 => ?_)
  clear hw hS
  try clear locb Hb fb Lb
  have hw := hw9
  clear hw9
  obtain rfl : r9 = 46 := hp.1
  have hS : Wc g q9o rS71 71 La fa := hp.2
  clear hp
  refine lv_iload_n hx hb dL_rows_400 rfl (lv_at hl 0 rfl) ?_
  refine lv_bipush (v := 60) hx hb dL_rows_401 (by decide) ?_
  refine lv_icmp_ge (tgt := 410) hx hb dL_rows_403 (by decide) (fun h9 => absurd h9 (by decide)) (fun _ => ?_)
  refine lv_iload_n hx hb dL_rows_406 rfl (lv_at hl 0 rfl) ?_
  refine lv_goto (tgt := 412) hx hb dL_rows_407 (by decide) ?_
  refine lv_icmp_eq (tgt := 417) hx hb dL_rows_412 (by decide) (fun _ => ?_) (fun h9 => absurd h9 (by decide))
  refine lv_iinc (v := 47) (lv' := [(1, .int 47), (0, .ref q9o)]) hx hb dL_rows_417 hl (k := 0) rfl (by decide) (by decide) rfl (fun ls hl => ?_)
  refine lv_goto (tgt := 370) hx hb dL_rows_420 (by decide) ?_
  refine lv_iload_n hx hb dL_rows_370 rfl (lv_at hl 0 rfl) ?_
  refine lv_bipush (v := 61) hx hb dL_rows_371 (by decide) ?_
  refine lv_icmp_ge (tgt := 423) hx hb dL_rows_373 (by decide) (fun h9 => absurd h9 (by decide)) (fun _ => ?_)
  refine lv_aload_n hx hb dL_rows_376 rfl (lv_at hl 1 rfl) ?_
  refine lv_iconst (v := 3) hx hb dL_rows_377 (by decide) ?_
  refine lv_iload_n hx hb dL_rows_378 rfl (lv_at hl 0 rfl) ?_
  refine lv_iconst (v := 4) hx hb dL_rows_379 (by decide) ?_
  refine lv_irem hx hb dL_rows_380 (by decide) ?_
  refine lv_topi (fun z9 hz9 => ?_)
  obtain rfl : z9 = 3 := hz9.trans (by decide)
  refine lv_iadd hx hb dL_rows_381 ?_
  refine lv_topi (fun z9 hz9 => ?_)
  obtain rfl : z9 = 6 := hz9.trans (by decide)
  refine lv_iconst (v := 1) hx hb dL_rows_382 (by decide) ?_
  refine lv_iload_n hx hb dL_rows_383 rfl (lv_at hl 0 rfl) ?_
  refine lv_iconst (v := 4) hx hb dL_rows_384 (by decide) ?_
  refine lv_irem hx hb dL_rows_385 (by decide) ?_
  refine lv_topi (fun z9 hz9 => ?_)
  obtain rfl : z9 = 3 := hz9.trans (by decide)
  refine lv_iconst (v := 1) hx hb dL_rows_386 (by decide) ?_
  refine lv_icmp_le (tgt := 394) hx hb dL_rows_387 (by decide) (fun h9 => absurd h9 (by decide)) (fun _ => ?_)
  refine lv_iload_n hx hb dL_rows_390 rfl (lv_at hl 0 rfl) ?_
  refine lv_goto (tgt := 395) hx hb dL_rows_391 (by decide) ?_
  refine lv_iload_n hx hb dL_rows_395 rfl (lv_at hl 0 rfl) ?_
  refine lv_iconst (v := 0) hx hb dL_rows_396 (by decide) ?_
  refine px_ic hw (vx_runSX (As := [.ref q9o, .int 6, .int 1, .int 47, .int 47, .int 0]) (rest := []) CF (za_reinstate l hst g _ _ hS 1 47 (by decide +kernel) (by decide +kernel) (by decide +kernel) (by unfold okC; decide +kernel) (by decide +kernel) (v := 47) (by decide +kernel) (S2 := rS72) rfl _) (vx_cwSW 6 hts gL_rows_L_act rfl rfl rfl (by decide +kernel) ⟨Nat.le_of_ble_eq_true rfl, Nat.le_of_ble_eq_true rfl⟩) (pn_preS hw hs hN) rfl rfl hl.1 rfl (lv_room (Nat.le_of_ble_eq_true rfl)) dL_rows_397 ⟨Nat.le_of_ble_eq_true rfl, Nat.le_of_ble_eq_true rfl⟩) (fun E9 ce9 q9 L9 f9 H9 locs9 he9 _ _ _ _ => False.elim he9) (fun r9 Lb fb Hb locb hp hw9 => ?_)
  clear hw hS
  try clear loca Ha fa La
  have hw := hw9
  clear hw9
  obtain rfl : r9 = 47 := hp.1
  have hS : Wc g q9o rS72 72 Lb fb := hp.2
  clear hp
  refine lv_iload_n hx hb dL_rows_400 rfl (lv_at hl 0 rfl) ?_
  refine lv_bipush (v := 60) hx hb dL_rows_401 (by decide) ?_
  refine lv_icmp_ge (tgt := 410) hx hb dL_rows_403 (by decide) (fun h9 => absurd h9 (by decide)) (fun _ => ?_)
  refine lv_iload_n hx hb dL_rows_406 rfl (lv_at hl 0 rfl) ?_
  refine lv_goto (tgt := 412) hx hb dL_rows_407 (by decide) ?_
  refine lv_icmp_eq (tgt := 417) hx hb dL_rows_412 (by decide) (fun _ => ?_) (fun h9 => absurd h9 (by decide))
  refine lv_iinc (v := 48) (lv' := [(1, .int 48), (0, .ref q9o)]) hx hb dL_rows_417 hl (k := 0) rfl (by decide) (by decide) rfl (fun ls hl => ?_)
  refine lv_goto (tgt := 370) hx hb dL_rows_420 (by decide) ?_
  refine lv_iload_n hx hb dL_rows_370 rfl (lv_at hl 0 rfl) ?_
  refine lv_bipush (v := 61) hx hb dL_rows_371 (by decide) ?_
  refine lv_icmp_ge (tgt := 423) hx hb dL_rows_373 (by decide) (fun h9 => absurd h9 (by decide)) (fun _ => ?_)
  refine lv_aload_n hx hb dL_rows_376 rfl (lv_at hl 1 rfl) ?_
  refine lv_iconst (v := 3) hx hb dL_rows_377 (by decide) ?_
  refine lv_iload_n hx hb dL_rows_378 rfl (lv_at hl 0 rfl) ?_
  refine lv_iconst (v := 4) hx hb dL_rows_379 (by decide) ?_
  refine lv_irem hx hb dL_rows_380 (by decide) ?_
  refine lv_topi (fun z9 hz9 => ?_)
  obtain rfl : z9 = 0 := hz9.trans (by decide)
  refine lv_iadd hx hb dL_rows_381 ?_
  refine lv_topi (fun z9 hz9 => ?_)
  obtain rfl : z9 = 3 := hz9.trans (by decide)
  refine lv_iconst (v := 1) hx hb dL_rows_382 (by decide) ?_
  refine lv_iload_n hx hb dL_rows_383 rfl (lv_at hl 0 rfl) ?_
  refine lv_iconst (v := 4) hx hb dL_rows_384 (by decide) ?_
  refine lv_irem hx hb dL_rows_385 (by decide) ?_
  refine lv_topi (fun z9 hz9 => ?_)
  obtain rfl : z9 = 0 := hz9.trans (by decide)
  refine lv_iconst (v := 1) hx hb dL_rows_386 (by decide) ?_
  refine lv_icmp_le (tgt := 394) hx hb dL_rows_387 (by decide) (fun _ => ?_) (fun h9 => absurd h9 (by decide))
  refine lv_iconst (v := 0) hx hb dL_rows_394 (by decide) ?_
  refine lv_iload_n hx hb dL_rows_395 rfl (lv_at hl 0 rfl) ?_
  refine lv_iconst (v := 0) hx hb dL_rows_396 (by decide) ?_
  refine px_ic hw (vx_runSX (As := [.ref q9o, .int 3, .int 1, .int 0, .int 48, .int 0]) (rest := []) CF (za_change l hst g _ _ hS 1 0 48 20 (by decide +kernel) (by decide +kernel) (by decide +kernel) (by decide +kernel) (by decide +kernel) (by unfold okC; decide +kernel) (by decide +kernel) (v := 48) (by decide +kernel) (S2 := rS73) rfl _) (vx_cwSW 6 hts gL_rows_L_act rfl rfl rfl (by decide +kernel) ⟨Nat.le_of_ble_eq_true rfl, Nat.le_of_ble_eq_true rfl⟩) (pn_preS hw hs hN) rfl rfl hl.1 rfl (lv_room (Nat.le_of_ble_eq_true rfl)) dL_rows_397 ⟨Nat.le_of_ble_eq_true rfl, Nat.le_of_ble_eq_true rfl⟩) (fun E9 ce9 q9 L9 f9 H9 locs9 he9 _ _ _ _ => False.elim he9) (fun r9 La fa Ha loca hp hw9 => ?_)
  clear hw hS
  try clear locb Hb fb Lb
  have hw := hw9
  clear hw9
  obtain rfl : r9 = 48 := hp.1
  have hS : Wc g q9o rS73 73 La fa := hp.2
  clear hp
  refine lv_iload_n hx hb dL_rows_400 rfl (lv_at hl 0 rfl) ?_
  refine lv_bipush (v := 60) hx hb dL_rows_401 (by decide) ?_
  refine lv_icmp_ge (tgt := 410) hx hb dL_rows_403 (by decide) (fun h9 => absurd h9 (by decide)) (fun _ => ?_)
  refine lv_iload_n hx hb dL_rows_406 rfl (lv_at hl 0 rfl) ?_
  refine lv_goto (tgt := 412) hx hb dL_rows_407 (by decide) ?_
  refine lv_icmp_eq (tgt := 417) hx hb dL_rows_412 (by decide) (fun _ => ?_) (fun h9 => absurd h9 (by decide))
  refine lv_iinc (v := 49) (lv' := [(1, .int 49), (0, .ref q9o)]) hx hb dL_rows_417 hl (k := 0) rfl (by decide) (by decide) rfl (fun ls hl => ?_)
  refine lv_goto (tgt := 370) hx hb dL_rows_420 (by decide) ?_
  refine lv_iload_n hx hb dL_rows_370 rfl (lv_at hl 0 rfl) ?_
  refine lv_bipush (v := 61) hx hb dL_rows_371 (by decide) ?_
  refine lv_icmp_ge (tgt := 423) hx hb dL_rows_373 (by decide) (fun h9 => absurd h9 (by decide)) (fun _ => ?_)
  refine lv_aload_n hx hb dL_rows_376 rfl (lv_at hl 1 rfl) ?_
  refine lv_iconst (v := 3) hx hb dL_rows_377 (by decide) ?_
  refine lv_iload_n hx hb dL_rows_378 rfl (lv_at hl 0 rfl) ?_
  refine lv_iconst (v := 4) hx hb dL_rows_379 (by decide) ?_
  refine lv_irem hx hb dL_rows_380 (by decide) ?_
  refine lv_topi (fun z9 hz9 => ?_)
  obtain rfl : z9 = 1 := hz9.trans (by decide)
  refine lv_iadd hx hb dL_rows_381 ?_
  refine lv_topi (fun z9 hz9 => ?_)
  obtain rfl : z9 = 4 := hz9.trans (by decide)
  refine lv_iconst (v := 1) hx hb dL_rows_382 (by decide) ?_
  refine lv_iload_n hx hb dL_rows_383 rfl (lv_at hl 0 rfl) ?_
  refine lv_iconst (v := 4) hx hb dL_rows_384 (by decide) ?_
  refine lv_irem hx hb dL_rows_385 (by decide) ?_
  refine lv_topi (fun z9 hz9 => ?_)
  obtain rfl : z9 = 1 := hz9.trans (by decide)
  refine lv_iconst (v := 1) hx hb dL_rows_386 (by decide) ?_
  refine lv_icmp_le (tgt := 394) hx hb dL_rows_387 (by decide) (fun _ => ?_) (fun h9 => absurd h9 (by decide))
  refine lv_iconst (v := 0) hx hb dL_rows_394 (by decide) ?_
  refine lv_iload_n hx hb dL_rows_395 rfl (lv_at hl 0 rfl) ?_
  refine lv_iconst (v := 0) hx hb dL_rows_396 (by decide) ?_
  refine px_ic hw (vx_runSX (As := [.ref q9o, .int 4, .int 1, .int 0, .int 49, .int 0]) (rest := []) CF (za_add l hst g _ _ hS 1 0 49 20 (by decide +kernel) (by decide +kernel) (by decide +kernel) (by decide +kernel) (by decide +kernel) (by unfold okC; decide +kernel) (by decide +kernel) (v := 49) (by decide +kernel) (S2 := rS74) rfl _) (vx_cwSW 6 hts gL_rows_L_act rfl rfl rfl (by decide +kernel) ⟨Nat.le_of_ble_eq_true rfl, Nat.le_of_ble_eq_true rfl⟩) (pn_preS hw hs hN) rfl rfl hl.1 rfl (lv_room (Nat.le_of_ble_eq_true rfl)) dL_rows_397 ⟨Nat.le_of_ble_eq_true rfl, Nat.le_of_ble_eq_true rfl⟩) (fun E9 ce9 q9 L9 f9 H9 locs9 he9 _ _ _ _ => False.elim he9) (fun r9 Lb fb Hb locb hp hw9 => ?_)
  clear hw hS
  try clear loca Ha fa La
  have hw := hw9
  clear hw9
  obtain rfl : r9 = 49 := hp.1
  have hS : Wc g q9o rS74 74 Lb fb := hp.2
  clear hp
  refine lv_iload_n hx hb dL_rows_400 rfl (lv_at hl 0 rfl) ?_
  refine lv_bipush (v := 60) hx hb dL_rows_401 (by decide) ?_
  refine lv_icmp_ge (tgt := 410) hx hb dL_rows_403 (by decide) (fun h9 => absurd h9 (by decide)) (fun _ => ?_)
  refine lv_iload_n hx hb dL_rows_406 rfl (lv_at hl 0 rfl) ?_
  refine lv_goto (tgt := 412) hx hb dL_rows_407 (by decide) ?_
  refine lv_icmp_eq (tgt := 417) hx hb dL_rows_412 (by decide) (fun _ => ?_) (fun h9 => absurd h9 (by decide))
  refine lv_iinc (v := 50) (lv' := [(1, .int 50), (0, .ref q9o)]) hx hb dL_rows_417 hl (k := 0) rfl (by decide) (by decide) rfl (fun ls hl => ?_)
  refine lv_goto (tgt := 370) hx hb dL_rows_420 (by decide) ?_
  refine lv_iload_n hx hb dL_rows_370 rfl (lv_at hl 0 rfl) ?_
  refine lv_bipush (v := 61) hx hb dL_rows_371 (by decide) ?_
  refine lv_icmp_ge (tgt := 423) hx hb dL_rows_373 (by decide) (fun h9 => absurd h9 (by decide)) (fun _ => ?_)
  refine lv_aload_n hx hb dL_rows_376 rfl (lv_at hl 1 rfl) ?_
  refine lv_iconst (v := 3) hx hb dL_rows_377 (by decide) ?_
  refine lv_iload_n hx hb dL_rows_378 rfl (lv_at hl 0 rfl) ?_
  refine lv_iconst (v := 4) hx hb dL_rows_379 (by decide) ?_
  refine lv_irem hx hb dL_rows_380 (by decide) ?_
  refine lv_topi (fun z9 hz9 => ?_)
  obtain rfl : z9 = 2 := hz9.trans (by decide)
  refine lv_iadd hx hb dL_rows_381 ?_
  refine lv_topi (fun z9 hz9 => ?_)
  obtain rfl : z9 = 5 := hz9.trans (by decide)
  refine lv_iconst (v := 1) hx hb dL_rows_382 (by decide) ?_
  refine lv_iload_n hx hb dL_rows_383 rfl (lv_at hl 0 rfl) ?_
  refine lv_iconst (v := 4) hx hb dL_rows_384 (by decide) ?_
  refine lv_irem hx hb dL_rows_385 (by decide) ?_
  refine lv_topi (fun z9 hz9 => ?_)
  obtain rfl : z9 = 2 := hz9.trans (by decide)
  refine lv_iconst (v := 1) hx hb dL_rows_386 (by decide) ?_
  refine lv_icmp_le (tgt := 394) hx hb dL_rows_387 (by decide) (fun h9 => absurd h9 (by decide)) (fun _ => ?_)
  refine lv_iload_n hx hb dL_rows_390 rfl (lv_at hl 0 rfl) ?_
  refine lv_goto (tgt := 395) hx hb dL_rows_391 (by decide) ?_
  refine lv_iload_n hx hb dL_rows_395 rfl (lv_at hl 0 rfl) ?_
  refine lv_iconst (v := 0) hx hb dL_rows_396 (by decide) ?_
  refine px_ic hw (vx_runSX (As := [.ref q9o, .int 5, .int 1, .int 50, .int 50, .int 0]) (rest := []) CF (za_cancel l hst g _ _ hS 1 50 (by decide +kernel) (by decide +kernel) (by decide +kernel) (by unfold okC; decide +kernel) (by decide +kernel) (v := 50) (by decide +kernel) (S2 := rS75) rfl _) (vx_cwSW 6 hts gL_rows_L_act rfl rfl rfl (by decide +kernel) ⟨Nat.le_of_ble_eq_true rfl, Nat.le_of_ble_eq_true rfl⟩) (pn_preS hw hs hN) rfl rfl hl.1 rfl (lv_room (Nat.le_of_ble_eq_true rfl)) dL_rows_397 ⟨Nat.le_of_ble_eq_true rfl, Nat.le_of_ble_eq_true rfl⟩) (fun E9 ce9 q9 L9 f9 H9 locs9 he9 _ _ _ _ => False.elim he9) (fun r9 La fa Ha loca hp hw9 => ?_)
  clear hw hS
  try clear locb Hb fb Lb
  have hw := hw9
  clear hw9
  obtain rfl : r9 = 50 := hp.1
  have hS : Wc g q9o rS75 75 La fa := hp.2
  clear hp
  refine lv_iload_n hx hb dL_rows_400 rfl (lv_at hl 0 rfl) ?_
  refine lv_bipush (v := 60) hx hb dL_rows_401 (by decide) ?_
  refine lv_icmp_ge (tgt := 410) hx hb dL_rows_403 (by decide) (fun h9 => absurd h9 (by decide)) (fun _ => ?_)
  refine lv_iload_n hx hb dL_rows_406 rfl (lv_at hl 0 rfl) ?_
  refine lv_goto (tgt := 412) hx hb dL_rows_407 (by decide) ?_
  refine lv_icmp_eq (tgt := 417) hx hb dL_rows_412 (by decide) (fun _ => ?_) (fun h9 => absurd h9 (by decide))
  refine lv_iinc (v := 51) (lv' := [(1, .int 51), (0, .ref q9o)]) hx hb dL_rows_417 hl (k := 0) rfl (by decide) (by decide) rfl (fun ls hl => ?_)
  refine lv_goto (tgt := 370) hx hb dL_rows_420 (by decide) ?_
  refine lv_iload_n hx hb dL_rows_370 rfl (lv_at hl 0 rfl) ?_
  refine lv_bipush (v := 61) hx hb dL_rows_371 (by decide) ?_
  refine lv_icmp_ge (tgt := 423) hx hb dL_rows_373 (by decide) (fun h9 => absurd h9 (by decide)) (fun _ => ?_)
  refine lv_aload_n hx hb dL_rows_376 rfl (lv_at hl 1 rfl) ?_
  refine lv_iconst (v := 3) hx hb dL_rows_377 (by decide) ?_
  refine lv_iload_n hx hb dL_rows_378 rfl (lv_at hl 0 rfl) ?_
  refine lv_iconst (v := 4) hx hb dL_rows_379 (by decide) ?_
  refine lv_irem hx hb dL_rows_380 (by decide) ?_
  refine lv_topi (fun z9 hz9 => ?_)
  obtain rfl : z9 = 3 := hz9.trans (by decide)
  refine lv_iadd hx hb dL_rows_381 ?_
  refine lv_topi (fun z9 hz9 => ?_)
  obtain rfl : z9 = 6 := hz9.trans (by decide)
  refine lv_iconst (v := 1) hx hb dL_rows_382 (by decide) ?_
  refine lv_iload_n hx hb dL_rows_383 rfl (lv_at hl 0 rfl) ?_
  refine lv_iconst (v := 4) hx hb dL_rows_384 (by decide) ?_
  refine lv_irem hx hb dL_rows_385 (by decide) ?_
  refine lv_topi (fun z9 hz9 => ?_)
  obtain rfl : z9 = 3 := hz9.trans (by decide)
  refine lv_iconst (v := 1) hx hb dL_rows_386 (by decide) ?_
  refine lv_icmp_le (tgt := 394) hx hb dL_rows_387 (by decide) (fun h9 => absurd h9 (by decide)) (fun _ => ?_)
  refine lv_iload_n hx hb dL_rows_390 rfl (lv_at hl 0 rfl) ?_
  refine lv_goto (tgt := 395) hx hb dL_rows_391 (by decide) ?_
  refine lv_iload_n hx hb dL_rows_395 rfl (lv_at hl 0 rfl) ?_
  refine lv_iconst (v := 0) hx hb dL_rows_396 (by decide) ?_
  refine px_ic hw (vx_runSX (As := [.ref q9o, .int 6, .int 1, .int 51, .int 51, .int 0]) (rest := []) CF (za_reinstate l hst g _ _ hS 1 51 (by decide +kernel) (by decide +kernel) (by decide +kernel) (by unfold okC; decide +kernel) (by decide +kernel) (v := 51) (by decide +kernel) (S2 := rS76) rfl _) (vx_cwSW 6 hts gL_rows_L_act rfl rfl rfl (by decide +kernel) ⟨Nat.le_of_ble_eq_true rfl, Nat.le_of_ble_eq_true rfl⟩) (pn_preS hw hs hN) rfl rfl hl.1 rfl (lv_room (Nat.le_of_ble_eq_true rfl)) dL_rows_397 ⟨Nat.le_of_ble_eq_true rfl, Nat.le_of_ble_eq_true rfl⟩) (fun E9 ce9 q9 L9 f9 H9 locs9 he9 _ _ _ _ => False.elim he9) (fun r9 Lb fb Hb locb hp hw9 => ?_)
  clear hw hS
  try clear loca Ha fa La
  have hw := hw9
  clear hw9
  obtain rfl : r9 = 51 := hp.1
  have hS : Wc g q9o rS76 76 Lb fb := hp.2
  clear hp
  refine lv_iload_n hx hb dL_rows_400 rfl (lv_at hl 0 rfl) ?_
  refine lv_bipush (v := 60) hx hb dL_rows_401 (by decide) ?_
  refine lv_icmp_ge (tgt := 410) hx hb dL_rows_403 (by decide) (fun h9 => absurd h9 (by decide)) (fun _ => ?_)
  refine lv_iload_n hx hb dL_rows_406 rfl (lv_at hl 0 rfl) ?_
  refine lv_goto (tgt := 412) hx hb dL_rows_407 (by decide) ?_
  refine lv_icmp_eq (tgt := 417) hx hb dL_rows_412 (by decide) (fun _ => ?_) (fun h9 => absurd h9 (by decide))
  refine lv_iinc (v := 52) (lv' := [(1, .int 52), (0, .ref q9o)]) hx hb dL_rows_417 hl (k := 0) rfl (by decide) (by decide) rfl (fun ls hl => ?_)
  refine lv_goto (tgt := 370) hx hb dL_rows_420 (by decide) ?_
  refine lv_iload_n hx hb dL_rows_370 rfl (lv_at hl 0 rfl) ?_
  refine lv_bipush (v := 61) hx hb dL_rows_371 (by decide) ?_
  refine lv_icmp_ge (tgt := 423) hx hb dL_rows_373 (by decide) (fun h9 => absurd h9 (by decide)) (fun _ => ?_)
  refine lv_aload_n hx hb dL_rows_376 rfl (lv_at hl 1 rfl) ?_
  refine lv_iconst (v := 3) hx hb dL_rows_377 (by decide) ?_
  refine lv_iload_n hx hb dL_rows_378 rfl (lv_at hl 0 rfl) ?_
  refine lv_iconst (v := 4) hx hb dL_rows_379 (by decide) ?_
  refine lv_irem hx hb dL_rows_380 (by decide) ?_
  refine lv_topi (fun z9 hz9 => ?_)
  obtain rfl : z9 = 0 := hz9.trans (by decide)
  refine lv_iadd hx hb dL_rows_381 ?_
  refine lv_topi (fun z9 hz9 => ?_)
  obtain rfl : z9 = 3 := hz9.trans (by decide)
  refine lv_iconst (v := 1) hx hb dL_rows_382 (by decide) ?_
  refine lv_iload_n hx hb dL_rows_383 rfl (lv_at hl 0 rfl) ?_
  refine lv_iconst (v := 4) hx hb dL_rows_384 (by decide) ?_
  refine lv_irem hx hb dL_rows_385 (by decide) ?_
  refine lv_topi (fun z9 hz9 => ?_)
  obtain rfl : z9 = 0 := hz9.trans (by decide)
  refine lv_iconst (v := 1) hx hb dL_rows_386 (by decide) ?_
  refine lv_icmp_le (tgt := 394) hx hb dL_rows_387 (by decide) (fun _ => ?_) (fun h9 => absurd h9 (by decide))
  refine lv_iconst (v := 0) hx hb dL_rows_394 (by decide) ?_
  refine lv_iload_n hx hb dL_rows_395 rfl (lv_at hl 0 rfl) ?_
  refine lv_iconst (v := 0) hx hb dL_rows_396 (by decide) ?_
  refine px_ic hw (vx_runSX (As := [.ref q9o, .int 3, .int 1, .int 0, .int 52, .int 0]) (rest := []) CF (za_change l hst g _ _ hS 1 0 52 20 (by decide +kernel) (by decide +kernel) (by decide +kernel) (by decide +kernel) (by decide +kernel) (by unfold okC; decide +kernel) (by decide +kernel) (v := 52) (by decide +kernel) (S2 := rS77) rfl _) (vx_cwSW 6 hts gL_rows_L_act rfl rfl rfl (by decide +kernel) ⟨Nat.le_of_ble_eq_true rfl, Nat.le_of_ble_eq_true rfl⟩) (pn_preS hw hs hN) rfl rfl hl.1 rfl (lv_room (Nat.le_of_ble_eq_true rfl)) dL_rows_397 ⟨Nat.le_of_ble_eq_true rfl, Nat.le_of_ble_eq_true rfl⟩) (fun E9 ce9 q9 L9 f9 H9 locs9 he9 _ _ _ _ => False.elim he9) (fun r9 La fa Ha loca hp hw9 => ?_)
  clear hw hS
  try clear locb Hb fb Lb
  have hw := hw9
  clear hw9
  obtain rfl : r9 = 52 := hp.1
  have hS : Wc g q9o rS77 77 La fa := hp.2
  clear hp
  refine lv_iload_n hx hb dL_rows_400 rfl (lv_at hl 0 rfl) ?_
  refine lv_bipush (v := 60) hx hb dL_rows_401 (by decide) ?_
  refine lv_icmp_ge (tgt := 410) hx hb dL_rows_403 (by decide) (fun h9 => absurd h9 (by decide)) (fun _ => ?_)
  refine lv_iload_n hx hb dL_rows_406 rfl (lv_at hl 0 rfl) ?_
  refine lv_goto (tgt := 412) hx hb dL_rows_407 (by decide) ?_
  refine lv_icmp_eq (tgt := 417) hx hb dL_rows_412 (by decide) (fun _ => ?_) (fun h9 => absurd h9 (by decide))
  refine lv_iinc (v := 53) (lv' := [(1, .int 53), (0, .ref q9o)]) hx hb dL_rows_417 hl (k := 0) rfl (by decide) (by decide) rfl (fun ls hl => ?_)
  refine lv_goto (tgt := 370) hx hb dL_rows_420 (by decide) ?_
  refine lv_iload_n hx hb dL_rows_370 rfl (lv_at hl 0 rfl) ?_
  refine lv_bipush (v := 61) hx hb dL_rows_371 (by decide) ?_
  refine lv_icmp_ge (tgt := 423) hx hb dL_rows_373 (by decide) (fun h9 => absurd h9 (by decide)) (fun _ => ?_)
  refine lv_aload_n hx hb dL_rows_376 rfl (lv_at hl 1 rfl) ?_
  refine lv_iconst (v := 3) hx hb dL_rows_377 (by decide) ?_
  refine lv_iload_n hx hb dL_rows_378 rfl (lv_at hl 0 rfl) ?_
  refine lv_iconst (v := 4) hx hb dL_rows_379 (by decide) ?_
  refine lv_irem hx hb dL_rows_380 (by decide) ?_
  refine lv_topi (fun z9 hz9 => ?_)
  obtain rfl : z9 = 1 := hz9.trans (by decide)
  refine lv_iadd hx hb dL_rows_381 ?_
  refine lv_topi (fun z9 hz9 => ?_)
  obtain rfl : z9 = 4 := hz9.trans (by decide)
  refine lv_iconst (v := 1) hx hb dL_rows_382 (by decide) ?_
  refine lv_iload_n hx hb dL_rows_383 rfl (lv_at hl 0 rfl) ?_
  refine lv_iconst (v := 4) hx hb dL_rows_384 (by decide) ?_
  refine lv_irem hx hb dL_rows_385 (by decide) ?_
  refine lv_topi (fun z9 hz9 => ?_)
  obtain rfl : z9 = 1 := hz9.trans (by decide)
  refine lv_iconst (v := 1) hx hb dL_rows_386 (by decide) ?_
  refine lv_icmp_le (tgt := 394) hx hb dL_rows_387 (by decide) (fun _ => ?_) (fun h9 => absurd h9 (by decide))
  refine lv_iconst (v := 0) hx hb dL_rows_394 (by decide) ?_
  refine lv_iload_n hx hb dL_rows_395 rfl (lv_at hl 0 rfl) ?_
  refine lv_iconst (v := 0) hx hb dL_rows_396 (by decide) ?_
  refine px_ic hw (vx_runSX (As := [.ref q9o, .int 4, .int 1, .int 0, .int 53, .int 0]) (rest := []) CF (za_add l hst g _ _ hS 1 0 53 20 (by decide +kernel) (by decide +kernel) (by decide +kernel) (by decide +kernel) (by decide +kernel) (by unfold okC; decide +kernel) (by decide +kernel) (v := 53) (by decide +kernel) (S2 := rS78) rfl _) (vx_cwSW 6 hts gL_rows_L_act rfl rfl rfl (by decide +kernel) ⟨Nat.le_of_ble_eq_true rfl, Nat.le_of_ble_eq_true rfl⟩) (pn_preS hw hs hN) rfl rfl hl.1 rfl (lv_room (Nat.le_of_ble_eq_true rfl)) dL_rows_397 ⟨Nat.le_of_ble_eq_true rfl, Nat.le_of_ble_eq_true rfl⟩) (fun E9 ce9 q9 L9 f9 H9 locs9 he9 _ _ _ _ => False.elim he9) (fun r9 Lb fb Hb locb hp hw9 => ?_)
  clear hw hS
  try clear loca Ha fa La
  have hw := hw9
  clear hw9
  obtain rfl : r9 = 53 := hp.1
  have hS : Wc g q9o rS78 78 Lb fb := hp.2
  clear hp
  refine lv_iload_n hx hb dL_rows_400 rfl (lv_at hl 0 rfl) ?_
  refine lv_bipush (v := 60) hx hb dL_rows_401 (by decide) ?_
  refine lv_icmp_ge (tgt := 410) hx hb dL_rows_403 (by decide) (fun h9 => absurd h9 (by decide)) (fun _ => ?_)
  refine lv_iload_n hx hb dL_rows_406 rfl (lv_at hl 0 rfl) ?_
  refine lv_goto (tgt := 412) hx hb dL_rows_407 (by decide) ?_
  refine lv_icmp_eq (tgt := 417) hx hb dL_rows_412 (by decide) (fun _ => ?_) (fun h9 => absurd h9 (by decide))
  refine lv_iinc (v := 54) (lv' := [(1, .int 54), (0, .ref q9o)]) hx hb dL_rows_417 hl (k := 0) rfl (by decide) (by decide) rfl (fun ls hl => ?_)
  refine lv_goto (tgt := 370) hx hb dL_rows_420 (by decide) ?_
  refine lv_iload_n hx hb dL_rows_370 rfl (lv_at hl 0 rfl) ?_
  refine lv_bipush (v := 61) hx hb dL_rows_371 (by decide) ?_
  refine lv_icmp_ge (tgt := 423) hx hb dL_rows_373 (by decide) (fun h9 => absurd h9 (by decide)) (fun _ => ?_)
  refine lv_aload_n hx hb dL_rows_376 rfl (lv_at hl 1 rfl) ?_
  refine lv_iconst (v := 3) hx hb dL_rows_377 (by decide) ?_
  refine lv_iload_n hx hb dL_rows_378 rfl (lv_at hl 0 rfl) ?_
  refine lv_iconst (v := 4) hx hb dL_rows_379 (by decide) ?_
  refine lv_irem hx hb dL_rows_380 (by decide) ?_
  refine lv_topi (fun z9 hz9 => ?_)
  obtain rfl : z9 = 2 := hz9.trans (by decide)
  refine lv_iadd hx hb dL_rows_381 ?_
  refine lv_topi (fun z9 hz9 => ?_)
  obtain rfl : z9 = 5 := hz9.trans (by decide)
  refine lv_iconst (v := 1) hx hb dL_rows_382 (by decide) ?_
  refine lv_iload_n hx hb dL_rows_383 rfl (lv_at hl 0 rfl) ?_
  refine lv_iconst (v := 4) hx hb dL_rows_384 (by decide) ?_
  refine lv_irem hx hb dL_rows_385 (by decide) ?_
  refine lv_topi (fun z9 hz9 => ?_)
  obtain rfl : z9 = 2 := hz9.trans (by decide)
  refine lv_iconst (v := 1) hx hb dL_rows_386 (by decide) ?_
  refine lv_icmp_le (tgt := 394) hx hb dL_rows_387 (by decide) (fun h9 => absurd h9 (by decide)) (fun _ => ?_)
  refine lv_iload_n hx hb dL_rows_390 rfl (lv_at hl 0 rfl) ?_
  refine lv_goto (tgt := 395) hx hb dL_rows_391 (by decide) ?_
  refine lv_iload_n hx hb dL_rows_395 rfl (lv_at hl 0 rfl) ?_
  refine lv_iconst (v := 0) hx hb dL_rows_396 (by decide) ?_
  refine px_ic hw (vx_runSX (As := [.ref q9o, .int 5, .int 1, .int 54, .int 54, .int 0]) (rest := []) CF (za_cancel l hst g _ _ hS 1 54 (by decide +kernel) (by decide +kernel) (by decide +kernel) (by unfold okC; decide +kernel) (by decide +kernel) (v := 54) (by decide +kernel) (S2 := rS79) rfl _) (vx_cwSW 6 hts gL_rows_L_act rfl rfl rfl (by decide +kernel) ⟨Nat.le_of_ble_eq_true rfl, Nat.le_of_ble_eq_true rfl⟩) (pn_preS hw hs hN) rfl rfl hl.1 rfl (lv_room (Nat.le_of_ble_eq_true rfl)) dL_rows_397 ⟨Nat.le_of_ble_eq_true rfl, Nat.le_of_ble_eq_true rfl⟩) (fun E9 ce9 q9 L9 f9 H9 locs9 he9 _ _ _ _ => False.elim he9) (fun r9 La fa Ha loca hp hw9 => ?_)
  clear hw hS
  try clear locb Hb fb Lb
  have hw := hw9
  clear hw9
  obtain rfl : r9 = 54 := hp.1
  have hS : Wc g q9o rS79 79 La fa := hp.2
  clear hp
  refine lv_iload_n hx hb dL_rows_400 rfl (lv_at hl 0 rfl) ?_
  refine lv_bipush (v := 60) hx hb dL_rows_401 (by decide) ?_
  refine lv_icmp_ge (tgt := 410) hx hb dL_rows_403 (by decide) (fun h9 => absurd h9 (by decide)) (fun _ => ?_)
  refine lv_iload_n hx hb dL_rows_406 rfl (lv_at hl 0 rfl) ?_
  refine lv_goto (tgt := 412) hx hb dL_rows_407 (by decide) ?_
  refine lv_icmp_eq (tgt := 417) hx hb dL_rows_412 (by decide) (fun _ => ?_) (fun h9 => absurd h9 (by decide))
  refine lv_iinc (v := 55) (lv' := [(1, .int 55), (0, .ref q9o)]) hx hb dL_rows_417 hl (k := 0) rfl (by decide) (by decide) rfl (fun ls hl => ?_)
  refine lv_goto (tgt := 370) hx hb dL_rows_420 (by decide) ?_
  refine lv_iload_n hx hb dL_rows_370 rfl (lv_at hl 0 rfl) ?_
  refine lv_bipush (v := 61) hx hb dL_rows_371 (by decide) ?_
  refine lv_icmp_ge (tgt := 423) hx hb dL_rows_373 (by decide) (fun h9 => absurd h9 (by decide)) (fun _ => ?_)
  refine lv_aload_n hx hb dL_rows_376 rfl (lv_at hl 1 rfl) ?_
  refine lv_iconst (v := 3) hx hb dL_rows_377 (by decide) ?_
  refine lv_iload_n hx hb dL_rows_378 rfl (lv_at hl 0 rfl) ?_
  refine lv_iconst (v := 4) hx hb dL_rows_379 (by decide) ?_
  refine lv_irem hx hb dL_rows_380 (by decide) ?_
  refine lv_topi (fun z9 hz9 => ?_)
  obtain rfl : z9 = 3 := hz9.trans (by decide)
  refine lv_iadd hx hb dL_rows_381 ?_
  refine lv_topi (fun z9 hz9 => ?_)
  obtain rfl : z9 = 6 := hz9.trans (by decide)
  refine lv_iconst (v := 1) hx hb dL_rows_382 (by decide) ?_
  refine lv_iload_n hx hb dL_rows_383 rfl (lv_at hl 0 rfl) ?_
  refine lv_iconst (v := 4) hx hb dL_rows_384 (by decide) ?_
  refine lv_irem hx hb dL_rows_385 (by decide) ?_
  refine lv_topi (fun z9 hz9 => ?_)
  obtain rfl : z9 = 3 := hz9.trans (by decide)
  refine lv_iconst (v := 1) hx hb dL_rows_386 (by decide) ?_
  refine lv_icmp_le (tgt := 394) hx hb dL_rows_387 (by decide) (fun h9 => absurd h9 (by decide)) (fun _ => ?_)
  refine lv_iload_n hx hb dL_rows_390 rfl (lv_at hl 0 rfl) ?_
  refine lv_goto (tgt := 395) hx hb dL_rows_391 (by decide) ?_
  refine lv_iload_n hx hb dL_rows_395 rfl (lv_at hl 0 rfl) ?_
  refine lv_iconst (v := 0) hx hb dL_rows_396 (by decide) ?_
  refine px_ic hw (vx_runSX (As := [.ref q9o, .int 6, .int 1, .int 55, .int 55, .int 0]) (rest := []) CF (za_reinstate l hst g _ _ hS 1 55 (by decide +kernel) (by decide +kernel) (by decide +kernel) (by unfold okC; decide +kernel) (by decide +kernel) (v := 55) (by decide +kernel) (S2 := rS80) rfl _) (vx_cwSW 6 hts gL_rows_L_act rfl rfl rfl (by decide +kernel) ⟨Nat.le_of_ble_eq_true rfl, Nat.le_of_ble_eq_true rfl⟩) (pn_preS hw hs hN) rfl rfl hl.1 rfl (lv_room (Nat.le_of_ble_eq_true rfl)) dL_rows_397 ⟨Nat.le_of_ble_eq_true rfl, Nat.le_of_ble_eq_true rfl⟩) (fun E9 ce9 q9 L9 f9 H9 locs9 he9 _ _ _ _ => False.elim he9) (fun r9 Lb fb Hb locb hp hw9 => ?_)
  clear hw hS
  try clear loca Ha fa La
  have hw := hw9
  clear hw9
  obtain rfl : r9 = 55 := hp.1
  have hS : Wc g q9o rS80 80 Lb fb := hp.2
  clear hp
  refine lv_iload_n hx hb dL_rows_400 rfl (lv_at hl 0 rfl) ?_
  refine lv_bipush (v := 60) hx hb dL_rows_401 (by decide) ?_
  refine lv_icmp_ge (tgt := 410) hx hb dL_rows_403 (by decide) (fun h9 => absurd h9 (by decide)) (fun _ => ?_)
  refine lv_iload_n hx hb dL_rows_406 rfl (lv_at hl 0 rfl) ?_
  refine lv_goto (tgt := 412) hx hb dL_rows_407 (by decide) ?_
  refine lv_icmp_eq (tgt := 417) hx hb dL_rows_412 (by decide) (fun _ => ?_) (fun h9 => absurd h9 (by decide))
  refine lv_iinc (v := 56) (lv' := [(1, .int 56), (0, .ref q9o)]) hx hb dL_rows_417 hl (k := 0) rfl (by decide) (by decide) rfl (fun ls hl => ?_)
  refine lv_goto (tgt := 370) hx hb dL_rows_420 (by decide) ?_
  refine lv_iload_n hx hb dL_rows_370 rfl (lv_at hl 0 rfl) ?_
  refine lv_bipush (v := 61) hx hb dL_rows_371 (by decide) ?_
  refine lv_icmp_ge (tgt := 423) hx hb dL_rows_373 (by decide) (fun h9 => absurd h9 (by decide)) (fun _ => ?_)
  refine lv_aload_n hx hb dL_rows_376 rfl (lv_at hl 1 rfl) ?_
  refine lv_iconst (v := 3) hx hb dL_rows_377 (by decide) ?_
  refine lv_iload_n hx hb dL_rows_378 rfl (lv_at hl 0 rfl) ?_
  refine lv_iconst (v := 4) hx hb dL_rows_379 (by decide) ?_
  refine lv_irem hx hb dL_rows_380 (by decide) ?_
  refine lv_topi (fun z9 hz9 => ?_)
  obtain rfl : z9 = 0 := hz9.trans (by decide)
  refine lv_iadd hx hb dL_rows_381 ?_
  refine lv_topi (fun z9 hz9 => ?_)
  obtain rfl : z9 = 3 := hz9.trans (by decide)
  refine lv_iconst (v := 1) hx hb dL_rows_382 (by decide) ?_
  refine lv_iload_n hx hb dL_rows_383 rfl (lv_at hl 0 rfl) ?_
  refine lv_iconst (v := 4) hx hb dL_rows_384 (by decide) ?_
  refine lv_irem hx hb dL_rows_385 (by decide) ?_
  refine lv_topi (fun z9 hz9 => ?_)
  obtain rfl : z9 = 0 := hz9.trans (by decide)
  refine lv_iconst (v := 1) hx hb dL_rows_386 (by decide) ?_
  refine lv_icmp_le (tgt := 394) hx hb dL_rows_387 (by decide) (fun _ => ?_) (fun h9 => absurd h9 (by decide))
  refine lv_iconst (v := 0) hx hb dL_rows_394 (by decide) ?_
  refine lv_iload_n hx hb dL_rows_395 rfl (lv_at hl 0 rfl) ?_
  refine lv_iconst (v := 0) hx hb dL_rows_396 (by decide) ?_
  refine px_ic hw (vx_runSX (As := [.ref q9o, .int 3, .int 1, .int 0, .int 56, .int 0]) (rest := []) CF (za_change l hst g _ _ hS 1 0 56 20 (by decide +kernel) (by decide +kernel) (by decide +kernel) (by decide +kernel) (by decide +kernel) (by unfold okC; decide +kernel) (by decide +kernel) (v := 56) (by decide +kernel) (S2 := rS81) rfl _) (vx_cwSW 6 hts gL_rows_L_act rfl rfl rfl (by decide +kernel) ⟨Nat.le_of_ble_eq_true rfl, Nat.le_of_ble_eq_true rfl⟩) (pn_preS hw hs hN) rfl rfl hl.1 rfl (lv_room (Nat.le_of_ble_eq_true rfl)) dL_rows_397 ⟨Nat.le_of_ble_eq_true rfl, Nat.le_of_ble_eq_true rfl⟩) (fun E9 ce9 q9 L9 f9 H9 locs9 he9 _ _ _ _ => False.elim he9) (fun r9 La fa Ha loca hp hw9 => ?_)
  clear hw hS
  try clear locb Hb fb Lb
  have hw := hw9
  clear hw9
  obtain rfl : r9 = 56 := hp.1
  have hS : Wc g q9o rS81 81 La fa := hp.2
  clear hp
  refine lv_iload_n hx hb dL_rows_400 rfl (lv_at hl 0 rfl) ?_
  refine lv_bipush (v := 60) hx hb dL_rows_401 (by decide) ?_
  refine lv_icmp_ge (tgt := 410) hx hb dL_rows_403 (by decide) (fun h9 => absurd h9 (by decide)) (fun _ => ?_)
  refine lv_iload_n hx hb dL_rows_406 rfl (lv_at hl 0 rfl) ?_
  refine lv_goto (tgt := 412) hx hb dL_rows_407 (by decide) ?_
  refine lv_icmp_eq (tgt := 417) hx hb dL_rows_412 (by decide) (fun _ => ?_) (fun h9 => absurd h9 (by decide))
  refine lv_iinc (v := 57) (lv' := [(1, .int 57), (0, .ref q9o)]) hx hb dL_rows_417 hl (k := 0) rfl (by decide) (by decide) rfl (fun ls hl => ?_)
  refine lv_goto (tgt := 370) hx hb dL_rows_420 (by decide) ?_
  refine lv_iload_n hx hb dL_rows_370 rfl (lv_at hl 0 rfl) ?_
  refine lv_bipush (v := 61) hx hb dL_rows_371 (by decide) ?_
  refine lv_icmp_ge (tgt := 423) hx hb dL_rows_373 (by decide) (fun h9 => absurd h9 (by decide)) (fun _ => ?_)
  refine lv_aload_n hx hb dL_rows_376 rfl (lv_at hl 1 rfl) ?_
  refine lv_iconst (v := 3) hx hb dL_rows_377 (by decide) ?_
  refine lv_iload_n hx hb dL_rows_378 rfl (lv_at hl 0 rfl) ?_
  refine lv_iconst (v := 4) hx hb dL_rows_379 (by decide) ?_
  refine lv_irem hx hb dL_rows_380 (by decide) ?_
  refine lv_topi (fun z9 hz9 => ?_)
  obtain rfl : z9 = 1 := hz9.trans (by decide)
  refine lv_iadd hx hb dL_rows_381 ?_
  refine lv_topi (fun z9 hz9 => ?_)
  obtain rfl : z9 = 4 := hz9.trans (by decide)
  refine lv_iconst (v := 1) hx hb dL_rows_382 (by decide) ?_
  refine lv_iload_n hx hb dL_rows_383 rfl (lv_at hl 0 rfl) ?_
  refine lv_iconst (v := 4) hx hb dL_rows_384 (by decide) ?_
  refine lv_irem hx hb dL_rows_385 (by decide) ?_
  refine lv_topi (fun z9 hz9 => ?_)
  obtain rfl : z9 = 1 := hz9.trans (by decide)
  refine lv_iconst (v := 1) hx hb dL_rows_386 (by decide) ?_
  refine lv_icmp_le (tgt := 394) hx hb dL_rows_387 (by decide) (fun _ => ?_) (fun h9 => absurd h9 (by decide))
  refine lv_iconst (v := 0) hx hb dL_rows_394 (by decide) ?_
  refine lv_iload_n hx hb dL_rows_395 rfl (lv_at hl 0 rfl) ?_
  refine lv_iconst (v := 0) hx hb dL_rows_396 (by decide) ?_
  refine px_ic hw (vx_runSX (As := [.ref q9o, .int 4, .int 1, .int 0, .int 57, .int 0]) (rest := []) CF (za_add l hst g _ _ hS 1 0 57 20 (by decide +kernel) (by decide +kernel) (by decide +kernel) (by decide +kernel) (by decide +kernel) (by unfold okC; decide +kernel) (by decide +kernel) (v := 57) (by decide +kernel) (S2 := rS82) rfl _) (vx_cwSW 6 hts gL_rows_L_act rfl rfl rfl (by decide +kernel) ⟨Nat.le_of_ble_eq_true rfl, Nat.le_of_ble_eq_true rfl⟩) (pn_preS hw hs hN) rfl rfl hl.1 rfl (lv_room (Nat.le_of_ble_eq_true rfl)) dL_rows_397 ⟨Nat.le_of_ble_eq_true rfl, Nat.le_of_ble_eq_true rfl⟩) (fun E9 ce9 q9 L9 f9 H9 locs9 he9 _ _ _ _ => False.elim he9) (fun r9 Lb fb Hb locb hp hw9 => ?_)
  clear hw hS
  try clear loca Ha fa La
  have hw := hw9
  clear hw9
  obtain rfl : r9 = 57 := hp.1
  have hS : Wc g q9o rS82 82 Lb fb := hp.2
  clear hp
  refine lv_iload_n hx hb dL_rows_400 rfl (lv_at hl 0 rfl) ?_
  refine lv_bipush (v := 60) hx hb dL_rows_401 (by decide) ?_
  refine lv_icmp_ge (tgt := 410) hx hb dL_rows_403 (by decide) (fun h9 => absurd h9 (by decide)) (fun _ => ?_)
  refine lv_iload_n hx hb dL_rows_406 rfl (lv_at hl 0 rfl) ?_
  refine lv_goto (tgt := 412) hx hb dL_rows_407 (by decide) ?_
  refine lv_icmp_eq (tgt := 417) hx hb dL_rows_412 (by decide) (fun _ => ?_) (fun h9 => absurd h9 (by decide))
  refine lv_iinc (v := 58) (lv' := [(1, .int 58), (0, .ref q9o)]) hx hb dL_rows_417 hl (k := 0) rfl (by decide) (by decide) rfl (fun ls hl => ?_)
  refine lv_goto (tgt := 370) hx hb dL_rows_420 (by decide) ?_
  refine lv_iload_n hx hb dL_rows_370 rfl (lv_at hl 0 rfl) ?_
  refine lv_bipush (v := 61) hx hb dL_rows_371 (by decide) ?_
  refine lv_icmp_ge (tgt := 423) hx hb dL_rows_373 (by decide) (fun h9 => absurd h9 (by decide)) (fun _ => ?_)
  refine lv_aload_n hx hb dL_rows_376 rfl (lv_at hl 1 rfl) ?_
  refine lv_iconst (v := 3) hx hb dL_rows_377 (by decide) ?_
  refine lv_iload_n hx hb dL_rows_378 rfl (lv_at hl 0 rfl) ?_
  refine lv_iconst (v := 4) hx hb dL_rows_379 (by decide) ?_
  refine lv_irem hx hb dL_rows_380 (by decide) ?_
  refine lv_topi (fun z9 hz9 => ?_)
  obtain rfl : z9 = 2 := hz9.trans (by decide)
  refine lv_iadd hx hb dL_rows_381 ?_
  refine lv_topi (fun z9 hz9 => ?_)
  obtain rfl : z9 = 5 := hz9.trans (by decide)
  refine lv_iconst (v := 1) hx hb dL_rows_382 (by decide) ?_
  refine lv_iload_n hx hb dL_rows_383 rfl (lv_at hl 0 rfl) ?_
  refine lv_iconst (v := 4) hx hb dL_rows_384 (by decide) ?_
  refine lv_irem hx hb dL_rows_385 (by decide) ?_
  refine lv_topi (fun z9 hz9 => ?_)
  obtain rfl : z9 = 2 := hz9.trans (by decide)
  refine lv_iconst (v := 1) hx hb dL_rows_386 (by decide) ?_
  refine lv_icmp_le (tgt := 394) hx hb dL_rows_387 (by decide) (fun h9 => absurd h9 (by decide)) (fun _ => ?_)
  refine lv_iload_n hx hb dL_rows_390 rfl (lv_at hl 0 rfl) ?_
  refine lv_goto (tgt := 395) hx hb dL_rows_391 (by decide) ?_
  refine lv_iload_n hx hb dL_rows_395 rfl (lv_at hl 0 rfl) ?_
  refine lv_iconst (v := 0) hx hb dL_rows_396 (by decide) ?_
  refine px_ic hw (vx_runSX (As := [.ref q9o, .int 5, .int 1, .int 58, .int 58, .int 0]) (rest := []) CF (za_cancel l hst g _ _ hS 1 58 (by decide +kernel) (by decide +kernel) (by decide +kernel) (by unfold okC; decide +kernel) (by decide +kernel) (v := 58) (by decide +kernel) (S2 := rS83) rfl _) (vx_cwSW 6 hts gL_rows_L_act rfl rfl rfl (by decide +kernel) ⟨Nat.le_of_ble_eq_true rfl, Nat.le_of_ble_eq_true rfl⟩) (pn_preS hw hs hN) rfl rfl hl.1 rfl (lv_room (Nat.le_of_ble_eq_true rfl)) dL_rows_397 ⟨Nat.le_of_ble_eq_true rfl, Nat.le_of_ble_eq_true rfl⟩) (fun E9 ce9 q9 L9 f9 H9 locs9 he9 _ _ _ _ => False.elim he9) (fun r9 La fa Ha loca hp hw9 => ?_)
  clear hw hS
  try clear locb Hb fb Lb
  have hw := hw9
  clear hw9
  obtain rfl : r9 = 58 := hp.1
  have hS : Wc g q9o rS83 83 La fa := hp.2
  clear hp
  refine lv_iload_n hx hb dL_rows_400 rfl (lv_at hl 0 rfl) ?_
  refine lv_bipush (v := 60) hx hb dL_rows_401 (by decide) ?_
  refine lv_icmp_ge (tgt := 410) hx hb dL_rows_403 (by decide) (fun h9 => absurd h9 (by decide)) (fun _ => ?_)
  refine lv_iload_n hx hb dL_rows_406 rfl (lv_at hl 0 rfl) ?_
  refine lv_goto (tgt := 412) hx hb dL_rows_407 (by decide) ?_
  refine lv_icmp_eq (tgt := 417) hx hb dL_rows_412 (by decide) (fun _ => ?_) (fun h9 => absurd h9 (by decide))
  refine lv_iinc (v := 59) (lv' := [(1, .int 59), (0, .ref q9o)]) hx hb dL_rows_417 hl (k := 0) rfl (by decide) (by decide) rfl (fun ls hl => ?_)
  refine lv_goto (tgt := 370) hx hb dL_rows_420 (by decide) ?_
  refine lv_iload_n hx hb dL_rows_370 rfl (lv_at hl 0 rfl) ?_
  refine lv_bipush (v := 61) hx hb dL_rows_371 (by decide) ?_
  refine lv_icmp_ge (tgt := 423) hx hb dL_rows_373 (by decide) (fun h9 => absurd h9 (by decide)) (fun _ => ?_)
  refine lv_aload_n hx hb dL_rows_376 rfl (lv_at hl 1 rfl) ?_
  refine lv_iconst (v := 3) hx hb dL_rows_377 (by decide) ?_
  refine lv_iload_n hx hb dL_rows_378 rfl (lv_at hl 0 rfl) ?_
  refine lv_iconst (v := 4) hx hb dL_rows_379 (by decide) ?_
  refine lv_irem hx hb dL_rows_380 (by decide) ?_
  refine lv_topi (fun z9 hz9 => ?_)
  obtain rfl : z9 = 3 := hz9.trans (by decide)
  refine lv_iadd hx hb dL_rows_381 ?_
  refine lv_topi (fun z9 hz9 => ?_)
  obtain rfl : z9 = 6 := hz9.trans (by decide)
  refine lv_iconst (v := 1) hx hb dL_rows_382 (by decide) ?_
  refine lv_iload_n hx hb dL_rows_383 rfl (lv_at hl 0 rfl) ?_
  refine lv_iconst (v := 4) hx hb dL_rows_384 (by decide) ?_
  refine lv_irem hx hb dL_rows_385 (by decide) ?_
  refine lv_topi (fun z9 hz9 => ?_)
  obtain rfl : z9 = 3 := hz9.trans (by decide)
  refine lv_iconst (v := 1) hx hb dL_rows_386 (by decide) ?_
  refine lv_icmp_le (tgt := 394) hx hb dL_rows_387 (by decide) (fun h9 => absurd h9 (by decide)) (fun _ => ?_)
  refine lv_iload_n hx hb dL_rows_390 rfl (lv_at hl 0 rfl) ?_
  refine lv_goto (tgt := 395) hx hb dL_rows_391 (by decide) ?_
  refine lv_iload_n hx hb dL_rows_395 rfl (lv_at hl 0 rfl) ?_
  refine lv_iconst (v := 0) hx hb dL_rows_396 (by decide) ?_
  refine px_ic hw (vx_runSX (As := [.ref q9o, .int 6, .int 1, .int 59, .int 59, .int 0]) (rest := []) CF (za_reinstate l hst g _ _ hS 1 59 (by decide +kernel) (by decide +kernel) (by decide +kernel) (by unfold okC; decide +kernel) (by decide +kernel) (v := 59) (by decide +kernel) (S2 := rS84) rfl _) (vx_cwSW 6 hts gL_rows_L_act rfl rfl rfl (by decide +kernel) ⟨Nat.le_of_ble_eq_true rfl, Nat.le_of_ble_eq_true rfl⟩) (pn_preS hw hs hN) rfl rfl hl.1 rfl (lv_room (Nat.le_of_ble_eq_true rfl)) dL_rows_397 ⟨Nat.le_of_ble_eq_true rfl, Nat.le_of_ble_eq_true rfl⟩) (fun E9 ce9 q9 L9 f9 H9 locs9 he9 _ _ _ _ => False.elim he9) (fun r9 Lb fb Hb locb hp hw9 => ?_)
  clear hw hS
  try clear loca Ha fa La
  have hw := hw9
  clear hw9
  obtain rfl : r9 = 59 := hp.1
  have hS : Wc g q9o rS84 84 Lb fb := hp.2
  clear hp
  refine lv_iload_n hx hb dL_rows_400 rfl (lv_at hl 0 rfl) ?_
  refine lv_bipush (v := 60) hx hb dL_rows_401 (by decide) ?_
  refine lv_icmp_ge (tgt := 410) hx hb dL_rows_403 (by decide) (fun h9 => absurd h9 (by decide)) (fun _ => ?_)
  refine lv_iload_n hx hb dL_rows_406 rfl (lv_at hl 0 rfl) ?_
  refine lv_goto (tgt := 412) hx hb dL_rows_407 (by decide) ?_
  refine lv_icmp_eq (tgt := 417) hx hb dL_rows_412 (by decide) (fun _ => ?_) (fun h9 => absurd h9 (by decide))
  refine lv_iinc (v := 60) (lv' := [(1, .int 60), (0, .ref q9o)]) hx hb dL_rows_417 hl (k := 0) rfl (by decide) (by decide) rfl (fun ls hl => ?_)
  refine lv_goto (tgt := 370) hx hb dL_rows_420 (by decide) ?_
  refine lv_iload_n hx hb dL_rows_370 rfl (lv_at hl 0 rfl) ?_
  refine lv_bipush (v := 61) hx hb dL_rows_371 (by decide) ?_
  refine lv_icmp_ge (tgt := 423) hx hb dL_rows_373 (by decide) (fun h9 => absurd h9 (by decide)) (fun _ => ?_)
  refine lv_aload_n hx hb dL_rows_376 rfl (lv_at hl 1 rfl) ?_
  refine lv_iconst (v := 3) hx hb dL_rows_377 (by decide) ?_
  refine lv_iload_n hx hb dL_rows_378 rfl (lv_at hl 0 rfl) ?_
  refine lv_iconst (v := 4) hx hb dL_rows_379 (by decide) ?_
  refine lv_irem hx hb dL_rows_380 (by decide) ?_
  refine lv_topi (fun z9 hz9 => ?_)
  obtain rfl : z9 = 0 := hz9.trans (by decide)
  refine lv_iadd hx hb dL_rows_381 ?_
  refine lv_topi (fun z9 hz9 => ?_)
  obtain rfl : z9 = 3 := hz9.trans (by decide)
  refine lv_iconst (v := 1) hx hb dL_rows_382 (by decide) ?_
  refine lv_iload_n hx hb dL_rows_383 rfl (lv_at hl 0 rfl) ?_
  refine lv_iconst (v := 4) hx hb dL_rows_384 (by decide) ?_
  refine lv_irem hx hb dL_rows_385 (by decide) ?_
  refine lv_topi (fun z9 hz9 => ?_)
  obtain rfl : z9 = 0 := hz9.trans (by decide)
  refine lv_iconst (v := 1) hx hb dL_rows_386 (by decide) ?_
  refine lv_icmp_le (tgt := 394) hx hb dL_rows_387 (by decide) (fun _ => ?_) (fun h9 => absurd h9 (by decide))
  refine lv_iconst (v := 0) hx hb dL_rows_394 (by decide) ?_
  refine lv_iload_n hx hb dL_rows_395 rfl (lv_at hl 0 rfl) ?_
  refine lv_iconst (v := 0) hx hb dL_rows_396 (by decide) ?_
  refine px_ic hw (vx_runSX (As := [.ref q9o, .int 3, .int 1, .int 0, .int 60, .int 0]) (rest := []) CF (za_chg60 l hst g _ _ hS 1 (by decide +kernel) (by decide +kernel) (by decide) (by decide) (by decide) (by decide +kernel) _) (vx_cwSW 6 hts gL_rows_L_act rfl rfl rfl (by decide +kernel) ⟨Nat.le_of_ble_eq_true rfl, Nat.le_of_ble_eq_true rfl⟩) (pn_preS hw hs hN) rfl rfl hl.1 rfl (lv_room (Nat.le_of_ble_eq_true rfl)) dL_rows_397 ⟨Nat.le_of_ble_eq_true rfl, Nat.le_of_ble_eq_true rfl⟩) (fun E9 ce9 q9 L9 f9 H9 locs9 he9 _ _ _ _ => False.elim he9) (fun r9 La fa Ha loca hp hw9 => ?_)
  clear hw hS
  try clear locb Hb fb Lb
  have hw := hw9
  clear hw9
  obtain rfl : r9 = (-90000003) := hp.1
  have hS : Wc g q9o rS84 84 La fa := hp.2
  clear hp
  refine lv_iload_n hx hb dL_rows_400 rfl (lv_at hl 0 rfl) ?_
  refine lv_bipush (v := 60) hx hb dL_rows_401 (by decide) ?_
  refine lv_icmp_ge (tgt := 410) hx hb dL_rows_403 (by decide) (fun _ => ?_) (fun h9 => absurd h9 (by decide))
  refine lv_ldc (v := (-90000003)) hx hb hown (hts (.constant RL 79 (-90000003)) (by decide +kernel)) dL_rows_410 ?_
  refine lv_icmp_eq (tgt := 417) hx hb dL_rows_412 (by decide) (fun _ => ?_) (fun h9 => absurd h9 (by decide))
  refine lv_iinc (v := 61) (lv' := [(1, .int 61), (0, .ref q9o)]) hx hb dL_rows_417 hl (k := 0) rfl (by decide) (by decide) rfl (fun ls hl => ?_)
  refine lv_goto (tgt := 370) hx hb dL_rows_420 (by decide) ?_
  refine lv_iload_n hx hb dL_rows_370 rfl (lv_at hl 0 rfl) ?_
  refine lv_bipush (v := 61) hx hb dL_rows_371 (by decide) ?_
  refine lv_icmp_ge (tgt := 423) hx hb dL_rows_373 (by decide) (fun _ => ?_) (fun h9 => absurd h9 (by decide))
  refine lv_iconst (v := 1) hx hb dL_rows_423 (by decide) ?_
  refine lv_istore_n (lv' := [(1, .int 1), (0, .ref q9o)]) hx hb dL_rows_424 rfl hl (by decide) rfl (fun ls hl => ?_)
  refine lv_iload_n hx hb dL_rows_425 rfl (lv_at hl 0 rfl) ?_
  refine lv_bipush (v := 8) hx hb dL_rows_426 (by decide) ?_
  refine lv_icmp_ge (tgt := 452) hx hb dL_rows_428 (by decide) (fun h9 => absurd h9 (by decide)) (fun _ => ?_)
  refine lv_aload_n hx hb dL_rows_431 rfl (lv_at hl 1 rfl) ?_
  refine lv_bipush (v := 100) hx hb dL_rows_432 (by decide) ?_
  obtain ⟨fs9, hq9, hf9⟩ := hS.rcv
  refine px_ic hw (vx_runV (As := [.int 100]) (rest := []) CF (z_pass l hst g _ _ hS (by decide) 100 (by decide +kernel) (by decide +kernel) (by decide +kernel) (v := 100) (by decide +kernel) (S2 := rS85) rfl _) (cwV 1 hts gL_rows_X6_pass rfl rfl rfl (by decide +kernel) ⟨Nat.le_of_ble_eq_true rfl, Nat.le_of_ble_eq_true rfl⟩) (pm_preV hw hs (pm_recv hw hq9 hf9 rfl)) rfl rfl hl.1 rfl (lv_room (Nat.le_of_ble_eq_true rfl)) dL_rows_434 ⟨Nat.le_of_ble_eq_true rfl, Nat.le_of_ble_eq_true rfl⟩) (fun E9 ce9 q9 L9 f9 H9 locs9 he9 _ _ _ _ => False.elim he9) (fun r9 Lb fb Hb locb hp hw9 => ?_)
  clear hw hS fs9 hq9 hf9
  try clear loca Ha fa La
  have hw := hw9
  clear hw9
  obtain rfl : r9 = 100 := hp.1
  have hS : Wc g q9o rS85 85 Lb fb := hp.2
  clear hp
  refine lv_bipush (v := 100) hx hb dL_rows_437 (by decide) ?_
  refine lv_iload_n hx hb dL_rows_439 rfl (lv_at hl 0 rfl) ?_
  refine lv_imul hx hb dL_rows_440 ?_
  refine lv_topi (fun z9 hz9 => ?_)
  obtain rfl : z9 = 100 := hz9.trans (by decide)
  refine lv_icmp_eq (tgt := 446) hx hb dL_rows_441 (by decide) (fun _ => ?_) (fun h9 => absurd h9 (by decide))
  refine lv_iinc (v := 2) (lv' := [(1, .int 2), (0, .ref q9o)]) hx hb dL_rows_446 hl (k := 0) rfl (by decide) (by decide) rfl (fun ls hl => ?_)
  refine lv_goto (tgt := 425) hx hb dL_rows_449 (by decide) ?_
  refine lv_iload_n hx hb dL_rows_425 rfl (lv_at hl 0 rfl) ?_
  refine lv_bipush (v := 8) hx hb dL_rows_426 (by decide) ?_
  refine lv_icmp_ge (tgt := 452) hx hb dL_rows_428 (by decide) (fun h9 => absurd h9 (by decide)) (fun _ => ?_)
  refine lv_aload_n hx hb dL_rows_431 rfl (lv_at hl 1 rfl) ?_
  refine lv_bipush (v := 100) hx hb dL_rows_432 (by decide) ?_
  obtain ⟨fs9, hq9, hf9⟩ := hS.rcv
  refine px_ic hw (vx_runV (As := [.int 100]) (rest := []) CF (z_pass l hst g _ _ hS (by decide) 100 (by decide +kernel) (by decide +kernel) (by decide +kernel) (v := 200) (by decide +kernel) (S2 := rS86) rfl _) (cwV 1 hts gL_rows_X6_pass rfl rfl rfl (by decide +kernel) ⟨Nat.le_of_ble_eq_true rfl, Nat.le_of_ble_eq_true rfl⟩) (pm_preV hw hs (pm_recv hw hq9 hf9 rfl)) rfl rfl hl.1 rfl (lv_room (Nat.le_of_ble_eq_true rfl)) dL_rows_434 ⟨Nat.le_of_ble_eq_true rfl, Nat.le_of_ble_eq_true rfl⟩) (fun E9 ce9 q9 L9 f9 H9 locs9 he9 _ _ _ _ => False.elim he9) (fun r9 La fa Ha loca hp hw9 => ?_)
  clear hw hS fs9 hq9 hf9
  try clear locb Hb fb Lb
  have hw := hw9
  clear hw9
  obtain rfl : r9 = 200 := hp.1
  have hS : Wc g q9o rS86 86 La fa := hp.2
  clear hp
  refine lv_bipush (v := 100) hx hb dL_rows_437 (by decide) ?_
  refine lv_iload_n hx hb dL_rows_439 rfl (lv_at hl 0 rfl) ?_
  refine lv_imul hx hb dL_rows_440 ?_
  refine lv_topi (fun z9 hz9 => ?_)
  obtain rfl : z9 = 200 := hz9.trans (by decide)
  refine lv_icmp_eq (tgt := 446) hx hb dL_rows_441 (by decide) (fun _ => ?_) (fun h9 => absurd h9 (by decide))
  refine lv_iinc (v := 3) (lv' := [(1, .int 3), (0, .ref q9o)]) hx hb dL_rows_446 hl (k := 0) rfl (by decide) (by decide) rfl (fun ls hl => ?_)
  refine lv_goto (tgt := 425) hx hb dL_rows_449 (by decide) ?_
  refine lv_iload_n hx hb dL_rows_425 rfl (lv_at hl 0 rfl) ?_
  refine lv_bipush (v := 8) hx hb dL_rows_426 (by decide) ?_
  refine lv_icmp_ge (tgt := 452) hx hb dL_rows_428 (by decide) (fun h9 => absurd h9 (by decide)) (fun _ => ?_)
  refine lv_aload_n hx hb dL_rows_431 rfl (lv_at hl 1 rfl) ?_
  refine lv_bipush (v := 100) hx hb dL_rows_432 (by decide) ?_
  obtain ⟨fs9, hq9, hf9⟩ := hS.rcv
  refine px_ic hw (vx_runV (As := [.int 100]) (rest := []) CF (z_pass l hst g _ _ hS (by decide) 100 (by decide +kernel) (by decide +kernel) (by decide +kernel) (v := 300) (by decide +kernel) (S2 := rS87) rfl _) (cwV 1 hts gL_rows_X6_pass rfl rfl rfl (by decide +kernel) ⟨Nat.le_of_ble_eq_true rfl, Nat.le_of_ble_eq_true rfl⟩) (pm_preV hw hs (pm_recv hw hq9 hf9 rfl)) rfl rfl hl.1 rfl (lv_room (Nat.le_of_ble_eq_true rfl)) dL_rows_434 ⟨Nat.le_of_ble_eq_true rfl, Nat.le_of_ble_eq_true rfl⟩) (fun E9 ce9 q9 L9 f9 H9 locs9 he9 _ _ _ _ => False.elim he9) (fun r9 Lb fb Hb locb hp hw9 => ?_)
  clear hw hS fs9 hq9 hf9
  try clear loca Ha fa La
  have hw := hw9
  clear hw9
  obtain rfl : r9 = 300 := hp.1
  have hS : Wc g q9o rS87 87 Lb fb := hp.2
  clear hp
  refine lv_bipush (v := 100) hx hb dL_rows_437 (by decide) ?_
  refine lv_iload_n hx hb dL_rows_439 rfl (lv_at hl 0 rfl) ?_
  refine lv_imul hx hb dL_rows_440 ?_
  refine lv_topi (fun z9 hz9 => ?_)
  obtain rfl : z9 = 300 := hz9.trans (by decide)
  refine lv_icmp_eq (tgt := 446) hx hb dL_rows_441 (by decide) (fun _ => ?_) (fun h9 => absurd h9 (by decide))
  refine lv_iinc (v := 4) (lv' := [(1, .int 4), (0, .ref q9o)]) hx hb dL_rows_446 hl (k := 0) rfl (by decide) (by decide) rfl (fun ls hl => ?_)
  refine lv_goto (tgt := 425) hx hb dL_rows_449 (by decide) ?_
  refine lv_iload_n hx hb dL_rows_425 rfl (lv_at hl 0 rfl) ?_
  refine lv_bipush (v := 8) hx hb dL_rows_426 (by decide) ?_
  refine lv_icmp_ge (tgt := 452) hx hb dL_rows_428 (by decide) (fun h9 => absurd h9 (by decide)) (fun _ => ?_)
  refine lv_aload_n hx hb dL_rows_431 rfl (lv_at hl 1 rfl) ?_
  refine lv_bipush (v := 100) hx hb dL_rows_432 (by decide) ?_
  obtain ⟨fs9, hq9, hf9⟩ := hS.rcv
  refine px_ic hw (vx_runV (As := [.int 100]) (rest := []) CF (z_pass l hst g _ _ hS (by decide) 100 (by decide +kernel) (by decide +kernel) (by decide +kernel) (v := 400) (by decide +kernel) (S2 := rS88) rfl _) (cwV 1 hts gL_rows_X6_pass rfl rfl rfl (by decide +kernel) ⟨Nat.le_of_ble_eq_true rfl, Nat.le_of_ble_eq_true rfl⟩) (pm_preV hw hs (pm_recv hw hq9 hf9 rfl)) rfl rfl hl.1 rfl (lv_room (Nat.le_of_ble_eq_true rfl)) dL_rows_434 ⟨Nat.le_of_ble_eq_true rfl, Nat.le_of_ble_eq_true rfl⟩) (fun E9 ce9 q9 L9 f9 H9 locs9 he9 _ _ _ _ => False.elim he9) (fun r9 La fa Ha loca hp hw9 => ?_)
  clear hw hS fs9 hq9 hf9
  try clear locb Hb fb Lb
  have hw := hw9
  clear hw9
  obtain rfl : r9 = 400 := hp.1
  have hS : Wc g q9o rS88 88 La fa := hp.2
  clear hp
  refine lv_bipush (v := 100) hx hb dL_rows_437 (by decide) ?_
  refine lv_iload_n hx hb dL_rows_439 rfl (lv_at hl 0 rfl) ?_
  refine lv_imul hx hb dL_rows_440 ?_
  refine lv_topi (fun z9 hz9 => ?_)
  obtain rfl : z9 = 400 := hz9.trans (by decide)
  refine lv_icmp_eq (tgt := 446) hx hb dL_rows_441 (by decide) (fun _ => ?_) (fun h9 => absurd h9 (by decide))
  refine lv_iinc (v := 5) (lv' := [(1, .int 5), (0, .ref q9o)]) hx hb dL_rows_446 hl (k := 0) rfl (by decide) (by decide) rfl (fun ls hl => ?_)
  refine lv_goto (tgt := 425) hx hb dL_rows_449 (by decide) ?_
  refine lv_iload_n hx hb dL_rows_425 rfl (lv_at hl 0 rfl) ?_
  refine lv_bipush (v := 8) hx hb dL_rows_426 (by decide) ?_
  refine lv_icmp_ge (tgt := 452) hx hb dL_rows_428 (by decide) (fun h9 => absurd h9 (by decide)) (fun _ => ?_)
  refine lv_aload_n hx hb dL_rows_431 rfl (lv_at hl 1 rfl) ?_
  refine lv_bipush (v := 100) hx hb dL_rows_432 (by decide) ?_
  obtain ⟨fs9, hq9, hf9⟩ := hS.rcv
  refine px_ic hw (vx_runV (As := [.int 100]) (rest := []) CF (z_pass l hst g _ _ hS (by decide) 100 (by decide +kernel) (by decide +kernel) (by decide +kernel) (v := 500) (by decide +kernel) (S2 := rS89) rfl _) (cwV 1 hts gL_rows_X6_pass rfl rfl rfl (by decide +kernel) ⟨Nat.le_of_ble_eq_true rfl, Nat.le_of_ble_eq_true rfl⟩) (pm_preV hw hs (pm_recv hw hq9 hf9 rfl)) rfl rfl hl.1 rfl (lv_room (Nat.le_of_ble_eq_true rfl)) dL_rows_434 ⟨Nat.le_of_ble_eq_true rfl, Nat.le_of_ble_eq_true rfl⟩) (fun E9 ce9 q9 L9 f9 H9 locs9 he9 _ _ _ _ => False.elim he9) (fun r9 Lb fb Hb locb hp hw9 => ?_)
  clear hw hS fs9 hq9 hf9
  try clear loca Ha fa La
  have hw := hw9
  clear hw9
  obtain rfl : r9 = 500 := hp.1
  have hS : Wc g q9o rS89 89 Lb fb := hp.2
  clear hp
  refine lv_bipush (v := 100) hx hb dL_rows_437 (by decide) ?_
  refine lv_iload_n hx hb dL_rows_439 rfl (lv_at hl 0 rfl) ?_
  refine lv_imul hx hb dL_rows_440 ?_
  refine lv_topi (fun z9 hz9 => ?_)
  obtain rfl : z9 = 500 := hz9.trans (by decide)
  refine lv_icmp_eq (tgt := 446) hx hb dL_rows_441 (by decide) (fun _ => ?_) (fun h9 => absurd h9 (by decide))
  refine lv_iinc (v := 6) (lv' := [(1, .int 6), (0, .ref q9o)]) hx hb dL_rows_446 hl (k := 0) rfl (by decide) (by decide) rfl (fun ls hl => ?_)
  refine lv_goto (tgt := 425) hx hb dL_rows_449 (by decide) ?_
  refine lv_iload_n hx hb dL_rows_425 rfl (lv_at hl 0 rfl) ?_
  refine lv_bipush (v := 8) hx hb dL_rows_426 (by decide) ?_
  refine lv_icmp_ge (tgt := 452) hx hb dL_rows_428 (by decide) (fun h9 => absurd h9 (by decide)) (fun _ => ?_)
  refine lv_aload_n hx hb dL_rows_431 rfl (lv_at hl 1 rfl) ?_
  refine lv_bipush (v := 100) hx hb dL_rows_432 (by decide) ?_
  obtain ⟨fs9, hq9, hf9⟩ := hS.rcv
  refine px_ic hw (vx_runV (As := [.int 100]) (rest := []) CF (z_pass l hst g _ _ hS (by decide) 100 (by decide +kernel) (by decide +kernel) (by decide +kernel) (v := 600) (by decide +kernel) (S2 := rS90) rfl _) (cwV 1 hts gL_rows_X6_pass rfl rfl rfl (by decide +kernel) ⟨Nat.le_of_ble_eq_true rfl, Nat.le_of_ble_eq_true rfl⟩) (pm_preV hw hs (pm_recv hw hq9 hf9 rfl)) rfl rfl hl.1 rfl (lv_room (Nat.le_of_ble_eq_true rfl)) dL_rows_434 ⟨Nat.le_of_ble_eq_true rfl, Nat.le_of_ble_eq_true rfl⟩) (fun E9 ce9 q9 L9 f9 H9 locs9 he9 _ _ _ _ => False.elim he9) (fun r9 La fa Ha loca hp hw9 => ?_)
  clear hw hS fs9 hq9 hf9
  try clear locb Hb fb Lb
  have hw := hw9
  clear hw9
  obtain rfl : r9 = 600 := hp.1
  have hS : Wc g q9o rS90 90 La fa := hp.2
  clear hp
  refine lv_bipush (v := 100) hx hb dL_rows_437 (by decide) ?_
  refine lv_iload_n hx hb dL_rows_439 rfl (lv_at hl 0 rfl) ?_
  refine lv_imul hx hb dL_rows_440 ?_
  refine lv_topi (fun z9 hz9 => ?_)
  obtain rfl : z9 = 600 := hz9.trans (by decide)
  refine lv_icmp_eq (tgt := 446) hx hb dL_rows_441 (by decide) (fun _ => ?_) (fun h9 => absurd h9 (by decide))
  refine lv_iinc (v := 7) (lv' := [(1, .int 7), (0, .ref q9o)]) hx hb dL_rows_446 hl (k := 0) rfl (by decide) (by decide) rfl (fun ls hl => ?_)
  refine lv_goto (tgt := 425) hx hb dL_rows_449 (by decide) ?_
  refine lv_iload_n hx hb dL_rows_425 rfl (lv_at hl 0 rfl) ?_
  refine lv_bipush (v := 8) hx hb dL_rows_426 (by decide) ?_
  refine lv_icmp_ge (tgt := 452) hx hb dL_rows_428 (by decide) (fun h9 => absurd h9 (by decide)) (fun _ => ?_)
  refine lv_aload_n hx hb dL_rows_431 rfl (lv_at hl 1 rfl) ?_
  refine lv_bipush (v := 100) hx hb dL_rows_432 (by decide) ?_
  obtain ⟨fs9, hq9, hf9⟩ := hS.rcv
  refine px_ic hw (vx_runV (As := [.int 100]) (rest := []) CF (z_pass l hst g _ _ hS (by decide) 100 (by decide +kernel) (by decide +kernel) (by decide +kernel) (v := 700) (by decide +kernel) (S2 := rS91) rfl _) (cwV 1 hts gL_rows_X6_pass rfl rfl rfl (by decide +kernel) ⟨Nat.le_of_ble_eq_true rfl, Nat.le_of_ble_eq_true rfl⟩) (pm_preV hw hs (pm_recv hw hq9 hf9 rfl)) rfl rfl hl.1 rfl (lv_room (Nat.le_of_ble_eq_true rfl)) dL_rows_434 ⟨Nat.le_of_ble_eq_true rfl, Nat.le_of_ble_eq_true rfl⟩) (fun E9 ce9 q9 L9 f9 H9 locs9 he9 _ _ _ _ => False.elim he9) (fun r9 Lb fb Hb locb hp hw9 => ?_)
  clear hw hS fs9 hq9 hf9
  try clear loca Ha fa La
  have hw := hw9
  clear hw9
  obtain rfl : r9 = 700 := hp.1
  have hS : Wc g q9o rS91 91 Lb fb := hp.2
  clear hp
  refine lv_bipush (v := 100) hx hb dL_rows_437 (by decide) ?_
  refine lv_iload_n hx hb dL_rows_439 rfl (lv_at hl 0 rfl) ?_
  refine lv_imul hx hb dL_rows_440 ?_
  refine lv_topi (fun z9 hz9 => ?_)
  obtain rfl : z9 = 700 := hz9.trans (by decide)
  refine lv_icmp_eq (tgt := 446) hx hb dL_rows_441 (by decide) (fun _ => ?_) (fun h9 => absurd h9 (by decide))
  refine lv_iinc (v := 8) (lv' := [(1, .int 8), (0, .ref q9o)]) hx hb dL_rows_446 hl (k := 0) rfl (by decide) (by decide) rfl (fun ls hl => ?_)
  refine lv_goto (tgt := 425) hx hb dL_rows_449 (by decide) ?_
  refine lv_iload_n hx hb dL_rows_425 rfl (lv_at hl 0 rfl) ?_
  refine lv_bipush (v := 8) hx hb dL_rows_426 (by decide) ?_
  refine lv_icmp_ge (tgt := 452) hx hb dL_rows_428 (by decide) (fun _ => ?_) (fun h9 => absurd h9 (by decide))
  refine lv_aload_n hx hb dL_rows_452 rfl (lv_at hl 1 rfl) ?_
  obtain ⟨fs9, hq9, hf9⟩ := hS.rcv
  refine pc_i hw (va_runV (As := []) (rest := []) CF (z_changes l g _ _ hS (v := 60) (by decide +kernel) _) (cwV 0 hts gL_rows_X6_changes rfl rfl rfl (by decide +kernel) ⟨Nat.le_of_ble_eq_true rfl, Nat.le_of_ble_eq_true rfl⟩) (pm_preV hw hs (pm_recv hw hq9 hf9 rfl)) rfl rfl hl.1 rfl (lv_room (Nat.le_of_ble_eq_true rfl)) dL_rows_453 ⟨Nat.le_of_ble_eq_true rfl, Nat.le_of_ble_eq_true rfl⟩) (fun r9 La fa Ha loca hp hw9 => ?_)
  clear hw hS fs9 hq9 hf9
  try clear locb Hb fb Lb
  have hw := hw9
  clear hw9
  obtain rfl : r9 = 60 := hp.1
  have hS : Wc g q9o rS91 91 La fa := hp.2
  clear hp
  refine lv_bipush (v := 60) hx hb dL_rows_456 (by decide) ?_
  refine lv_icmp_ne (tgt := 526) hx hb dL_rows_458 (by decide) (fun h9 => absurd h9 (by decide)) (fun _ => ?_)
  refine lv_aload_n hx hb dL_rows_461 rfl (lv_at hl 1 rfl) ?_
  refine lv_iconst (v := 5) hx hb dL_rows_462 (by decide) ?_
  refine lv_iconst (v := 0) hx hb dL_rows_463 (by decide) ?_
  refine lv_iconst (v := 0) hx hb dL_rows_464 (by decide) ?_
  refine lv_iconst (v := 0) hx hb dL_rows_465 (by decide) ?_
  refine lv_iconst (v := 0) hx hb dL_rows_466 (by decide) ?_
  refine px_ic hw (vx_runSX (As := [.ref q9o, .int 5, .int 0, .int 0, .int 0, .int 0]) (rest := []) CF (za_can60 l hst g _ _ hS 0 (by decide +kernel) (by decide +kernel) (by decide) (by decide +kernel) _) (vx_cwSW 6 hts gL_rows_L_act rfl rfl rfl (by decide +kernel) ⟨Nat.le_of_ble_eq_true rfl, Nat.le_of_ble_eq_true rfl⟩) (pn_preS hw hs hN) rfl rfl hl.1 rfl (lv_room (Nat.le_of_ble_eq_true rfl)) dL_rows_467 ⟨Nat.le_of_ble_eq_true rfl, Nat.le_of_ble_eq_true rfl⟩) (fun E9 ce9 q9 L9 f9 H9 locs9 he9 _ _ _ _ => False.elim he9) (fun r9 Lb fb Hb locb hp hw9 => ?_)
  clear hw hS
  try clear loca Ha fa La
  have hw := hw9
  clear hw9
  obtain rfl : r9 = (-90000003) := hp.1
  have hS : Wc g q9o rS91 91 Lb fb := hp.2
  clear hp
  refine lv_ldc (v := (-90000003)) hx hb hown (hts (.constant RL 79 (-90000003)) (by decide +kernel)) dL_rows_470 ?_
  refine lv_icmp_ne (tgt := 526) hx hb dL_rows_472 (by decide) (fun h9 => absurd h9 (by decide)) (fun _ => ?_)
  refine lv_aload_n hx hb dL_rows_475 rfl (lv_at hl 1 rfl) ?_
  refine lv_bipush (v := 59) hx hb dL_rows_476 (by decide) ?_
  obtain ⟨fs9, hq9, hf9⟩ := hS.rcv
  refine px_ic hw (vx_runV (As := [.int 59]) (rest := []) CF (z_takeBack l hst g _ _ hS 59 (by decide +kernel) (c := (1, 3, 0, 59, 20, 0, 0)) rfl (by decide +kernel) (v := 0) (by decide +kernel) (S2 := rS92) rfl _) (cwV 1 hts gL_rows_X6_takeBack rfl rfl rfl (by decide +kernel) ⟨Nat.le_of_ble_eq_true rfl, Nat.le_of_ble_eq_true rfl⟩) (pm_preV hw hs (pm_recv hw hq9 hf9 rfl)) rfl rfl hl.1 rfl (lv_room (Nat.le_of_ble_eq_true rfl)) dL_rows_478 ⟨Nat.le_of_ble_eq_true rfl, Nat.le_of_ble_eq_true rfl⟩) (fun E9 ce9 q9 L9 f9 H9 locs9 he9 _ _ _ _ => False.elim he9) (fun r9 La fa Ha loca hp hw9 => ?_)
  clear hw hS fs9 hq9 hf9
  try clear locb Hb fb Lb
  have hw := hw9
  clear hw9
  obtain rfl : r9 = 0 := hp.1
  have hS : Wc g q9o rS92 92 La fa := hp.2
  clear hp
  refine lv_if_ne (tgt := 526) hx hb dL_rows_481 (by decide) (fun h9 => absurd h9 (by decide)) (fun _ => ?_)
  refine lv_aload_n hx hb dL_rows_484 rfl (lv_at hl 1 rfl) ?_
  refine lv_iconst (v := 2) hx hb dL_rows_485 (by decide) ?_
  obtain ⟨fs9, hq9, hf9⟩ := hS.rcv
  refine px_ic hw (vx_runV (As := [.int 2]) (rest := []) CF (z_bill l hst g _ _ hS 2 (by decide +kernel) rY92_2_700 (pd := 0) (pm := 998) (v := 998) (by decide +kernel) (by decide +kernel) (by decide +kernel) (S2 := rS93) rfl _) (cwV 1 hts gL_rows_X6_bill rfl rfl rfl (by decide +kernel) ⟨Nat.le_of_ble_eq_true rfl, Nat.le_of_ble_eq_true rfl⟩) (pm_preV hw hs (pm_recv hw hq9 hf9 rfl)) rfl rfl hl.1 rfl (lv_room (Nat.le_of_ble_eq_true rfl)) dL_rows_486 ⟨Nat.le_of_ble_eq_true rfl, Nat.le_of_ble_eq_true rfl⟩) (fun E9 ce9 q9 L9 f9 H9 locs9 he9 _ _ _ _ => False.elim he9) (fun r9 Lb fb Hb locb hp hw9 => ?_)
  clear hw hS fs9 hq9 hf9
  try clear loca Ha fa La
  have hw := hw9
  clear hw9
  obtain rfl : r9 = 998 := hp.1
  have hS : Wc g q9o rS93 93 Lb fb := hp.2
  clear hp
  refine lv_sipush (v := 998) hx hb dL_rows_489 (by decide) ?_
  refine lv_icmp_ne (tgt := 526) hx hb dL_rows_492 (by decide) (fun h9 => absurd h9 (by decide)) (fun _ => ?_)
  refine lv_aload_n hx hb dL_rows_495 rfl (lv_at hl 1 rfl) ?_
  refine lv_iconst (v := 2) hx hb dL_rows_496 (by decide) ?_
  obtain ⟨fs9, hq9, hf9⟩ := hS.rcv
  refine px_ic hw (vx_runV (As := [.int 2]) (rest := []) CF (z_billed l hst g _ _ hS 2 (by decide +kernel) (v := 998) (by decide +kernel) _) (cwV 1 hts gL_rows_X6_billed rfl rfl rfl (by decide +kernel) ⟨Nat.le_of_ble_eq_true rfl, Nat.le_of_ble_eq_true rfl⟩) (pm_preV hw hs (pm_recv hw hq9 hf9 rfl)) rfl rfl hl.1 rfl (lv_room (Nat.le_of_ble_eq_true rfl)) dL_rows_497 ⟨Nat.le_of_ble_eq_true rfl, Nat.le_of_ble_eq_true rfl⟩) (fun E9 ce9 q9 L9 f9 H9 locs9 he9 _ _ _ _ => False.elim he9) (fun r9 La fa Ha loca hp hw9 => ?_)
  clear hw hS fs9 hq9 hf9
  try clear locb Hb fb Lb
  have hw := hw9
  clear hw9
  obtain rfl : r9 = 998 := hp.1
  have hS : Wc g q9o rS93 93 La fa := hp.2
  clear hp
  refine lv_sipush (v := 998) hx hb dL_rows_500 (by decide) ?_
  refine lv_icmp_ne (tgt := 526) hx hb dL_rows_503 (by decide) (fun h9 => absurd h9 (by decide)) (fun _ => ?_)
  refine lv_aload_n hx hb dL_rows_506 rfl (lv_at hl 1 rfl) ?_
  refine lv_iconst (v := 3) hx hb dL_rows_507 (by decide) ?_
  obtain ⟨fs9, hq9, hf9⟩ := hS.rcv
  refine px_ic hw (vx_runV (As := [.int 3]) (rest := []) CF (z_billed l hst g _ _ hS 3 (by decide +kernel) (v := 0) (by decide +kernel) _) (cwV 1 hts gL_rows_X6_billed rfl rfl rfl (by decide +kernel) ⟨Nat.le_of_ble_eq_true rfl, Nat.le_of_ble_eq_true rfl⟩) (pm_preV hw hs (pm_recv hw hq9 hf9 rfl)) rfl rfl hl.1 rfl (lv_room (Nat.le_of_ble_eq_true rfl)) dL_rows_508 ⟨Nat.le_of_ble_eq_true rfl, Nat.le_of_ble_eq_true rfl⟩) (fun E9 ce9 q9 L9 f9 H9 locs9 he9 _ _ _ _ => False.elim he9) (fun r9 Lb fb Hb locb hp hw9 => ?_)
  clear hw hS fs9 hq9 hf9
  try clear loca Ha fa La
  have hw := hw9
  clear hw9
  obtain rfl : r9 = 0 := hp.1
  have hS : Wc g q9o rS93 93 Lb fb := hp.2
  clear hp
  refine lv_if_ne (tgt := 526) hx hb dL_rows_511 (by decide) (fun h9 => absurd h9 (by decide)) (fun _ => ?_)
  refine lv_aload_n hx hb dL_rows_514 rfl (lv_at hl 1 rfl) ?_
  refine lv_iconst (v := 4) hx hb dL_rows_515 (by decide) ?_
  refine px_ic hw (vx_runS (As := [.ref q9o, .int 4]) (rest := []) CF (z_refuses l hst g _ _ hS (by decide) (by decide +kernel) (by decide +kernel) _) (va_cwS 2 hts gL_rows_L_refuses rfl rfl rfl (by decide +kernel) ⟨Nat.le_of_ble_eq_true rfl, Nat.le_of_ble_eq_true rfl⟩) (pn_preS hw hs hN) rfl rfl hl.1 rfl (lv_room (Nat.le_of_ble_eq_true rfl)) dL_rows_516 ⟨Nat.le_of_ble_eq_true rfl, Nat.le_of_ble_eq_true rfl⟩) (fun E9 ce9 q9 L9 f9 H9 locs9 he9 _ _ _ _ => False.elim he9) (fun r9 La fa Ha loca hp hw9 => ?_)
  clear hw hS
  try clear locb Hb fb Lb
  have hw := hw9
  clear hw9
  obtain rfl : r9 = 1 := hp.1
  have hS : Wc g q9o rS93 93 La fa := hp.2
  clear hp
  refine lv_if_eq (tgt := 526) hx hb dL_rows_519 (by decide) (fun h9 => absurd h9 (by decide)) (fun _ => ?_)
  refine lv_iconst (v := 1) hx hb dL_rows_522 (by decide) ?_
  refine lv_goto (tgt := 527) hx hb dL_rows_523 (by decide) ?_
  exact vx_ret (pr_i (v := 1) hx hb hr hlocks hw rfl ⟨Nat.le_of_ble_eq_true rfl, Nat.le_of_ble_eq_true rfl⟩ rfl dL_rows_527)
end ROWS
