/-! the law's cases, behind -/
set_option maxHeartbeats 4000000 in
set_option maxRecDepth 100000 in
theorem law_laidAnew {p : Program} {e : Env} {s : State} {m : MethodId} {below : List Frame} {meth : Method} {c : Code} {l : Launch} {b L : Nat} {xs : Nat → Int32} {Q : State → Prop} {g : GE} {n : Nat} {H : Heap} {locs : List Loc} {ls : Array Slot} (hst : l.stackTraces = false) (hL : L ≤ 2560) (C0 : lw_At p s m meth c b L xs) (hs : Sx g (lwA s) s s.heap) (hN : NcU s) (hn : 5 * n + 5 ≤ L) (I : LawI g s b n H locs ls) (ih : ∀ (H1 : Heap) (locs1 : List Loc) (ls1 : Array Slot), LawI g s b (n + 1) H1 locs1 ls1 → W p l e room_1 s m #[Value.ref b] below meth c H1 locs1 (39 + 8 * (n + 1)) (5828 + 524 * (n + 1)) Q (F0 m 23 ls1 [])) : W p l e room_1 s m #[Value.ref b] below meth c H locs (39 + 8 * n) (5828 + 524 * n) Q (F0 m 730 ls []) := by
  obtain ⟨hx, hb, hr, hml, hown0, hts0, hX, hbl, hlocks, hgv⟩ := id C0
  obtain ⟨a, am, k, mm, t0, o, Lc, Lm, f, ro, hw, ⟨hk, hi, hle⟩, hm, hR, hfo, hl⟩ := I
  have hbA : ¬ lwA s b := Nat.not_le.mpr hbl
  have hts : ∀ w ∈ wsL_law, w.before #[Value.ref b] s = true := fun w h => hts0 w (wsL_law_in w h)
  have hown : s.vm.findClass RL = some m.cls := hown0
  have CF := (⟨hx, hb, hml, hown, hts⟩ : CallFix p m c cL_law 7 s #[Value.ref b] wsL_law RL)
  have hP := Pt_r hw.nodup
  have ho : o ∉ Lc := fun h => (List.nodup_append.mp hP.2.2.1).2.2 o h o (List.mem_singleton.mpr rfl) rfl
  refine lv_aload_n hx hb dL_law_730 rfl (lv_at hl 1 rfl) ?_
  refine lv_aload_n hx hb dL_law_731 rfl (lv_at hl 0 rfl) ?_
  refine lv_iload hx hb dL_law_732 (lv_at hl 4 rfl) ?_
  refine lv_iconst (v := 1) hx hb dL_law_734 (by decide) ?_
  refine lv_iadd hx hb dL_law_735 ?_
  refine lw_sld hx hb hX hbl hbA hw hL (q := 5 * n + 1) (nI_add (5 * n) 1) (by omega) dL_law_736 ?_
  refine lv_aload_n hx hb dL_law_737 rfl (lv_at hl 3 rfl) ?_
  refine pfx_ic hP hw (vx_runSX (As := [.ref (a 0), .int (xs (5 * n + 1)), .ref o]) (rest := []) CF (w_laidAnew l g Lc f (a 0) o _ ro (xs (5 * n + 1)) _ _ (c_laidAnew l hst g Lc f a k hk hi (xs (5 * n + 1))) (fun E u h => by obtain ⟨h, -⟩ := h; rcases h with ⟨-, rfl⟩ | ⟨-, h⟩ <;> first | (exact rfl) | (exact False.elim h)) (hk.q (i := 0) (dC (by decide))) (hk.f (i := 0) (dC (by decide))) ho hfo _) (vx_cwSW 3 hts gL_law_L_laidAnew rfl rfl rfl (by decide +kernel) ⟨Nat.le_of_ble_eq_true rfl, Nat.le_of_ble_eq_true rfl⟩) (pn_preS (hw.sub hP.1 hP.2.2.1) hs hN) rfl rfl hl.1 rfl (lv_room (Nat.le_of_ble_eq_true rfl)) dL_law_738 ⟨by show _ ≤ 601024; omega, by show _ ≤ 7293034; omega⟩) (fun E ce q9 La9 f9 H9 locs9 he _ _ _ _ _ => False.elim he) (fun r Lx fx H locs hp hdx hw => ?_)
  obtain ⟨La, fc, ro1, hoLa, hu, hfc, hfo1, hW⟩ := hp
  obtain rfl : Lx = La ++ [o] := hu
  refine lv_istore (lv' := [(5, .int r), (0, .ref b), (1, .ref (a 0)), (2, .ref (am 0)), (3, .ref o), (4, .int (nI (5 * n)))]) hx hb dL_law_741 hl (by decide) rfl (fun ls hl => ?_)
  have hm1 : MW g am mm Lm (mix Lm f fx) := hm.mixR
  have hP1 := Pt_r hw.nodup
  refine lv_aload_n hx hb dL_law_743 rfl (lv_at hl 3 rfl) ?_
  refine lv_aload_n hx hb dL_law_744 rfl (lv_at hl 1 rfl) ?_
  refine lv_iload hx hb dL_law_745 (lv_at hl 5 rfl) ?_
  refine lv_iconst (v := 1) hx hb dL_law_747 (by decide) ?_
  refine lv_iadd hx hb dL_law_748 ?_
  refine lw_sld hx hb hX hbl hbA hw hL (q := 5 * n + 1) (nI_add (5 * n) 1) (by omega) dL_law_749 ?_
  refine pf_i hP1 hw (va_runV (As := [.int (xs (5 * n + 1))]) (rest := []) CF (m_laidAnew l g Lm _ am mm hm1 (kP k) t0 (kC k) hR.1 (xs (5 * n + 1)) _) (cwV 1 hts gL_law_X7_laidAnew rfl rfl rfl (by decide +kernel) ⟨Nat.le_of_ble_eq_true rfl, Nat.le_of_ble_eq_true rfl⟩) (pm_preV (hw.sub hP1.1 hP1.2.2.1) hs (pm_recv (hw.sub hP1.1 hP1.2.2.1) (hm1.q (i := 0) (by decide)) (hm1.f (i := 0) (by decide)) rfl)) rfl rfl hl.1 rfl (lv_room (Nat.le_of_ble_eq_true rfl)) dL_law_750 ⟨by show _ ≤ 601024; omega, by show _ ≤ 7293034; omega⟩) (fun bb Ly fy H locs hp hdy hw => ?_)
  obtain ⟨hJ, hans⟩ := j_laidAnew hi hle hR hk hW hp
  obtain ⟨hLy, a9, k9, m9, t9, ha9, ⟨hk9, hi9, hle9⟩, hm9, hR9, h49⟩ := hJ
  obtain rfl : Lm = Ly := hLy.symm
  refine lv_istore (lv' := [(6, .int bb), (5, .int r), (0, .ref b), (1, .ref (a 0)), (2, .ref (am 0)), (3, .ref o), (4, .int (nI (5 * n)))]) hx hb dL_law_753 hl (by decide) rfl (fun ls hl => ?_)
  have hfc2 : ∀ q, q ∈ La → mix (La ++ [o]) (mix Lm f fx) fy q = fc q := fun q hq => by
    show (if q ∈ La ++ [o] then (if q ∈ Lm then f q else fx q) else fy q) = fc q
    rw [if_pos (List.mem_append_left _ hq), if_neg (hdx q (List.mem_append_left _ hq))]
    exact hfc q hq
  have ho2 : mix (La ++ [o]) (mix Lm f fx) fy o = .inl (g.2.1 4, 1, .inr (.inl ro1)) := by
    show (if o ∈ La ++ [o] then (if o ∈ Lm then f o else fx o) else fy o) = _
    rw [if_pos (List.mem_append_right _ (List.mem_singleton.mpr rfl)), if_neg (hdx o (List.mem_append_right _ (List.mem_singleton.mpr rfl)))]
    exact hfo1
  have hm2 : MW g am m9 Lm (mix (La ++ [o]) (mix Lm f fx) fy) := FW.mixL hm9 hdy
  have hk2 : CW g a9 k9 La (mix (La ++ [o]) (mix Lm f fx) fy) := FW.cong hk9 hfc2
  generalize mix (La ++ [o]) (mix Lm f fx) fy = F at hw hk2 hm2 ho2
  have hP2 := Pt_l hw.nodup
  refine lv_aload_n hx hb dL_law_755 rfl (lv_at hl 4 rfl) ?_
  refine pf_i hP2 hw (va_runV (As := []) (rest := []) CF (m_thrown l g Lm F am m9 hm2 _) (cwV 0 hts gL_law_X7_thrown rfl rfl rfl (by decide +kernel) ⟨Nat.le_of_ble_eq_true rfl, Nat.le_of_ble_eq_true rfl⟩) (pm_preV (hw.sub hP2.1 hP2.2.2.1) hs (pm_recv (hw.sub hP2.1 hP2.2.2.1) (hm2.q (i := 0) (by decide)) (hm2.f (i := 0) (by decide)) rfl)) rfl rfl hl.1 rfl (lv_room (Nat.le_of_ble_eq_true rfl)) dL_law_756 ⟨by show _ ≤ 601024; omega, by show _ ≤ 7293034; omega⟩) (fun th Lz fz H locs hp hdz hw => ?_)
  obtain ⟨hth, hu⟩ := hp
  obtain ⟨e1, e2⟩ := Prod.mk.inj hu
  obtain rfl := e1.symm
  obtain rfl := e2.symm
  rw [mix_same] at hw
  rw [h49] at hth
  obtain rfl : r = th := hth.symm
  refine W.widen (k := 39 + 8 * (n + 1)) (n := 5828 + 524 * (n + 1)) (by omega) (by omega) ?_
  have fin : W p l e room_1 s m #[Value.ref b] below meth c H locs (39 + 8 * (n + 1)) (5828 + 524 * (n + 1)) Q (F0 m 783 ls []) := by
    refine lv_goto (tgt := 1521) hx hb dL_law_783 (by decide) ?_
    refine lv_iinc (v := nI (5 * (n + 1))) (lv' := [(4, .int (nI (5 * (n + 1)))), (6, .int bb), (5, .int r), (0, .ref b), (1, .ref (a 0)), (2, .ref (am 0)), (3, .ref o)]) hx hb dL_law_1521 hl (k := 6) rfl (nI_add (5 * n) 5) (by decide) rfl (fun ls hl => ?_)
    refine lv_goto (tgt := 23) hx hb dL_law_1524 (by decide) ?_
    exact ih _ _ _ ⟨a9, am, k9, m9, t9, o, La, Lm, F, ro1, hw, ⟨hk2, hi9, hle9⟩, hm2, hR9, ho2, by rw [ha9]; exact lv_sub hl [3, 4, 5, 6, 0] rfl⟩
  refine lv_iload hx hb dL_law_759 (lv_at hl 1 rfl) ?_
  refine lv_icmp_eq (tgt := 766) hx hb dL_law_761 (by decide) (fun _ => ?_) (fun h => absurd rfl h)
  refine lv_iload hx hb dL_law_766 (lv_at hl 1 rfl) ?_
  refine lv_if_ne (tgt := 783) hx hb dL_law_768 (by decide) (fun _ => fin) (fun h0 => ?_)
  refine lv_aload_n hx hb dL_law_771 rfl (lv_at hl 5 rfl) ?_
  refine lv_iconst (v := 0) hx hb dL_law_772 (by decide) ?_
  refine pm_lald (n := 1) (r := ro1) hx hb hw (List.mem_append_right _ (List.mem_append_right _ (List.mem_singleton.mpr rfl))) ho2 (j := 0) rfl (by unfold vp_in; decide) dL_law_773 ?_
  refine lv_iload hx hb dL_law_774 (lv_at hl 0 rfl) ?_
  refine lv_i2l (v := bb.toInt64) hx hb dL_law_776 rfl ?_
  refine W.lcmp hx hb dL_law_777 ?_
  refine lv_if_eq (tgt := 783) hx hb dL_law_778 (by decide) (fun _ => fin) (fun h2 => absurd ((lg_cmp_eq _ _).mpr (hans h0)) h2)

set_option maxHeartbeats 4000000 in
set_option maxRecDepth 100000 in
theorem law_value {p : Program} {e : Env} {s : State} {m : MethodId} {below : List Frame} {meth : Method} {c : Code} {l : Launch} {b L : Nat} {xs : Nat → Int32} {Q : State → Prop} {g : GE} {n : Nat} {H : Heap} {locs : List Loc} {ls : Array Slot} (hst : l.stackTraces = false) (hL : L ≤ 2560) (C0 : lw_At p s m meth c b L xs) (hs : Sx g (lwA s) s s.heap) (hN : NcU s) (hn : 5 * n + 5 ≤ L) (I : LawI g s b n H locs ls) (ih : ∀ (H1 : Heap) (locs1 : List Loc) (ls1 : Array Slot), LawI g s b (n + 1) H1 locs1 ls1 → W p l e room_1 s m #[Value.ref b] below meth c H1 locs1 (39 + 8 * (n + 1)) (5828 + 524 * (n + 1)) Q (F0 m 23 ls1 [])) : W p l e room_1 s m #[Value.ref b] below meth c H locs (39 + 8 * n) (5828 + 524 * n) Q (F0 m 786 ls []) := by
  obtain ⟨hx, hb, hr, hml, hown0, hts0, hX, hbl, hlocks, hgv⟩ := id C0
  obtain ⟨a, am, k, mm, t0, o, Lc, Lm, f, ro, hw, ⟨hk, hi, hle⟩, hm, hR, hfo, hl⟩ := I
  have hbA : ¬ lwA s b := Nat.not_le.mpr hbl
  have hts : ∀ w ∈ wsL_law, w.before #[Value.ref b] s = true := fun w h => hts0 w (wsL_law_in w h)
  have hown : s.vm.findClass RL = some m.cls := hown0
  have CF := (⟨hx, hb, hml, hown, hts⟩ : CallFix p m c cL_law 7 s #[Value.ref b] wsL_law RL)
  have hP := Pt_r hw.nodup
  have ho : o ∉ Lc := fun h => (List.nodup_append.mp hP.2.2.1).2.2 o h o (List.mem_singleton.mpr rfl) rfl
  refine lv_aload_n hx hb dL_law_786 rfl (lv_at hl 1 rfl) ?_
  refine lv_aload_n hx hb dL_law_787 rfl (lv_at hl 0 rfl) ?_
  refine lv_iload hx hb dL_law_788 (lv_at hl 4 rfl) ?_
  refine lv_iconst (v := 1) hx hb dL_law_790 (by decide) ?_
  refine lv_iadd hx hb dL_law_791 ?_
  refine lw_sld hx hb hX hbl hbA hw hL (q := 5 * n + 1) (nI_add (5 * n) 1) (by omega) dL_law_792 ?_
  refine lv_aload_n hx hb dL_law_793 rfl (lv_at hl 0 rfl) ?_
  refine lv_iload hx hb dL_law_794 (lv_at hl 4 rfl) ?_
  refine lv_iconst (v := 2) hx hb dL_law_796 (by decide) ?_
  refine lv_iadd hx hb dL_law_797 ?_
  refine lw_sld hx hb hX hbl hbA hw hL (q := 5 * n + 2) (nI_add (5 * n) 2) (by omega) dL_law_798 ?_
  refine lv_aload_n hx hb dL_law_799 rfl (lv_at hl 0 rfl) ?_
  refine lv_iload hx hb dL_law_800 (lv_at hl 4 rfl) ?_
  refine lv_iconst (v := 3) hx hb dL_law_802 (by decide) ?_
  refine lv_iadd hx hb dL_law_803 ?_
  refine lw_sld hx hb hX hbl hbA hw hL (q := 5 * n + 3) (nI_add (5 * n) 3) (by omega) dL_law_804 ?_
  refine lv_aload_n hx hb dL_law_805 rfl (lv_at hl 0 rfl) ?_
  refine lv_iload hx hb dL_law_806 (lv_at hl 4 rfl) ?_
  refine lv_iconst (v := 4) hx hb dL_law_808 (by decide) ?_
  refine lv_iadd hx hb dL_law_809 ?_
  refine lw_sld hx hb hX hbl hbA hw hL (q := 5 * n + 4) (nI_add (5 * n) 4) (by omega) dL_law_810 ?_
  refine lv_aload_n hx hb dL_law_811 rfl (lv_at hl 3 rfl) ?_
  refine pfx_ic hP hw (vx_runSX (As := [.ref (a 0), .int (xs (5 * n + 1)), .int (xs (5 * n + 2)), .int (xs (5 * n + 3)), .int (xs (5 * n + 4)), .ref o]) (rest := []) CF (w_value l g Lc f (a 0) o _ ro (xs (5 * n + 1)) (xs (5 * n + 2)) (xs (5 * n + 3)) (xs (5 * n + 4)) _ _ (c_value l hst g Lc f a k hk hi (xs (5 * n + 1)) (xs (5 * n + 2)) (xs (5 * n + 3)) (xs (5 * n + 4))) (fun E u h => by obtain ⟨h, -⟩ := h; rcases h with ⟨-, rfl⟩ | ⟨-, ⟨-, rfl⟩ | ⟨-, ⟨-, rfl⟩ | ⟨-, ⟨-, rfl⟩ | ⟨-, h⟩⟩⟩⟩ <;> first | (exact Or.inl rfl) | (exact Or.inr (rfl)) | (exact False.elim h)) (hk.q (i := 0) (dC (by decide))) (hk.f (i := 0) (dC (by decide))) ho hfo _) (vx_cwSW 6 hts gL_law_L_value rfl rfl rfl (by decide +kernel) ⟨Nat.le_of_ble_eq_true rfl, Nat.le_of_ble_eq_true rfl⟩) (pn_preS (hw.sub hP.1 hP.2.2.1) hs hN) rfl rfl hl.1 rfl (lv_room (Nat.le_of_ble_eq_true rfl)) dL_law_812 ⟨by show _ ≤ 601024; omega, by show _ ≤ 7293034; omega⟩) (fun E ce q9 La9 f9 H9 locs9 he _ _ _ _ _ => False.elim he) (fun r Lx fx H locs hp hdx hw => ?_)
  obtain ⟨La, fc, ro1, hoLa, hu, hfc, hfo1, hW⟩ := hp
  obtain rfl : Lx = La ++ [o] := hu
  refine lv_istore (lv' := [(5, .int r), (0, .ref b), (1, .ref (a 0)), (2, .ref (am 0)), (3, .ref o), (4, .int (nI (5 * n)))]) hx hb dL_law_815 hl (by decide) rfl (fun ls hl => ?_)
  have hm1 : MW g am mm Lm (mix Lm f fx) := hm.mixR
  have hP1 := Pt_r hw.nodup
  refine lv_aload_n hx hb dL_law_817 rfl (lv_at hl 3 rfl) ?_
  refine lv_aload_n hx hb dL_law_818 rfl (lv_at hl 1 rfl) ?_
  refine lv_iload hx hb dL_law_819 (lv_at hl 5 rfl) ?_
  refine lv_iconst (v := 1) hx hb dL_law_821 (by decide) ?_
  refine lv_iadd hx hb dL_law_822 ?_
  refine lw_sld hx hb hX hbl hbA hw hL (q := 5 * n + 1) (nI_add (5 * n) 1) (by omega) dL_law_823 ?_
  refine lv_aload_n hx hb dL_law_824 rfl (lv_at hl 1 rfl) ?_
  refine lv_iload hx hb dL_law_825 (lv_at hl 5 rfl) ?_
  refine lv_iconst (v := 2) hx hb dL_law_827 (by decide) ?_
  refine lv_iadd hx hb dL_law_828 ?_
  refine lw_sld hx hb hX hbl hbA hw hL (q := 5 * n + 2) (nI_add (5 * n) 2) (by omega) dL_law_829 ?_
  refine lv_aload_n hx hb dL_law_830 rfl (lv_at hl 1 rfl) ?_
  refine lv_iload hx hb dL_law_831 (lv_at hl 5 rfl) ?_
  refine lv_iconst (v := 3) hx hb dL_law_833 (by decide) ?_
  refine lv_iadd hx hb dL_law_834 ?_
  refine lw_sld hx hb hX hbl hbA hw hL (q := 5 * n + 3) (nI_add (5 * n) 3) (by omega) dL_law_835 ?_
  refine lv_aload_n hx hb dL_law_836 rfl (lv_at hl 1 rfl) ?_
  refine lv_iload hx hb dL_law_837 (lv_at hl 5 rfl) ?_
  refine lv_iconst (v := 4) hx hb dL_law_839 (by decide) ?_
  refine lv_iadd hx hb dL_law_840 ?_
  refine lw_sld hx hb hX hbl hbA hw hL (q := 5 * n + 4) (nI_add (5 * n) 4) (by omega) dL_law_841 ?_
  refine pf_i hP1 hw (va_runV (As := [.int (xs (5 * n + 1)), .int (xs (5 * n + 2)), .int (xs (5 * n + 3)), .int (xs (5 * n + 4))]) (rest := []) CF (m_value l g Lm _ am mm hm1 (kP k) t0 (kC k) hR.1 hR.wh (xs (5 * n + 1)) (xs (5 * n + 2)) (xs (5 * n + 3)) (xs (5 * n + 4)) _) (cwV 4 hts gL_law_X7_value rfl rfl rfl (by decide +kernel) ⟨Nat.le_of_ble_eq_true rfl, Nat.le_of_ble_eq_true rfl⟩) (pm_preV (hw.sub hP1.1 hP1.2.2.1) hs (pm_recv (hw.sub hP1.1 hP1.2.2.1) (hm1.q (i := 0) (by decide)) (hm1.f (i := 0) (by decide)) rfl)) rfl rfl hl.1 rfl (lv_room (Nat.le_of_ble_eq_true rfl)) dL_law_842 ⟨by show _ ≤ 601024; omega, by show _ ≤ 7293034; omega⟩) (fun bb Ly fy H locs hp hdy hw => ?_)
  obtain ⟨hJ, hans⟩ := j_value hi hle hR hW hp
  obtain ⟨hLy, a9, k9, m9, t9, ha9, ⟨hk9, hi9, hle9⟩, hm9, hR9, h49⟩ := hJ
  obtain rfl : Lm = Ly := hLy.symm
  refine lv_istore (lv' := [(6, .int bb), (5, .int r), (0, .ref b), (1, .ref (a 0)), (2, .ref (am 0)), (3, .ref o), (4, .int (nI (5 * n)))]) hx hb dL_law_845 hl (by decide) rfl (fun ls hl => ?_)
  have hfc2 : ∀ q, q ∈ La → mix (La ++ [o]) (mix Lm f fx) fy q = fc q := fun q hq => by
    show (if q ∈ La ++ [o] then (if q ∈ Lm then f q else fx q) else fy q) = fc q
    rw [if_pos (List.mem_append_left _ hq), if_neg (hdx q (List.mem_append_left _ hq))]
    exact hfc q hq
  have ho2 : mix (La ++ [o]) (mix Lm f fx) fy o = .inl (g.2.1 4, 1, .inr (.inl ro1)) := by
    show (if o ∈ La ++ [o] then (if o ∈ Lm then f o else fx o) else fy o) = _
    rw [if_pos (List.mem_append_right _ (List.mem_singleton.mpr rfl)), if_neg (hdx o (List.mem_append_right _ (List.mem_singleton.mpr rfl)))]
    exact hfo1
  have hm2 : MW g am m9 Lm (mix (La ++ [o]) (mix Lm f fx) fy) := FW.mixL hm9 hdy
  have hk2 : CW g a9 k9 La (mix (La ++ [o]) (mix Lm f fx) fy) := FW.cong hk9 hfc2
  generalize mix (La ++ [o]) (mix Lm f fx) fy = F at hw hk2 hm2 ho2
  have hP2 := Pt_l hw.nodup
  refine lv_aload_n hx hb dL_law_847 rfl (lv_at hl 4 rfl) ?_
  refine pf_i hP2 hw (va_runV (As := []) (rest := []) CF (m_thrown l g Lm F am m9 hm2 _) (cwV 0 hts gL_law_X7_thrown rfl rfl rfl (by decide +kernel) ⟨Nat.le_of_ble_eq_true rfl, Nat.le_of_ble_eq_true rfl⟩) (pm_preV (hw.sub hP2.1 hP2.2.2.1) hs (pm_recv (hw.sub hP2.1 hP2.2.2.1) (hm2.q (i := 0) (by decide)) (hm2.f (i := 0) (by decide)) rfl)) rfl rfl hl.1 rfl (lv_room (Nat.le_of_ble_eq_true rfl)) dL_law_848 ⟨by show _ ≤ 601024; omega, by show _ ≤ 7293034; omega⟩) (fun th Lz fz H locs hp hdz hw => ?_)
  obtain ⟨hth, hu⟩ := hp
  obtain ⟨e1, e2⟩ := Prod.mk.inj hu
  obtain rfl := e1.symm
  obtain rfl := e2.symm
  rw [mix_same] at hw
  rw [h49] at hth
  obtain rfl : r = th := hth.symm
  refine W.widen (k := 39 + 8 * (n + 1)) (n := 5828 + 524 * (n + 1)) (by omega) (by omega) ?_
  have fin : W p l e room_1 s m #[Value.ref b] below meth c H locs (39 + 8 * (n + 1)) (5828 + 524 * (n + 1)) Q (F0 m 875 ls []) := by
    refine lv_goto (tgt := 1521) hx hb dL_law_875 (by decide) ?_
    refine lv_iinc (v := nI (5 * (n + 1))) (lv' := [(4, .int (nI (5 * (n + 1)))), (6, .int bb), (5, .int r), (0, .ref b), (1, .ref (a 0)), (2, .ref (am 0)), (3, .ref o)]) hx hb dL_law_1521 hl (k := 6) rfl (nI_add (5 * n) 5) (by decide) rfl (fun ls hl => ?_)
    refine lv_goto (tgt := 23) hx hb dL_law_1524 (by decide) ?_
    exact ih _ _ _ ⟨a9, am, k9, m9, t9, o, La, Lm, F, ro1, hw, ⟨hk2, hi9, hle9⟩, hm2, hR9, ho2, by rw [ha9]; exact lv_sub hl [3, 4, 5, 6, 0] rfl⟩
  refine lv_iload hx hb dL_law_851 (lv_at hl 1 rfl) ?_
  refine lv_icmp_eq (tgt := 858) hx hb dL_law_853 (by decide) (fun _ => ?_) (fun h => absurd rfl h)
  refine lv_iload hx hb dL_law_858 (lv_at hl 1 rfl) ?_
  refine lv_if_ne (tgt := 875) hx hb dL_law_860 (by decide) (fun _ => fin) (fun h0 => ?_)
  refine lv_aload_n hx hb dL_law_863 rfl (lv_at hl 5 rfl) ?_
  refine lv_iconst (v := 0) hx hb dL_law_864 (by decide) ?_
  refine pm_lald (n := 1) (r := ro1) hx hb hw (List.mem_append_right _ (List.mem_append_right _ (List.mem_singleton.mpr rfl))) ho2 (j := 0) rfl (by unfold vp_in; decide) dL_law_865 ?_
  refine lv_iload hx hb dL_law_866 (lv_at hl 0 rfl) ?_
  refine lv_i2l (v := bb.toInt64) hx hb dL_law_868 rfl ?_
  refine W.lcmp hx hb dL_law_869 ?_
  refine lv_if_eq (tgt := 875) hx hb dL_law_870 (by decide) (fun _ => fin) (fun h2 => absurd ((lg_cmp_eq _ _).mpr (hans h0)) h2)

set_option maxHeartbeats 4000000 in
set_option maxRecDepth 100000 in
theorem law_isCovered {p : Program} {e : Env} {s : State} {m : MethodId} {below : List Frame} {meth : Method} {c : Code} {l : Launch} {b L : Nat} {xs : Nat → Int32} {Q : State → Prop} {g : GE} {n : Nat} {H : Heap} {locs : List Loc} {ls : Array Slot} (hst : l.stackTraces = false) (hL : L ≤ 2560) (C0 : lw_At p s m meth c b L xs) (hs : Sx g (lwA s) s s.heap) (hN : NcU s) (hn : 5 * n + 5 ≤ L) (I : LawI g s b n H locs ls) (ih : ∀ (H1 : Heap) (locs1 : List Loc) (ls1 : Array Slot), LawI g s b (n + 1) H1 locs1 ls1 → W p l e room_1 s m #[Value.ref b] below meth c H1 locs1 (39 + 8 * (n + 1)) (5828 + 524 * (n + 1)) Q (F0 m 23 ls1 [])) : W p l e room_1 s m #[Value.ref b] below meth c H locs (39 + 8 * n) (5828 + 524 * n) Q (F0 m 878 ls []) := by
  obtain ⟨hx, hb, hr, hml, hown0, hts0, hX, hbl, hlocks, hgv⟩ := id C0
  obtain ⟨a, am, k, mm, t0, o, Lc, Lm, f, ro, hw, ⟨hk, hi, hle⟩, hm, hR, hfo, hl⟩ := I
  have hbA : ¬ lwA s b := Nat.not_le.mpr hbl
  have hts : ∀ w ∈ wsL_law, w.before #[Value.ref b] s = true := fun w h => hts0 w (wsL_law_in w h)
  have hown : s.vm.findClass RL = some m.cls := hown0
  have CF := (⟨hx, hb, hml, hown, hts⟩ : CallFix p m c cL_law 7 s #[Value.ref b] wsL_law RL)
  have hP := Pt_r hw.nodup
  have ho : o ∉ Lc := fun h => (List.nodup_append.mp hP.2.2.1).2.2 o h o (List.mem_singleton.mpr rfl) rfl
  refine lv_aload_n hx hb dL_law_878 rfl (lv_at hl 1 rfl) ?_
  refine lv_aload_n hx hb dL_law_879 rfl (lv_at hl 0 rfl) ?_
  refine lv_iload hx hb dL_law_880 (lv_at hl 4 rfl) ?_
  refine lv_iconst (v := 1) hx hb dL_law_882 (by decide) ?_
  refine lv_iadd hx hb dL_law_883 ?_
  refine lw_sld hx hb hX hbl hbA hw hL (q := 5 * n + 1) (nI_add (5 * n) 1) (by omega) dL_law_884 ?_
  refine lv_aload_n hx hb dL_law_885 rfl (lv_at hl 0 rfl) ?_
  refine lv_iload hx hb dL_law_886 (lv_at hl 4 rfl) ?_
  refine lv_iconst (v := 2) hx hb dL_law_888 (by decide) ?_
  refine lv_iadd hx hb dL_law_889 ?_
  refine lw_sld hx hb hX hbl hbA hw hL (q := 5 * n + 2) (nI_add (5 * n) 2) (by omega) dL_law_890 ?_
  refine lv_aload_n hx hb dL_law_891 rfl (lv_at hl 0 rfl) ?_
  refine lv_iload hx hb dL_law_892 (lv_at hl 4 rfl) ?_
  refine lv_iconst (v := 3) hx hb dL_law_894 (by decide) ?_
  refine lv_iadd hx hb dL_law_895 ?_
  refine lw_sld hx hb hX hbl hbA hw hL (q := 5 * n + 3) (nI_add (5 * n) 3) (by omega) dL_law_896 ?_
  refine lv_aload_n hx hb dL_law_897 rfl (lv_at hl 3 rfl) ?_
  refine pfx_ic hP hw (vx_runSX (As := [.ref (a 0), .int (xs (5 * n + 1)), .int (xs (5 * n + 2)), .int (xs (5 * n + 3)), .ref o]) (rest := []) CF (w_isCovered l g Lc f (a 0) o _ ro (xs (5 * n + 1)) (xs (5 * n + 2)) (xs (5 * n + 3)) _ _ (c_isCovered l hst g Lc f a k hk hi (xs (5 * n + 1)) (xs (5 * n + 2)) (xs (5 * n + 3))) (fun E u h => by obtain ⟨h, -⟩ := h; rcases h with ⟨-, rfl⟩ | ⟨-, ⟨-, rfl⟩ | ⟨-, ⟨-, rfl⟩ | ⟨-, h⟩⟩⟩ <;> first | (exact Or.inl rfl) | (exact Or.inr (rfl)) | (exact False.elim h)) (fun v u h => by obtain ⟨i, -, -, -, -, rfl, -⟩ := h; exact layS_01 k _ _ _ _ (Or.inr rfl)) (hk.q (i := 0) (dC (by decide))) (hk.f (i := 0) (dC (by decide))) ho hfo _) (vx_cwSW 5 hts gL_law_L_isCovered rfl rfl rfl (by decide +kernel) ⟨Nat.le_of_ble_eq_true rfl, Nat.le_of_ble_eq_true rfl⟩) (pn_preS (hw.sub hP.1 hP.2.2.1) hs hN) rfl rfl hl.1 rfl (lv_room (Nat.le_of_ble_eq_true rfl)) dL_law_898 ⟨by show _ ≤ 601024; omega, by show _ ≤ 7293034; omega⟩) (fun E ce q9 La9 f9 H9 locs9 he _ _ _ _ _ => False.elim he) (fun r Lx fx H locs hp hdx hw => ?_)
  obtain ⟨La, fc, ro1, hoLa, hu, hfc, hfo1, hW⟩ := hp
  obtain rfl : Lx = La ++ [o] := hu
  refine lv_istore (lv' := [(5, .int r), (0, .ref b), (1, .ref (a 0)), (2, .ref (am 0)), (3, .ref o), (4, .int (nI (5 * n)))]) hx hb dL_law_901 hl (by decide) rfl (fun ls hl => ?_)
  have hm1 : MW g am mm Lm (mix Lm f fx) := hm.mixR
  have hP1 := Pt_r hw.nodup
  refine lv_aload_n hx hb dL_law_903 rfl (lv_at hl 3 rfl) ?_
  refine lv_aload_n hx hb dL_law_904 rfl (lv_at hl 1 rfl) ?_
  refine lv_iload hx hb dL_law_905 (lv_at hl 5 rfl) ?_
  refine lv_iconst (v := 1) hx hb dL_law_907 (by decide) ?_
  refine lv_iadd hx hb dL_law_908 ?_
  refine lw_sld hx hb hX hbl hbA hw hL (q := 5 * n + 1) (nI_add (5 * n) 1) (by omega) dL_law_909 ?_
  refine lv_aload_n hx hb dL_law_910 rfl (lv_at hl 1 rfl) ?_
  refine lv_iload hx hb dL_law_911 (lv_at hl 5 rfl) ?_
  refine lv_iconst (v := 2) hx hb dL_law_913 (by decide) ?_
  refine lv_iadd hx hb dL_law_914 ?_
  refine lw_sld hx hb hX hbl hbA hw hL (q := 5 * n + 2) (nI_add (5 * n) 2) (by omega) dL_law_915 ?_
  refine lv_aload_n hx hb dL_law_916 rfl (lv_at hl 1 rfl) ?_
  refine lv_iload hx hb dL_law_917 (lv_at hl 5 rfl) ?_
  refine lv_iconst (v := 3) hx hb dL_law_919 (by decide) ?_
  refine lv_iadd hx hb dL_law_920 ?_
  refine lw_sld hx hb hX hbl hbA hw hL (q := 5 * n + 3) (nI_add (5 * n) 3) (by omega) dL_law_921 ?_
  refine pf_i hP1 hw (va_runV (As := [.int (xs (5 * n + 1)), .int (xs (5 * n + 2)), .int (xs (5 * n + 3))]) (rest := []) CF (m_isCovered l g Lm _ am mm hm1 (kP k) t0 (kC k) hR.1 hR.wh (xs (5 * n + 1)) (xs (5 * n + 2)) (xs (5 * n + 3)) _) (cwV 3 hts gL_law_X7_isCovered rfl rfl rfl (by decide +kernel) ⟨Nat.le_of_ble_eq_true rfl, Nat.le_of_ble_eq_true rfl⟩) (pm_preV (hw.sub hP1.1 hP1.2.2.1) hs (pm_recv (hw.sub hP1.1 hP1.2.2.1) (hm1.q (i := 0) (by decide)) (hm1.f (i := 0) (by decide)) rfl)) rfl rfl hl.1 rfl (lv_room (Nat.le_of_ble_eq_true rfl)) dL_law_922 ⟨by show _ ≤ 601024; omega, by show _ ≤ 7293034; omega⟩) (fun bb Ly fy H locs hp hdy hw => ?_)
  have hb01 : bb = 0 ∨ bb = 1 := by
    rcases hp with ⟨h, -⟩ | ⟨i, d, T, S, -, -, -, -, -, h, -⟩
    · exact Or.inl h
    · rw [h]
      exact goM01 _ _ _ _ _
  obtain ⟨hJ, hans⟩ := j_isCovered hi hle hR hW hp
  obtain ⟨hLy, a9, k9, m9, t9, ha9, ⟨hk9, hi9, hle9⟩, hm9, hR9, h49⟩ := hJ
  obtain rfl : Lm = Ly := hLy.symm
  refine lv_istore (lv' := [(6, .int bb), (5, .int r), (0, .ref b), (1, .ref (a 0)), (2, .ref (am 0)), (3, .ref o), (4, .int (nI (5 * n)))]) hx hb dL_law_925 hl (by decide) rfl (fun ls hl => ?_)
  have hfc2 : ∀ q, q ∈ La → mix (La ++ [o]) (mix Lm f fx) fy q = fc q := fun q hq => by
    show (if q ∈ La ++ [o] then (if q ∈ Lm then f q else fx q) else fy q) = fc q
    rw [if_pos (List.mem_append_left _ hq), if_neg (hdx q (List.mem_append_left _ hq))]
    exact hfc q hq
  have ho2 : mix (La ++ [o]) (mix Lm f fx) fy o = .inl (g.2.1 4, 1, .inr (.inl ro1)) := by
    show (if o ∈ La ++ [o] then (if o ∈ Lm then f o else fx o) else fy o) = _
    rw [if_pos (List.mem_append_right _ (List.mem_singleton.mpr rfl)), if_neg (hdx o (List.mem_append_right _ (List.mem_singleton.mpr rfl)))]
    exact hfo1
  have hm2 : MW g am m9 Lm (mix (La ++ [o]) (mix Lm f fx) fy) := FW.mixL hm9 hdy
  have hk2 : CW g a9 k9 La (mix (La ++ [o]) (mix Lm f fx) fy) := FW.cong hk9 hfc2
  generalize mix (La ++ [o]) (mix Lm f fx) fy = F at hw hk2 hm2 ho2
  have hP2 := Pt_l hw.nodup
  refine lv_aload_n hx hb dL_law_927 rfl (lv_at hl 4 rfl) ?_
  refine pf_i hP2 hw (va_runV (As := []) (rest := []) CF (m_thrown l g Lm F am m9 hm2 _) (cwV 0 hts gL_law_X7_thrown rfl rfl rfl (by decide +kernel) ⟨Nat.le_of_ble_eq_true rfl, Nat.le_of_ble_eq_true rfl⟩) (pm_preV (hw.sub hP2.1 hP2.2.2.1) hs (pm_recv (hw.sub hP2.1 hP2.2.2.1) (hm2.q (i := 0) (by decide)) (hm2.f (i := 0) (by decide)) rfl)) rfl rfl hl.1 rfl (lv_room (Nat.le_of_ble_eq_true rfl)) dL_law_928 ⟨by show _ ≤ 601024; omega, by show _ ≤ 7293034; omega⟩) (fun th Lz fz H locs hp hdz hw => ?_)
  obtain ⟨hth, hu⟩ := hp
  obtain ⟨e1, e2⟩ := Prod.mk.inj hu
  obtain rfl := e1.symm
  obtain rfl := e2.symm
  rw [mix_same] at hw
  rw [h49] at hth
  obtain rfl : r = th := hth.symm
  refine W.widen (k := 39 + 8 * (n + 1)) (n := 5828 + 524 * (n + 1)) (by omega) (by omega) ?_
  have fin : W p l e room_1 s m #[Value.ref b] below meth c H locs (39 + 8 * (n + 1)) (5828 + 524 * (n + 1)) Q (F0 m 962 ls []) := by
    refine lv_goto (tgt := 1521) hx hb dL_law_962 (by decide) ?_
    refine lv_iinc (v := nI (5 * (n + 1))) (lv' := [(4, .int (nI (5 * (n + 1)))), (6, .int bb), (5, .int r), (0, .ref b), (1, .ref (a 0)), (2, .ref (am 0)), (3, .ref o)]) hx hb dL_law_1521 hl (k := 6) rfl (nI_add (5 * n) 5) (by decide) rfl (fun ls hl => ?_)
    refine lv_goto (tgt := 23) hx hb dL_law_1524 (by decide) ?_
    exact ih _ _ _ ⟨a9, am, k9, m9, t9, o, La, Lm, F, ro1, hw, ⟨hk2, hi9, hle9⟩, hm2, hR9, ho2, by rw [ha9]; exact lv_sub hl [3, 4, 5, 6, 0] rfl⟩
  refine lv_iload hx hb dL_law_931 (lv_at hl 1 rfl) ?_
  refine lv_icmp_eq (tgt := 938) hx hb dL_law_933 (by decide) (fun _ => ?_) (fun h => absurd rfl h)
  refine lv_iload hx hb dL_law_938 (lv_at hl 1 rfl) ?_
  refine lv_if_ne (tgt := 962) hx hb dL_law_940 (by decide) (fun _ => fin) (fun h0 => ?_)
  refine lv_aload_n hx hb dL_law_943 rfl (lv_at hl 5 rfl) ?_
  refine lv_iconst (v := 0) hx hb dL_law_944 (by decide) ?_
  refine pm_lald (n := 1) (r := ro1) hx hb hw (List.mem_append_right _ (List.mem_append_right _ (List.mem_singleton.mpr rfl))) ho2 (j := 0) rfl (by unfold vp_in; decide) dL_law_945 ?_
  refine lv_iload hx hb dL_law_946 (lv_at hl 0 rfl) ?_
  refine lv_if_eq (tgt := 955) hx hb dL_law_948 (by decide) (fun h3 => ?_) (fun h3 => ?_)
  · refine lv_lconst (v := 0) hx hb dL_law_955 rfl ?_
    refine W.lcmp hx hb dL_law_956 ?_
    exact lv_if_eq (tgt := 962) hx hb dL_law_957 (by decide) (fun _ => fin) (fun h2 => absurd ((lg_cmp_eq _ _).mpr (by rw [hans h0, h3]; rfl)) h2)
  · refine lv_lconst (v := 1) hx hb dL_law_951 rfl ?_
    refine lv_goto (tgt := 956) hx hb dL_law_952 (by decide) ?_
    refine W.lcmp hx hb dL_law_956 ?_
    exact lv_if_eq (tgt := 962) hx hb dL_law_957 (by decide) (fun _ => fin) (fun h2 => absurd ((lg_cmp_eq _ _).mpr (by rw [hans h0, hb01.resolve_left h3]; rfl)) h2)

set_option maxHeartbeats 4000000 in
set_option maxRecDepth 100000 in
theorem law_rate {p : Program} {e : Env} {s : State} {m : MethodId} {below : List Frame} {meth : Method} {c : Code} {l : Launch} {b L : Nat} {xs : Nat → Int32} {Q : State → Prop} {g : GE} {n : Nat} {H : Heap} {locs : List Loc} {ls : Array Slot} (hst : l.stackTraces = false) (hL : L ≤ 2560) (C0 : lw_At p s m meth c b L xs) (hs : Sx g (lwA s) s s.heap) (hN : NcU s) (hn : 5 * n + 5 ≤ L) (I : LawI g s b n H locs ls) (ih : ∀ (H1 : Heap) (locs1 : List Loc) (ls1 : Array Slot), LawI g s b (n + 1) H1 locs1 ls1 → W p l e room_1 s m #[Value.ref b] below meth c H1 locs1 (39 + 8 * (n + 1)) (5828 + 524 * (n + 1)) Q (F0 m 23 ls1 [])) : W p l e room_1 s m #[Value.ref b] below meth c H locs (39 + 8 * n) (5828 + 524 * n) Q (F0 m 965 ls []) := by
  obtain ⟨hx, hb, hr, hml, hown0, hts0, hX, hbl, hlocks, hgv⟩ := id C0
  obtain ⟨a, am, k, mm, t0, o, Lc, Lm, f, ro, hw, ⟨hk, hi, hle⟩, hm, hR, hfo, hl⟩ := I
  have hbA : ¬ lwA s b := Nat.not_le.mpr hbl
  have hts : ∀ w ∈ wsL_law, w.before #[Value.ref b] s = true := fun w h => hts0 w (wsL_law_in w h)
  have hown : s.vm.findClass RL = some m.cls := hown0
  have CF := (⟨hx, hb, hml, hown, hts⟩ : CallFix p m c cL_law 7 s #[Value.ref b] wsL_law RL)
  have hP := Pt_r hw.nodup
  have ho : o ∉ Lc := fun h => (List.nodup_append.mp hP.2.2.1).2.2 o h o (List.mem_singleton.mpr rfl) rfl
  refine lv_aload_n hx hb dL_law_965 rfl (lv_at hl 1 rfl) ?_
  refine lv_aload_n hx hb dL_law_966 rfl (lv_at hl 0 rfl) ?_
  refine lv_iload hx hb dL_law_967 (lv_at hl 4 rfl) ?_
  refine lv_iconst (v := 1) hx hb dL_law_969 (by decide) ?_
  refine lv_iadd hx hb dL_law_970 ?_
  refine lw_sld hx hb hX hbl hbA hw hL (q := 5 * n + 1) (nI_add (5 * n) 1) (by omega) dL_law_971 ?_
  refine lv_aload_n hx hb dL_law_972 rfl (lv_at hl 0 rfl) ?_
  refine lv_iload hx hb dL_law_973 (lv_at hl 4 rfl) ?_
  refine lv_iconst (v := 2) hx hb dL_law_975 (by decide) ?_
  refine lv_iadd hx hb dL_law_976 ?_
  refine lw_sld hx hb hX hbl hbA hw hL (q := 5 * n + 2) (nI_add (5 * n) 2) (by omega) dL_law_977 ?_
  refine lv_aload_n hx hb dL_law_978 rfl (lv_at hl 0 rfl) ?_
  refine lv_iload hx hb dL_law_979 (lv_at hl 4 rfl) ?_
  refine lv_iconst (v := 3) hx hb dL_law_981 (by decide) ?_
  refine lv_iadd hx hb dL_law_982 ?_
  refine lw_sld hx hb hX hbl hbA hw hL (q := 5 * n + 3) (nI_add (5 * n) 3) (by omega) dL_law_983 ?_
  refine lv_aload_n hx hb dL_law_984 rfl (lv_at hl 3 rfl) ?_
  refine pfx_ic hP hw (vx_runSX (As := [.ref (a 0), .int (xs (5 * n + 1)), .int (xs (5 * n + 2)), .int (xs (5 * n + 3)), .ref o]) (rest := []) CF (w_rate l g Lc f (a 0) o _ ro (xs (5 * n + 1)) (xs (5 * n + 2)) (xs (5 * n + 3)) _ _ (c_rate l hst g Lc f a k hk hi (xs (5 * n + 1)) (xs (5 * n + 2)) (xs (5 * n + 3))) (fun E u h => by obtain ⟨h, -⟩ := h; rcases h with ⟨-, rfl⟩ | ⟨-, ⟨-, rfl⟩ | ⟨-, ⟨-, rfl⟩ | ⟨-, h⟩⟩⟩ <;> first | (exact Or.inl rfl) | (exact Or.inr (rfl)) | (exact False.elim h)) (hk.q (i := 0) (dC (by decide))) (hk.f (i := 0) (dC (by decide))) ho hfo _) (vx_cwSW 5 hts gL_law_L_rate rfl rfl rfl (by decide +kernel) ⟨Nat.le_of_ble_eq_true rfl, Nat.le_of_ble_eq_true rfl⟩) (pn_preS (hw.sub hP.1 hP.2.2.1) hs hN) rfl rfl hl.1 rfl (lv_room (Nat.le_of_ble_eq_true rfl)) dL_law_985 ⟨by show _ ≤ 601024; omega, by show _ ≤ 7293034; omega⟩) (fun E ce q9 La9 f9 H9 locs9 he _ _ _ _ _ => False.elim he) (fun r Lx fx H locs hp hdx hw => ?_)
  obtain ⟨La, fc, ro1, hoLa, hu, hfc, hfo1, hW⟩ := hp
  obtain rfl : Lx = La ++ [o] := hu
  refine lv_istore (lv' := [(5, .int r), (0, .ref b), (1, .ref (a 0)), (2, .ref (am 0)), (3, .ref o), (4, .int (nI (5 * n)))]) hx hb dL_law_988 hl (by decide) rfl (fun ls hl => ?_)
  have hm1 : MW g am mm Lm (mix Lm f fx) := hm.mixR
  have hP1 := Pt_r hw.nodup
  refine lv_aload_n hx hb dL_law_990 rfl (lv_at hl 3 rfl) ?_
  refine lv_aload_n hx hb dL_law_991 rfl (lv_at hl 1 rfl) ?_
  refine lv_iload hx hb dL_law_992 (lv_at hl 5 rfl) ?_
  refine lv_iconst (v := 1) hx hb dL_law_994 (by decide) ?_
  refine lv_iadd hx hb dL_law_995 ?_
  refine lw_sld hx hb hX hbl hbA hw hL (q := 5 * n + 1) (nI_add (5 * n) 1) (by omega) dL_law_996 ?_
  refine lv_aload_n hx hb dL_law_997 rfl (lv_at hl 1 rfl) ?_
  refine lv_iload hx hb dL_law_998 (lv_at hl 5 rfl) ?_
  refine lv_iconst (v := 2) hx hb dL_law_1000 (by decide) ?_
  refine lv_iadd hx hb dL_law_1001 ?_
  refine lw_sld hx hb hX hbl hbA hw hL (q := 5 * n + 2) (nI_add (5 * n) 2) (by omega) dL_law_1002 ?_
  refine lv_aload_n hx hb dL_law_1003 rfl (lv_at hl 1 rfl) ?_
  refine lv_iload hx hb dL_law_1004 (lv_at hl 5 rfl) ?_
  refine lv_iconst (v := 3) hx hb dL_law_1006 (by decide) ?_
  refine lv_iadd hx hb dL_law_1007 ?_
  refine lw_sld hx hb hX hbl hbA hw hL (q := 5 * n + 3) (nI_add (5 * n) 3) (by omega) dL_law_1008 ?_
  refine pf_i hP1 hw (va_runV (As := [.int (xs (5 * n + 1)), .int (xs (5 * n + 2)), .int (xs (5 * n + 3))]) (rest := []) CF (m_rate l g Lm _ am mm hm1 (kP k) t0 (kC k) hR.1 hR.wh (xs (5 * n + 1)) (xs (5 * n + 2)) (xs (5 * n + 3)) _) (cwV 3 hts gL_law_X7_rate rfl rfl rfl (by decide +kernel) ⟨Nat.le_of_ble_eq_true rfl, Nat.le_of_ble_eq_true rfl⟩) (pm_preV (hw.sub hP1.1 hP1.2.2.1) hs (pm_recv (hw.sub hP1.1 hP1.2.2.1) (hm1.q (i := 0) (by decide)) (hm1.f (i := 0) (by decide)) rfl)) rfl rfl hl.1 rfl (lv_room (Nat.le_of_ble_eq_true rfl)) dL_law_1009 ⟨by show _ ≤ 601024; omega, by show _ ≤ 7293034; omega⟩) (fun bb Ly fy H locs hp hdy hw => ?_)
  obtain ⟨hJ, hans⟩ := j_rate hi hle hR hW hp
  obtain ⟨hLy, a9, k9, m9, t9, ha9, ⟨hk9, hi9, hle9⟩, hm9, hR9, h49⟩ := hJ
  obtain rfl : Lm = Ly := hLy.symm
  refine lv_istore (lv' := [(6, .int bb), (5, .int r), (0, .ref b), (1, .ref (a 0)), (2, .ref (am 0)), (3, .ref o), (4, .int (nI (5 * n)))]) hx hb dL_law_1012 hl (by decide) rfl (fun ls hl => ?_)
  have hfc2 : ∀ q, q ∈ La → mix (La ++ [o]) (mix Lm f fx) fy q = fc q := fun q hq => by
    show (if q ∈ La ++ [o] then (if q ∈ Lm then f q else fx q) else fy q) = fc q
    rw [if_pos (List.mem_append_left _ hq), if_neg (hdx q (List.mem_append_left _ hq))]
    exact hfc q hq
  have ho2 : mix (La ++ [o]) (mix Lm f fx) fy o = .inl (g.2.1 4, 1, .inr (.inl ro1)) := by
    show (if o ∈ La ++ [o] then (if o ∈ Lm then f o else fx o) else fy o) = _
    rw [if_pos (List.mem_append_right _ (List.mem_singleton.mpr rfl)), if_neg (hdx o (List.mem_append_right _ (List.mem_singleton.mpr rfl)))]
    exact hfo1
  have hm2 : MW g am m9 Lm (mix (La ++ [o]) (mix Lm f fx) fy) := FW.mixL hm9 hdy
  have hk2 : CW g a9 k9 La (mix (La ++ [o]) (mix Lm f fx) fy) := FW.cong hk9 hfc2
  generalize mix (La ++ [o]) (mix Lm f fx) fy = F at hw hk2 hm2 ho2
  have hP2 := Pt_l hw.nodup
  refine lv_aload_n hx hb dL_law_1014 rfl (lv_at hl 4 rfl) ?_
  refine pf_i hP2 hw (va_runV (As := []) (rest := []) CF (m_thrown l g Lm F am m9 hm2 _) (cwV 0 hts gL_law_X7_thrown rfl rfl rfl (by decide +kernel) ⟨Nat.le_of_ble_eq_true rfl, Nat.le_of_ble_eq_true rfl⟩) (pm_preV (hw.sub hP2.1 hP2.2.2.1) hs (pm_recv (hw.sub hP2.1 hP2.2.2.1) (hm2.q (i := 0) (by decide)) (hm2.f (i := 0) (by decide)) rfl)) rfl rfl hl.1 rfl (lv_room (Nat.le_of_ble_eq_true rfl)) dL_law_1015 ⟨by show _ ≤ 601024; omega, by show _ ≤ 7293034; omega⟩) (fun th Lz fz H locs hp hdz hw => ?_)
  obtain ⟨hth, hu⟩ := hp
  obtain ⟨e1, e2⟩ := Prod.mk.inj hu
  obtain rfl := e1.symm
  obtain rfl := e2.symm
  rw [mix_same] at hw
  rw [h49] at hth
  obtain rfl : r = th := hth.symm
  refine W.widen (k := 39 + 8 * (n + 1)) (n := 5828 + 524 * (n + 1)) (by omega) (by omega) ?_
  have fin : W p l e room_1 s m #[Value.ref b] below meth c H locs (39 + 8 * (n + 1)) (5828 + 524 * (n + 1)) Q (F0 m 1042 ls []) := by
    refine lv_goto (tgt := 1521) hx hb dL_law_1042 (by decide) ?_
    refine lv_iinc (v := nI (5 * (n + 1))) (lv' := [(4, .int (nI (5 * (n + 1)))), (6, .int bb), (5, .int r), (0, .ref b), (1, .ref (a 0)), (2, .ref (am 0)), (3, .ref o)]) hx hb dL_law_1521 hl (k := 6) rfl (nI_add (5 * n) 5) (by decide) rfl (fun ls hl => ?_)
    refine lv_goto (tgt := 23) hx hb dL_law_1524 (by decide) ?_
    exact ih _ _ _ ⟨a9, am, k9, m9, t9, o, La, Lm, F, ro1, hw, ⟨hk2, hi9, hle9⟩, hm2, hR9, ho2, by rw [ha9]; exact lv_sub hl [3, 4, 5, 6, 0] rfl⟩
  refine lv_iload hx hb dL_law_1018 (lv_at hl 1 rfl) ?_
  refine lv_icmp_eq (tgt := 1025) hx hb dL_law_1020 (by decide) (fun _ => ?_) (fun h => absurd rfl h)
  refine lv_iload hx hb dL_law_1025 (lv_at hl 1 rfl) ?_
  refine lv_if_ne (tgt := 1042) hx hb dL_law_1027 (by decide) (fun _ => fin) (fun h0 => ?_)
  refine lv_aload_n hx hb dL_law_1030 rfl (lv_at hl 5 rfl) ?_
  refine lv_iconst (v := 0) hx hb dL_law_1031 (by decide) ?_
  refine pm_lald (n := 1) (r := ro1) hx hb hw (List.mem_append_right _ (List.mem_append_right _ (List.mem_singleton.mpr rfl))) ho2 (j := 0) rfl (by unfold vp_in; decide) dL_law_1032 ?_
  refine lv_iload hx hb dL_law_1033 (lv_at hl 0 rfl) ?_
  refine lv_i2l (v := bb.toInt64) hx hb dL_law_1035 rfl ?_
  refine W.lcmp hx hb dL_law_1036 ?_
  refine lv_if_eq (tgt := 1042) hx hb dL_law_1037 (by decide) (fun _ => fin) (fun h2 => absurd ((lg_cmp_eq _ _).mpr (hans h0)) h2)

set_option maxHeartbeats 4000000 in
set_option maxRecDepth 100000 in
theorem law_segments {p : Program} {e : Env} {s : State} {m : MethodId} {below : List Frame} {meth : Method} {c : Code} {l : Launch} {b L : Nat} {xs : Nat → Int32} {Q : State → Prop} {g : GE} {n : Nat} {H : Heap} {locs : List Loc} {ls : Array Slot} (hst : l.stackTraces = false) (hL : L ≤ 2560) (C0 : lw_At p s m meth c b L xs) (hs : Sx g (lwA s) s s.heap) (hN : NcU s) (hn : 5 * n + 5 ≤ L) (I : LawI g s b n H locs ls) (ih : ∀ (H1 : Heap) (locs1 : List Loc) (ls1 : Array Slot), LawI g s b (n + 1) H1 locs1 ls1 → W p l e room_1 s m #[Value.ref b] below meth c H1 locs1 (39 + 8 * (n + 1)) (5828 + 524 * (n + 1)) Q (F0 m 23 ls1 [])) : W p l e room_1 s m #[Value.ref b] below meth c H locs (39 + 8 * n) (5828 + 524 * n) Q (F0 m 1045 ls []) := by
  obtain ⟨hx, hb, hr, hml, hown0, hts0, hX, hbl, hlocks, hgv⟩ := id C0
  obtain ⟨a, am, k, mm, t0, o, Lc, Lm, f, ro, hw, ⟨hk, hi, hle⟩, hm, hR, hfo, hl⟩ := I
  have hbA : ¬ lwA s b := Nat.not_le.mpr hbl
  have hts : ∀ w ∈ wsL_law, w.before #[Value.ref b] s = true := fun w h => hts0 w (wsL_law_in w h)
  have hown : s.vm.findClass RL = some m.cls := hown0
  have CF := (⟨hx, hb, hml, hown, hts⟩ : CallFix p m c cL_law 7 s #[Value.ref b] wsL_law RL)
  have hP := Pt_r hw.nodup
  have ho : o ∉ Lc := fun h => (List.nodup_append.mp hP.2.2.1).2.2 o h o (List.mem_singleton.mpr rfl) rfl
  refine lv_aload_n hx hb dL_law_1045 rfl (lv_at hl 1 rfl) ?_
  refine lv_aload_n hx hb dL_law_1046 rfl (lv_at hl 0 rfl) ?_
  refine lv_iload hx hb dL_law_1047 (lv_at hl 4 rfl) ?_
  refine lv_iconst (v := 1) hx hb dL_law_1049 (by decide) ?_
  refine lv_iadd hx hb dL_law_1050 ?_
  refine lw_sld hx hb hX hbl hbA hw hL (q := 5 * n + 1) (nI_add (5 * n) 1) (by omega) dL_law_1051 ?_
  refine lv_aload_n hx hb dL_law_1052 rfl (lv_at hl 0 rfl) ?_
  refine lv_iload hx hb dL_law_1053 (lv_at hl 4 rfl) ?_
  refine lv_iconst (v := 2) hx hb dL_law_1055 (by decide) ?_
  refine lv_iadd hx hb dL_law_1056 ?_
  refine lw_sld hx hb hX hbl hbA hw hL (q := 5 * n + 2) (nI_add (5 * n) 2) (by omega) dL_law_1057 ?_
  refine lv_aload_n hx hb dL_law_1058 rfl (lv_at hl 3 rfl) ?_
  refine pfx_ic hP hw (vx_runSX (As := [.ref (a 0), .int (xs (5 * n + 1)), .int (xs (5 * n + 2)), .ref o]) (rest := []) CF (w_segments l g Lc f (a 0) o _ ro (xs (5 * n + 1)) (xs (5 * n + 2)) _ _ (c_segments l hst g Lc f a k hk hi (xs (5 * n + 1)) (xs (5 * n + 2))) (fun E u h => by obtain ⟨h, -⟩ := h; rcases h with ⟨-, rfl⟩ | ⟨-, ⟨-, rfl⟩ | ⟨-, h⟩⟩ <;> first | (exact Or.inl rfl) | (exact Or.inr (rfl)) | (exact False.elim h)) (hk.q (i := 0) (dC (by decide))) (hk.f (i := 0) (dC (by decide))) ho hfo _) (vx_cwSW 4 hts gL_law_L_segments rfl rfl rfl (by decide +kernel) ⟨Nat.le_of_ble_eq_true rfl, Nat.le_of_ble_eq_true rfl⟩) (pn_preS (hw.sub hP.1 hP.2.2.1) hs hN) rfl rfl hl.1 rfl (lv_room (Nat.le_of_ble_eq_true rfl)) dL_law_1059 ⟨by show _ ≤ 601024; omega, by show _ ≤ 7293034; omega⟩) (fun E ce q9 La9 f9 H9 locs9 he _ _ _ _ _ => False.elim he) (fun r Lx fx H locs hp hdx hw => ?_)
  obtain ⟨La, fc, ro1, hoLa, hu, hfc, hfo1, hW⟩ := hp
  obtain rfl : Lx = La ++ [o] := hu
  refine lv_istore (lv' := [(5, .int r), (0, .ref b), (1, .ref (a 0)), (2, .ref (am 0)), (3, .ref o), (4, .int (nI (5 * n)))]) hx hb dL_law_1062 hl (by decide) rfl (fun ls hl => ?_)
  have hm1 : MW g am mm Lm (mix Lm f fx) := hm.mixR
  have hP1 := Pt_r hw.nodup
  refine lv_aload_n hx hb dL_law_1064 rfl (lv_at hl 3 rfl) ?_
  refine lv_aload_n hx hb dL_law_1065 rfl (lv_at hl 1 rfl) ?_
  refine lv_iload hx hb dL_law_1066 (lv_at hl 5 rfl) ?_
  refine lv_iconst (v := 1) hx hb dL_law_1068 (by decide) ?_
  refine lv_iadd hx hb dL_law_1069 ?_
  refine lw_sld hx hb hX hbl hbA hw hL (q := 5 * n + 1) (nI_add (5 * n) 1) (by omega) dL_law_1070 ?_
  refine lv_aload_n hx hb dL_law_1071 rfl (lv_at hl 1 rfl) ?_
  refine lv_iload hx hb dL_law_1072 (lv_at hl 5 rfl) ?_
  refine lv_iconst (v := 2) hx hb dL_law_1074 (by decide) ?_
  refine lv_iadd hx hb dL_law_1075 ?_
  refine lw_sld hx hb hX hbl hbA hw hL (q := 5 * n + 2) (nI_add (5 * n) 2) (by omega) dL_law_1076 ?_
  refine pf_i hP1 hw (va_runV (As := [.int (xs (5 * n + 1)), .int (xs (5 * n + 2))]) (rest := []) CF (m_segments l g Lm _ am mm hm1 (kP k) t0 (kC k) hR.1 hR.wh (xs (5 * n + 1)) (xs (5 * n + 2)) _) (cwV 2 hts gL_law_X7_segments rfl rfl rfl (by decide +kernel) ⟨Nat.le_of_ble_eq_true rfl, Nat.le_of_ble_eq_true rfl⟩) (pm_preV (hw.sub hP1.1 hP1.2.2.1) hs (pm_recv (hw.sub hP1.1 hP1.2.2.1) (hm1.q (i := 0) (by decide)) (hm1.f (i := 0) (by decide)) rfl)) rfl rfl hl.1 rfl (lv_room (Nat.le_of_ble_eq_true rfl)) dL_law_1077 ⟨by show _ ≤ 601024; omega, by show _ ≤ 7293034; omega⟩) (fun bb Ly fy H locs hp hdy hw => ?_)
  obtain ⟨hJ, hans⟩ := j_segments hi hle hR hW hp
  obtain ⟨hLy, a9, k9, m9, t9, ha9, ⟨hk9, hi9, hle9⟩, hm9, hR9, h49⟩ := hJ
  obtain rfl : Lm = Ly := hLy.symm
  refine lv_istore (lv' := [(6, .int bb), (5, .int r), (0, .ref b), (1, .ref (a 0)), (2, .ref (am 0)), (3, .ref o), (4, .int (nI (5 * n)))]) hx hb dL_law_1080 hl (by decide) rfl (fun ls hl => ?_)
  have hfc2 : ∀ q, q ∈ La → mix (La ++ [o]) (mix Lm f fx) fy q = fc q := fun q hq => by
    show (if q ∈ La ++ [o] then (if q ∈ Lm then f q else fx q) else fy q) = fc q
    rw [if_pos (List.mem_append_left _ hq), if_neg (hdx q (List.mem_append_left _ hq))]
    exact hfc q hq
  have ho2 : mix (La ++ [o]) (mix Lm f fx) fy o = .inl (g.2.1 4, 1, .inr (.inl ro1)) := by
    show (if o ∈ La ++ [o] then (if o ∈ Lm then f o else fx o) else fy o) = _
    rw [if_pos (List.mem_append_right _ (List.mem_singleton.mpr rfl)), if_neg (hdx o (List.mem_append_right _ (List.mem_singleton.mpr rfl)))]
    exact hfo1
  have hm2 : MW g am m9 Lm (mix (La ++ [o]) (mix Lm f fx) fy) := FW.mixL hm9 hdy
  have hk2 : CW g a9 k9 La (mix (La ++ [o]) (mix Lm f fx) fy) := FW.cong hk9 hfc2
  generalize mix (La ++ [o]) (mix Lm f fx) fy = F at hw hk2 hm2 ho2
  have hP2 := Pt_l hw.nodup
  refine lv_aload_n hx hb dL_law_1082 rfl (lv_at hl 4 rfl) ?_
  refine pf_i hP2 hw (va_runV (As := []) (rest := []) CF (m_thrown l g Lm F am m9 hm2 _) (cwV 0 hts gL_law_X7_thrown rfl rfl rfl (by decide +kernel) ⟨Nat.le_of_ble_eq_true rfl, Nat.le_of_ble_eq_true rfl⟩) (pm_preV (hw.sub hP2.1 hP2.2.2.1) hs (pm_recv (hw.sub hP2.1 hP2.2.2.1) (hm2.q (i := 0) (by decide)) (hm2.f (i := 0) (by decide)) rfl)) rfl rfl hl.1 rfl (lv_room (Nat.le_of_ble_eq_true rfl)) dL_law_1083 ⟨by show _ ≤ 601024; omega, by show _ ≤ 7293034; omega⟩) (fun th Lz fz H locs hp hdz hw => ?_)
  obtain ⟨hth, hu⟩ := hp
  obtain ⟨e1, e2⟩ := Prod.mk.inj hu
  obtain rfl := e1.symm
  obtain rfl := e2.symm
  rw [mix_same] at hw
  rw [h49] at hth
  obtain rfl : r = th := hth.symm
  refine W.widen (k := 39 + 8 * (n + 1)) (n := 5828 + 524 * (n + 1)) (by omega) (by omega) ?_
  have fin : W p l e room_1 s m #[Value.ref b] below meth c H locs (39 + 8 * (n + 1)) (5828 + 524 * (n + 1)) Q (F0 m 1110 ls []) := by
    refine lv_goto (tgt := 1521) hx hb dL_law_1110 (by decide) ?_
    refine lv_iinc (v := nI (5 * (n + 1))) (lv' := [(4, .int (nI (5 * (n + 1)))), (6, .int bb), (5, .int r), (0, .ref b), (1, .ref (a 0)), (2, .ref (am 0)), (3, .ref o)]) hx hb dL_law_1521 hl (k := 6) rfl (nI_add (5 * n) 5) (by decide) rfl (fun ls hl => ?_)
    refine lv_goto (tgt := 23) hx hb dL_law_1524 (by decide) ?_
    exact ih _ _ _ ⟨a9, am, k9, m9, t9, o, La, Lm, F, ro1, hw, ⟨hk2, hi9, hle9⟩, hm2, hR9, ho2, by rw [ha9]; exact lv_sub hl [3, 4, 5, 6, 0] rfl⟩
  refine lv_iload hx hb dL_law_1086 (lv_at hl 1 rfl) ?_
  refine lv_icmp_eq (tgt := 1093) hx hb dL_law_1088 (by decide) (fun _ => ?_) (fun h => absurd rfl h)
  refine lv_iload hx hb dL_law_1093 (lv_at hl 1 rfl) ?_
  refine lv_if_ne (tgt := 1110) hx hb dL_law_1095 (by decide) (fun _ => fin) (fun h0 => ?_)
  refine lv_aload_n hx hb dL_law_1098 rfl (lv_at hl 5 rfl) ?_
  refine lv_iconst (v := 0) hx hb dL_law_1099 (by decide) ?_
  refine pm_lald (n := 1) (r := ro1) hx hb hw (List.mem_append_right _ (List.mem_append_right _ (List.mem_singleton.mpr rfl))) ho2 (j := 0) rfl (by unfold vp_in; decide) dL_law_1100 ?_
  refine lv_iload hx hb dL_law_1101 (lv_at hl 0 rfl) ?_
  refine lv_i2l (v := bb.toInt64) hx hb dL_law_1103 rfl ?_
  refine W.lcmp hx hb dL_law_1104 ?_
  refine lv_if_eq (tgt := 1110) hx hb dL_law_1105 (by decide) (fun _ => fin) (fun h2 => absurd ((lg_cmp_eq _ _).mpr (hans h0)) h2)

set_option maxHeartbeats 4000000 in
set_option maxRecDepth 100000 in
theorem law_segmentStart {p : Program} {e : Env} {s : State} {m : MethodId} {below : List Frame} {meth : Method} {c : Code} {l : Launch} {b L : Nat} {xs : Nat → Int32} {Q : State → Prop} {g : GE} {n : Nat} {H : Heap} {locs : List Loc} {ls : Array Slot} (hst : l.stackTraces = false) (hL : L ≤ 2560) (C0 : lw_At p s m meth c b L xs) (hs : Sx g (lwA s) s s.heap) (hN : NcU s) (hn : 5 * n + 5 ≤ L) (I : LawI g s b n H locs ls) (ih : ∀ (H1 : Heap) (locs1 : List Loc) (ls1 : Array Slot), LawI g s b (n + 1) H1 locs1 ls1 → W p l e room_1 s m #[Value.ref b] below meth c H1 locs1 (39 + 8 * (n + 1)) (5828 + 524 * (n + 1)) Q (F0 m 23 ls1 [])) : W p l e room_1 s m #[Value.ref b] below meth c H locs (39 + 8 * n) (5828 + 524 * n) Q (F0 m 1113 ls []) := by
  obtain ⟨hx, hb, hr, hml, hown0, hts0, hX, hbl, hlocks, hgv⟩ := id C0
  obtain ⟨a, am, k, mm, t0, o, Lc, Lm, f, ro, hw, ⟨hk, hi, hle⟩, hm, hR, hfo, hl⟩ := I
  have hbA : ¬ lwA s b := Nat.not_le.mpr hbl
  have hts : ∀ w ∈ wsL_law, w.before #[Value.ref b] s = true := fun w h => hts0 w (wsL_law_in w h)
  have hown : s.vm.findClass RL = some m.cls := hown0
  have CF := (⟨hx, hb, hml, hown, hts⟩ : CallFix p m c cL_law 7 s #[Value.ref b] wsL_law RL)
  have hP := Pt_r hw.nodup
  have ho : o ∉ Lc := fun h => (List.nodup_append.mp hP.2.2.1).2.2 o h o (List.mem_singleton.mpr rfl) rfl
  refine lv_aload_n hx hb dL_law_1113 rfl (lv_at hl 1 rfl) ?_
  refine lv_aload_n hx hb dL_law_1114 rfl (lv_at hl 0 rfl) ?_
  refine lv_iload hx hb dL_law_1115 (lv_at hl 4 rfl) ?_
  refine lv_iconst (v := 1) hx hb dL_law_1117 (by decide) ?_
  refine lv_iadd hx hb dL_law_1118 ?_
  refine lw_sld hx hb hX hbl hbA hw hL (q := 5 * n + 1) (nI_add (5 * n) 1) (by omega) dL_law_1119 ?_
  refine lv_aload_n hx hb dL_law_1120 rfl (lv_at hl 0 rfl) ?_
  refine lv_iload hx hb dL_law_1121 (lv_at hl 4 rfl) ?_
  refine lv_iconst (v := 2) hx hb dL_law_1123 (by decide) ?_
  refine lv_iadd hx hb dL_law_1124 ?_
  refine lw_sld hx hb hX hbl hbA hw hL (q := 5 * n + 2) (nI_add (5 * n) 2) (by omega) dL_law_1125 ?_
  refine lv_aload_n hx hb dL_law_1126 rfl (lv_at hl 0 rfl) ?_
  refine lv_iload hx hb dL_law_1127 (lv_at hl 4 rfl) ?_
  refine lv_iconst (v := 3) hx hb dL_law_1129 (by decide) ?_
  refine lv_iadd hx hb dL_law_1130 ?_
  refine lw_sld hx hb hX hbl hbA hw hL (q := 5 * n + 3) (nI_add (5 * n) 3) (by omega) dL_law_1131 ?_
  refine lv_aload_n hx hb dL_law_1132 rfl (lv_at hl 3 rfl) ?_
  refine pfx_ic hP hw (vx_runSX (As := [.ref (a 0), .int (xs (5 * n + 1)), .int (xs (5 * n + 2)), .int (xs (5 * n + 3)), .ref o]) (rest := []) CF (w_segmentStart l g Lc f (a 0) o _ ro (xs (5 * n + 1)) (xs (5 * n + 2)) (xs (5 * n + 3)) _ _ (c_segmentStart l hst g Lc f a k hk hi (xs (5 * n + 1)) (xs (5 * n + 2)) (xs (5 * n + 3))) (fun E u h => by obtain ⟨h, -⟩ := h; rcases h with ⟨-, rfl⟩ | ⟨-, ⟨-, rfl⟩ | ⟨-, ⟨-, rfl⟩ | ⟨-, h⟩⟩⟩ <;> first | (exact Or.inl rfl) | (exact Or.inr (rfl)) | (exact False.elim h)) (hk.q (i := 0) (dC (by decide))) (hk.f (i := 0) (dC (by decide))) ho hfo _) (vx_cwSW 5 hts gL_law_L_segmentStart rfl rfl rfl (by decide +kernel) ⟨Nat.le_of_ble_eq_true rfl, Nat.le_of_ble_eq_true rfl⟩) (pn_preS (hw.sub hP.1 hP.2.2.1) hs hN) rfl rfl hl.1 rfl (lv_room (Nat.le_of_ble_eq_true rfl)) dL_law_1133 ⟨by show _ ≤ 601024; omega, by show _ ≤ 7293034; omega⟩) (fun E ce q9 La9 f9 H9 locs9 he _ _ _ _ _ => False.elim he) (fun r Lx fx H locs hp hdx hw => ?_)
  obtain ⟨La, fc, ro1, hoLa, hu, hfc, hfo1, hW⟩ := hp
  obtain rfl : Lx = La ++ [o] := hu
  refine lv_istore (lv' := [(5, .int r), (0, .ref b), (1, .ref (a 0)), (2, .ref (am 0)), (3, .ref o), (4, .int (nI (5 * n)))]) hx hb dL_law_1136 hl (by decide) rfl (fun ls hl => ?_)
  have hm1 : MW g am mm Lm (mix Lm f fx) := hm.mixR
  have hP1 := Pt_r hw.nodup
  refine lv_aload_n hx hb dL_law_1138 rfl (lv_at hl 3 rfl) ?_
  refine lv_aload_n hx hb dL_law_1139 rfl (lv_at hl 1 rfl) ?_
  refine lv_iload hx hb dL_law_1140 (lv_at hl 5 rfl) ?_
  refine lv_iconst (v := 1) hx hb dL_law_1142 (by decide) ?_
  refine lv_iadd hx hb dL_law_1143 ?_
  refine lw_sld hx hb hX hbl hbA hw hL (q := 5 * n + 1) (nI_add (5 * n) 1) (by omega) dL_law_1144 ?_
  refine lv_aload_n hx hb dL_law_1145 rfl (lv_at hl 1 rfl) ?_
  refine lv_iload hx hb dL_law_1146 (lv_at hl 5 rfl) ?_
  refine lv_iconst (v := 2) hx hb dL_law_1148 (by decide) ?_
  refine lv_iadd hx hb dL_law_1149 ?_
  refine lw_sld hx hb hX hbl hbA hw hL (q := 5 * n + 2) (nI_add (5 * n) 2) (by omega) dL_law_1150 ?_
  refine lv_aload_n hx hb dL_law_1151 rfl (lv_at hl 1 rfl) ?_
  refine lv_iload hx hb dL_law_1152 (lv_at hl 5 rfl) ?_
  refine lv_iconst (v := 3) hx hb dL_law_1154 (by decide) ?_
  refine lv_iadd hx hb dL_law_1155 ?_
  refine lw_sld hx hb hX hbl hbA hw hL (q := 5 * n + 3) (nI_add (5 * n) 3) (by omega) dL_law_1156 ?_
  refine pf_i hP1 hw (va_runV (As := [.int (xs (5 * n + 1)), .int (xs (5 * n + 2)), .int (xs (5 * n + 3))]) (rest := []) CF (m_segmentStart l g Lm _ am mm hm1 (kP k) t0 (kC k) hR.1 hR.wh (xs (5 * n + 1)) (xs (5 * n + 2)) (xs (5 * n + 3)) _) (cwV 3 hts gL_law_X7_segmentStart rfl rfl rfl (by decide +kernel) ⟨Nat.le_of_ble_eq_true rfl, Nat.le_of_ble_eq_true rfl⟩) (pm_preV (hw.sub hP1.1 hP1.2.2.1) hs (pm_recv (hw.sub hP1.1 hP1.2.2.1) (hm1.q (i := 0) (by decide)) (hm1.f (i := 0) (by decide)) rfl)) rfl rfl hl.1 rfl (lv_room (Nat.le_of_ble_eq_true rfl)) dL_law_1157 ⟨by show _ ≤ 601024; omega, by show _ ≤ 7293034; omega⟩) (fun bb Ly fy H locs hp hdy hw => ?_)
  obtain ⟨hJ, hans⟩ := j_segmentStart hi hle hR hW hp
  obtain ⟨hLy, a9, k9, m9, t9, ha9, ⟨hk9, hi9, hle9⟩, hm9, hR9, h49⟩ := hJ
  obtain rfl : Lm = Ly := hLy.symm
  refine lv_istore (lv' := [(6, .int bb), (5, .int r), (0, .ref b), (1, .ref (a 0)), (2, .ref (am 0)), (3, .ref o), (4, .int (nI (5 * n)))]) hx hb dL_law_1160 hl (by decide) rfl (fun ls hl => ?_)
  have hfc2 : ∀ q, q ∈ La → mix (La ++ [o]) (mix Lm f fx) fy q = fc q := fun q hq => by
    show (if q ∈ La ++ [o] then (if q ∈ Lm then f q else fx q) else fy q) = fc q
    rw [if_pos (List.mem_append_left _ hq), if_neg (hdx q (List.mem_append_left _ hq))]
    exact hfc q hq
  have ho2 : mix (La ++ [o]) (mix Lm f fx) fy o = .inl (g.2.1 4, 1, .inr (.inl ro1)) := by
    show (if o ∈ La ++ [o] then (if o ∈ Lm then f o else fx o) else fy o) = _
    rw [if_pos (List.mem_append_right _ (List.mem_singleton.mpr rfl)), if_neg (hdx o (List.mem_append_right _ (List.mem_singleton.mpr rfl)))]
    exact hfo1
  have hm2 : MW g am m9 Lm (mix (La ++ [o]) (mix Lm f fx) fy) := FW.mixL hm9 hdy
  have hk2 : CW g a9 k9 La (mix (La ++ [o]) (mix Lm f fx) fy) := FW.cong hk9 hfc2
  generalize mix (La ++ [o]) (mix Lm f fx) fy = F at hw hk2 hm2 ho2
  have hP2 := Pt_l hw.nodup
  refine lv_aload_n hx hb dL_law_1162 rfl (lv_at hl 4 rfl) ?_
  refine pf_i hP2 hw (va_runV (As := []) (rest := []) CF (m_thrown l g Lm F am m9 hm2 _) (cwV 0 hts gL_law_X7_thrown rfl rfl rfl (by decide +kernel) ⟨Nat.le_of_ble_eq_true rfl, Nat.le_of_ble_eq_true rfl⟩) (pm_preV (hw.sub hP2.1 hP2.2.2.1) hs (pm_recv (hw.sub hP2.1 hP2.2.2.1) (hm2.q (i := 0) (by decide)) (hm2.f (i := 0) (by decide)) rfl)) rfl rfl hl.1 rfl (lv_room (Nat.le_of_ble_eq_true rfl)) dL_law_1163 ⟨by show _ ≤ 601024; omega, by show _ ≤ 7293034; omega⟩) (fun th Lz fz H locs hp hdz hw => ?_)
  obtain ⟨hth, hu⟩ := hp
  obtain ⟨e1, e2⟩ := Prod.mk.inj hu
  obtain rfl := e1.symm
  obtain rfl := e2.symm
  rw [mix_same] at hw
  rw [h49] at hth
  obtain rfl : r = th := hth.symm
  refine W.widen (k := 39 + 8 * (n + 1)) (n := 5828 + 524 * (n + 1)) (by omega) (by omega) ?_
  have fin : W p l e room_1 s m #[Value.ref b] below meth c H locs (39 + 8 * (n + 1)) (5828 + 524 * (n + 1)) Q (F0 m 1190 ls []) := by
    refine lv_goto (tgt := 1521) hx hb dL_law_1190 (by decide) ?_
    refine lv_iinc (v := nI (5 * (n + 1))) (lv' := [(4, .int (nI (5 * (n + 1)))), (6, .int bb), (5, .int r), (0, .ref b), (1, .ref (a 0)), (2, .ref (am 0)), (3, .ref o)]) hx hb dL_law_1521 hl (k := 6) rfl (nI_add (5 * n) 5) (by decide) rfl (fun ls hl => ?_)
    refine lv_goto (tgt := 23) hx hb dL_law_1524 (by decide) ?_
    exact ih _ _ _ ⟨a9, am, k9, m9, t9, o, La, Lm, F, ro1, hw, ⟨hk2, hi9, hle9⟩, hm2, hR9, ho2, by rw [ha9]; exact lv_sub hl [3, 4, 5, 6, 0] rfl⟩
  refine lv_iload hx hb dL_law_1166 (lv_at hl 1 rfl) ?_
  refine lv_icmp_eq (tgt := 1173) hx hb dL_law_1168 (by decide) (fun _ => ?_) (fun h => absurd rfl h)
  refine lv_iload hx hb dL_law_1173 (lv_at hl 1 rfl) ?_
  refine lv_if_ne (tgt := 1190) hx hb dL_law_1175 (by decide) (fun _ => fin) (fun h0 => ?_)
  refine lv_aload_n hx hb dL_law_1178 rfl (lv_at hl 5 rfl) ?_
  refine lv_iconst (v := 0) hx hb dL_law_1179 (by decide) ?_
  refine pm_lald (n := 1) (r := ro1) hx hb hw (List.mem_append_right _ (List.mem_append_right _ (List.mem_singleton.mpr rfl))) ho2 (j := 0) rfl (by unfold vp_in; decide) dL_law_1180 ?_
  refine lv_iload hx hb dL_law_1181 (lv_at hl 0 rfl) ?_
  refine lv_i2l (v := bb.toInt64) hx hb dL_law_1183 rfl ?_
  refine W.lcmp hx hb dL_law_1184 ?_
  refine lv_if_eq (tgt := 1190) hx hb dL_law_1185 (by decide) (fun _ => fin) (fun h2 => absurd ((lg_cmp_eq _ _).mpr (hans h0)) h2)

set_option maxHeartbeats 4000000 in
set_option maxRecDepth 100000 in
theorem law_segmentPremium {p : Program} {e : Env} {s : State} {m : MethodId} {below : List Frame} {meth : Method} {c : Code} {l : Launch} {b L : Nat} {xs : Nat → Int32} {Q : State → Prop} {g : GE} {n : Nat} {H : Heap} {locs : List Loc} {ls : Array Slot} (hst : l.stackTraces = false) (hL : L ≤ 2560) (C0 : lw_At p s m meth c b L xs) (hs : Sx g (lwA s) s s.heap) (hN : NcU s) (hn : 5 * n + 5 ≤ L) (I : LawI g s b n H locs ls) (ih : ∀ (H1 : Heap) (locs1 : List Loc) (ls1 : Array Slot), LawI g s b (n + 1) H1 locs1 ls1 → W p l e room_1 s m #[Value.ref b] below meth c H1 locs1 (39 + 8 * (n + 1)) (5828 + 524 * (n + 1)) Q (F0 m 23 ls1 [])) : W p l e room_1 s m #[Value.ref b] below meth c H locs (39 + 8 * n) (5828 + 524 * n) Q (F0 m 1193 ls []) := by
  obtain ⟨hx, hb, hr, hml, hown0, hts0, hX, hbl, hlocks, hgv⟩ := id C0
  obtain ⟨a, am, k, mm, t0, o, Lc, Lm, f, ro, hw, ⟨hk, hi, hle⟩, hm, hR, hfo, hl⟩ := I
  have hbA : ¬ lwA s b := Nat.not_le.mpr hbl
  have hts : ∀ w ∈ wsL_law, w.before #[Value.ref b] s = true := fun w h => hts0 w (wsL_law_in w h)
  have hown : s.vm.findClass RL = some m.cls := hown0
  have CF := (⟨hx, hb, hml, hown, hts⟩ : CallFix p m c cL_law 7 s #[Value.ref b] wsL_law RL)
  have hP := Pt_r hw.nodup
  have ho : o ∉ Lc := fun h => (List.nodup_append.mp hP.2.2.1).2.2 o h o (List.mem_singleton.mpr rfl) rfl
  refine lv_aload_n hx hb dL_law_1193 rfl (lv_at hl 1 rfl) ?_
  refine lv_aload_n hx hb dL_law_1194 rfl (lv_at hl 0 rfl) ?_
  refine lv_iload hx hb dL_law_1195 (lv_at hl 4 rfl) ?_
  refine lv_iconst (v := 1) hx hb dL_law_1197 (by decide) ?_
  refine lv_iadd hx hb dL_law_1198 ?_
  refine lw_sld hx hb hX hbl hbA hw hL (q := 5 * n + 1) (nI_add (5 * n) 1) (by omega) dL_law_1199 ?_
  refine lv_aload_n hx hb dL_law_1200 rfl (lv_at hl 0 rfl) ?_
  refine lv_iload hx hb dL_law_1201 (lv_at hl 4 rfl) ?_
  refine lv_iconst (v := 2) hx hb dL_law_1203 (by decide) ?_
  refine lv_iadd hx hb dL_law_1204 ?_
  refine lw_sld hx hb hX hbl hbA hw hL (q := 5 * n + 2) (nI_add (5 * n) 2) (by omega) dL_law_1205 ?_
  refine lv_aload_n hx hb dL_law_1206 rfl (lv_at hl 0 rfl) ?_
  refine lv_iload hx hb dL_law_1207 (lv_at hl 4 rfl) ?_
  refine lv_iconst (v := 3) hx hb dL_law_1209 (by decide) ?_
  refine lv_iadd hx hb dL_law_1210 ?_
  refine lw_sld hx hb hX hbl hbA hw hL (q := 5 * n + 3) (nI_add (5 * n) 3) (by omega) dL_law_1211 ?_
  refine lv_aload_n hx hb dL_law_1212 rfl (lv_at hl 3 rfl) ?_
  refine pfx_ic hP hw (vx_runSX (As := [.ref (a 0), .int (xs (5 * n + 1)), .int (xs (5 * n + 2)), .int (xs (5 * n + 3)), .ref o]) (rest := []) CF (w_segmentPremium l g Lc f (a 0) o _ ro (xs (5 * n + 1)) (xs (5 * n + 2)) (xs (5 * n + 3)) _ _ (c_segmentPremium l hst g Lc f a k hk hi (xs (5 * n + 1)) (xs (5 * n + 2)) (xs (5 * n + 3))) (fun E u h => by obtain ⟨h, -⟩ := h; rcases h with ⟨-, rfl⟩ | ⟨-, ⟨-, rfl⟩ | ⟨-, ⟨-, rfl⟩ | ⟨-, h⟩⟩⟩ <;> first | (exact Or.inl rfl) | (exact Or.inr (rfl)) | (exact False.elim h)) (hk.q (i := 0) (dC (by decide))) (hk.f (i := 0) (dC (by decide))) ho hfo _) (vx_cwSW 5 hts gL_law_L_segmentPremium rfl rfl rfl (by decide +kernel) ⟨Nat.le_of_ble_eq_true rfl, Nat.le_of_ble_eq_true rfl⟩) (pn_preS (hw.sub hP.1 hP.2.2.1) hs hN) rfl rfl hl.1 rfl (lv_room (Nat.le_of_ble_eq_true rfl)) dL_law_1213 ⟨by show _ ≤ 601024; omega, by show _ ≤ 7293034; omega⟩) (fun E ce q9 La9 f9 H9 locs9 he _ _ _ _ _ => False.elim he) (fun r Lx fx H locs hp hdx hw => ?_)
  obtain ⟨La, fc, ro1, hoLa, hu, hfc, hfo1, hW⟩ := hp
  obtain rfl : Lx = La ++ [o] := hu
  refine lv_istore (lv' := [(5, .int r), (0, .ref b), (1, .ref (a 0)), (2, .ref (am 0)), (3, .ref o), (4, .int (nI (5 * n)))]) hx hb dL_law_1216 hl (by decide) rfl (fun ls hl => ?_)
  have hm1 : MW g am mm Lm (mix Lm f fx) := hm.mixR
  have hP1 := Pt_r hw.nodup
  refine lv_aload_n hx hb dL_law_1218 rfl (lv_at hl 3 rfl) ?_
  refine lv_aload_n hx hb dL_law_1219 rfl (lv_at hl 1 rfl) ?_
  refine lv_iload hx hb dL_law_1220 (lv_at hl 5 rfl) ?_
  refine lv_iconst (v := 1) hx hb dL_law_1222 (by decide) ?_
  refine lv_iadd hx hb dL_law_1223 ?_
  refine lw_sld hx hb hX hbl hbA hw hL (q := 5 * n + 1) (nI_add (5 * n) 1) (by omega) dL_law_1224 ?_
  refine lv_aload_n hx hb dL_law_1225 rfl (lv_at hl 1 rfl) ?_
  refine lv_iload hx hb dL_law_1226 (lv_at hl 5 rfl) ?_
  refine lv_iconst (v := 2) hx hb dL_law_1228 (by decide) ?_
  refine lv_iadd hx hb dL_law_1229 ?_
  refine lw_sld hx hb hX hbl hbA hw hL (q := 5 * n + 2) (nI_add (5 * n) 2) (by omega) dL_law_1230 ?_
  refine lv_aload_n hx hb dL_law_1231 rfl (lv_at hl 1 rfl) ?_
  refine lv_iload hx hb dL_law_1232 (lv_at hl 5 rfl) ?_
  refine lv_iconst (v := 3) hx hb dL_law_1234 (by decide) ?_
  refine lv_iadd hx hb dL_law_1235 ?_
  refine lw_sld hx hb hX hbl hbA hw hL (q := 5 * n + 3) (nI_add (5 * n) 3) (by omega) dL_law_1236 ?_
  refine pf_i hP1 hw (va_runV (As := [.int (xs (5 * n + 1)), .int (xs (5 * n + 2)), .int (xs (5 * n + 3))]) (rest := []) CF (m_segmentPremium l g Lm _ am mm hm1 (kP k) t0 (kC k) hR.1 hR.wh (xs (5 * n + 1)) (xs (5 * n + 2)) (xs (5 * n + 3)) _) (cwV 3 hts gL_law_X7_segmentPremium rfl rfl rfl (by decide +kernel) ⟨Nat.le_of_ble_eq_true rfl, Nat.le_of_ble_eq_true rfl⟩) (pm_preV (hw.sub hP1.1 hP1.2.2.1) hs (pm_recv (hw.sub hP1.1 hP1.2.2.1) (hm1.q (i := 0) (by decide)) (hm1.f (i := 0) (by decide)) rfl)) rfl rfl hl.1 rfl (lv_room (Nat.le_of_ble_eq_true rfl)) dL_law_1237 ⟨by show _ ≤ 601024; omega, by show _ ≤ 7293034; omega⟩) (fun bb Ly fy H locs hp hdy hw => ?_)
  obtain ⟨hJ, hans⟩ := j_segmentPremium hi hle hR hW hp
  obtain ⟨hLy, a9, k9, m9, t9, ha9, ⟨hk9, hi9, hle9⟩, hm9, hR9, h49⟩ := hJ
  obtain rfl : Lm = Ly := hLy.symm
  refine lv_istore (lv' := [(6, .int bb), (5, .int r), (0, .ref b), (1, .ref (a 0)), (2, .ref (am 0)), (3, .ref o), (4, .int (nI (5 * n)))]) hx hb dL_law_1240 hl (by decide) rfl (fun ls hl => ?_)
  have hfc2 : ∀ q, q ∈ La → mix (La ++ [o]) (mix Lm f fx) fy q = fc q := fun q hq => by
    show (if q ∈ La ++ [o] then (if q ∈ Lm then f q else fx q) else fy q) = fc q
    rw [if_pos (List.mem_append_left _ hq), if_neg (hdx q (List.mem_append_left _ hq))]
    exact hfc q hq
  have ho2 : mix (La ++ [o]) (mix Lm f fx) fy o = .inl (g.2.1 4, 1, .inr (.inl ro1)) := by
    show (if o ∈ La ++ [o] then (if o ∈ Lm then f o else fx o) else fy o) = _
    rw [if_pos (List.mem_append_right _ (List.mem_singleton.mpr rfl)), if_neg (hdx o (List.mem_append_right _ (List.mem_singleton.mpr rfl)))]
    exact hfo1
  have hm2 : MW g am m9 Lm (mix (La ++ [o]) (mix Lm f fx) fy) := FW.mixL hm9 hdy
  have hk2 : CW g a9 k9 La (mix (La ++ [o]) (mix Lm f fx) fy) := FW.cong hk9 hfc2
  generalize mix (La ++ [o]) (mix Lm f fx) fy = F at hw hk2 hm2 ho2
  have hP2 := Pt_l hw.nodup
  refine lv_aload_n hx hb dL_law_1242 rfl (lv_at hl 4 rfl) ?_
  refine pf_i hP2 hw (va_runV (As := []) (rest := []) CF (m_thrown l g Lm F am m9 hm2 _) (cwV 0 hts gL_law_X7_thrown rfl rfl rfl (by decide +kernel) ⟨Nat.le_of_ble_eq_true rfl, Nat.le_of_ble_eq_true rfl⟩) (pm_preV (hw.sub hP2.1 hP2.2.2.1) hs (pm_recv (hw.sub hP2.1 hP2.2.2.1) (hm2.q (i := 0) (by decide)) (hm2.f (i := 0) (by decide)) rfl)) rfl rfl hl.1 rfl (lv_room (Nat.le_of_ble_eq_true rfl)) dL_law_1243 ⟨by show _ ≤ 601024; omega, by show _ ≤ 7293034; omega⟩) (fun th Lz fz H locs hp hdz hw => ?_)
  obtain ⟨hth, hu⟩ := hp
  obtain ⟨e1, e2⟩ := Prod.mk.inj hu
  obtain rfl := e1.symm
  obtain rfl := e2.symm
  rw [mix_same] at hw
  rw [h49] at hth
  obtain rfl : r = th := hth.symm
  refine W.widen (k := 39 + 8 * (n + 1)) (n := 5828 + 524 * (n + 1)) (by omega) (by omega) ?_
  have fin : W p l e room_1 s m #[Value.ref b] below meth c H locs (39 + 8 * (n + 1)) (5828 + 524 * (n + 1)) Q (F0 m 1270 ls []) := by
    refine lv_goto (tgt := 1521) hx hb dL_law_1270 (by decide) ?_
    refine lv_iinc (v := nI (5 * (n + 1))) (lv' := [(4, .int (nI (5 * (n + 1)))), (6, .int bb), (5, .int r), (0, .ref b), (1, .ref (a 0)), (2, .ref (am 0)), (3, .ref o)]) hx hb dL_law_1521 hl (k := 6) rfl (nI_add (5 * n) 5) (by decide) rfl (fun ls hl => ?_)
    refine lv_goto (tgt := 23) hx hb dL_law_1524 (by decide) ?_
    exact ih _ _ _ ⟨a9, am, k9, m9, t9, o, La, Lm, F, ro1, hw, ⟨hk2, hi9, hle9⟩, hm2, hR9, ho2, by rw [ha9]; exact lv_sub hl [3, 4, 5, 6, 0] rfl⟩
  refine lv_iload hx hb dL_law_1246 (lv_at hl 1 rfl) ?_
  refine lv_icmp_eq (tgt := 1253) hx hb dL_law_1248 (by decide) (fun _ => ?_) (fun h => absurd rfl h)
  refine lv_iload hx hb dL_law_1253 (lv_at hl 1 rfl) ?_
  refine lv_if_ne (tgt := 1270) hx hb dL_law_1255 (by decide) (fun _ => fin) (fun h0 => ?_)
  refine lv_aload_n hx hb dL_law_1258 rfl (lv_at hl 5 rfl) ?_
  refine lv_iconst (v := 0) hx hb dL_law_1259 (by decide) ?_
  refine pm_lald (n := 1) (r := ro1) hx hb hw (List.mem_append_right _ (List.mem_append_right _ (List.mem_singleton.mpr rfl))) ho2 (j := 0) rfl (by unfold vp_in; decide) dL_law_1260 ?_
  refine lv_iload hx hb dL_law_1261 (lv_at hl 0 rfl) ?_
  refine lv_i2l (v := bb.toInt64) hx hb dL_law_1263 rfl ?_
  refine W.lcmp hx hb dL_law_1264 ?_
  refine lv_if_eq (tgt := 1270) hx hb dL_law_1265 (by decide) (fun _ => fin) (fun h2 => absurd ((lg_cmp_eq _ _).mpr (hans h0)) h2)

set_option maxHeartbeats 4000000 in
set_option maxRecDepth 100000 in
theorem law_premium {p : Program} {e : Env} {s : State} {m : MethodId} {below : List Frame} {meth : Method} {c : Code} {l : Launch} {b L : Nat} {xs : Nat → Int32} {Q : State → Prop} {g : GE} {n : Nat} {H : Heap} {locs : List Loc} {ls : Array Slot} (hst : l.stackTraces = false) (hL : L ≤ 2560) (C0 : lw_At p s m meth c b L xs) (hs : Sx g (lwA s) s s.heap) (hN : NcU s) (hn : 5 * n + 5 ≤ L) (I : LawI g s b n H locs ls) (ih : ∀ (H1 : Heap) (locs1 : List Loc) (ls1 : Array Slot), LawI g s b (n + 1) H1 locs1 ls1 → W p l e room_1 s m #[Value.ref b] below meth c H1 locs1 (39 + 8 * (n + 1)) (5828 + 524 * (n + 1)) Q (F0 m 23 ls1 [])) : W p l e room_1 s m #[Value.ref b] below meth c H locs (39 + 8 * n) (5828 + 524 * n) Q (F0 m 1273 ls []) := by
  obtain ⟨hx, hb, hr, hml, hown0, hts0, hX, hbl, hlocks, hgv⟩ := id C0
  obtain ⟨a, am, k, mm, t0, o, Lc, Lm, f, ro, hw, ⟨hk, hi, hle⟩, hm, hR, hfo, hl⟩ := I
  have hbA : ¬ lwA s b := Nat.not_le.mpr hbl
  have hts : ∀ w ∈ wsL_law, w.before #[Value.ref b] s = true := fun w h => hts0 w (wsL_law_in w h)
  have hown : s.vm.findClass RL = some m.cls := hown0
  have CF := (⟨hx, hb, hml, hown, hts⟩ : CallFix p m c cL_law 7 s #[Value.ref b] wsL_law RL)
  have hP := Pt_r hw.nodup
  have ho : o ∉ Lc := fun h => (List.nodup_append.mp hP.2.2.1).2.2 o h o (List.mem_singleton.mpr rfl) rfl
  refine lv_aload_n hx hb dL_law_1273 rfl (lv_at hl 1 rfl) ?_
  refine lv_aload_n hx hb dL_law_1274 rfl (lv_at hl 0 rfl) ?_
  refine lv_iload hx hb dL_law_1275 (lv_at hl 4 rfl) ?_
  refine lv_iconst (v := 1) hx hb dL_law_1277 (by decide) ?_
  refine lv_iadd hx hb dL_law_1278 ?_
  refine lw_sld hx hb hX hbl hbA hw hL (q := 5 * n + 1) (nI_add (5 * n) 1) (by omega) dL_law_1279 ?_
  refine lv_aload_n hx hb dL_law_1280 rfl (lv_at hl 0 rfl) ?_
  refine lv_iload hx hb dL_law_1281 (lv_at hl 4 rfl) ?_
  refine lv_iconst (v := 2) hx hb dL_law_1283 (by decide) ?_
  refine lv_iadd hx hb dL_law_1284 ?_
  refine lw_sld hx hb hX hbl hbA hw hL (q := 5 * n + 2) (nI_add (5 * n) 2) (by omega) dL_law_1285 ?_
  refine lv_aload_n hx hb dL_law_1286 rfl (lv_at hl 3 rfl) ?_
  refine pfx_ic hP hw (vx_runSX (As := [.ref (a 0), .int (xs (5 * n + 1)), .int (xs (5 * n + 2)), .ref o]) (rest := []) CF (w_premium l g Lc f (a 0) o _ ro (xs (5 * n + 1)) (xs (5 * n + 2)) _ _ (c_premium l hst g Lc f a k hk hi (xs (5 * n + 1)) (xs (5 * n + 2))) (fun E u h => by obtain ⟨h, -⟩ := h; rcases h with ⟨-, rfl⟩ | ⟨-, ⟨-, rfl⟩ | ⟨-, h⟩⟩ <;> first | (exact Or.inl rfl) | (exact Or.inr (rfl)) | (exact False.elim h)) (hk.q (i := 0) (dC (by decide))) (hk.f (i := 0) (dC (by decide))) ho hfo _) (vx_cwSW 4 hts gL_law_L_premium rfl rfl rfl (by decide +kernel) ⟨Nat.le_of_ble_eq_true rfl, Nat.le_of_ble_eq_true rfl⟩) (pn_preS (hw.sub hP.1 hP.2.2.1) hs hN) rfl rfl hl.1 rfl (lv_room (Nat.le_of_ble_eq_true rfl)) dL_law_1287 ⟨by show _ ≤ 601024; omega, by show _ ≤ 7293034; omega⟩) (fun E ce q9 La9 f9 H9 locs9 he _ _ _ _ _ => False.elim he) (fun r Lx fx H locs hp hdx hw => ?_)
  obtain ⟨La, fc, ro1, hoLa, hu, hfc, hfo1, hW⟩ := hp
  obtain rfl : Lx = La ++ [o] := hu
  refine lv_istore (lv' := [(5, .int r), (0, .ref b), (1, .ref (a 0)), (2, .ref (am 0)), (3, .ref o), (4, .int (nI (5 * n)))]) hx hb dL_law_1290 hl (by decide) rfl (fun ls hl => ?_)
  have hm1 : MW g am mm Lm (mix Lm f fx) := hm.mixR
  have hP1 := Pt_r hw.nodup
  refine lv_aload_n hx hb dL_law_1292 rfl (lv_at hl 3 rfl) ?_
  refine lv_aload_n hx hb dL_law_1293 rfl (lv_at hl 1 rfl) ?_
  refine lv_iload hx hb dL_law_1294 (lv_at hl 5 rfl) ?_
  refine lv_iconst (v := 1) hx hb dL_law_1296 (by decide) ?_
  refine lv_iadd hx hb dL_law_1297 ?_
  refine lw_sld hx hb hX hbl hbA hw hL (q := 5 * n + 1) (nI_add (5 * n) 1) (by omega) dL_law_1298 ?_
  refine lv_aload_n hx hb dL_law_1299 rfl (lv_at hl 1 rfl) ?_
  refine lv_iload hx hb dL_law_1300 (lv_at hl 5 rfl) ?_
  refine lv_iconst (v := 2) hx hb dL_law_1302 (by decide) ?_
  refine lv_iadd hx hb dL_law_1303 ?_
  refine lw_sld hx hb hX hbl hbA hw hL (q := 5 * n + 2) (nI_add (5 * n) 2) (by omega) dL_law_1304 ?_
  refine pf_i hP1 hw (va_runV (As := [.int (xs (5 * n + 1)), .int (xs (5 * n + 2))]) (rest := []) CF (m_premium l g Lm _ am mm hm1 (kP k) t0 (kC k) hR.1 hR.wh (xs (5 * n + 1)) (xs (5 * n + 2)) _) (cwV 2 hts gL_law_X7_premium rfl rfl rfl (by decide +kernel) ⟨Nat.le_of_ble_eq_true rfl, Nat.le_of_ble_eq_true rfl⟩) (pm_preV (hw.sub hP1.1 hP1.2.2.1) hs (pm_recv (hw.sub hP1.1 hP1.2.2.1) (hm1.q (i := 0) (by decide)) (hm1.f (i := 0) (by decide)) rfl)) rfl rfl hl.1 rfl (lv_room (Nat.le_of_ble_eq_true rfl)) dL_law_1305 ⟨by show _ ≤ 601024; omega, by show _ ≤ 7293034; omega⟩) (fun bb Ly fy H locs hp hdy hw => ?_)
  obtain ⟨hJ, hans⟩ := j_premium hi hle hR hW hp
  obtain ⟨hLy, a9, k9, m9, t9, ha9, ⟨hk9, hi9, hle9⟩, hm9, hR9, h49⟩ := hJ
  obtain rfl : Lm = Ly := hLy.symm
  refine lv_istore (lv' := [(6, .int bb), (5, .int r), (0, .ref b), (1, .ref (a 0)), (2, .ref (am 0)), (3, .ref o), (4, .int (nI (5 * n)))]) hx hb dL_law_1308 hl (by decide) rfl (fun ls hl => ?_)
  have hfc2 : ∀ q, q ∈ La → mix (La ++ [o]) (mix Lm f fx) fy q = fc q := fun q hq => by
    show (if q ∈ La ++ [o] then (if q ∈ Lm then f q else fx q) else fy q) = fc q
    rw [if_pos (List.mem_append_left _ hq), if_neg (hdx q (List.mem_append_left _ hq))]
    exact hfc q hq
  have ho2 : mix (La ++ [o]) (mix Lm f fx) fy o = .inl (g.2.1 4, 1, .inr (.inl ro1)) := by
    show (if o ∈ La ++ [o] then (if o ∈ Lm then f o else fx o) else fy o) = _
    rw [if_pos (List.mem_append_right _ (List.mem_singleton.mpr rfl)), if_neg (hdx o (List.mem_append_right _ (List.mem_singleton.mpr rfl)))]
    exact hfo1
  have hm2 : MW g am m9 Lm (mix (La ++ [o]) (mix Lm f fx) fy) := FW.mixL hm9 hdy
  have hk2 : CW g a9 k9 La (mix (La ++ [o]) (mix Lm f fx) fy) := FW.cong hk9 hfc2
  generalize mix (La ++ [o]) (mix Lm f fx) fy = F at hw hk2 hm2 ho2
  have hP2 := Pt_l hw.nodup
  refine lv_aload_n hx hb dL_law_1310 rfl (lv_at hl 4 rfl) ?_
  refine pf_i hP2 hw (va_runV (As := []) (rest := []) CF (m_thrown l g Lm F am m9 hm2 _) (cwV 0 hts gL_law_X7_thrown rfl rfl rfl (by decide +kernel) ⟨Nat.le_of_ble_eq_true rfl, Nat.le_of_ble_eq_true rfl⟩) (pm_preV (hw.sub hP2.1 hP2.2.2.1) hs (pm_recv (hw.sub hP2.1 hP2.2.2.1) (hm2.q (i := 0) (by decide)) (hm2.f (i := 0) (by decide)) rfl)) rfl rfl hl.1 rfl (lv_room (Nat.le_of_ble_eq_true rfl)) dL_law_1311 ⟨by show _ ≤ 601024; omega, by show _ ≤ 7293034; omega⟩) (fun th Lz fz H locs hp hdz hw => ?_)
  obtain ⟨hth, hu⟩ := hp
  obtain ⟨e1, e2⟩ := Prod.mk.inj hu
  obtain rfl := e1.symm
  obtain rfl := e2.symm
  rw [mix_same] at hw
  rw [h49] at hth
  obtain rfl : r = th := hth.symm
  refine W.widen (k := 39 + 8 * (n + 1)) (n := 5828 + 524 * (n + 1)) (by omega) (by omega) ?_
  have fin : W p l e room_1 s m #[Value.ref b] below meth c H locs (39 + 8 * (n + 1)) (5828 + 524 * (n + 1)) Q (F0 m 1338 ls []) := by
    refine lv_goto (tgt := 1521) hx hb dL_law_1338 (by decide) ?_
    refine lv_iinc (v := nI (5 * (n + 1))) (lv' := [(4, .int (nI (5 * (n + 1)))), (6, .int bb), (5, .int r), (0, .ref b), (1, .ref (a 0)), (2, .ref (am 0)), (3, .ref o)]) hx hb dL_law_1521 hl (k := 6) rfl (nI_add (5 * n) 5) (by decide) rfl (fun ls hl => ?_)
    refine lv_goto (tgt := 23) hx hb dL_law_1524 (by decide) ?_
    exact ih _ _ _ ⟨a9, am, k9, m9, t9, o, La, Lm, F, ro1, hw, ⟨hk2, hi9, hle9⟩, hm2, hR9, ho2, by rw [ha9]; exact lv_sub hl [3, 4, 5, 6, 0] rfl⟩
  refine lv_iload hx hb dL_law_1314 (lv_at hl 1 rfl) ?_
  refine lv_icmp_eq (tgt := 1321) hx hb dL_law_1316 (by decide) (fun _ => ?_) (fun h => absurd rfl h)
  refine lv_iload hx hb dL_law_1321 (lv_at hl 1 rfl) ?_
  refine lv_if_ne (tgt := 1338) hx hb dL_law_1323 (by decide) (fun _ => fin) (fun h0 => ?_)
  refine lv_aload_n hx hb dL_law_1326 rfl (lv_at hl 5 rfl) ?_
  refine lv_iconst (v := 0) hx hb dL_law_1327 (by decide) ?_
  refine pm_lald (n := 1) (r := ro1) hx hb hw (List.mem_append_right _ (List.mem_append_right _ (List.mem_singleton.mpr rfl))) ho2 (j := 0) rfl (by unfold vp_in; decide) dL_law_1328 ?_
  refine lv_iload hx hb dL_law_1329 (lv_at hl 0 rfl) ?_
  refine lv_i2l (v := bb.toInt64) hx hb dL_law_1331 rfl ?_
  refine W.lcmp hx hb dL_law_1332 ?_
  refine lv_if_eq (tgt := 1338) hx hb dL_law_1333 (by decide) (fun _ => fin) (fun h2 => absurd ((lg_cmp_eq _ _).mpr (hans h0)) h2)

set_option maxHeartbeats 4000000 in
set_option maxRecDepth 100000 in
theorem law_premiumByDays {p : Program} {e : Env} {s : State} {m : MethodId} {below : List Frame} {meth : Method} {c : Code} {l : Launch} {b L : Nat} {xs : Nat → Int32} {Q : State → Prop} {g : GE} {n : Nat} {H : Heap} {locs : List Loc} {ls : Array Slot} (hst : l.stackTraces = false) (hL : L ≤ 2560) (C0 : lw_At p s m meth c b L xs) (hs : Sx g (lwA s) s s.heap) (hN : NcU s) (hn : 5 * n + 5 ≤ L) (I : LawI g s b n H locs ls) (ih : ∀ (H1 : Heap) (locs1 : List Loc) (ls1 : Array Slot), LawI g s b (n + 1) H1 locs1 ls1 → W p l e room_1 s m #[Value.ref b] below meth c H1 locs1 (39 + 8 * (n + 1)) (5828 + 524 * (n + 1)) Q (F0 m 23 ls1 [])) : W p l e room_1 s m #[Value.ref b] below meth c H locs (39 + 8 * n) (5828 + 524 * n) Q (F0 m 1341 ls []) := by
  obtain ⟨hx, hb, hr, hml, hown0, hts0, hX, hbl, hlocks, hgv⟩ := id C0
  obtain ⟨a, am, k, mm, t0, o, Lc, Lm, f, ro, hw, ⟨hk, hi, hle⟩, hm, hR, hfo, hl⟩ := I
  have hbA : ¬ lwA s b := Nat.not_le.mpr hbl
  have hts : ∀ w ∈ wsL_law, w.before #[Value.ref b] s = true := fun w h => hts0 w (wsL_law_in w h)
  have hown : s.vm.findClass RL = some m.cls := hown0
  have CF := (⟨hx, hb, hml, hown, hts⟩ : CallFix p m c cL_law 7 s #[Value.ref b] wsL_law RL)
  have hP := Pt_r hw.nodup
  have ho : o ∉ Lc := fun h => (List.nodup_append.mp hP.2.2.1).2.2 o h o (List.mem_singleton.mpr rfl) rfl
  refine lv_aload_n hx hb dL_law_1341 rfl (lv_at hl 1 rfl) ?_
  refine lv_aload_n hx hb dL_law_1342 rfl (lv_at hl 0 rfl) ?_
  refine lv_iload hx hb dL_law_1343 (lv_at hl 4 rfl) ?_
  refine lv_iconst (v := 1) hx hb dL_law_1345 (by decide) ?_
  refine lv_iadd hx hb dL_law_1346 ?_
  refine lw_sld hx hb hX hbl hbA hw hL (q := 5 * n + 1) (nI_add (5 * n) 1) (by omega) dL_law_1347 ?_
  refine lv_aload_n hx hb dL_law_1348 rfl (lv_at hl 0 rfl) ?_
  refine lv_iload hx hb dL_law_1349 (lv_at hl 4 rfl) ?_
  refine lv_iconst (v := 2) hx hb dL_law_1351 (by decide) ?_
  refine lv_iadd hx hb dL_law_1352 ?_
  refine lw_sld hx hb hX hbl hbA hw hL (q := 5 * n + 2) (nI_add (5 * n) 2) (by omega) dL_law_1353 ?_
  refine lv_aload_n hx hb dL_law_1354 rfl (lv_at hl 3 rfl) ?_
  refine pfx_ic hP hw (vx_runSX (As := [.ref (a 0), .int (xs (5 * n + 1)), .int (xs (5 * n + 2)), .ref o]) (rest := []) CF (w_premiumByDays l g Lc f (a 0) o _ ro (xs (5 * n + 1)) (xs (5 * n + 2)) _ _ (c_premiumByDays l hst g Lc f a k hk hi (xs (5 * n + 1)) (xs (5 * n + 2))) (fun E u h => by obtain ⟨h, -⟩ := h; rcases h with ⟨-, rfl⟩ | ⟨-, ⟨-, rfl⟩ | ⟨-, h⟩⟩ <;> first | (exact Or.inl rfl) | (exact Or.inr (rfl)) | (exact False.elim h)) (hk.q (i := 0) (dC (by decide))) (hk.f (i := 0) (dC (by decide))) ho hfo _) (vx_cwSW 4 hts gL_law_L_premiumByDays rfl rfl rfl (by decide +kernel) ⟨Nat.le_of_ble_eq_true rfl, Nat.le_of_ble_eq_true rfl⟩) (pn_preS (hw.sub hP.1 hP.2.2.1) hs hN) rfl rfl hl.1 rfl (lv_room (Nat.le_of_ble_eq_true rfl)) dL_law_1355 ⟨by show _ ≤ 601024; omega, by show _ ≤ 7293034; omega⟩) (fun E ce q9 La9 f9 H9 locs9 he _ _ _ _ _ => False.elim he) (fun r Lx fx H locs hp hdx hw => ?_)
  obtain ⟨La, fc, ro1, hoLa, hu, hfc, hfo1, hW⟩ := hp
  obtain rfl : Lx = La ++ [o] := hu
  refine lv_istore (lv' := [(5, .int r), (0, .ref b), (1, .ref (a 0)), (2, .ref (am 0)), (3, .ref o), (4, .int (nI (5 * n)))]) hx hb dL_law_1358 hl (by decide) rfl (fun ls hl => ?_)
  have hm1 : MW g am mm Lm (mix Lm f fx) := hm.mixR
  have hP1 := Pt_r hw.nodup
  refine lv_aload_n hx hb dL_law_1360 rfl (lv_at hl 3 rfl) ?_
  refine lv_aload_n hx hb dL_law_1361 rfl (lv_at hl 1 rfl) ?_
  refine lv_iload hx hb dL_law_1362 (lv_at hl 5 rfl) ?_
  refine lv_iconst (v := 1) hx hb dL_law_1364 (by decide) ?_
  refine lv_iadd hx hb dL_law_1365 ?_
  refine lw_sld hx hb hX hbl hbA hw hL (q := 5 * n + 1) (nI_add (5 * n) 1) (by omega) dL_law_1366 ?_
  refine lv_aload_n hx hb dL_law_1367 rfl (lv_at hl 1 rfl) ?_
  refine lv_iload hx hb dL_law_1368 (lv_at hl 5 rfl) ?_
  refine lv_iconst (v := 2) hx hb dL_law_1370 (by decide) ?_
  refine lv_iadd hx hb dL_law_1371 ?_
  refine lw_sld hx hb hX hbl hbA hw hL (q := 5 * n + 2) (nI_add (5 * n) 2) (by omega) dL_law_1372 ?_
  refine pf_i hP1 hw (va_runV (As := [.int (xs (5 * n + 1)), .int (xs (5 * n + 2))]) (rest := []) CF (m_premiumByDays l g Lm _ am mm hm1 (kP k) t0 (kC k) hR.1 hR.wh (xs (5 * n + 1)) (xs (5 * n + 2)) _) (cwV 2 hts gL_law_X7_premiumByDays rfl rfl rfl (by decide +kernel) ⟨Nat.le_of_ble_eq_true rfl, Nat.le_of_ble_eq_true rfl⟩) (pm_preV (hw.sub hP1.1 hP1.2.2.1) hs (pm_recv (hw.sub hP1.1 hP1.2.2.1) (hm1.q (i := 0) (by decide)) (hm1.f (i := 0) (by decide)) rfl)) rfl rfl hl.1 rfl (lv_room (Nat.le_of_ble_eq_true rfl)) dL_law_1373 ⟨by show _ ≤ 601024; omega, by show _ ≤ 7293034; omega⟩) (fun bb Ly fy H locs hp hdy hw => ?_)
  obtain ⟨hJ, hans⟩ := j_premiumByDays hi hle hR hW hp
  obtain ⟨hLy, a9, k9, m9, t9, ha9, ⟨hk9, hi9, hle9⟩, hm9, hR9, h49⟩ := hJ
  obtain rfl : Lm = Ly := hLy.symm
  refine lv_istore (lv' := [(6, .int bb), (5, .int r), (0, .ref b), (1, .ref (a 0)), (2, .ref (am 0)), (3, .ref o), (4, .int (nI (5 * n)))]) hx hb dL_law_1376 hl (by decide) rfl (fun ls hl => ?_)
  have hfc2 : ∀ q, q ∈ La → mix (La ++ [o]) (mix Lm f fx) fy q = fc q := fun q hq => by
    show (if q ∈ La ++ [o] then (if q ∈ Lm then f q else fx q) else fy q) = fc q
    rw [if_pos (List.mem_append_left _ hq), if_neg (hdx q (List.mem_append_left _ hq))]
    exact hfc q hq
  have ho2 : mix (La ++ [o]) (mix Lm f fx) fy o = .inl (g.2.1 4, 1, .inr (.inl ro1)) := by
    show (if o ∈ La ++ [o] then (if o ∈ Lm then f o else fx o) else fy o) = _
    rw [if_pos (List.mem_append_right _ (List.mem_singleton.mpr rfl)), if_neg (hdx o (List.mem_append_right _ (List.mem_singleton.mpr rfl)))]
    exact hfo1
  have hm2 : MW g am m9 Lm (mix (La ++ [o]) (mix Lm f fx) fy) := FW.mixL hm9 hdy
  have hk2 : CW g a9 k9 La (mix (La ++ [o]) (mix Lm f fx) fy) := FW.cong hk9 hfc2
  generalize mix (La ++ [o]) (mix Lm f fx) fy = F at hw hk2 hm2 ho2
  have hP2 := Pt_l hw.nodup
  refine lv_aload_n hx hb dL_law_1378 rfl (lv_at hl 4 rfl) ?_
  refine pf_i hP2 hw (va_runV (As := []) (rest := []) CF (m_thrown l g Lm F am m9 hm2 _) (cwV 0 hts gL_law_X7_thrown rfl rfl rfl (by decide +kernel) ⟨Nat.le_of_ble_eq_true rfl, Nat.le_of_ble_eq_true rfl⟩) (pm_preV (hw.sub hP2.1 hP2.2.2.1) hs (pm_recv (hw.sub hP2.1 hP2.2.2.1) (hm2.q (i := 0) (by decide)) (hm2.f (i := 0) (by decide)) rfl)) rfl rfl hl.1 rfl (lv_room (Nat.le_of_ble_eq_true rfl)) dL_law_1379 ⟨by show _ ≤ 601024; omega, by show _ ≤ 7293034; omega⟩) (fun th Lz fz H locs hp hdz hw => ?_)
  obtain ⟨hth, hu⟩ := hp
  obtain ⟨e1, e2⟩ := Prod.mk.inj hu
  obtain rfl := e1.symm
  obtain rfl := e2.symm
  rw [mix_same] at hw
  rw [h49] at hth
  obtain rfl : r = th := hth.symm
  refine W.widen (k := 39 + 8 * (n + 1)) (n := 5828 + 524 * (n + 1)) (by omega) (by omega) ?_
  have fin : W p l e room_1 s m #[Value.ref b] below meth c H locs (39 + 8 * (n + 1)) (5828 + 524 * (n + 1)) Q (F0 m 1406 ls []) := by
    refine lv_goto (tgt := 1521) hx hb dL_law_1406 (by decide) ?_
    refine lv_iinc (v := nI (5 * (n + 1))) (lv' := [(4, .int (nI (5 * (n + 1)))), (6, .int bb), (5, .int r), (0, .ref b), (1, .ref (a 0)), (2, .ref (am 0)), (3, .ref o)]) hx hb dL_law_1521 hl (k := 6) rfl (nI_add (5 * n) 5) (by decide) rfl (fun ls hl => ?_)
    refine lv_goto (tgt := 23) hx hb dL_law_1524 (by decide) ?_
    exact ih _ _ _ ⟨a9, am, k9, m9, t9, o, La, Lm, F, ro1, hw, ⟨hk2, hi9, hle9⟩, hm2, hR9, ho2, by rw [ha9]; exact lv_sub hl [3, 4, 5, 6, 0] rfl⟩
  refine lv_iload hx hb dL_law_1382 (lv_at hl 1 rfl) ?_
  refine lv_icmp_eq (tgt := 1389) hx hb dL_law_1384 (by decide) (fun _ => ?_) (fun h => absurd rfl h)
  refine lv_iload hx hb dL_law_1389 (lv_at hl 1 rfl) ?_
  refine lv_if_ne (tgt := 1406) hx hb dL_law_1391 (by decide) (fun _ => fin) (fun h0 => ?_)
  refine lv_aload_n hx hb dL_law_1394 rfl (lv_at hl 5 rfl) ?_
  refine lv_iconst (v := 0) hx hb dL_law_1395 (by decide) ?_
  refine pm_lald (n := 1) (r := ro1) hx hb hw (List.mem_append_right _ (List.mem_append_right _ (List.mem_singleton.mpr rfl))) ho2 (j := 0) rfl (by unfold vp_in; decide) dL_law_1396 ?_
  refine lv_iload hx hb dL_law_1397 (lv_at hl 0 rfl) ?_
  refine lv_i2l (v := bb.toInt64) hx hb dL_law_1399 rfl ?_
  refine W.lcmp hx hb dL_law_1400 ?_
  refine lv_if_eq (tgt := 1406) hx hb dL_law_1401 (by decide) (fun _ => fin) (fun h2 => absurd ((lg_cmp_eq _ _).mpr (hans h0)) h2)

set_option maxHeartbeats 4000000 in
set_option maxRecDepth 100000 in
theorem law_bill {p : Program} {e : Env} {s : State} {m : MethodId} {below : List Frame} {meth : Method} {c : Code} {l : Launch} {b L : Nat} {xs : Nat → Int32} {Q : State → Prop} {g : GE} {n : Nat} {H : Heap} {locs : List Loc} {ls : Array Slot} (hst : l.stackTraces = false) (hL : L ≤ 2560) (C0 : lw_At p s m meth c b L xs) (hs : Sx g (lwA s) s s.heap) (hN : NcU s) (hn : 5 * n + 5 ≤ L) (I : LawI g s b n H locs ls) (ih : ∀ (H1 : Heap) (locs1 : List Loc) (ls1 : Array Slot), LawI g s b (n + 1) H1 locs1 ls1 → W p l e room_1 s m #[Value.ref b] below meth c H1 locs1 (39 + 8 * (n + 1)) (5828 + 524 * (n + 1)) Q (F0 m 23 ls1 [])) : W p l e room_1 s m #[Value.ref b] below meth c H locs (39 + 8 * n) (5828 + 524 * n) Q (F0 m 1409 ls []) := by
  obtain ⟨hx, hb, hr, hml, hown0, hts0, hX, hbl, hlocks, hgv⟩ := id C0
  obtain ⟨a, am, k, mm, t0, o, Lc, Lm, f, ro, hw, ⟨hk, hi, hle⟩, hm, hR, hfo, hl⟩ := I
  have hbA : ¬ lwA s b := Nat.not_le.mpr hbl
  have hts : ∀ w ∈ wsL_law, w.before #[Value.ref b] s = true := fun w h => hts0 w (wsL_law_in w h)
  have hown : s.vm.findClass RL = some m.cls := hown0
  have CF := (⟨hx, hb, hml, hown, hts⟩ : CallFix p m c cL_law 7 s #[Value.ref b] wsL_law RL)
  have hP := Pt_r hw.nodup
  have ho : o ∉ Lc := fun h => (List.nodup_append.mp hP.2.2.1).2.2 o h o (List.mem_singleton.mpr rfl) rfl
  refine lv_aload_n hx hb dL_law_1409 rfl (lv_at hl 1 rfl) ?_
  refine lv_aload_n hx hb dL_law_1410 rfl (lv_at hl 0 rfl) ?_
  refine lv_iload hx hb dL_law_1411 (lv_at hl 4 rfl) ?_
  refine lv_iconst (v := 1) hx hb dL_law_1413 (by decide) ?_
  refine lv_iadd hx hb dL_law_1414 ?_
  refine lw_sld hx hb hX hbl hbA hw hL (q := 5 * n + 1) (nI_add (5 * n) 1) (by omega) dL_law_1415 ?_
  refine lv_aload_n hx hb dL_law_1416 rfl (lv_at hl 3 rfl) ?_
  refine pfx_ic hP hw (vx_runSX (As := [.ref (a 0), .int (xs (5 * n + 1)), .ref o]) (rest := []) CF (w_bill l g Lc f (a 0) o _ ro (xs (5 * n + 1)) _ _ (c_bill l hst g Lc f a k hk hi (xs (5 * n + 1))) (fun E u h => by obtain ⟨h, -⟩ := h; rcases h with ⟨-, rfl⟩ | ⟨-, h⟩ <;> first | (exact rfl) | (exact False.elim h)) (hk.q (i := 0) (dC (by decide))) (hk.f (i := 0) (dC (by decide))) ho hfo _) (vx_cwSW 3 hts gL_law_L_bill rfl rfl rfl (by decide +kernel) ⟨Nat.le_of_ble_eq_true rfl, Nat.le_of_ble_eq_true rfl⟩) (pn_preS (hw.sub hP.1 hP.2.2.1) hs hN) rfl rfl hl.1 rfl (lv_room (Nat.le_of_ble_eq_true rfl)) dL_law_1417 ⟨by show _ ≤ 601024; omega, by show _ ≤ 7293034; omega⟩) (fun E ce q9 La9 f9 H9 locs9 he _ _ _ _ _ => False.elim he) (fun r Lx fx H locs hp hdx hw => ?_)
  obtain ⟨La, fc, ro1, hoLa, hu, hfc, hfo1, hW⟩ := hp
  obtain rfl : Lx = La ++ [o] := hu
  refine lv_istore (lv' := [(5, .int r), (0, .ref b), (1, .ref (a 0)), (2, .ref (am 0)), (3, .ref o), (4, .int (nI (5 * n)))]) hx hb dL_law_1420 hl (by decide) rfl (fun ls hl => ?_)
  have hm1 : MW g am mm Lm (mix Lm f fx) := hm.mixR
  have hP1 := Pt_r hw.nodup
  refine lv_aload_n hx hb dL_law_1422 rfl (lv_at hl 3 rfl) ?_
  refine lv_aload_n hx hb dL_law_1423 rfl (lv_at hl 1 rfl) ?_
  refine lv_iload hx hb dL_law_1424 (lv_at hl 5 rfl) ?_
  refine lv_iconst (v := 1) hx hb dL_law_1426 (by decide) ?_
  refine lv_iadd hx hb dL_law_1427 ?_
  refine lw_sld hx hb hX hbl hbA hw hL (q := 5 * n + 1) (nI_add (5 * n) 1) (by omega) dL_law_1428 ?_
  refine pf_i hP1 hw (va_runV (As := [.int (xs (5 * n + 1))]) (rest := []) CF (m_bill l g Lm _ am mm hm1 (kP k) t0 (kC k) hR.1 hR.wh (xs (5 * n + 1)) _) (cwV 1 hts gL_law_X7_bill rfl rfl rfl (by decide +kernel) ⟨Nat.le_of_ble_eq_true rfl, Nat.le_of_ble_eq_true rfl⟩) (pm_preV (hw.sub hP1.1 hP1.2.2.1) hs (pm_recv (hw.sub hP1.1 hP1.2.2.1) (hm1.q (i := 0) (by decide)) (hm1.f (i := 0) (by decide)) rfl)) rfl rfl hl.1 rfl (lv_room (Nat.le_of_ble_eq_true rfl)) dL_law_1429 ⟨by show _ ≤ 601024; omega, by show _ ≤ 7293034; omega⟩) (fun bb Ly fy H locs hp hdy hw => ?_)
  obtain ⟨hJ, hans⟩ := j_bill hi hle hR hW hp
  obtain ⟨hLy, a9, k9, m9, t9, ha9, ⟨hk9, hi9, hle9⟩, hm9, hR9, h49⟩ := hJ
  obtain rfl : Lm = Ly := hLy.symm
  refine lv_istore (lv' := [(6, .int bb), (5, .int r), (0, .ref b), (1, .ref (a 0)), (2, .ref (am 0)), (3, .ref o), (4, .int (nI (5 * n)))]) hx hb dL_law_1432 hl (by decide) rfl (fun ls hl => ?_)
  have hfc2 : ∀ q, q ∈ La → mix (La ++ [o]) (mix Lm f fx) fy q = fc q := fun q hq => by
    show (if q ∈ La ++ [o] then (if q ∈ Lm then f q else fx q) else fy q) = fc q
    rw [if_pos (List.mem_append_left _ hq), if_neg (hdx q (List.mem_append_left _ hq))]
    exact hfc q hq
  have ho2 : mix (La ++ [o]) (mix Lm f fx) fy o = .inl (g.2.1 4, 1, .inr (.inl ro1)) := by
    show (if o ∈ La ++ [o] then (if o ∈ Lm then f o else fx o) else fy o) = _
    rw [if_pos (List.mem_append_right _ (List.mem_singleton.mpr rfl)), if_neg (hdx o (List.mem_append_right _ (List.mem_singleton.mpr rfl)))]
    exact hfo1
  have hm2 : MW g am m9 Lm (mix (La ++ [o]) (mix Lm f fx) fy) := FW.mixL hm9 hdy
  have hk2 : CW g a9 k9 La (mix (La ++ [o]) (mix Lm f fx) fy) := FW.cong hk9 hfc2
  generalize mix (La ++ [o]) (mix Lm f fx) fy = F at hw hk2 hm2 ho2
  have hP2 := Pt_l hw.nodup
  refine lv_aload_n hx hb dL_law_1434 rfl (lv_at hl 4 rfl) ?_
  refine pf_i hP2 hw (va_runV (As := []) (rest := []) CF (m_thrown l g Lm F am m9 hm2 _) (cwV 0 hts gL_law_X7_thrown rfl rfl rfl (by decide +kernel) ⟨Nat.le_of_ble_eq_true rfl, Nat.le_of_ble_eq_true rfl⟩) (pm_preV (hw.sub hP2.1 hP2.2.2.1) hs (pm_recv (hw.sub hP2.1 hP2.2.2.1) (hm2.q (i := 0) (by decide)) (hm2.f (i := 0) (by decide)) rfl)) rfl rfl hl.1 rfl (lv_room (Nat.le_of_ble_eq_true rfl)) dL_law_1435 ⟨by show _ ≤ 601024; omega, by show _ ≤ 7293034; omega⟩) (fun th Lz fz H locs hp hdz hw => ?_)
  obtain ⟨hth, hu⟩ := hp
  obtain ⟨e1, e2⟩ := Prod.mk.inj hu
  obtain rfl := e1.symm
  obtain rfl := e2.symm
  rw [mix_same] at hw
  rw [h49] at hth
  obtain rfl : r = th := hth.symm
  refine W.widen (k := 39 + 8 * (n + 1)) (n := 5828 + 524 * (n + 1)) (by omega) (by omega) ?_
  have fin : W p l e room_1 s m #[Value.ref b] below meth c H locs (39 + 8 * (n + 1)) (5828 + 524 * (n + 1)) Q (F0 m 1462 ls []) := by
    refine lv_goto (tgt := 1521) hx hb dL_law_1462 (by decide) ?_
    refine lv_iinc (v := nI (5 * (n + 1))) (lv' := [(4, .int (nI (5 * (n + 1)))), (6, .int bb), (5, .int r), (0, .ref b), (1, .ref (a 0)), (2, .ref (am 0)), (3, .ref o)]) hx hb dL_law_1521 hl (k := 6) rfl (nI_add (5 * n) 5) (by decide) rfl (fun ls hl => ?_)
    refine lv_goto (tgt := 23) hx hb dL_law_1524 (by decide) ?_
    exact ih _ _ _ ⟨a9, am, k9, m9, t9, o, La, Lm, F, ro1, hw, ⟨hk2, hi9, hle9⟩, hm2, hR9, ho2, by rw [ha9]; exact lv_sub hl [3, 4, 5, 6, 0] rfl⟩
  refine lv_iload hx hb dL_law_1438 (lv_at hl 1 rfl) ?_
  refine lv_icmp_eq (tgt := 1445) hx hb dL_law_1440 (by decide) (fun _ => ?_) (fun h => absurd rfl h)
  refine lv_iload hx hb dL_law_1445 (lv_at hl 1 rfl) ?_
  refine lv_if_ne (tgt := 1462) hx hb dL_law_1447 (by decide) (fun _ => fin) (fun h0 => ?_)
  refine lv_aload_n hx hb dL_law_1450 rfl (lv_at hl 5 rfl) ?_
  refine lv_iconst (v := 0) hx hb dL_law_1451 (by decide) ?_
  refine pm_lald (n := 1) (r := ro1) hx hb hw (List.mem_append_right _ (List.mem_append_right _ (List.mem_singleton.mpr rfl))) ho2 (j := 0) rfl (by unfold vp_in; decide) dL_law_1452 ?_
  refine lv_iload hx hb dL_law_1453 (lv_at hl 0 rfl) ?_
  refine lv_i2l (v := bb.toInt64) hx hb dL_law_1455 rfl ?_
  refine W.lcmp hx hb dL_law_1456 ?_
  refine lv_if_eq (tgt := 1462) hx hb dL_law_1457 (by decide) (fun _ => fin) (fun h2 => absurd ((lg_cmp_eq _ _).mpr (hans h0)) h2)

set_option maxHeartbeats 4000000 in
set_option maxRecDepth 100000 in
theorem law_billed {p : Program} {e : Env} {s : State} {m : MethodId} {below : List Frame} {meth : Method} {c : Code} {l : Launch} {b L : Nat} {xs : Nat → Int32} {Q : State → Prop} {g : GE} {n : Nat} {H : Heap} {locs : List Loc} {ls : Array Slot} (hst : l.stackTraces = false) (hL : L ≤ 2560) (C0 : lw_At p s m meth c b L xs) (hs : Sx g (lwA s) s s.heap) (hN : NcU s) (hn : 5 * n + 5 ≤ L) (I : LawI g s b n H locs ls) (ih : ∀ (H1 : Heap) (locs1 : List Loc) (ls1 : Array Slot), LawI g s b (n + 1) H1 locs1 ls1 → W p l e room_1 s m #[Value.ref b] below meth c H1 locs1 (39 + 8 * (n + 1)) (5828 + 524 * (n + 1)) Q (F0 m 23 ls1 [])) : W p l e room_1 s m #[Value.ref b] below meth c H locs (39 + 8 * n) (5828 + 524 * n) Q (F0 m 1465 ls []) := by
  obtain ⟨hx, hb, hr, hml, hown0, hts0, hX, hbl, hlocks, hgv⟩ := id C0
  obtain ⟨a, am, k, mm, t0, o, Lc, Lm, f, ro, hw, ⟨hk, hi, hle⟩, hm, hR, hfo, hl⟩ := I
  have hbA : ¬ lwA s b := Nat.not_le.mpr hbl
  have hts : ∀ w ∈ wsL_law, w.before #[Value.ref b] s = true := fun w h => hts0 w (wsL_law_in w h)
  have hown : s.vm.findClass RL = some m.cls := hown0
  have CF := (⟨hx, hb, hml, hown, hts⟩ : CallFix p m c cL_law 7 s #[Value.ref b] wsL_law RL)
  have hP := Pt_r hw.nodup
  have ho : o ∉ Lc := fun h => (List.nodup_append.mp hP.2.2.1).2.2 o h o (List.mem_singleton.mpr rfl) rfl
  refine lv_aload_n hx hb dL_law_1465 rfl (lv_at hl 1 rfl) ?_
  refine lv_aload_n hx hb dL_law_1466 rfl (lv_at hl 0 rfl) ?_
  refine lv_iload hx hb dL_law_1467 (lv_at hl 4 rfl) ?_
  refine lv_iconst (v := 1) hx hb dL_law_1469 (by decide) ?_
  refine lv_iadd hx hb dL_law_1470 ?_
  refine lw_sld hx hb hX hbl hbA hw hL (q := 5 * n + 1) (nI_add (5 * n) 1) (by omega) dL_law_1471 ?_
  refine lv_aload_n hx hb dL_law_1472 rfl (lv_at hl 3 rfl) ?_
  refine pfx_ic hP hw (vx_runSX (As := [.ref (a 0), .int (xs (5 * n + 1)), .ref o]) (rest := []) CF (w_billed l g Lc f (a 0) o _ ro (xs (5 * n + 1)) _ _ (c_billed l hst g Lc f a k hk hi (xs (5 * n + 1))) (fun E u h => by obtain ⟨h, -⟩ := h; rcases h with ⟨-, rfl⟩ | ⟨-, h⟩ <;> first | (exact rfl) | (exact False.elim h)) (hk.q (i := 0) (dC (by decide))) (hk.f (i := 0) (dC (by decide))) ho hfo _) (vx_cwSW 3 hts gL_law_L_billed rfl rfl rfl (by decide +kernel) ⟨Nat.le_of_ble_eq_true rfl, Nat.le_of_ble_eq_true rfl⟩) (pn_preS (hw.sub hP.1 hP.2.2.1) hs hN) rfl rfl hl.1 rfl (lv_room (Nat.le_of_ble_eq_true rfl)) dL_law_1473 ⟨by show _ ≤ 601024; omega, by show _ ≤ 7293034; omega⟩) (fun E ce q9 La9 f9 H9 locs9 he _ _ _ _ _ => False.elim he) (fun r Lx fx H locs hp hdx hw => ?_)
  obtain ⟨La, fc, ro1, hoLa, hu, hfc, hfo1, hW⟩ := hp
  obtain rfl : Lx = La ++ [o] := hu
  refine lv_istore (lv' := [(5, .int r), (0, .ref b), (1, .ref (a 0)), (2, .ref (am 0)), (3, .ref o), (4, .int (nI (5 * n)))]) hx hb dL_law_1476 hl (by decide) rfl (fun ls hl => ?_)
  have hm1 : MW g am mm Lm (mix Lm f fx) := hm.mixR
  have hP1 := Pt_r hw.nodup
  refine lv_aload_n hx hb dL_law_1478 rfl (lv_at hl 3 rfl) ?_
  refine lv_aload_n hx hb dL_law_1479 rfl (lv_at hl 1 rfl) ?_
  refine lv_iload hx hb dL_law_1480 (lv_at hl 5 rfl) ?_
  refine lv_iconst (v := 1) hx hb dL_law_1482 (by decide) ?_
  refine lv_iadd hx hb dL_law_1483 ?_
  refine lw_sld hx hb hX hbl hbA hw hL (q := 5 * n + 1) (nI_add (5 * n) 1) (by omega) dL_law_1484 ?_
  refine pf_i hP1 hw (va_runV (As := [.int (xs (5 * n + 1))]) (rest := []) CF (m_billed l g Lm _ am mm hm1 (kP k) t0 (kC k) hR.1 (xs (5 * n + 1)) _) (cwV 1 hts gL_law_X7_billed rfl rfl rfl (by decide +kernel) ⟨Nat.le_of_ble_eq_true rfl, Nat.le_of_ble_eq_true rfl⟩) (pm_preV (hw.sub hP1.1 hP1.2.2.1) hs (pm_recv (hw.sub hP1.1 hP1.2.2.1) (hm1.q (i := 0) (by decide)) (hm1.f (i := 0) (by decide)) rfl)) rfl rfl hl.1 rfl (lv_room (Nat.le_of_ble_eq_true rfl)) dL_law_1485 ⟨by show _ ≤ 601024; omega, by show _ ≤ 7293034; omega⟩) (fun bb Ly fy H locs hp hdy hw => ?_)
  obtain ⟨hJ, hans⟩ := j_billed hi hle hR hW hp
  obtain ⟨hLy, a9, k9, m9, t9, ha9, ⟨hk9, hi9, hle9⟩, hm9, hR9, h49⟩ := hJ
  obtain rfl : Lm = Ly := hLy.symm
  refine lv_istore (lv' := [(6, .int bb), (5, .int r), (0, .ref b), (1, .ref (a 0)), (2, .ref (am 0)), (3, .ref o), (4, .int (nI (5 * n)))]) hx hb dL_law_1488 hl (by decide) rfl (fun ls hl => ?_)
  have hfc2 : ∀ q, q ∈ La → mix (La ++ [o]) (mix Lm f fx) fy q = fc q := fun q hq => by
    show (if q ∈ La ++ [o] then (if q ∈ Lm then f q else fx q) else fy q) = fc q
    rw [if_pos (List.mem_append_left _ hq), if_neg (hdx q (List.mem_append_left _ hq))]
    exact hfc q hq
  have ho2 : mix (La ++ [o]) (mix Lm f fx) fy o = .inl (g.2.1 4, 1, .inr (.inl ro1)) := by
    show (if o ∈ La ++ [o] then (if o ∈ Lm then f o else fx o) else fy o) = _
    rw [if_pos (List.mem_append_right _ (List.mem_singleton.mpr rfl)), if_neg (hdx o (List.mem_append_right _ (List.mem_singleton.mpr rfl)))]
    exact hfo1
  have hm2 : MW g am m9 Lm (mix (La ++ [o]) (mix Lm f fx) fy) := FW.mixL hm9 hdy
  have hk2 : CW g a9 k9 La (mix (La ++ [o]) (mix Lm f fx) fy) := FW.cong hk9 hfc2
  generalize mix (La ++ [o]) (mix Lm f fx) fy = F at hw hk2 hm2 ho2
  have hP2 := Pt_l hw.nodup
  refine lv_aload_n hx hb dL_law_1490 rfl (lv_at hl 4 rfl) ?_
  refine pf_i hP2 hw (va_runV (As := []) (rest := []) CF (m_thrown l g Lm F am m9 hm2 _) (cwV 0 hts gL_law_X7_thrown rfl rfl rfl (by decide +kernel) ⟨Nat.le_of_ble_eq_true rfl, Nat.le_of_ble_eq_true rfl⟩) (pm_preV (hw.sub hP2.1 hP2.2.2.1) hs (pm_recv (hw.sub hP2.1 hP2.2.2.1) (hm2.q (i := 0) (by decide)) (hm2.f (i := 0) (by decide)) rfl)) rfl rfl hl.1 rfl (lv_room (Nat.le_of_ble_eq_true rfl)) dL_law_1491 ⟨by show _ ≤ 601024; omega, by show _ ≤ 7293034; omega⟩) (fun th Lz fz H locs hp hdz hw => ?_)
  obtain ⟨hth, hu⟩ := hp
  obtain ⟨e1, e2⟩ := Prod.mk.inj hu
  obtain rfl := e1.symm
  obtain rfl := e2.symm
  rw [mix_same] at hw
  rw [h49] at hth
  obtain rfl : r = th := hth.symm
  refine W.widen (k := 39 + 8 * (n + 1)) (n := 5828 + 524 * (n + 1)) (by omega) (by omega) ?_
  have fin : W p l e room_1 s m #[Value.ref b] below meth c H locs (39 + 8 * (n + 1)) (5828 + 524 * (n + 1)) Q (F0 m 1518 ls []) := by
    refine lv_goto (tgt := 1521) hx hb dL_law_1518 (by decide) ?_
    refine lv_iinc (v := nI (5 * (n + 1))) (lv' := [(4, .int (nI (5 * (n + 1)))), (6, .int bb), (5, .int r), (0, .ref b), (1, .ref (a 0)), (2, .ref (am 0)), (3, .ref o)]) hx hb dL_law_1521 hl (k := 6) rfl (nI_add (5 * n) 5) (by decide) rfl (fun ls hl => ?_)
    refine lv_goto (tgt := 23) hx hb dL_law_1524 (by decide) ?_
    exact ih _ _ _ ⟨a9, am, k9, m9, t9, o, La, Lm, F, ro1, hw, ⟨hk2, hi9, hle9⟩, hm2, hR9, ho2, by rw [ha9]; exact lv_sub hl [3, 4, 5, 6, 0] rfl⟩
  refine lv_iload hx hb dL_law_1494 (lv_at hl 1 rfl) ?_
  refine lv_icmp_eq (tgt := 1501) hx hb dL_law_1496 (by decide) (fun _ => ?_) (fun h => absurd rfl h)
  refine lv_iload hx hb dL_law_1501 (lv_at hl 1 rfl) ?_
  refine lv_if_ne (tgt := 1518) hx hb dL_law_1503 (by decide) (fun _ => fin) (fun h0 => ?_)
  refine lv_aload_n hx hb dL_law_1506 rfl (lv_at hl 5 rfl) ?_
  refine lv_iconst (v := 0) hx hb dL_law_1507 (by decide) ?_
  refine pm_lald (n := 1) (r := ro1) hx hb hw (List.mem_append_right _ (List.mem_append_right _ (List.mem_singleton.mpr rfl))) ho2 (j := 0) rfl (by unfold vp_in; decide) dL_law_1508 ?_
  refine lv_iload hx hb dL_law_1509 (lv_at hl 0 rfl) ?_
  refine lv_i2l (v := bb.toInt64) hx hb dL_law_1511 rfl ?_
  refine W.lcmp hx hb dL_law_1512 ?_
  refine lv_if_eq (tgt := 1518) hx hb dL_law_1513 (by decide) (fun _ => fin) (fun h2 => absurd ((lg_cmp_eq _ _).mpr (hans h0)) h2)

