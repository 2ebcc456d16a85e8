/-! the law's cases -/
set_option maxHeartbeats 4000000 in
set_option maxRecDepth 100000 in
theorem law_open {p : Program} {e : Env} {s : State} {m : MethodId} {below : List Frame} {meth : Method} {c : Code} {l : Launch} {b L : Nat} {xs : Nat → Int32} {Q : State → Prop} {g : GE} {n : Nat} {H : Heap} {locs : List Loc} {ls : Array Slot} (hst : l.stackTraces = false) (hL : L ≤ 2560) (C0 : lw_At p s m meth c b L xs) (hs : Sx g (lwA s) s s.heap) (hN : NcU s) (hn : 5 * n + 5 ≤ L) (I : LawI g s b n H locs ls) (ih : ∀ (H1 : Heap) (locs1 : List Loc) (ls1 : Array Slot), LawI g s b (n + 1) H1 locs1 ls1 → W p l e room_1 s m #[Value.ref b] below meth c H1 locs1 (39 + 8 * (n + 1)) (5828 + 524 * (n + 1)) Q (F0 m 23 ls1 [])) : W p l e room_1 s m #[Value.ref b] below meth c H locs (39 + 8 * n) (5828 + 524 * n) Q (F0 m 136 ls []) := by
  obtain ⟨hx, hb, hr, hml, hown0, hts0, hX, hbl, hlocks, hgv⟩ := id C0
  obtain ⟨a, am, k, mm, t0, o, Lc, Lm, f, ro, hw, ⟨hk, hi, hle⟩, hm, hR, hfo, hl⟩ := I
  have hbA : ¬ lwA s b := Nat.not_le.mpr hbl
  have hts : ∀ w ∈ wsL_law, w.before #[Value.ref b] s = true := fun w h => hts0 w (wsL_law_in w h)
  have hown : s.vm.findClass RL = some m.cls := hown0
  have CF := (⟨hx, hb, hml, hown, hts⟩ : CallFix p m c cL_law 7 s #[Value.ref b] wsL_law RL)
  have hP := Pt_r hw.nodup
  have ho : o ∉ Lc := fun h => (List.nodup_append.mp hP.2.2.1).2.2 o h o (List.mem_singleton.mpr rfl) rfl
  refine lv_aload_n hx hb dL_law_136 rfl (lv_at hl 1 rfl) ?_
  refine lv_aload_n hx hb dL_law_137 rfl (lv_at hl 0 rfl) ?_
  refine lv_iload hx hb dL_law_138 (lv_at hl 4 rfl) ?_
  refine lv_iconst (v := 1) hx hb dL_law_140 (by decide) ?_
  refine lv_iadd hx hb dL_law_141 ?_
  refine lw_sld hx hb hX hbl hbA hw hL (q := 5 * n + 1) (nI_add (5 * n) 1) (by omega) dL_law_142 ?_
  refine lv_aload_n hx hb dL_law_143 rfl (lv_at hl 3 rfl) ?_
  refine pfx_ic hP hw (vx_runSX (As := [.ref (a 0), .int (xs (5 * n + 1)), .ref o]) (rest := []) CF (w_open l g Lc f (a 0) o _ ro (xs (5 * n + 1)) _ _ (c_open l hst g Lc f a k hk hi hle (xs (5 * n + 1))) (fun E u h => by obtain ⟨h, -⟩ := h; rcases h with ⟨-, rfl⟩ | ⟨-, ⟨-, rfl⟩ | ⟨-, h⟩⟩ <;> first | (exact Or.inl rfl) | (exact Or.inr (rfl)) | (exact False.elim h)) (hk.q (i := 0) (dC (by decide))) (hk.f (i := 0) (dC (by decide))) ho hfo _) (vx_cwSW 3 hts gL_law_L_open rfl rfl rfl (by decide +kernel) ⟨Nat.le_of_ble_eq_true rfl, Nat.le_of_ble_eq_true rfl⟩) (pn_preS (hw.sub hP.1 hP.2.2.1) hs hN) rfl rfl hl.1 rfl (lv_room (Nat.le_of_ble_eq_true rfl)) dL_law_144 ⟨by show _ ≤ 601024; omega, by show _ ≤ 7293034; omega⟩) (fun E ce q9 La9 f9 H9 locs9 he _ _ _ _ _ => False.elim he) (fun r Lx fx H locs hp hdx hw => ?_)
  obtain ⟨La, fc, ro1, hoLa, hu, hfc, hfo1, hW⟩ := hp
  obtain rfl : Lx = La ++ [o] := hu
  refine lv_istore (lv' := [(5, .int r), (0, .ref b), (1, .ref (a 0)), (2, .ref (am 0)), (3, .ref o), (4, .int (nI (5 * n)))]) hx hb dL_law_147 hl (by decide) rfl (fun ls hl => ?_)
  have hm1 : MW g am mm Lm (mix Lm f fx) := hm.mixR
  have hP1 := Pt_r hw.nodup
  refine lv_aload_n hx hb dL_law_149 rfl (lv_at hl 3 rfl) ?_
  refine lv_aload_n hx hb dL_law_150 rfl (lv_at hl 1 rfl) ?_
  refine lv_iload hx hb dL_law_151 (lv_at hl 5 rfl) ?_
  refine lv_iconst (v := 1) hx hb dL_law_153 (by decide) ?_
  refine lv_iadd hx hb dL_law_154 ?_
  refine lw_sld hx hb hX hbl hbA hw hL (q := 5 * n + 1) (nI_add (5 * n) 1) (by omega) dL_law_155 ?_
  refine pf_i hP1 hw (va_runV (As := [.int (xs (5 * n + 1))]) (rest := []) CF (m_open l g Lm _ am mm hm1 (kP k) t0 (kC k) hR.1 (xs (5 * n + 1)) _) (cwV 1 hts gL_law_X7_open rfl rfl rfl (by decide +kernel) ⟨Nat.le_of_ble_eq_true rfl, Nat.le_of_ble_eq_true rfl⟩) (pm_preV (hw.sub hP1.1 hP1.2.2.1) hs (pm_recv (hw.sub hP1.1 hP1.2.2.1) (hm1.q (i := 0) (by decide)) (hm1.f (i := 0) (by decide)) rfl)) rfl rfl hl.1 rfl (lv_room (Nat.le_of_ble_eq_true rfl)) dL_law_156 ⟨by show _ ≤ 601024; omega, by show _ ≤ 7293034; omega⟩) (fun bb Ly fy H locs hp hdy hw => ?_)
  obtain ⟨hJ, hans⟩ := j_open hi hle hR hW hp
  obtain ⟨hLy, a9, k9, m9, t9, ha9, ⟨hk9, hi9, hle9⟩, hm9, hR9, h49⟩ := hJ
  obtain rfl : Lm = Ly := hLy.symm
  refine lv_istore (lv' := [(6, .int bb), (5, .int r), (0, .ref b), (1, .ref (a 0)), (2, .ref (am 0)), (3, .ref o), (4, .int (nI (5 * n)))]) hx hb dL_law_159 hl (by decide) rfl (fun ls hl => ?_)
  have hfc2 : ∀ q, q ∈ La → mix (La ++ [o]) (mix Lm f fx) fy q = fc q := fun q hq => by
    show (if q ∈ La ++ [o] then (if q ∈ Lm then f q else fx q) else fy q) = fc q
    rw [if_pos (List.mem_append_left _ hq), if_neg (hdx q (List.mem_append_left _ hq))]
    exact hfc q hq
  have ho2 : mix (La ++ [o]) (mix Lm f fx) fy o = .inl (g.2.1 4, 1, .inr (.inl ro1)) := by
    show (if o ∈ La ++ [o] then (if o ∈ Lm then f o else fx o) else fy o) = _
    rw [if_pos (List.mem_append_right _ (List.mem_singleton.mpr rfl)), if_neg (hdx o (List.mem_append_right _ (List.mem_singleton.mpr rfl)))]
    exact hfo1
  have hm2 : MW g am m9 Lm (mix (La ++ [o]) (mix Lm f fx) fy) := FW.mixL hm9 hdy
  have hk2 : CW g a9 k9 La (mix (La ++ [o]) (mix Lm f fx) fy) := FW.cong hk9 hfc2
  generalize mix (La ++ [o]) (mix Lm f fx) fy = F at hw hk2 hm2 ho2
  have hP2 := Pt_l hw.nodup
  refine lv_aload_n hx hb dL_law_161 rfl (lv_at hl 4 rfl) ?_
  refine pf_i hP2 hw (va_runV (As := []) (rest := []) CF (m_thrown l g Lm F am m9 hm2 _) (cwV 0 hts gL_law_X7_thrown rfl rfl rfl (by decide +kernel) ⟨Nat.le_of_ble_eq_true rfl, Nat.le_of_ble_eq_true rfl⟩) (pm_preV (hw.sub hP2.1 hP2.2.2.1) hs (pm_recv (hw.sub hP2.1 hP2.2.2.1) (hm2.q (i := 0) (by decide)) (hm2.f (i := 0) (by decide)) rfl)) rfl rfl hl.1 rfl (lv_room (Nat.le_of_ble_eq_true rfl)) dL_law_162 ⟨by show _ ≤ 601024; omega, by show _ ≤ 7293034; omega⟩) (fun th Lz fz H locs hp hdz hw => ?_)
  obtain ⟨hth, hu⟩ := hp
  obtain ⟨e1, e2⟩ := Prod.mk.inj hu
  obtain rfl := e1.symm
  obtain rfl := e2.symm
  rw [mix_same] at hw
  rw [h49] at hth
  obtain rfl : r = th := hth.symm
  refine W.widen (k := 39 + 8 * (n + 1)) (n := 5828 + 524 * (n + 1)) (by omega) (by omega) ?_
  have fin : W p l e room_1 s m #[Value.ref b] below meth c H locs (39 + 8 * (n + 1)) (5828 + 524 * (n + 1)) Q (F0 m 189 ls []) := by
    refine lv_goto (tgt := 1521) hx hb dL_law_189 (by decide) ?_
    refine lv_iinc (v := nI (5 * (n + 1))) (lv' := [(4, .int (nI (5 * (n + 1)))), (6, .int bb), (5, .int r), (0, .ref b), (1, .ref (a 0)), (2, .ref (am 0)), (3, .ref o)]) hx hb dL_law_1521 hl (k := 6) rfl (nI_add (5 * n) 5) (by decide) rfl (fun ls hl => ?_)
    refine lv_goto (tgt := 23) hx hb dL_law_1524 (by decide) ?_
    exact ih _ _ _ ⟨a9, am, k9, m9, t9, o, La, Lm, F, ro1, hw, ⟨hk2, hi9, hle9⟩, hm2, hR9, ho2, by rw [ha9]; exact lv_sub hl [3, 4, 5, 6, 0] rfl⟩
  refine lv_iload hx hb dL_law_165 (lv_at hl 1 rfl) ?_
  refine lv_icmp_eq (tgt := 172) hx hb dL_law_167 (by decide) (fun _ => ?_) (fun h => absurd rfl h)
  refine lv_iload hx hb dL_law_172 (lv_at hl 1 rfl) ?_
  refine lv_if_ne (tgt := 189) hx hb dL_law_174 (by decide) (fun _ => fin) (fun h0 => ?_)
  refine lv_aload_n hx hb dL_law_177 rfl (lv_at hl 5 rfl) ?_
  refine lv_iconst (v := 0) hx hb dL_law_178 (by decide) ?_
  refine pm_lald (n := 1) (r := ro1) hx hb hw (List.mem_append_right _ (List.mem_append_right _ (List.mem_singleton.mpr rfl))) ho2 (j := 0) rfl (by unfold vp_in; decide) dL_law_179 ?_
  refine lv_iload hx hb dL_law_180 (lv_at hl 0 rfl) ?_
  refine lv_i2l (v := bb.toInt64) hx hb dL_law_182 rfl ?_
  refine W.lcmp hx hb dL_law_183 ?_
  refine lv_if_eq (tgt := 189) hx hb dL_law_184 (by decide) (fun _ => fin) (fun h2 => absurd ((lg_cmp_eq _ _).mpr (hans h0)) h2)

set_option maxHeartbeats 4000000 in
set_option maxRecDepth 100000 in
theorem law_setWeight {p : Program} {e : Env} {s : State} {m : MethodId} {below : List Frame} {meth : Method} {c : Code} {l : Launch} {b L : Nat} {xs : Nat → Int32} {Q : State → Prop} {g : GE} {n : Nat} {H : Heap} {locs : List Loc} {ls : Array Slot} (hst : l.stackTraces = false) (hL : L ≤ 2560) (C0 : lw_At p s m meth c b L xs) (hs : Sx g (lwA s) s s.heap) (hN : NcU s) (hn : 5 * n + 5 ≤ L) (I : LawI g s b n H locs ls) (ih : ∀ (H1 : Heap) (locs1 : List Loc) (ls1 : Array Slot), LawI g s b (n + 1) H1 locs1 ls1 → W p l e room_1 s m #[Value.ref b] below meth c H1 locs1 (39 + 8 * (n + 1)) (5828 + 524 * (n + 1)) Q (F0 m 23 ls1 [])) : W p l e room_1 s m #[Value.ref b] below meth c H locs (39 + 8 * n) (5828 + 524 * n) Q (F0 m 192 ls []) := by
  obtain ⟨hx, hb, hr, hml, hown0, hts0, hX, hbl, hlocks, hgv⟩ := id C0
  obtain ⟨a, am, k, mm, t0, o, Lc, Lm, f, ro, hw, ⟨hk, hi, hle⟩, hm, hR, hfo, hl⟩ := I
  have hbA : ¬ lwA s b := Nat.not_le.mpr hbl
  have hts : ∀ w ∈ wsL_law, w.before #[Value.ref b] s = true := fun w h => hts0 w (wsL_law_in w h)
  have hown : s.vm.findClass RL = some m.cls := hown0
  have CF := (⟨hx, hb, hml, hown, hts⟩ : CallFix p m c cL_law 7 s #[Value.ref b] wsL_law RL)
  have hP := Pt_r hw.nodup
  have ho : o ∉ Lc := fun h => (List.nodup_append.mp hP.2.2.1).2.2 o h o (List.mem_singleton.mpr rfl) rfl
  refine lv_aload_n hx hb dL_law_192 rfl (lv_at hl 1 rfl) ?_
  refine lv_aload_n hx hb dL_law_193 rfl (lv_at hl 0 rfl) ?_
  refine lv_iload hx hb dL_law_194 (lv_at hl 4 rfl) ?_
  refine lv_iconst (v := 1) hx hb dL_law_196 (by decide) ?_
  refine lv_iadd hx hb dL_law_197 ?_
  refine lw_sld hx hb hX hbl hbA hw hL (q := 5 * n + 1) (nI_add (5 * n) 1) (by omega) dL_law_198 ?_
  refine lv_aload_n hx hb dL_law_199 rfl (lv_at hl 0 rfl) ?_
  refine lv_iload hx hb dL_law_200 (lv_at hl 4 rfl) ?_
  refine lv_iconst (v := 2) hx hb dL_law_202 (by decide) ?_
  refine lv_iadd hx hb dL_law_203 ?_
  refine lw_sld hx hb hX hbl hbA hw hL (q := 5 * n + 2) (nI_add (5 * n) 2) (by omega) dL_law_204 ?_
  refine lv_aload_n hx hb dL_law_205 rfl (lv_at hl 0 rfl) ?_
  refine lv_iload hx hb dL_law_206 (lv_at hl 4 rfl) ?_
  refine lv_iconst (v := 3) hx hb dL_law_208 (by decide) ?_
  refine lv_iadd hx hb dL_law_209 ?_
  refine lw_sld hx hb hX hbl hbA hw hL (q := 5 * n + 3) (nI_add (5 * n) 3) (by omega) dL_law_210 ?_
  refine lv_aload_n hx hb dL_law_211 rfl (lv_at hl 3 rfl) ?_
  refine pfx_ic hP hw (vx_runSX (As := [.ref (a 0), .int (xs (5 * n + 1)), .int (xs (5 * n + 2)), .int (xs (5 * n + 3)), .ref o]) (rest := []) CF (w_setWeight l g Lc f (a 0) o _ ro (xs (5 * n + 1)) (xs (5 * n + 2)) (xs (5 * n + 3)) _ _ (c_setWeight l hst g Lc f a k hk (xs (5 * n + 1)) (xs (5 * n + 2)) (xs (5 * n + 3))) (fun E u h => by obtain ⟨h, -⟩ := h; rcases h with ⟨-, rfl⟩ | ⟨-, ⟨-, rfl⟩ | ⟨-, ⟨-, rfl⟩ | ⟨-, ⟨-, rfl⟩ | ⟨-, h⟩⟩⟩⟩ <;> first | (exact Or.inl rfl) | (exact Or.inr (Or.inl rfl)) | (exact Or.inr (Or.inr (rfl))) | (exact False.elim h)) (hk.q (i := 0) (dC (by decide))) (hk.f (i := 0) (dC (by decide))) ho hfo _) (vx_cwSW 5 hts gL_law_L_setWeight rfl rfl rfl (by decide +kernel) ⟨Nat.le_of_ble_eq_true rfl, Nat.le_of_ble_eq_true rfl⟩) (pn_preS (hw.sub hP.1 hP.2.2.1) hs hN) rfl rfl hl.1 rfl (lv_room (Nat.le_of_ble_eq_true rfl)) dL_law_212 ⟨by show _ ≤ 601024; omega, by show _ ≤ 7293034; omega⟩) (fun E ce q9 La9 f9 H9 locs9 he _ _ _ _ _ => False.elim he) (fun r Lx fx H locs hp hdx hw => ?_)
  obtain ⟨La, fc, ro1, hoLa, hu, hfc, hfo1, hW⟩ := hp
  obtain rfl : Lx = La ++ [o] := hu
  refine lv_istore (lv' := [(5, .int r), (0, .ref b), (1, .ref (a 0)), (2, .ref (am 0)), (3, .ref o), (4, .int (nI (5 * n)))]) hx hb dL_law_215 hl (by decide) rfl (fun ls hl => ?_)
  have hm1 : MW g am mm Lm (mix Lm f fx) := hm.mixR
  have hP1 := Pt_r hw.nodup
  refine lv_aload_n hx hb dL_law_217 rfl (lv_at hl 3 rfl) ?_
  refine lv_aload_n hx hb dL_law_218 rfl (lv_at hl 1 rfl) ?_
  refine lv_iload hx hb dL_law_219 (lv_at hl 5 rfl) ?_
  refine lv_iconst (v := 1) hx hb dL_law_221 (by decide) ?_
  refine lv_iadd hx hb dL_law_222 ?_
  refine lw_sld hx hb hX hbl hbA hw hL (q := 5 * n + 1) (nI_add (5 * n) 1) (by omega) dL_law_223 ?_
  refine lv_aload_n hx hb dL_law_224 rfl (lv_at hl 1 rfl) ?_
  refine lv_iload hx hb dL_law_225 (lv_at hl 5 rfl) ?_
  refine lv_iconst (v := 2) hx hb dL_law_227 (by decide) ?_
  refine lv_iadd hx hb dL_law_228 ?_
  refine lw_sld hx hb hX hbl hbA hw hL (q := 5 * n + 2) (nI_add (5 * n) 2) (by omega) dL_law_229 ?_
  refine lv_aload_n hx hb dL_law_230 rfl (lv_at hl 1 rfl) ?_
  refine lv_iload hx hb dL_law_231 (lv_at hl 5 rfl) ?_
  refine lv_iconst (v := 3) hx hb dL_law_233 (by decide) ?_
  refine lv_iadd hx hb dL_law_234 ?_
  refine lw_sld hx hb hX hbl hbA hw hL (q := 5 * n + 3) (nI_add (5 * n) 3) (by omega) dL_law_235 ?_
  refine pf_i hP1 hw (va_runV (As := [.int (xs (5 * n + 1)), .int (xs (5 * n + 2)), .int (xs (5 * n + 3))]) (rest := []) CF (m_setWeight l g Lm _ am mm hm1 (kP k) t0 (kC k) hR.1 (xs (5 * n + 1)) (xs (5 * n + 2)) (xs (5 * n + 3)) _) (cwV 3 hts gL_law_X7_setWeight rfl rfl rfl (by decide +kernel) ⟨Nat.le_of_ble_eq_true rfl, Nat.le_of_ble_eq_true rfl⟩) (pm_preV (hw.sub hP1.1 hP1.2.2.1) hs (pm_recv (hw.sub hP1.1 hP1.2.2.1) (hm1.q (i := 0) (by decide)) (hm1.f (i := 0) (by decide)) rfl)) rfl rfl hl.1 rfl (lv_room (Nat.le_of_ble_eq_true rfl)) dL_law_236 ⟨by show _ ≤ 601024; omega, by show _ ≤ 7293034; omega⟩) (fun bb Ly fy H locs hp hdy hw => ?_)
  obtain ⟨hJ, hans⟩ := j_setWeight hi hle hR hW hp
  obtain ⟨hLy, a9, k9, m9, t9, ha9, ⟨hk9, hi9, hle9⟩, hm9, hR9, h49⟩ := hJ
  obtain rfl : Lm = Ly := hLy.symm
  refine lv_istore (lv' := [(6, .int bb), (5, .int r), (0, .ref b), (1, .ref (a 0)), (2, .ref (am 0)), (3, .ref o), (4, .int (nI (5 * n)))]) hx hb dL_law_239 hl (by decide) rfl (fun ls hl => ?_)
  have hfc2 : ∀ q, q ∈ La → mix (La ++ [o]) (mix Lm f fx) fy q = fc q := fun q hq => by
    show (if q ∈ La ++ [o] then (if q ∈ Lm then f q else fx q) else fy q) = fc q
    rw [if_pos (List.mem_append_left _ hq), if_neg (hdx q (List.mem_append_left _ hq))]
    exact hfc q hq
  have ho2 : mix (La ++ [o]) (mix Lm f fx) fy o = .inl (g.2.1 4, 1, .inr (.inl ro1)) := by
    show (if o ∈ La ++ [o] then (if o ∈ Lm then f o else fx o) else fy o) = _
    rw [if_pos (List.mem_append_right _ (List.mem_singleton.mpr rfl)), if_neg (hdx o (List.mem_append_right _ (List.mem_singleton.mpr rfl)))]
    exact hfo1
  have hm2 : MW g am m9 Lm (mix (La ++ [o]) (mix Lm f fx) fy) := FW.mixL hm9 hdy
  have hk2 : CW g a9 k9 La (mix (La ++ [o]) (mix Lm f fx) fy) := FW.cong hk9 hfc2
  generalize mix (La ++ [o]) (mix Lm f fx) fy = F at hw hk2 hm2 ho2
  have hP2 := Pt_l hw.nodup
  refine lv_aload_n hx hb dL_law_241 rfl (lv_at hl 4 rfl) ?_
  refine pf_i hP2 hw (va_runV (As := []) (rest := []) CF (m_thrown l g Lm F am m9 hm2 _) (cwV 0 hts gL_law_X7_thrown rfl rfl rfl (by decide +kernel) ⟨Nat.le_of_ble_eq_true rfl, Nat.le_of_ble_eq_true rfl⟩) (pm_preV (hw.sub hP2.1 hP2.2.2.1) hs (pm_recv (hw.sub hP2.1 hP2.2.2.1) (hm2.q (i := 0) (by decide)) (hm2.f (i := 0) (by decide)) rfl)) rfl rfl hl.1 rfl (lv_room (Nat.le_of_ble_eq_true rfl)) dL_law_242 ⟨by show _ ≤ 601024; omega, by show _ ≤ 7293034; omega⟩) (fun th Lz fz H locs hp hdz hw => ?_)
  obtain ⟨hth, hu⟩ := hp
  obtain ⟨e1, e2⟩ := Prod.mk.inj hu
  obtain rfl := e1.symm
  obtain rfl := e2.symm
  rw [mix_same] at hw
  rw [h49] at hth
  obtain rfl : r = th := hth.symm
  refine W.widen (k := 39 + 8 * (n + 1)) (n := 5828 + 524 * (n + 1)) (by omega) (by omega) ?_
  have fin : W p l e room_1 s m #[Value.ref b] below meth c H locs (39 + 8 * (n + 1)) (5828 + 524 * (n + 1)) Q (F0 m 269 ls []) := by
    refine lv_goto (tgt := 1521) hx hb dL_law_269 (by decide) ?_
    refine lv_iinc (v := nI (5 * (n + 1))) (lv' := [(4, .int (nI (5 * (n + 1)))), (6, .int bb), (5, .int r), (0, .ref b), (1, .ref (a 0)), (2, .ref (am 0)), (3, .ref o)]) hx hb dL_law_1521 hl (k := 6) rfl (nI_add (5 * n) 5) (by decide) rfl (fun ls hl => ?_)
    refine lv_goto (tgt := 23) hx hb dL_law_1524 (by decide) ?_
    exact ih _ _ _ ⟨a9, am, k9, m9, t9, o, La, Lm, F, ro1, hw, ⟨hk2, hi9, hle9⟩, hm2, hR9, ho2, by rw [ha9]; exact lv_sub hl [3, 4, 5, 6, 0] rfl⟩
  refine lv_iload hx hb dL_law_245 (lv_at hl 1 rfl) ?_
  refine lv_icmp_eq (tgt := 252) hx hb dL_law_247 (by decide) (fun _ => ?_) (fun h => absurd rfl h)
  refine lv_iload hx hb dL_law_252 (lv_at hl 1 rfl) ?_
  refine lv_if_ne (tgt := 269) hx hb dL_law_254 (by decide) (fun _ => fin) (fun h0 => ?_)
  refine lv_aload_n hx hb dL_law_257 rfl (lv_at hl 5 rfl) ?_
  refine lv_iconst (v := 0) hx hb dL_law_258 (by decide) ?_
  refine pm_lald (n := 1) (r := ro1) hx hb hw (List.mem_append_right _ (List.mem_append_right _ (List.mem_singleton.mpr rfl))) ho2 (j := 0) rfl (by unfold vp_in; decide) dL_law_259 ?_
  refine lv_iload hx hb dL_law_260 (lv_at hl 0 rfl) ?_
  refine lv_i2l (v := bb.toInt64) hx hb dL_law_262 rfl ?_
  refine W.lcmp hx hb dL_law_263 ?_
  refine lv_if_eq (tgt := 269) hx hb dL_law_264 (by decide) (fun _ => fin) (fun h2 => absurd ((lg_cmp_eq _ _).mpr (hans h0)) h2)

set_option maxHeartbeats 4000000 in
set_option maxRecDepth 100000 in
theorem law_pass {p : Program} {e : Env} {s : State} {m : MethodId} {below : List Frame} {meth : Method} {c : Code} {l : Launch} {b L : Nat} {xs : Nat → Int32} {Q : State → Prop} {g : GE} {n : Nat} {H : Heap} {locs : List Loc} {ls : Array Slot} (hst : l.stackTraces = false) (hL : L ≤ 2560) (C0 : lw_At p s m meth c b L xs) (hs : Sx g (lwA s) s s.heap) (hN : NcU s) (hn : 5 * n + 5 ≤ L) (I : LawI g s b n H locs ls) (ih : ∀ (H1 : Heap) (locs1 : List Loc) (ls1 : Array Slot), LawI g s b (n + 1) H1 locs1 ls1 → W p l e room_1 s m #[Value.ref b] below meth c H1 locs1 (39 + 8 * (n + 1)) (5828 + 524 * (n + 1)) Q (F0 m 23 ls1 [])) : W p l e room_1 s m #[Value.ref b] below meth c H locs (39 + 8 * n) (5828 + 524 * n) Q (F0 m 272 ls []) := by
  obtain ⟨hx, hb, hr, hml, hown0, hts0, hX, hbl, hlocks, hgv⟩ := id C0
  obtain ⟨a, am, k, mm, t0, o, Lc, Lm, f, ro, hw, ⟨hk, hi, hle⟩, hm, hR, hfo, hl⟩ := I
  have hbA : ¬ lwA s b := Nat.not_le.mpr hbl
  have hts : ∀ w ∈ wsL_law, w.before #[Value.ref b] s = true := fun w h => hts0 w (wsL_law_in w h)
  have hown : s.vm.findClass RL = some m.cls := hown0
  have CF := (⟨hx, hb, hml, hown, hts⟩ : CallFix p m c cL_law 7 s #[Value.ref b] wsL_law RL)
  have hP := Pt_r hw.nodup
  have ho : o ∉ Lc := fun h => (List.nodup_append.mp hP.2.2.1).2.2 o h o (List.mem_singleton.mpr rfl) rfl
  refine lv_aload_n hx hb dL_law_272 rfl (lv_at hl 1 rfl) ?_
  refine lv_aload_n hx hb dL_law_273 rfl (lv_at hl 0 rfl) ?_
  refine lv_iload hx hb dL_law_274 (lv_at hl 4 rfl) ?_
  refine lv_iconst (v := 1) hx hb dL_law_276 (by decide) ?_
  refine lv_iadd hx hb dL_law_277 ?_
  refine lw_sld hx hb hX hbl hbA hw hL (q := 5 * n + 1) (nI_add (5 * n) 1) (by omega) dL_law_278 ?_
  refine lv_aload_n hx hb dL_law_279 rfl (lv_at hl 3 rfl) ?_
  refine pfx_ic hP hw (vx_runSX (As := [.ref (a 0), .int (xs (5 * n + 1)), .ref o]) (rest := []) CF (w_pass l g Lc f (a 0) o _ ro (xs (5 * n + 1)) _ _ (c_pass l hst g Lc f a k hk (xs (5 * n + 1))) (fun E u h => by obtain ⟨h, -⟩ := h; rcases h with ⟨-, rfl⟩ | ⟨-, h⟩ <;> first | (exact rfl) | (exact False.elim h)) (hk.q (i := 0) (dC (by decide))) (hk.f (i := 0) (dC (by decide))) ho hfo _) (vx_cwSW 3 hts gL_law_L_pass rfl rfl rfl (by decide +kernel) ⟨Nat.le_of_ble_eq_true rfl, Nat.le_of_ble_eq_true rfl⟩) (pn_preS (hw.sub hP.1 hP.2.2.1) hs hN) rfl rfl hl.1 rfl (lv_room (Nat.le_of_ble_eq_true rfl)) dL_law_280 ⟨by show _ ≤ 601024; omega, by show _ ≤ 7293034; omega⟩) (fun E ce q9 La9 f9 H9 locs9 he _ _ _ _ _ => False.elim he) (fun r Lx fx H locs hp hdx hw => ?_)
  obtain ⟨La, fc, ro1, hoLa, hu, hfc, hfo1, hW⟩ := hp
  obtain rfl : Lx = La ++ [o] := hu
  refine lv_istore (lv' := [(5, .int r), (0, .ref b), (1, .ref (a 0)), (2, .ref (am 0)), (3, .ref o), (4, .int (nI (5 * n)))]) hx hb dL_law_283 hl (by decide) rfl (fun ls hl => ?_)
  have hm1 : MW g am mm Lm (mix Lm f fx) := hm.mixR
  have hP1 := Pt_r hw.nodup
  refine lv_aload_n hx hb dL_law_285 rfl (lv_at hl 3 rfl) ?_
  refine lv_aload_n hx hb dL_law_286 rfl (lv_at hl 1 rfl) ?_
  refine lv_iload hx hb dL_law_287 (lv_at hl 5 rfl) ?_
  refine lv_iconst (v := 1) hx hb dL_law_289 (by decide) ?_
  refine lv_iadd hx hb dL_law_290 ?_
  refine lw_sld hx hb hX hbl hbA hw hL (q := 5 * n + 1) (nI_add (5 * n) 1) (by omega) dL_law_291 ?_
  refine pf_i hP1 hw (va_runV (As := [.int (xs (5 * n + 1))]) (rest := []) CF (m_pass l g Lm _ am mm hm1 (xs (5 * n + 1)) _) (cwV 1 hts gL_law_X7_pass rfl rfl rfl (by decide +kernel) ⟨Nat.le_of_ble_eq_true rfl, Nat.le_of_ble_eq_true rfl⟩) (pm_preV (hw.sub hP1.1 hP1.2.2.1) hs (pm_recv (hw.sub hP1.1 hP1.2.2.1) (hm1.q (i := 0) (by decide)) (hm1.f (i := 0) (by decide)) rfl)) rfl rfl hl.1 rfl (lv_room (Nat.le_of_ble_eq_true rfl)) dL_law_292 ⟨by show _ ≤ 601024; omega, by show _ ≤ 7293034; omega⟩) (fun bb Ly fy H locs hp hdy hw => ?_)
  obtain ⟨hJ, hans⟩ := j_pass hi hle hR (by omega) hW hp
  obtain ⟨hLy, a9, k9, m9, t9, ha9, ⟨hk9, hi9, hle9⟩, hm9, hR9, h49⟩ := hJ
  obtain rfl : Lm = Ly := hLy.symm
  refine lv_istore (lv' := [(6, .int bb), (5, .int r), (0, .ref b), (1, .ref (a 0)), (2, .ref (am 0)), (3, .ref o), (4, .int (nI (5 * n)))]) hx hb dL_law_295 hl (by decide) rfl (fun ls hl => ?_)
  have hfc2 : ∀ q, q ∈ La → mix (La ++ [o]) (mix Lm f fx) fy q = fc q := fun q hq => by
    show (if q ∈ La ++ [o] then (if q ∈ Lm then f q else fx q) else fy q) = fc q
    rw [if_pos (List.mem_append_left _ hq), if_neg (hdx q (List.mem_append_left _ hq))]
    exact hfc q hq
  have ho2 : mix (La ++ [o]) (mix Lm f fx) fy o = .inl (g.2.1 4, 1, .inr (.inl ro1)) := by
    show (if o ∈ La ++ [o] then (if o ∈ Lm then f o else fx o) else fy o) = _
    rw [if_pos (List.mem_append_right _ (List.mem_singleton.mpr rfl)), if_neg (hdx o (List.mem_append_right _ (List.mem_singleton.mpr rfl)))]
    exact hfo1
  have hm2 : MW g am m9 Lm (mix (La ++ [o]) (mix Lm f fx) fy) := FW.mixL hm9 hdy
  have hk2 : CW g a9 k9 La (mix (La ++ [o]) (mix Lm f fx) fy) := FW.cong hk9 hfc2
  generalize mix (La ++ [o]) (mix Lm f fx) fy = F at hw hk2 hm2 ho2
  have hP2 := Pt_l hw.nodup
  refine lv_aload_n hx hb dL_law_297 rfl (lv_at hl 4 rfl) ?_
  refine pf_i hP2 hw (va_runV (As := []) (rest := []) CF (m_thrown l g Lm F am m9 hm2 _) (cwV 0 hts gL_law_X7_thrown rfl rfl rfl (by decide +kernel) ⟨Nat.le_of_ble_eq_true rfl, Nat.le_of_ble_eq_true rfl⟩) (pm_preV (hw.sub hP2.1 hP2.2.2.1) hs (pm_recv (hw.sub hP2.1 hP2.2.2.1) (hm2.q (i := 0) (by decide)) (hm2.f (i := 0) (by decide)) rfl)) rfl rfl hl.1 rfl (lv_room (Nat.le_of_ble_eq_true rfl)) dL_law_298 ⟨by show _ ≤ 601024; omega, by show _ ≤ 7293034; omega⟩) (fun th Lz fz H locs hp hdz hw => ?_)
  obtain ⟨hth, hu⟩ := hp
  obtain ⟨e1, e2⟩ := Prod.mk.inj hu
  obtain rfl := e1.symm
  obtain rfl := e2.symm
  rw [mix_same] at hw
  rw [h49] at hth
  obtain rfl : r = th := hth.symm
  refine W.widen (k := 39 + 8 * (n + 1)) (n := 5828 + 524 * (n + 1)) (by omega) (by omega) ?_
  have fin : W p l e room_1 s m #[Value.ref b] below meth c H locs (39 + 8 * (n + 1)) (5828 + 524 * (n + 1)) Q (F0 m 325 ls []) := by
    refine lv_goto (tgt := 1521) hx hb dL_law_325 (by decide) ?_
    refine lv_iinc (v := nI (5 * (n + 1))) (lv' := [(4, .int (nI (5 * (n + 1)))), (6, .int bb), (5, .int r), (0, .ref b), (1, .ref (a 0)), (2, .ref (am 0)), (3, .ref o)]) hx hb dL_law_1521 hl (k := 6) rfl (nI_add (5 * n) 5) (by decide) rfl (fun ls hl => ?_)
    refine lv_goto (tgt := 23) hx hb dL_law_1524 (by decide) ?_
    exact ih _ _ _ ⟨a9, am, k9, m9, t9, o, La, Lm, F, ro1, hw, ⟨hk2, hi9, hle9⟩, hm2, hR9, ho2, by rw [ha9]; exact lv_sub hl [3, 4, 5, 6, 0] rfl⟩
  refine lv_iload hx hb dL_law_301 (lv_at hl 1 rfl) ?_
  refine lv_icmp_eq (tgt := 308) hx hb dL_law_303 (by decide) (fun _ => ?_) (fun h => absurd rfl h)
  refine lv_iload hx hb dL_law_308 (lv_at hl 1 rfl) ?_
  refine lv_if_ne (tgt := 325) hx hb dL_law_310 (by decide) (fun _ => fin) (fun h0 => ?_)
  refine lv_aload_n hx hb dL_law_313 rfl (lv_at hl 5 rfl) ?_
  refine lv_iconst (v := 0) hx hb dL_law_314 (by decide) ?_
  refine pm_lald (n := 1) (r := ro1) hx hb hw (List.mem_append_right _ (List.mem_append_right _ (List.mem_singleton.mpr rfl))) ho2 (j := 0) rfl (by unfold vp_in; decide) dL_law_315 ?_
  refine lv_iload hx hb dL_law_316 (lv_at hl 0 rfl) ?_
  refine lv_i2l (v := bb.toInt64) hx hb dL_law_318 rfl ?_
  refine W.lcmp hx hb dL_law_319 ?_
  refine lv_if_eq (tgt := 325) hx hb dL_law_320 (by decide) (fun _ => fin) (fun h2 => absurd ((lg_cmp_eq _ _).mpr (hans h0)) h2)

set_option maxHeartbeats 4000000 in
set_option maxRecDepth 100000 in
theorem law_today {p : Program} {e : Env} {s : State} {m : MethodId} {below : List Frame} {meth : Method} {c : Code} {l : Launch} {b L : Nat} {xs : Nat → Int32} {Q : State → Prop} {g : GE} {n : Nat} {H : Heap} {locs : List Loc} {ls : Array Slot} (hst : l.stackTraces = false) (hL : L ≤ 2560) (C0 : lw_At p s m meth c b L xs) (hs : Sx g (lwA s) s s.heap) (hN : NcU s) (hn : 5 * n + 5 ≤ L) (I : LawI g s b n H locs ls) (ih : ∀ (H1 : Heap) (locs1 : List Loc) (ls1 : Array Slot), LawI g s b (n + 1) H1 locs1 ls1 → W p l e room_1 s m #[Value.ref b] below meth c H1 locs1 (39 + 8 * (n + 1)) (5828 + 524 * (n + 1)) Q (F0 m 23 ls1 [])) : W p l e room_1 s m #[Value.ref b] below meth c H locs (39 + 8 * n) (5828 + 524 * n) Q (F0 m 328 ls []) := by
  obtain ⟨hx, hb, hr, hml, hown0, hts0, hX, hbl, hlocks, hgv⟩ := id C0
  obtain ⟨a, am, k, mm, t0, o, Lc, Lm, f, ro, hw, ⟨hk, hi, hle⟩, hm, hR, hfo, hl⟩ := I
  have hbA : ¬ lwA s b := Nat.not_le.mpr hbl
  have hts : ∀ w ∈ wsL_law, w.before #[Value.ref b] s = true := fun w h => hts0 w (wsL_law_in w h)
  have hown : s.vm.findClass RL = some m.cls := hown0
  have CF := (⟨hx, hb, hml, hown, hts⟩ : CallFix p m c cL_law 7 s #[Value.ref b] wsL_law RL)
  have hnd := hw.nodup
  have hP : Pt (Lm ++ (Lc ++ [o])) Lc (Lm ++ [o]) := by
    have n1 := List.nodup_append.mp hnd
    have n2 := List.nodup_append.mp n1.2.1
    refine ⟨fun q hq => List.mem_append_right _ (List.mem_append_left _ hq), fun q hq => ?_, n2.1, ?_, fun q hq h9 => ?_⟩
    · rcases List.mem_append.mp hq with h | h
      · exact List.mem_append_left _ h
      · exact List.mem_append_right _ (List.mem_append_right _ h)
    · refine List.nodup_append.mpr ⟨n1.1, n2.2.1, fun q hq q2 hq2 => n1.2.2 q hq q2 (List.mem_append_right _ hq2)⟩
    · rcases List.mem_append.mp h9 with h | h
      · exact n1.2.2 q h q (List.mem_append_left _ hq) rfl
      · exact n2.2.2 q hq q h rfl
  refine lv_aload_n hx hb dL_law_328 rfl (lv_at hl 1 rfl) ?_
  refine pf_i hP hw (va_runV (As := []) (rest := []) CF (c_today l g Lc f a k hk _) (cwV 0 hts gL_law_X6_today rfl rfl rfl (by decide +kernel) ⟨Nat.le_of_ble_eq_true rfl, Nat.le_of_ble_eq_true rfl⟩) (pm_preV (hw.sub hP.1 hP.2.2.1) hs (pm_recv (hw.sub hP.1 hP.2.2.1) (hk.q (i := 0) (dC (by decide))) (hk.f (i := 0) (dC (by decide))) rfl)) rfl rfl hl.1 rfl (lv_room (Nat.le_of_ble_eq_true rfl)) dL_law_329 ⟨by show _ ≤ 601024; omega, by show _ ≤ 7293034; omega⟩) (fun r Lx fx H locs hp hdx hw => ?_)
  obtain ⟨hrr, hu⟩ := hp
  obtain ⟨e1, e2⟩ := Prod.mk.inj hu
  obtain rfl := e1.symm
  obtain rfl := e2.symm
  rw [mix_same] at hw
  have hP1 : Pt (Lc ++ (Lm ++ [o])) Lm (Lc ++ [o]) := by
    have n1 := List.nodup_append.mp hnd
    have n2 := List.nodup_append.mp n1.2.1
    refine ⟨fun q hq => List.mem_append_right _ (List.mem_append_left _ hq), fun q hq => ?_, n1.1, n1.2.1, fun q hq h9 => n1.2.2 q hq q h9 rfl⟩
    rcases List.mem_append.mp hq with h | h
    · exact List.mem_append_left _ h
    · exact List.mem_append_right _ (List.mem_append_right _ h)
  refine lv_aload_n hx hb dL_law_332 rfl (lv_at hl 2 rfl) ?_
  refine pf_i hP1 hw (va_runV (As := []) (rest := [.int r]) CF (m_today l g Lm f am mm hm _) (cwV 0 hts gL_law_X7_today rfl rfl rfl (by decide +kernel) ⟨Nat.le_of_ble_eq_true rfl, Nat.le_of_ble_eq_true rfl⟩) (pm_preV (hw.sub hP1.1 hP1.2.2.1) hs (pm_recv (hw.sub hP1.1 hP1.2.2.1) (hm.q (i := 0) (by decide)) (hm.f (i := 0) (by decide)) rfl)) rfl rfl hl.1 rfl (lv_room (Nat.le_of_ble_eq_true rfl)) dL_law_333 ⟨by show _ ≤ 601024; omega, by show _ ≤ 7293034; omega⟩) (fun bb Ly fy H locs hp hdy hw => ?_)
  obtain ⟨hbb, hLy, hm9⟩ := hp
  obtain rfl : Lm = Ly := hLy.symm
  have hrb : r = bb := by rw [hrr, hbb, hR.2.1.1.1]
  have hm2 : MW g am (mT mm 0) Lm (mix (Lc ++ [o]) f fy) := FW.mixL hm9 hdy
  have hk2 : CW g a k Lc (mix (Lc ++ [o]) f fy) := FW.cong hk (fun q hq => if_pos (List.mem_append_left _ hq))
  have ho2 : mix (Lc ++ [o]) f fy o = .inl (g.2.1 4, 1, .inr (.inl ro)) := (if_pos (List.mem_append_right _ (List.mem_singleton.mpr rfl))).trans hfo
  have hR9 : Rel k (mT mm 0) t0 (n + 1) := hR.sm (kSm.rf k) (mSm.t mm 0) (Nat.le_succ n)
  generalize mix (Lc ++ [o]) f fy = F at hw hk2 hm2 ho2
  refine W.widen (k := 39 + 8 * (n + 1)) (n := 5828 + 524 * (n + 1)) (by omega) (by omega) ?_
  refine lv_icmp_eq (tgt := 1521) hx hb dL_law_336 (by decide) (fun _ => ?_) (fun h => absurd hrb h)
  refine lv_iinc (v := nI (5 * (n + 1))) (lv' := [(4, .int (nI (5 * (n + 1)))), (0, .ref b), (1, .ref (a 0)), (2, .ref (am 0)), (3, .ref o)]) hx hb dL_law_1521 hl (k := 4) rfl (nI_add (5 * n) 5) (by decide) rfl (fun ls hl => ?_)
  refine lv_goto (tgt := 23) hx hb dL_law_1524 (by decide) ?_
  exact ih _ _ _ ⟨a, am, k, mT mm 0, t0, o, Lc, Lm, F, ro, hw, ⟨hk2, hi, hle⟩, hm2, hR9, ho2, lv_sub hl [1, 2, 3, 4, 0] rfl⟩

set_option maxHeartbeats 4000000 in
set_option maxRecDepth 100000 in
theorem law_change {p : Program} {e : Env} {s : State} {m : MethodId} {below : List Frame} {meth : Method} {c : Code} {l : Launch} {b L : Nat} {xs : Nat → Int32} {Q : State → Prop} {g : GE} {n : Nat} {H : Heap} {locs : List Loc} {ls : Array Slot} (hst : l.stackTraces = false) (hL : L ≤ 2560) (C0 : lw_At p s m meth c b L xs) (hs : Sx g (lwA s) s s.heap) (hN : NcU s) (hn : 5 * n + 5 ≤ L) (I : LawI g s b n H locs ls) (ih : ∀ (H1 : Heap) (locs1 : List Loc) (ls1 : Array Slot), LawI g s b (n + 1) H1 locs1 ls1 → W p l e room_1 s m #[Value.ref b] below meth c H1 locs1 (39 + 8 * (n + 1)) (5828 + 524 * (n + 1)) Q (F0 m 23 ls1 [])) : W p l e room_1 s m #[Value.ref b] below meth c H locs (39 + 8 * n) (5828 + 524 * n) Q (F0 m 341 ls []) := by
  obtain ⟨hx, hb, hr, hml, hown0, hts0, hX, hbl, hlocks, hgv⟩ := id C0
  obtain ⟨a, am, k, mm, t0, o, Lc, Lm, f, ro, hw, ⟨hk, hi, hle⟩, hm, hR, hfo, hl⟩ := I
  have hbA : ¬ lwA s b := Nat.not_le.mpr hbl
  have hts : ∀ w ∈ wsL_law, w.before #[Value.ref b] s = true := fun w h => hts0 w (wsL_law_in w h)
  have hown : s.vm.findClass RL = some m.cls := hown0
  have CF := (⟨hx, hb, hml, hown, hts⟩ : CallFix p m c cL_law 7 s #[Value.ref b] wsL_law RL)
  have hP := Pt_r hw.nodup
  have ho : o ∉ Lc := fun h => (List.nodup_append.mp hP.2.2.1).2.2 o h o (List.mem_singleton.mpr rfl) rfl
  refine lv_aload_n hx hb dL_law_341 rfl (lv_at hl 1 rfl) ?_
  refine lv_aload_n hx hb dL_law_342 rfl (lv_at hl 0 rfl) ?_
  refine lv_iload hx hb dL_law_343 (lv_at hl 4 rfl) ?_
  refine lv_iconst (v := 1) hx hb dL_law_345 (by decide) ?_
  refine lv_iadd hx hb dL_law_346 ?_
  refine lw_sld hx hb hX hbl hbA hw hL (q := 5 * n + 1) (nI_add (5 * n) 1) (by omega) dL_law_347 ?_
  refine lv_aload_n hx hb dL_law_348 rfl (lv_at hl 0 rfl) ?_
  refine lv_iload hx hb dL_law_349 (lv_at hl 4 rfl) ?_
  refine lv_iconst (v := 2) hx hb dL_law_351 (by decide) ?_
  refine lv_iadd hx hb dL_law_352 ?_
  refine lw_sld hx hb hX hbl hbA hw hL (q := 5 * n + 2) (nI_add (5 * n) 2) (by omega) dL_law_353 ?_
  refine lv_aload_n hx hb dL_law_354 rfl (lv_at hl 0 rfl) ?_
  refine lv_iload hx hb dL_law_355 (lv_at hl 4 rfl) ?_
  refine lv_iconst (v := 3) hx hb dL_law_357 (by decide) ?_
  refine lv_iadd hx hb dL_law_358 ?_
  refine lw_sld hx hb hX hbl hbA hw hL (q := 5 * n + 3) (nI_add (5 * n) 3) (by omega) dL_law_359 ?_
  refine lv_aload_n hx hb dL_law_360 rfl (lv_at hl 0 rfl) ?_
  refine lv_iload hx hb dL_law_361 (lv_at hl 4 rfl) ?_
  refine lv_iconst (v := 4) hx hb dL_law_363 (by decide) ?_
  refine lv_iadd hx hb dL_law_364 ?_
  refine lw_sld hx hb hX hbl hbA hw hL (q := 5 * n + 4) (nI_add (5 * n) 4) (by omega) dL_law_365 ?_
  refine lv_aload_n hx hb dL_law_366 rfl (lv_at hl 3 rfl) ?_
  refine pfx_ic hP hw (vx_runSX (As := [.ref (a 0), .int (xs (5 * n + 1)), .int (xs (5 * n + 2)), .int (xs (5 * n + 3)), .int (xs (5 * n + 4)), .ref o]) (rest := []) CF (w_change l g Lc f (a 0) o _ ro (xs (5 * n + 1)) (xs (5 * n + 2)) (xs (5 * n + 3)) (xs (5 * n + 4)) _ _ (c_change l hst g Lc f a k hk hi hle (xs (5 * n + 1)) (xs (5 * n + 2)) (xs (5 * n + 3)) (xs (5 * n + 4))) (fun E u h => by obtain ⟨h, -⟩ := h; rcases h with ⟨-, rfl⟩ | ⟨-, ⟨-, rfl⟩ | ⟨-, ⟨-, rfl⟩ | ⟨-, ⟨-, rfl⟩ | ⟨-, ⟨-, rfl⟩ | ⟨-, h⟩⟩⟩⟩⟩ <;> first | (exact Or.inl rfl) | (exact Or.inr (Or.inl rfl)) | (exact Or.inr (Or.inr (rfl))) | (exact False.elim h)) (hk.q (i := 0) (dC (by decide))) (hk.f (i := 0) (dC (by decide))) ho hfo _) (vx_cwSW 6 hts gL_law_L_change rfl rfl rfl (by decide +kernel) ⟨Nat.le_of_ble_eq_true rfl, Nat.le_of_ble_eq_true rfl⟩) (pn_preS (hw.sub hP.1 hP.2.2.1) hs hN) rfl rfl hl.1 rfl (lv_room (Nat.le_of_ble_eq_true rfl)) dL_law_367 ⟨by show _ ≤ 601024; omega, by show _ ≤ 7293034; omega⟩) (fun E ce q9 La9 f9 H9 locs9 he _ _ _ _ _ => False.elim he) (fun r Lx fx H locs hp hdx hw => ?_)
  obtain ⟨La, fc, ro1, hoLa, hu, hfc, hfo1, hW⟩ := hp
  obtain rfl : Lx = La ++ [o] := hu
  refine lv_istore (lv' := [(5, .int r), (0, .ref b), (1, .ref (a 0)), (2, .ref (am 0)), (3, .ref o), (4, .int (nI (5 * n)))]) hx hb dL_law_370 hl (by decide) rfl (fun ls hl => ?_)
  have hm1 : MW g am mm Lm (mix Lm f fx) := hm.mixR
  have hP1 := Pt_r hw.nodup
  refine lv_aload_n hx hb dL_law_372 rfl (lv_at hl 3 rfl) ?_
  refine lv_aload_n hx hb dL_law_373 rfl (lv_at hl 1 rfl) ?_
  refine lv_iload hx hb dL_law_374 (lv_at hl 5 rfl) ?_
  refine lv_iconst (v := 1) hx hb dL_law_376 (by decide) ?_
  refine lv_iadd hx hb dL_law_377 ?_
  refine lw_sld hx hb hX hbl hbA hw hL (q := 5 * n + 1) (nI_add (5 * n) 1) (by omega) dL_law_378 ?_
  refine lv_aload_n hx hb dL_law_379 rfl (lv_at hl 1 rfl) ?_
  refine lv_iload hx hb dL_law_380 (lv_at hl 5 rfl) ?_
  refine lv_iconst (v := 2) hx hb dL_law_382 (by decide) ?_
  refine lv_iadd hx hb dL_law_383 ?_
  refine lw_sld hx hb hX hbl hbA hw hL (q := 5 * n + 2) (nI_add (5 * n) 2) (by omega) dL_law_384 ?_
  refine lv_aload_n hx hb dL_law_385 rfl (lv_at hl 1 rfl) ?_
  refine lv_iload hx hb dL_law_386 (lv_at hl 5 rfl) ?_
  refine lv_iconst (v := 3) hx hb dL_law_388 (by decide) ?_
  refine lv_iadd hx hb dL_law_389 ?_
  refine lw_sld hx hb hX hbl hbA hw hL (q := 5 * n + 3) (nI_add (5 * n) 3) (by omega) dL_law_390 ?_
  refine lv_aload_n hx hb dL_law_391 rfl (lv_at hl 1 rfl) ?_
  refine lv_iload hx hb dL_law_392 (lv_at hl 5 rfl) ?_
  refine lv_iconst (v := 4) hx hb dL_law_394 (by decide) ?_
  refine lv_iadd hx hb dL_law_395 ?_
  refine lw_sld hx hb hX hbl hbA hw hL (q := 5 * n + 4) (nI_add (5 * n) 4) (by omega) dL_law_396 ?_
  refine pf_i hP1 hw (va_runV (As := [.int (xs (5 * n + 1)), .int (xs (5 * n + 2)), .int (xs (5 * n + 3)), .int (xs (5 * n + 4))]) (rest := []) CF (m_change l g Lm _ am mm hm1 (kP k) t0 (kC k) hR.1 (xs (5 * n + 1)) (xs (5 * n + 2)) (xs (5 * n + 3)) (xs (5 * n + 4)) _) (cwV 4 hts gL_law_X7_change rfl rfl rfl (by decide +kernel) ⟨Nat.le_of_ble_eq_true rfl, Nat.le_of_ble_eq_true rfl⟩) (pm_preV (hw.sub hP1.1 hP1.2.2.1) hs (pm_recv (hw.sub hP1.1 hP1.2.2.1) (hm1.q (i := 0) (by decide)) (hm1.f (i := 0) (by decide)) rfl)) rfl rfl hl.1 rfl (lv_room (Nat.le_of_ble_eq_true rfl)) dL_law_397 ⟨by show _ ≤ 601024; omega, by show _ ≤ 7293034; omega⟩) (fun bb Ly fy H locs hp hdy hw => ?_)
  obtain ⟨hJ, hans⟩ := j_change hi hle hR hW hp
  obtain ⟨hLy, a9, k9, m9, t9, ha9, ⟨hk9, hi9, hle9⟩, hm9, hR9, h49⟩ := hJ
  obtain rfl : Lm = Ly := hLy.symm
  refine lv_istore (lv' := [(6, .int bb), (5, .int r), (0, .ref b), (1, .ref (a 0)), (2, .ref (am 0)), (3, .ref o), (4, .int (nI (5 * n)))]) hx hb dL_law_400 hl (by decide) rfl (fun ls hl => ?_)
  have hfc2 : ∀ q, q ∈ La → mix (La ++ [o]) (mix Lm f fx) fy q = fc q := fun q hq => by
    show (if q ∈ La ++ [o] then (if q ∈ Lm then f q else fx q) else fy q) = fc q
    rw [if_pos (List.mem_append_left _ hq), if_neg (hdx q (List.mem_append_left _ hq))]
    exact hfc q hq
  have ho2 : mix (La ++ [o]) (mix Lm f fx) fy o = .inl (g.2.1 4, 1, .inr (.inl ro1)) := by
    show (if o ∈ La ++ [o] then (if o ∈ Lm then f o else fx o) else fy o) = _
    rw [if_pos (List.mem_append_right _ (List.mem_singleton.mpr rfl)), if_neg (hdx o (List.mem_append_right _ (List.mem_singleton.mpr rfl)))]
    exact hfo1
  have hm2 : MW g am m9 Lm (mix (La ++ [o]) (mix Lm f fx) fy) := FW.mixL hm9 hdy
  have hk2 : CW g a9 k9 La (mix (La ++ [o]) (mix Lm f fx) fy) := FW.cong hk9 hfc2
  generalize mix (La ++ [o]) (mix Lm f fx) fy = F at hw hk2 hm2 ho2
  have hP2 := Pt_l hw.nodup
  refine lv_aload_n hx hb dL_law_402 rfl (lv_at hl 4 rfl) ?_
  refine pf_i hP2 hw (va_runV (As := []) (rest := []) CF (m_thrown l g Lm F am m9 hm2 _) (cwV 0 hts gL_law_X7_thrown rfl rfl rfl (by decide +kernel) ⟨Nat.le_of_ble_eq_true rfl, Nat.le_of_ble_eq_true rfl⟩) (pm_preV (hw.sub hP2.1 hP2.2.2.1) hs (pm_recv (hw.sub hP2.1 hP2.2.2.1) (hm2.q (i := 0) (by decide)) (hm2.f (i := 0) (by decide)) rfl)) rfl rfl hl.1 rfl (lv_room (Nat.le_of_ble_eq_true rfl)) dL_law_403 ⟨by show _ ≤ 601024; omega, by show _ ≤ 7293034; omega⟩) (fun th Lz fz H locs hp hdz hw => ?_)
  obtain ⟨hth, hu⟩ := hp
  obtain ⟨e1, e2⟩ := Prod.mk.inj hu
  obtain rfl := e1.symm
  obtain rfl := e2.symm
  rw [mix_same] at hw
  rw [h49] at hth
  obtain rfl : r = th := hth.symm
  refine W.widen (k := 39 + 8 * (n + 1)) (n := 5828 + 524 * (n + 1)) (by omega) (by omega) ?_
  have fin : W p l e room_1 s m #[Value.ref b] below meth c H locs (39 + 8 * (n + 1)) (5828 + 524 * (n + 1)) Q (F0 m 430 ls []) := by
    refine lv_goto (tgt := 1521) hx hb dL_law_430 (by decide) ?_
    refine lv_iinc (v := nI (5 * (n + 1))) (lv' := [(4, .int (nI (5 * (n + 1)))), (6, .int bb), (5, .int r), (0, .ref b), (1, .ref (a 0)), (2, .ref (am 0)), (3, .ref o)]) hx hb dL_law_1521 hl (k := 6) rfl (nI_add (5 * n) 5) (by decide) rfl (fun ls hl => ?_)
    refine lv_goto (tgt := 23) hx hb dL_law_1524 (by decide) ?_
    exact ih _ _ _ ⟨a9, am, k9, m9, t9, o, La, Lm, F, ro1, hw, ⟨hk2, hi9, hle9⟩, hm2, hR9, ho2, by rw [ha9]; exact lv_sub hl [3, 4, 5, 6, 0] rfl⟩
  refine lv_iload hx hb dL_law_406 (lv_at hl 1 rfl) ?_
  refine lv_icmp_eq (tgt := 413) hx hb dL_law_408 (by decide) (fun _ => ?_) (fun h => absurd rfl h)
  refine lv_iload hx hb dL_law_413 (lv_at hl 1 rfl) ?_
  refine lv_if_ne (tgt := 430) hx hb dL_law_415 (by decide) (fun _ => fin) (fun h0 => ?_)
  refine lv_aload_n hx hb dL_law_418 rfl (lv_at hl 5 rfl) ?_
  refine lv_iconst (v := 0) hx hb dL_law_419 (by decide) ?_
  refine pm_lald (n := 1) (r := ro1) hx hb hw (List.mem_append_right _ (List.mem_append_right _ (List.mem_singleton.mpr rfl))) ho2 (j := 0) rfl (by unfold vp_in; decide) dL_law_420 ?_
  refine lv_iload hx hb dL_law_421 (lv_at hl 0 rfl) ?_
  refine lv_i2l (v := bb.toInt64) hx hb dL_law_423 rfl ?_
  refine W.lcmp hx hb dL_law_424 ?_
  refine lv_if_eq (tgt := 430) hx hb dL_law_425 (by decide) (fun _ => fin) (fun h2 => absurd ((lg_cmp_eq _ _).mpr (hans h0)) h2)

set_option maxHeartbeats 4000000 in
set_option maxRecDepth 100000 in
theorem law_add {p : Program} {e : Env} {s : State} {m : MethodId} {below : List Frame} {meth : Method} {c : Code} {l : Launch} {b L : Nat} {xs : Nat → Int32} {Q : State → Prop} {g : GE} {n : Nat} {H : Heap} {locs : List Loc} {ls : Array Slot} (hst : l.stackTraces = false) (hL : L ≤ 2560) (C0 : lw_At p s m meth c b L xs) (hs : Sx g (lwA s) s s.heap) (hN : NcU s) (hn : 5 * n + 5 ≤ L) (I : LawI g s b n H locs ls) (ih : ∀ (H1 : Heap) (locs1 : List Loc) (ls1 : Array Slot), LawI g s b (n + 1) H1 locs1 ls1 → W p l e room_1 s m #[Value.ref b] below meth c H1 locs1 (39 + 8 * (n + 1)) (5828 + 524 * (n + 1)) Q (F0 m 23 ls1 [])) : W p l e room_1 s m #[Value.ref b] below meth c H locs (39 + 8 * n) (5828 + 524 * n) Q (F0 m 433 ls []) := by
  obtain ⟨hx, hb, hr, hml, hown0, hts0, hX, hbl, hlocks, hgv⟩ := id C0
  obtain ⟨a, am, k, mm, t0, o, Lc, Lm, f, ro, hw, ⟨hk, hi, hle⟩, hm, hR, hfo, hl⟩ := I
  have hbA : ¬ lwA s b := Nat.not_le.mpr hbl
  have hts : ∀ w ∈ wsL_law, w.before #[Value.ref b] s = true := fun w h => hts0 w (wsL_law_in w h)
  have hown : s.vm.findClass RL = some m.cls := hown0
  have CF := (⟨hx, hb, hml, hown, hts⟩ : CallFix p m c cL_law 7 s #[Value.ref b] wsL_law RL)
  have hP := Pt_r hw.nodup
  have ho : o ∉ Lc := fun h => (List.nodup_append.mp hP.2.2.1).2.2 o h o (List.mem_singleton.mpr rfl) rfl
  refine lv_aload_n hx hb dL_law_433 rfl (lv_at hl 1 rfl) ?_
  refine lv_aload_n hx hb dL_law_434 rfl (lv_at hl 0 rfl) ?_
  refine lv_iload hx hb dL_law_435 (lv_at hl 4 rfl) ?_
  refine lv_iconst (v := 1) hx hb dL_law_437 (by decide) ?_
  refine lv_iadd hx hb dL_law_438 ?_
  refine lw_sld hx hb hX hbl hbA hw hL (q := 5 * n + 1) (nI_add (5 * n) 1) (by omega) dL_law_439 ?_
  refine lv_aload_n hx hb dL_law_440 rfl (lv_at hl 0 rfl) ?_
  refine lv_iload hx hb dL_law_441 (lv_at hl 4 rfl) ?_
  refine lv_iconst (v := 2) hx hb dL_law_443 (by decide) ?_
  refine lv_iadd hx hb dL_law_444 ?_
  refine lw_sld hx hb hX hbl hbA hw hL (q := 5 * n + 2) (nI_add (5 * n) 2) (by omega) dL_law_445 ?_
  refine lv_aload_n hx hb dL_law_446 rfl (lv_at hl 0 rfl) ?_
  refine lv_iload hx hb dL_law_447 (lv_at hl 4 rfl) ?_
  refine lv_iconst (v := 3) hx hb dL_law_449 (by decide) ?_
  refine lv_iadd hx hb dL_law_450 ?_
  refine lw_sld hx hb hX hbl hbA hw hL (q := 5 * n + 3) (nI_add (5 * n) 3) (by omega) dL_law_451 ?_
  refine lv_aload_n hx hb dL_law_452 rfl (lv_at hl 0 rfl) ?_
  refine lv_iload hx hb dL_law_453 (lv_at hl 4 rfl) ?_
  refine lv_iconst (v := 4) hx hb dL_law_455 (by decide) ?_
  refine lv_iadd hx hb dL_law_456 ?_
  refine lw_sld hx hb hX hbl hbA hw hL (q := 5 * n + 4) (nI_add (5 * n) 4) (by omega) dL_law_457 ?_
  refine lv_aload_n hx hb dL_law_458 rfl (lv_at hl 3 rfl) ?_
  refine pfx_ic hP hw (vx_runSX (As := [.ref (a 0), .int (xs (5 * n + 1)), .int (xs (5 * n + 2)), .int (xs (5 * n + 3)), .int (xs (5 * n + 4)), .ref o]) (rest := []) CF (w_add l g Lc f (a 0) o _ ro (xs (5 * n + 1)) (xs (5 * n + 2)) (xs (5 * n + 3)) (xs (5 * n + 4)) _ _ (c_addF l hst g Lc f a k hk hi hle (xs (5 * n + 1)) (xs (5 * n + 2)) (xs (5 * n + 3)) (xs (5 * n + 4))) (fun E u h => by obtain ⟨h, -⟩ := h; rcases h with ⟨-, rfl⟩ | ⟨-, ⟨-, rfl⟩ | ⟨-, ⟨-, rfl⟩ | ⟨-, ⟨-, rfl⟩ | ⟨-, ⟨-, rfl⟩ | ⟨-, h⟩⟩⟩⟩⟩ <;> first | (exact Or.inl rfl) | (exact Or.inr (Or.inl rfl)) | (exact Or.inr (Or.inr (rfl))) | (exact False.elim h)) (hk.q (i := 0) (dC (by decide))) (hk.f (i := 0) (dC (by decide))) ho hfo _) (vx_cwSW 6 hts gL_law_L_add rfl rfl rfl (by decide +kernel) ⟨Nat.le_of_ble_eq_true rfl, Nat.le_of_ble_eq_true rfl⟩) (pn_preS (hw.sub hP.1 hP.2.2.1) hs hN) rfl rfl hl.1 rfl (lv_room (Nat.le_of_ble_eq_true rfl)) dL_law_459 ⟨by show _ ≤ 601024; omega, by show _ ≤ 7293034; omega⟩) (fun E ce q9 La9 f9 H9 locs9 he _ _ _ _ _ => False.elim he) (fun r Lx fx H locs hp hdx hw => ?_)
  obtain ⟨La, fc, ro1, hoLa, hu, hfc, hfo1, hW⟩ := hp
  obtain rfl : Lx = La ++ [o] := hu
  refine lv_istore (lv' := [(5, .int r), (0, .ref b), (1, .ref (a 0)), (2, .ref (am 0)), (3, .ref o), (4, .int (nI (5 * n)))]) hx hb dL_law_462 hl (by decide) rfl (fun ls hl => ?_)
  have hm1 : MW g am mm Lm (mix Lm f fx) := hm.mixR
  have hP1 := Pt_r hw.nodup
  refine lv_aload_n hx hb dL_law_464 rfl (lv_at hl 3 rfl) ?_
  refine lv_aload_n hx hb dL_law_465 rfl (lv_at hl 1 rfl) ?_
  refine lv_iload hx hb dL_law_466 (lv_at hl 5 rfl) ?_
  refine lv_iconst (v := 1) hx hb dL_law_468 (by decide) ?_
  refine lv_iadd hx hb dL_law_469 ?_
  refine lw_sld hx hb hX hbl hbA hw hL (q := 5 * n + 1) (nI_add (5 * n) 1) (by omega) dL_law_470 ?_
  refine lv_aload_n hx hb dL_law_471 rfl (lv_at hl 1 rfl) ?_
  refine lv_iload hx hb dL_law_472 (lv_at hl 5 rfl) ?_
  refine lv_iconst (v := 2) hx hb dL_law_474 (by decide) ?_
  refine lv_iadd hx hb dL_law_475 ?_
  refine lw_sld hx hb hX hbl hbA hw hL (q := 5 * n + 2) (nI_add (5 * n) 2) (by omega) dL_law_476 ?_
  refine lv_aload_n hx hb dL_law_477 rfl (lv_at hl 1 rfl) ?_
  refine lv_iload hx hb dL_law_478 (lv_at hl 5 rfl) ?_
  refine lv_iconst (v := 3) hx hb dL_law_480 (by decide) ?_
  refine lv_iadd hx hb dL_law_481 ?_
  refine lw_sld hx hb hX hbl hbA hw hL (q := 5 * n + 3) (nI_add (5 * n) 3) (by omega) dL_law_482 ?_
  refine lv_aload_n hx hb dL_law_483 rfl (lv_at hl 1 rfl) ?_
  refine lv_iload hx hb dL_law_484 (lv_at hl 5 rfl) ?_
  refine lv_iconst (v := 4) hx hb dL_law_486 (by decide) ?_
  refine lv_iadd hx hb dL_law_487 ?_
  refine lw_sld hx hb hX hbl hbA hw hL (q := 5 * n + 4) (nI_add (5 * n) 4) (by omega) dL_law_488 ?_
  refine pf_i hP1 hw (va_runV (As := [.int (xs (5 * n + 1)), .int (xs (5 * n + 2)), .int (xs (5 * n + 3)), .int (xs (5 * n + 4))]) (rest := []) CF (m_add l g Lm _ am mm hm1 (kP k) t0 (kC k) hR.1 (xs (5 * n + 1)) (xs (5 * n + 2)) (xs (5 * n + 3)) (xs (5 * n + 4)) _) (cwV 4 hts gL_law_X7_add rfl rfl rfl (by decide +kernel) ⟨Nat.le_of_ble_eq_true rfl, Nat.le_of_ble_eq_true rfl⟩) (pm_preV (hw.sub hP1.1 hP1.2.2.1) hs (pm_recv (hw.sub hP1.1 hP1.2.2.1) (hm1.q (i := 0) (by decide)) (hm1.f (i := 0) (by decide)) rfl)) rfl rfl hl.1 rfl (lv_room (Nat.le_of_ble_eq_true rfl)) dL_law_489 ⟨by show _ ≤ 601024; omega, by show _ ≤ 7293034; omega⟩) (fun bb Ly fy H locs hp hdy hw => ?_)
  obtain ⟨hJ, hans⟩ := j_add hi hle hR hW hp
  obtain ⟨hLy, a9, k9, m9, t9, ha9, ⟨hk9, hi9, hle9⟩, hm9, hR9, h49⟩ := hJ
  obtain rfl : Lm = Ly := hLy.symm
  refine lv_istore (lv' := [(6, .int bb), (5, .int r), (0, .ref b), (1, .ref (a 0)), (2, .ref (am 0)), (3, .ref o), (4, .int (nI (5 * n)))]) hx hb dL_law_492 hl (by decide) rfl (fun ls hl => ?_)
  have hfc2 : ∀ q, q ∈ La → mix (La ++ [o]) (mix Lm f fx) fy q = fc q := fun q hq => by
    show (if q ∈ La ++ [o] then (if q ∈ Lm then f q else fx q) else fy q) = fc q
    rw [if_pos (List.mem_append_left _ hq), if_neg (hdx q (List.mem_append_left _ hq))]
    exact hfc q hq
  have ho2 : mix (La ++ [o]) (mix Lm f fx) fy o = .inl (g.2.1 4, 1, .inr (.inl ro1)) := by
    show (if o ∈ La ++ [o] then (if o ∈ Lm then f o else fx o) else fy o) = _
    rw [if_pos (List.mem_append_right _ (List.mem_singleton.mpr rfl)), if_neg (hdx o (List.mem_append_right _ (List.mem_singleton.mpr rfl)))]
    exact hfo1
  have hm2 : MW g am m9 Lm (mix (La ++ [o]) (mix Lm f fx) fy) := FW.mixL hm9 hdy
  have hk2 : CW g a9 k9 La (mix (La ++ [o]) (mix Lm f fx) fy) := FW.cong hk9 hfc2
  generalize mix (La ++ [o]) (mix Lm f fx) fy = F at hw hk2 hm2 ho2
  have hP2 := Pt_l hw.nodup
  refine lv_aload_n hx hb dL_law_494 rfl (lv_at hl 4 rfl) ?_
  refine pf_i hP2 hw (va_runV (As := []) (rest := []) CF (m_thrown l g Lm F am m9 hm2 _) (cwV 0 hts gL_law_X7_thrown rfl rfl rfl (by decide +kernel) ⟨Nat.le_of_ble_eq_true rfl, Nat.le_of_ble_eq_true rfl⟩) (pm_preV (hw.sub hP2.1 hP2.2.2.1) hs (pm_recv (hw.sub hP2.1 hP2.2.2.1) (hm2.q (i := 0) (by decide)) (hm2.f (i := 0) (by decide)) rfl)) rfl rfl hl.1 rfl (lv_room (Nat.le_of_ble_eq_true rfl)) dL_law_495 ⟨by show _ ≤ 601024; omega, by show _ ≤ 7293034; omega⟩) (fun th Lz fz H locs hp hdz hw => ?_)
  obtain ⟨hth, hu⟩ := hp
  obtain ⟨e1, e2⟩ := Prod.mk.inj hu
  obtain rfl := e1.symm
  obtain rfl := e2.symm
  rw [mix_same] at hw
  rw [h49] at hth
  obtain rfl : r = th := hth.symm
  refine W.widen (k := 39 + 8 * (n + 1)) (n := 5828 + 524 * (n + 1)) (by omega) (by omega) ?_
  have fin : W p l e room_1 s m #[Value.ref b] below meth c H locs (39 + 8 * (n + 1)) (5828 + 524 * (n + 1)) Q (F0 m 522 ls []) := by
    refine lv_goto (tgt := 1521) hx hb dL_law_522 (by decide) ?_
    refine lv_iinc (v := nI (5 * (n + 1))) (lv' := [(4, .int (nI (5 * (n + 1)))), (6, .int bb), (5, .int r), (0, .ref b), (1, .ref (a 0)), (2, .ref (am 0)), (3, .ref o)]) hx hb dL_law_1521 hl (k := 6) rfl (nI_add (5 * n) 5) (by decide) rfl (fun ls hl => ?_)
    refine lv_goto (tgt := 23) hx hb dL_law_1524 (by decide) ?_
    exact ih _ _ _ ⟨a9, am, k9, m9, t9, o, La, Lm, F, ro1, hw, ⟨hk2, hi9, hle9⟩, hm2, hR9, ho2, by rw [ha9]; exact lv_sub hl [3, 4, 5, 6, 0] rfl⟩
  refine lv_iload hx hb dL_law_498 (lv_at hl 1 rfl) ?_
  refine lv_icmp_eq (tgt := 505) hx hb dL_law_500 (by decide) (fun _ => ?_) (fun h => absurd rfl h)
  refine lv_iload hx hb dL_law_505 (lv_at hl 1 rfl) ?_
  refine lv_if_ne (tgt := 522) hx hb dL_law_507 (by decide) (fun _ => fin) (fun h0 => ?_)
  refine lv_aload_n hx hb dL_law_510 rfl (lv_at hl 5 rfl) ?_
  refine lv_iconst (v := 0) hx hb dL_law_511 (by decide) ?_
  refine pm_lald (n := 1) (r := ro1) hx hb hw (List.mem_append_right _ (List.mem_append_right _ (List.mem_singleton.mpr rfl))) ho2 (j := 0) rfl (by unfold vp_in; decide) dL_law_512 ?_
  refine lv_iload hx hb dL_law_513 (lv_at hl 0 rfl) ?_
  refine lv_i2l (v := bb.toInt64) hx hb dL_law_515 rfl ?_
  refine W.lcmp hx hb dL_law_516 ?_
  refine lv_if_eq (tgt := 522) hx hb dL_law_517 (by decide) (fun _ => fin) (fun h2 => absurd ((lg_cmp_eq _ _).mpr (hans h0)) h2)

set_option maxHeartbeats 4000000 in
set_option maxRecDepth 100000 in
theorem law_cancel {p : Program} {e : Env} {s : State} {m : MethodId} {below : List Frame} {meth : Method} {c : Code} {l : Launch} {b L : Nat} {xs : Nat → Int32} {Q : State → Prop} {g : GE} {n : Nat} {H : Heap} {locs : List Loc} {ls : Array Slot} (hst : l.stackTraces = false) (hL : L ≤ 2560) (C0 : lw_At p s m meth c b L xs) (hs : Sx g (lwA s) s s.heap) (hN : NcU s) (hn : 5 * n + 5 ≤ L) (I : LawI g s b n H locs ls) (ih : ∀ (H1 : Heap) (locs1 : List Loc) (ls1 : Array Slot), LawI g s b (n + 1) H1 locs1 ls1 → W p l e room_1 s m #[Value.ref b] below meth c H1 locs1 (39 + 8 * (n + 1)) (5828 + 524 * (n + 1)) Q (F0 m 23 ls1 [])) : W p l e room_1 s m #[Value.ref b] below meth c H locs (39 + 8 * n) (5828 + 524 * n) Q (F0 m 525 ls []) := by
  obtain ⟨hx, hb, hr, hml, hown0, hts0, hX, hbl, hlocks, hgv⟩ := id C0
  obtain ⟨a, am, k, mm, t0, o, Lc, Lm, f, ro, hw, ⟨hk, hi, hle⟩, hm, hR, hfo, hl⟩ := I
  have hbA : ¬ lwA s b := Nat.not_le.mpr hbl
  have hts : ∀ w ∈ wsL_law, w.before #[Value.ref b] s = true := fun w h => hts0 w (wsL_law_in w h)
  have hown : s.vm.findClass RL = some m.cls := hown0
  have CF := (⟨hx, hb, hml, hown, hts⟩ : CallFix p m c cL_law 7 s #[Value.ref b] wsL_law RL)
  have hP := Pt_r hw.nodup
  have ho : o ∉ Lc := fun h => (List.nodup_append.mp hP.2.2.1).2.2 o h o (List.mem_singleton.mpr rfl) rfl
  refine lv_aload_n hx hb dL_law_525 rfl (lv_at hl 1 rfl) ?_
  refine lv_aload_n hx hb dL_law_526 rfl (lv_at hl 0 rfl) ?_
  refine lv_iload hx hb dL_law_527 (lv_at hl 4 rfl) ?_
  refine lv_iconst (v := 1) hx hb dL_law_529 (by decide) ?_
  refine lv_iadd hx hb dL_law_530 ?_
  refine lw_sld hx hb hX hbl hbA hw hL (q := 5 * n + 1) (nI_add (5 * n) 1) (by omega) dL_law_531 ?_
  refine lv_aload_n hx hb dL_law_532 rfl (lv_at hl 0 rfl) ?_
  refine lv_iload hx hb dL_law_533 (lv_at hl 4 rfl) ?_
  refine lv_iconst (v := 2) hx hb dL_law_535 (by decide) ?_
  refine lv_iadd hx hb dL_law_536 ?_
  refine lw_sld hx hb hX hbl hbA hw hL (q := 5 * n + 2) (nI_add (5 * n) 2) (by omega) dL_law_537 ?_
  refine lv_aload_n hx hb dL_law_538 rfl (lv_at hl 3 rfl) ?_
  refine pfx_ic hP hw (vx_runSX (As := [.ref (a 0), .int (xs (5 * n + 1)), .int (xs (5 * n + 2)), .ref o]) (rest := []) CF (w_cancel l g Lc f (a 0) o _ ro (xs (5 * n + 1)) (xs (5 * n + 2)) _ _ (c_cancel l hst g Lc f a k hk hi hle (xs (5 * n + 1)) (xs (5 * n + 2))) (fun E u h => by obtain ⟨h, -⟩ := h; rcases h with ⟨-, rfl⟩ | ⟨-, ⟨-, rfl⟩ | ⟨-, ⟨-, rfl⟩ | ⟨-, h⟩⟩⟩ <;> first | (exact Or.inl rfl) | (exact Or.inr (Or.inl rfl)) | (exact Or.inr (Or.inr (rfl))) | (exact False.elim h)) (hk.q (i := 0) (dC (by decide))) (hk.f (i := 0) (dC (by decide))) ho hfo _) (vx_cwSW 4 hts gL_law_L_cancel rfl rfl rfl (by decide +kernel) ⟨Nat.le_of_ble_eq_true rfl, Nat.le_of_ble_eq_true rfl⟩) (pn_preS (hw.sub hP.1 hP.2.2.1) hs hN) rfl rfl hl.1 rfl (lv_room (Nat.le_of_ble_eq_true rfl)) dL_law_539 ⟨by show _ ≤ 601024; omega, by show _ ≤ 7293034; omega⟩) (fun E ce q9 La9 f9 H9 locs9 he _ _ _ _ _ => False.elim he) (fun r Lx fx H locs hp hdx hw => ?_)
  obtain ⟨La, fc, ro1, hoLa, hu, hfc, hfo1, hW⟩ := hp
  obtain rfl : Lx = La ++ [o] := hu
  refine lv_istore (lv' := [(5, .int r), (0, .ref b), (1, .ref (a 0)), (2, .ref (am 0)), (3, .ref o), (4, .int (nI (5 * n)))]) hx hb dL_law_542 hl (by decide) rfl (fun ls hl => ?_)
  have hm1 : MW g am mm Lm (mix Lm f fx) := hm.mixR
  have hP1 := Pt_r hw.nodup
  refine lv_aload_n hx hb dL_law_544 rfl (lv_at hl 3 rfl) ?_
  refine lv_aload_n hx hb dL_law_545 rfl (lv_at hl 1 rfl) ?_
  refine lv_iload hx hb dL_law_546 (lv_at hl 5 rfl) ?_
  refine lv_iconst (v := 1) hx hb dL_law_548 (by decide) ?_
  refine lv_iadd hx hb dL_law_549 ?_
  refine lw_sld hx hb hX hbl hbA hw hL (q := 5 * n + 1) (nI_add (5 * n) 1) (by omega) dL_law_550 ?_
  refine lv_aload_n hx hb dL_law_551 rfl (lv_at hl 1 rfl) ?_
  refine lv_iload hx hb dL_law_552 (lv_at hl 5 rfl) ?_
  refine lv_iconst (v := 2) hx hb dL_law_554 (by decide) ?_
  refine lv_iadd hx hb dL_law_555 ?_
  refine lw_sld hx hb hX hbl hbA hw hL (q := 5 * n + 2) (nI_add (5 * n) 2) (by omega) dL_law_556 ?_
  refine pf_i hP1 hw (va_runV (As := [.int (xs (5 * n + 1)), .int (xs (5 * n + 2))]) (rest := []) CF (m_cancel l g Lm _ am mm hm1 (kP k) t0 (kC k) hR.1 (xs (5 * n + 1)) (xs (5 * n + 2)) _) (cwV 2 hts gL_law_X7_cancel rfl rfl rfl (by decide +kernel) ⟨Nat.le_of_ble_eq_true rfl, Nat.le_of_ble_eq_true rfl⟩) (pm_preV (hw.sub hP1.1 hP1.2.2.1) hs (pm_recv (hw.sub hP1.1 hP1.2.2.1) (hm1.q (i := 0) (by decide)) (hm1.f (i := 0) (by decide)) rfl)) rfl rfl hl.1 rfl (lv_room (Nat.le_of_ble_eq_true rfl)) dL_law_557 ⟨by show _ ≤ 601024; omega, by show _ ≤ 7293034; omega⟩) (fun bb Ly fy H locs hp hdy hw => ?_)
  obtain ⟨hJ, hans⟩ := j_cancel hi hle hR hW hp
  obtain ⟨hLy, a9, k9, m9, t9, ha9, ⟨hk9, hi9, hle9⟩, hm9, hR9, h49⟩ := hJ
  obtain rfl : Lm = Ly := hLy.symm
  refine lv_istore (lv' := [(6, .int bb), (5, .int r), (0, .ref b), (1, .ref (a 0)), (2, .ref (am 0)), (3, .ref o), (4, .int (nI (5 * n)))]) hx hb dL_law_560 hl (by decide) rfl (fun ls hl => ?_)
  have hfc2 : ∀ q, q ∈ La → mix (La ++ [o]) (mix Lm f fx) fy q = fc q := fun q hq => by
    show (if q ∈ La ++ [o] then (if q ∈ Lm then f q else fx q) else fy q) = fc q
    rw [if_pos (List.mem_append_left _ hq), if_neg (hdx q (List.mem_append_left _ hq))]
    exact hfc q hq
  have ho2 : mix (La ++ [o]) (mix Lm f fx) fy o = .inl (g.2.1 4, 1, .inr (.inl ro1)) := by
    show (if o ∈ La ++ [o] then (if o ∈ Lm then f o else fx o) else fy o) = _
    rw [if_pos (List.mem_append_right _ (List.mem_singleton.mpr rfl)), if_neg (hdx o (List.mem_append_right _ (List.mem_singleton.mpr rfl)))]
    exact hfo1
  have hm2 : MW g am m9 Lm (mix (La ++ [o]) (mix Lm f fx) fy) := FW.mixL hm9 hdy
  have hk2 : CW g a9 k9 La (mix (La ++ [o]) (mix Lm f fx) fy) := FW.cong hk9 hfc2
  generalize mix (La ++ [o]) (mix Lm f fx) fy = F at hw hk2 hm2 ho2
  have hP2 := Pt_l hw.nodup
  refine lv_aload_n hx hb dL_law_562 rfl (lv_at hl 4 rfl) ?_
  refine pf_i hP2 hw (va_runV (As := []) (rest := []) CF (m_thrown l g Lm F am m9 hm2 _) (cwV 0 hts gL_law_X7_thrown rfl rfl rfl (by decide +kernel) ⟨Nat.le_of_ble_eq_true rfl, Nat.le_of_ble_eq_true rfl⟩) (pm_preV (hw.sub hP2.1 hP2.2.2.1) hs (pm_recv (hw.sub hP2.1 hP2.2.2.1) (hm2.q (i := 0) (by decide)) (hm2.f (i := 0) (by decide)) rfl)) rfl rfl hl.1 rfl (lv_room (Nat.le_of_ble_eq_true rfl)) dL_law_563 ⟨by show _ ≤ 601024; omega, by show _ ≤ 7293034; omega⟩) (fun th Lz fz H locs hp hdz hw => ?_)
  obtain ⟨hth, hu⟩ := hp
  obtain ⟨e1, e2⟩ := Prod.mk.inj hu
  obtain rfl := e1.symm
  obtain rfl := e2.symm
  rw [mix_same] at hw
  rw [h49] at hth
  obtain rfl : r = th := hth.symm
  refine W.widen (k := 39 + 8 * (n + 1)) (n := 5828 + 524 * (n + 1)) (by omega) (by omega) ?_
  have fin : W p l e room_1 s m #[Value.ref b] below meth c H locs (39 + 8 * (n + 1)) (5828 + 524 * (n + 1)) Q (F0 m 590 ls []) := by
    refine lv_goto (tgt := 1521) hx hb dL_law_590 (by decide) ?_
    refine lv_iinc (v := nI (5 * (n + 1))) (lv' := [(4, .int (nI (5 * (n + 1)))), (6, .int bb), (5, .int r), (0, .ref b), (1, .ref (a 0)), (2, .ref (am 0)), (3, .ref o)]) hx hb dL_law_1521 hl (k := 6) rfl (nI_add (5 * n) 5) (by decide) rfl (fun ls hl => ?_)
    refine lv_goto (tgt := 23) hx hb dL_law_1524 (by decide) ?_
    exact ih _ _ _ ⟨a9, am, k9, m9, t9, o, La, Lm, F, ro1, hw, ⟨hk2, hi9, hle9⟩, hm2, hR9, ho2, by rw [ha9]; exact lv_sub hl [3, 4, 5, 6, 0] rfl⟩
  refine lv_iload hx hb dL_law_566 (lv_at hl 1 rfl) ?_
  refine lv_icmp_eq (tgt := 573) hx hb dL_law_568 (by decide) (fun _ => ?_) (fun h => absurd rfl h)
  refine lv_iload hx hb dL_law_573 (lv_at hl 1 rfl) ?_
  refine lv_if_ne (tgt := 590) hx hb dL_law_575 (by decide) (fun _ => fin) (fun h0 => ?_)
  refine lv_aload_n hx hb dL_law_578 rfl (lv_at hl 5 rfl) ?_
  refine lv_iconst (v := 0) hx hb dL_law_579 (by decide) ?_
  refine pm_lald (n := 1) (r := ro1) hx hb hw (List.mem_append_right _ (List.mem_append_right _ (List.mem_singleton.mpr rfl))) ho2 (j := 0) rfl (by unfold vp_in; decide) dL_law_580 ?_
  refine lv_iload hx hb dL_law_581 (lv_at hl 0 rfl) ?_
  refine lv_i2l (v := bb.toInt64) hx hb dL_law_583 rfl ?_
  refine W.lcmp hx hb dL_law_584 ?_
  refine lv_if_eq (tgt := 590) hx hb dL_law_585 (by decide) (fun _ => fin) (fun h2 => absurd ((lg_cmp_eq _ _).mpr (hans h0)) h2)

set_option maxHeartbeats 4000000 in
set_option maxRecDepth 100000 in
theorem law_reinstate {p : Program} {e : Env} {s : State} {m : MethodId} {below : List Frame} {meth : Method} {c : Code} {l : Launch} {b L : Nat} {xs : Nat → Int32} {Q : State → Prop} {g : GE} {n : Nat} {H : Heap} {locs : List Loc} {ls : Array Slot} (hst : l.stackTraces = false) (hL : L ≤ 2560) (C0 : lw_At p s m meth c b L xs) (hs : Sx g (lwA s) s s.heap) (hN : NcU s) (hn : 5 * n + 5 ≤ L) (I : LawI g s b n H locs ls) (ih : ∀ (H1 : Heap) (locs1 : List Loc) (ls1 : Array Slot), LawI g s b (n + 1) H1 locs1 ls1 → W p l e room_1 s m #[Value.ref b] below meth c H1 locs1 (39 + 8 * (n + 1)) (5828 + 524 * (n + 1)) Q (F0 m 23 ls1 [])) : W p l e room_1 s m #[Value.ref b] below meth c H locs (39 + 8 * n) (5828 + 524 * n) Q (F0 m 593 ls []) := by
  obtain ⟨hx, hb, hr, hml, hown0, hts0, hX, hbl, hlocks, hgv⟩ := id C0
  obtain ⟨a, am, k, mm, t0, o, Lc, Lm, f, ro, hw, ⟨hk, hi, hle⟩, hm, hR, hfo, hl⟩ := I
  have hbA : ¬ lwA s b := Nat.not_le.mpr hbl
  have hts : ∀ w ∈ wsL_law, w.before #[Value.ref b] s = true := fun w h => hts0 w (wsL_law_in w h)
  have hown : s.vm.findClass RL = some m.cls := hown0
  have CF := (⟨hx, hb, hml, hown, hts⟩ : CallFix p m c cL_law 7 s #[Value.ref b] wsL_law RL)
  have hP := Pt_r hw.nodup
  have ho : o ∉ Lc := fun h => (List.nodup_append.mp hP.2.2.1).2.2 o h o (List.mem_singleton.mpr rfl) rfl
  refine lv_aload_n hx hb dL_law_593 rfl (lv_at hl 1 rfl) ?_
  refine lv_aload_n hx hb dL_law_594 rfl (lv_at hl 0 rfl) ?_
  refine lv_iload hx hb dL_law_595 (lv_at hl 4 rfl) ?_
  refine lv_iconst (v := 1) hx hb dL_law_597 (by decide) ?_
  refine lv_iadd hx hb dL_law_598 ?_
  refine lw_sld hx hb hX hbl hbA hw hL (q := 5 * n + 1) (nI_add (5 * n) 1) (by omega) dL_law_599 ?_
  refine lv_aload_n hx hb dL_law_600 rfl (lv_at hl 0 rfl) ?_
  refine lv_iload hx hb dL_law_601 (lv_at hl 4 rfl) ?_
  refine lv_iconst (v := 2) hx hb dL_law_603 (by decide) ?_
  refine lv_iadd hx hb dL_law_604 ?_
  refine lw_sld hx hb hX hbl hbA hw hL (q := 5 * n + 2) (nI_add (5 * n) 2) (by omega) dL_law_605 ?_
  refine lv_aload_n hx hb dL_law_606 rfl (lv_at hl 3 rfl) ?_
  refine pfx_ic hP hw (vx_runSX (As := [.ref (a 0), .int (xs (5 * n + 1)), .int (xs (5 * n + 2)), .ref o]) (rest := []) CF (w_reinstate l g Lc f (a 0) o _ ro (xs (5 * n + 1)) (xs (5 * n + 2)) _ _ (c_reinstate l hst g Lc f a k hk hi hle (xs (5 * n + 1)) (xs (5 * n + 2))) (fun E u h => by obtain ⟨h, -⟩ := h; rcases h with ⟨-, rfl⟩ | ⟨-, ⟨-, rfl⟩ | ⟨-, ⟨-, rfl⟩ | ⟨-, h⟩⟩⟩ <;> first | (exact Or.inl rfl) | (exact Or.inr (Or.inl rfl)) | (exact Or.inr (Or.inr (rfl))) | (exact False.elim h)) (hk.q (i := 0) (dC (by decide))) (hk.f (i := 0) (dC (by decide))) ho hfo _) (vx_cwSW 4 hts gL_law_L_reinstate rfl rfl rfl (by decide +kernel) ⟨Nat.le_of_ble_eq_true rfl, Nat.le_of_ble_eq_true rfl⟩) (pn_preS (hw.sub hP.1 hP.2.2.1) hs hN) rfl rfl hl.1 rfl (lv_room (Nat.le_of_ble_eq_true rfl)) dL_law_607 ⟨by show _ ≤ 601024; omega, by show _ ≤ 7293034; omega⟩) (fun E ce q9 La9 f9 H9 locs9 he _ _ _ _ _ => False.elim he) (fun r Lx fx H locs hp hdx hw => ?_)
  obtain ⟨La, fc, ro1, hoLa, hu, hfc, hfo1, hW⟩ := hp
  obtain rfl : Lx = La ++ [o] := hu
  refine lv_istore (lv' := [(5, .int r), (0, .ref b), (1, .ref (a 0)), (2, .ref (am 0)), (3, .ref o), (4, .int (nI (5 * n)))]) hx hb dL_law_610 hl (by decide) rfl (fun ls hl => ?_)
  have hm1 : MW g am mm Lm (mix Lm f fx) := hm.mixR
  have hP1 := Pt_r hw.nodup
  refine lv_aload_n hx hb dL_law_612 rfl (lv_at hl 3 rfl) ?_
  refine lv_aload_n hx hb dL_law_613 rfl (lv_at hl 1 rfl) ?_
  refine lv_iload hx hb dL_law_614 (lv_at hl 5 rfl) ?_
  refine lv_iconst (v := 1) hx hb dL_law_616 (by decide) ?_
  refine lv_iadd hx hb dL_law_617 ?_
  refine lw_sld hx hb hX hbl hbA hw hL (q := 5 * n + 1) (nI_add (5 * n) 1) (by omega) dL_law_618 ?_
  refine lv_aload_n hx hb dL_law_619 rfl (lv_at hl 1 rfl) ?_
  refine lv_iload hx hb dL_law_620 (lv_at hl 5 rfl) ?_
  refine lv_iconst (v := 2) hx hb dL_law_622 (by decide) ?_
  refine lv_iadd hx hb dL_law_623 ?_
  refine lw_sld hx hb hX hbl hbA hw hL (q := 5 * n + 2) (nI_add (5 * n) 2) (by omega) dL_law_624 ?_
  refine pf_i hP1 hw (va_runV (As := [.int (xs (5 * n + 1)), .int (xs (5 * n + 2))]) (rest := []) CF (m_reinstate l g Lm _ am mm hm1 (kP k) t0 (kC k) hR.1 (xs (5 * n + 1)) (xs (5 * n + 2)) _) (cwV 2 hts gL_law_X7_reinstate rfl rfl rfl (by decide +kernel) ⟨Nat.le_of_ble_eq_true rfl, Nat.le_of_ble_eq_true rfl⟩) (pm_preV (hw.sub hP1.1 hP1.2.2.1) hs (pm_recv (hw.sub hP1.1 hP1.2.2.1) (hm1.q (i := 0) (by decide)) (hm1.f (i := 0) (by decide)) rfl)) rfl rfl hl.1 rfl (lv_room (Nat.le_of_ble_eq_true rfl)) dL_law_625 ⟨by show _ ≤ 601024; omega, by show _ ≤ 7293034; omega⟩) (fun bb Ly fy H locs hp hdy hw => ?_)
  obtain ⟨hJ, hans⟩ := j_reinstate hi hle hR hW hp
  obtain ⟨hLy, a9, k9, m9, t9, ha9, ⟨hk9, hi9, hle9⟩, hm9, hR9, h49⟩ := hJ
  obtain rfl : Lm = Ly := hLy.symm
  refine lv_istore (lv' := [(6, .int bb), (5, .int r), (0, .ref b), (1, .ref (a 0)), (2, .ref (am 0)), (3, .ref o), (4, .int (nI (5 * n)))]) hx hb dL_law_628 hl (by decide) rfl (fun ls hl => ?_)
  have hfc2 : ∀ q, q ∈ La → mix (La ++ [o]) (mix Lm f fx) fy q = fc q := fun q hq => by
    show (if q ∈ La ++ [o] then (if q ∈ Lm then f q else fx q) else fy q) = fc q
    rw [if_pos (List.mem_append_left _ hq), if_neg (hdx q (List.mem_append_left _ hq))]
    exact hfc q hq
  have ho2 : mix (La ++ [o]) (mix Lm f fx) fy o = .inl (g.2.1 4, 1, .inr (.inl ro1)) := by
    show (if o ∈ La ++ [o] then (if o ∈ Lm then f o else fx o) else fy o) = _
    rw [if_pos (List.mem_append_right _ (List.mem_singleton.mpr rfl)), if_neg (hdx o (List.mem_append_right _ (List.mem_singleton.mpr rfl)))]
    exact hfo1
  have hm2 : MW g am m9 Lm (mix (La ++ [o]) (mix Lm f fx) fy) := FW.mixL hm9 hdy
  have hk2 : CW g a9 k9 La (mix (La ++ [o]) (mix Lm f fx) fy) := FW.cong hk9 hfc2
  generalize mix (La ++ [o]) (mix Lm f fx) fy = F at hw hk2 hm2 ho2
  have hP2 := Pt_l hw.nodup
  refine lv_aload_n hx hb dL_law_630 rfl (lv_at hl 4 rfl) ?_
  refine pf_i hP2 hw (va_runV (As := []) (rest := []) CF (m_thrown l g Lm F am m9 hm2 _) (cwV 0 hts gL_law_X7_thrown rfl rfl rfl (by decide +kernel) ⟨Nat.le_of_ble_eq_true rfl, Nat.le_of_ble_eq_true rfl⟩) (pm_preV (hw.sub hP2.1 hP2.2.2.1) hs (pm_recv (hw.sub hP2.1 hP2.2.2.1) (hm2.q (i := 0) (by decide)) (hm2.f (i := 0) (by decide)) rfl)) rfl rfl hl.1 rfl (lv_room (Nat.le_of_ble_eq_true rfl)) dL_law_631 ⟨by show _ ≤ 601024; omega, by show _ ≤ 7293034; omega⟩) (fun th Lz fz H locs hp hdz hw => ?_)
  obtain ⟨hth, hu⟩ := hp
  obtain ⟨e1, e2⟩ := Prod.mk.inj hu
  obtain rfl := e1.symm
  obtain rfl := e2.symm
  rw [mix_same] at hw
  rw [h49] at hth
  obtain rfl : r = th := hth.symm
  refine W.widen (k := 39 + 8 * (n + 1)) (n := 5828 + 524 * (n + 1)) (by omega) (by omega) ?_
  have fin : W p l e room_1 s m #[Value.ref b] below meth c H locs (39 + 8 * (n + 1)) (5828 + 524 * (n + 1)) Q (F0 m 658 ls []) := by
    refine lv_goto (tgt := 1521) hx hb dL_law_658 (by decide) ?_
    refine lv_iinc (v := nI (5 * (n + 1))) (lv' := [(4, .int (nI (5 * (n + 1)))), (6, .int bb), (5, .int r), (0, .ref b), (1, .ref (a 0)), (2, .ref (am 0)), (3, .ref o)]) hx hb dL_law_1521 hl (k := 6) rfl (nI_add (5 * n) 5) (by decide) rfl (fun ls hl => ?_)
    refine lv_goto (tgt := 23) hx hb dL_law_1524 (by decide) ?_
    exact ih _ _ _ ⟨a9, am, k9, m9, t9, o, La, Lm, F, ro1, hw, ⟨hk2, hi9, hle9⟩, hm2, hR9, ho2, by rw [ha9]; exact lv_sub hl [3, 4, 5, 6, 0] rfl⟩
  refine lv_iload hx hb dL_law_634 (lv_at hl 1 rfl) ?_
  refine lv_icmp_eq (tgt := 641) hx hb dL_law_636 (by decide) (fun _ => ?_) (fun h => absurd rfl h)
  refine lv_iload hx hb dL_law_641 (lv_at hl 1 rfl) ?_
  refine lv_if_ne (tgt := 658) hx hb dL_law_643 (by decide) (fun _ => fin) (fun h0 => ?_)
  refine lv_aload_n hx hb dL_law_646 rfl (lv_at hl 5 rfl) ?_
  refine lv_iconst (v := 0) hx hb dL_law_647 (by decide) ?_
  refine pm_lald (n := 1) (r := ro1) hx hb hw (List.mem_append_right _ (List.mem_append_right _ (List.mem_singleton.mpr rfl))) ho2 (j := 0) rfl (by unfold vp_in; decide) dL_law_648 ?_
  refine lv_iload hx hb dL_law_649 (lv_at hl 0 rfl) ?_
  refine lv_i2l (v := bb.toInt64) hx hb dL_law_651 rfl ?_
  refine W.lcmp hx hb dL_law_652 ?_
  refine lv_if_eq (tgt := 658) hx hb dL_law_653 (by decide) (fun _ => fin) (fun h2 => absurd ((lg_cmp_eq _ _).mpr (hans h0)) h2)

set_option maxHeartbeats 4000000 in
set_option maxRecDepth 100000 in
theorem law_takeBack {p : Program} {e : Env} {s : State} {m : MethodId} {below : List Frame} {meth : Method} {c : Code} {l : Launch} {b L : Nat} {xs : Nat → Int32} {Q : State → Prop} {g : GE} {n : Nat} {H : Heap} {locs : List Loc} {ls : Array Slot} (hst : l.stackTraces = false) (hL : L ≤ 2560) (C0 : lw_At p s m meth c b L xs) (hs : Sx g (lwA s) s s.heap) (hN : NcU s) (hn : 5 * n + 5 ≤ L) (I : LawI g s b n H locs ls) (ih : ∀ (H1 : Heap) (locs1 : List Loc) (ls1 : Array Slot), LawI g s b (n + 1) H1 locs1 ls1 → W p l e room_1 s m #[Value.ref b] below meth c H1 locs1 (39 + 8 * (n + 1)) (5828 + 524 * (n + 1)) Q (F0 m 23 ls1 [])) : W p l e room_1 s m #[Value.ref b] below meth c H locs (39 + 8 * n) (5828 + 524 * n) Q (F0 m 661 ls []) := by
  obtain ⟨hx, hb, hr, hml, hown0, hts0, hX, hbl, hlocks, hgv⟩ := id C0
  obtain ⟨a, am, k, mm, t0, o, Lc, Lm, f, ro, hw, ⟨hk, hi, hle⟩, hm, hR, hfo, hl⟩ := I
  have hbA : ¬ lwA s b := Nat.not_le.mpr hbl
  have hts : ∀ w ∈ wsL_law, w.before #[Value.ref b] s = true := fun w h => hts0 w (wsL_law_in w h)
  have hown : s.vm.findClass RL = some m.cls := hown0
  have CF := (⟨hx, hb, hml, hown, hts⟩ : CallFix p m c cL_law 7 s #[Value.ref b] wsL_law RL)
  have hP := Pt_r hw.nodup
  have ho : o ∉ Lc := fun h => (List.nodup_append.mp hP.2.2.1).2.2 o h o (List.mem_singleton.mpr rfl) rfl
  refine lv_aload_n hx hb dL_law_661 rfl (lv_at hl 1 rfl) ?_
  refine lv_aload_n hx hb dL_law_662 rfl (lv_at hl 0 rfl) ?_
  refine lv_iload hx hb dL_law_663 (lv_at hl 4 rfl) ?_
  refine lv_iconst (v := 1) hx hb dL_law_665 (by decide) ?_
  refine lv_iadd hx hb dL_law_666 ?_
  refine lw_sld hx hb hX hbl hbA hw hL (q := 5 * n + 1) (nI_add (5 * n) 1) (by omega) dL_law_667 ?_
  refine lv_aload_n hx hb dL_law_668 rfl (lv_at hl 3 rfl) ?_
  refine pfx_ic hP hw (vx_runSX (As := [.ref (a 0), .int (xs (5 * n + 1)), .ref o]) (rest := []) CF (w_takeBack l g Lc f (a 0) o _ ro (xs (5 * n + 1)) _ _ (c_takeBack l hst g Lc f a k hk hi (xs (5 * n + 1))) (fun E u h => by obtain ⟨h, -⟩ := h; rcases h with ⟨-, rfl⟩ | ⟨-, ⟨-, rfl⟩ | ⟨-, h⟩⟩ <;> first | (exact Or.inl rfl) | (exact Or.inr (rfl)) | (exact False.elim h)) (hk.q (i := 0) (dC (by decide))) (hk.f (i := 0) (dC (by decide))) ho hfo _) (vx_cwSW 3 hts gL_law_L_takeBack rfl rfl rfl (by decide +kernel) ⟨Nat.le_of_ble_eq_true rfl, Nat.le_of_ble_eq_true rfl⟩) (pn_preS (hw.sub hP.1 hP.2.2.1) hs hN) rfl rfl hl.1 rfl (lv_room (Nat.le_of_ble_eq_true rfl)) dL_law_669 ⟨by show _ ≤ 601024; omega, by show _ ≤ 7293034; omega⟩) (fun E ce q9 La9 f9 H9 locs9 he _ _ _ _ _ => False.elim he) (fun r Lx fx H locs hp hdx hw => ?_)
  obtain ⟨La, fc, ro1, hoLa, hu, hfc, hfo1, hW⟩ := hp
  obtain rfl : Lx = La ++ [o] := hu
  refine lv_istore (lv' := [(5, .int r), (0, .ref b), (1, .ref (a 0)), (2, .ref (am 0)), (3, .ref o), (4, .int (nI (5 * n)))]) hx hb dL_law_672 hl (by decide) rfl (fun ls hl => ?_)
  have hm1 : MW g am mm Lm (mix Lm f fx) := hm.mixR
  have hP1 := Pt_r hw.nodup
  refine lv_aload_n hx hb dL_law_674 rfl (lv_at hl 3 rfl) ?_
  refine lv_aload_n hx hb dL_law_675 rfl (lv_at hl 1 rfl) ?_
  refine lv_iload hx hb dL_law_676 (lv_at hl 5 rfl) ?_
  refine lv_iconst (v := 1) hx hb dL_law_678 (by decide) ?_
  refine lv_iadd hx hb dL_law_679 ?_
  refine lw_sld hx hb hX hbl hbA hw hL (q := 5 * n + 1) (nI_add (5 * n) 1) (by omega) dL_law_680 ?_
  refine pf_i hP1 hw (va_runV (As := [.int (xs (5 * n + 1))]) (rest := []) CF (m_takeBack l g Lm _ am mm hm1 (kP k) t0 (kC k) hR.1 (xs (5 * n + 1)) _) (cwV 1 hts gL_law_X7_takeBack rfl rfl rfl (by decide +kernel) ⟨Nat.le_of_ble_eq_true rfl, Nat.le_of_ble_eq_true rfl⟩) (pm_preV (hw.sub hP1.1 hP1.2.2.1) hs (pm_recv (hw.sub hP1.1 hP1.2.2.1) (hm1.q (i := 0) (by decide)) (hm1.f (i := 0) (by decide)) rfl)) rfl rfl hl.1 rfl (lv_room (Nat.le_of_ble_eq_true rfl)) dL_law_681 ⟨by show _ ≤ 601024; omega, by show _ ≤ 7293034; omega⟩) (fun bb Ly fy H locs hp hdy hw => ?_)
  obtain ⟨hJ, hans⟩ := j_takeBack hi hle hR hW hp
  obtain ⟨hLy, a9, k9, m9, t9, ha9, ⟨hk9, hi9, hle9⟩, hm9, hR9, h49⟩ := hJ
  obtain rfl : Lm = Ly := hLy.symm
  refine lv_istore (lv' := [(6, .int bb), (5, .int r), (0, .ref b), (1, .ref (a 0)), (2, .ref (am 0)), (3, .ref o), (4, .int (nI (5 * n)))]) hx hb dL_law_684 hl (by decide) rfl (fun ls hl => ?_)
  have hfc2 : ∀ q, q ∈ La → mix (La ++ [o]) (mix Lm f fx) fy q = fc q := fun q hq => by
    show (if q ∈ La ++ [o] then (if q ∈ Lm then f q else fx q) else fy q) = fc q
    rw [if_pos (List.mem_append_left _ hq), if_neg (hdx q (List.mem_append_left _ hq))]
    exact hfc q hq
  have ho2 : mix (La ++ [o]) (mix Lm f fx) fy o = .inl (g.2.1 4, 1, .inr (.inl ro1)) := by
    show (if o ∈ La ++ [o] then (if o ∈ Lm then f o else fx o) else fy o) = _
    rw [if_pos (List.mem_append_right _ (List.mem_singleton.mpr rfl)), if_neg (hdx o (List.mem_append_right _ (List.mem_singleton.mpr rfl)))]
    exact hfo1
  have hm2 : MW g am m9 Lm (mix (La ++ [o]) (mix Lm f fx) fy) := FW.mixL hm9 hdy
  have hk2 : CW g a9 k9 La (mix (La ++ [o]) (mix Lm f fx) fy) := FW.cong hk9 hfc2
  generalize mix (La ++ [o]) (mix Lm f fx) fy = F at hw hk2 hm2 ho2
  have hP2 := Pt_l hw.nodup
  refine lv_aload_n hx hb dL_law_686 rfl (lv_at hl 4 rfl) ?_
  refine pf_i hP2 hw (va_runV (As := []) (rest := []) CF (m_thrown l g Lm F am m9 hm2 _) (cwV 0 hts gL_law_X7_thrown rfl rfl rfl (by decide +kernel) ⟨Nat.le_of_ble_eq_true rfl, Nat.le_of_ble_eq_true rfl⟩) (pm_preV (hw.sub hP2.1 hP2.2.2.1) hs (pm_recv (hw.sub hP2.1 hP2.2.2.1) (hm2.q (i := 0) (by decide)) (hm2.f (i := 0) (by decide)) rfl)) rfl rfl hl.1 rfl (lv_room (Nat.le_of_ble_eq_true rfl)) dL_law_687 ⟨by show _ ≤ 601024; omega, by show _ ≤ 7293034; omega⟩) (fun th Lz fz H locs hp hdz hw => ?_)
  obtain ⟨hth, hu⟩ := hp
  obtain ⟨e1, e2⟩ := Prod.mk.inj hu
  obtain rfl := e1.symm
  obtain rfl := e2.symm
  rw [mix_same] at hw
  rw [h49] at hth
  obtain rfl : r = th := hth.symm
  refine W.widen (k := 39 + 8 * (n + 1)) (n := 5828 + 524 * (n + 1)) (by omega) (by omega) ?_
  have fin : W p l e room_1 s m #[Value.ref b] below meth c H locs (39 + 8 * (n + 1)) (5828 + 524 * (n + 1)) Q (F0 m 714 ls []) := by
    refine lv_goto (tgt := 1521) hx hb dL_law_714 (by decide) ?_
    refine lv_iinc (v := nI (5 * (n + 1))) (lv' := [(4, .int (nI (5 * (n + 1)))), (6, .int bb), (5, .int r), (0, .ref b), (1, .ref (a 0)), (2, .ref (am 0)), (3, .ref o)]) hx hb dL_law_1521 hl (k := 6) rfl (nI_add (5 * n) 5) (by decide) rfl (fun ls hl => ?_)
    refine lv_goto (tgt := 23) hx hb dL_law_1524 (by decide) ?_
    exact ih _ _ _ ⟨a9, am, k9, m9, t9, o, La, Lm, F, ro1, hw, ⟨hk2, hi9, hle9⟩, hm2, hR9, ho2, by rw [ha9]; exact lv_sub hl [3, 4, 5, 6, 0] rfl⟩
  refine lv_iload hx hb dL_law_690 (lv_at hl 1 rfl) ?_
  refine lv_icmp_eq (tgt := 697) hx hb dL_law_692 (by decide) (fun _ => ?_) (fun h => absurd rfl h)
  refine lv_iload hx hb dL_law_697 (lv_at hl 1 rfl) ?_
  refine lv_if_ne (tgt := 714) hx hb dL_law_699 (by decide) (fun _ => fin) (fun h0 => ?_)
  refine lv_aload_n hx hb dL_law_702 rfl (lv_at hl 5 rfl) ?_
  refine lv_iconst (v := 0) hx hb dL_law_703 (by decide) ?_
  refine pm_lald (n := 1) (r := ro1) hx hb hw (List.mem_append_right _ (List.mem_append_right _ (List.mem_singleton.mpr rfl))) ho2 (j := 0) rfl (by unfold vp_in; decide) dL_law_704 ?_
  refine lv_iload hx hb dL_law_705 (lv_at hl 0 rfl) ?_
  refine lv_i2l (v := bb.toInt64) hx hb dL_law_707 rfl ?_
  refine W.lcmp hx hb dL_law_708 ?_
  refine lv_if_eq (tgt := 714) hx hb dL_law_709 (by decide) (fun _ => fin) (fun h2 => absurd ((lg_cmp_eq _ _).mpr (hans h0)) h2)

set_option maxHeartbeats 4000000 in
set_option maxRecDepth 100000 in
theorem law_changes {p : Program} {e : Env} {s : State} {m : MethodId} {below : List Frame} {meth : Method} {c : Code} {l : Launch} {b L : Nat} {xs : Nat → Int32} {Q : State → Prop} {g : GE} {n : Nat} {H : Heap} {locs : List Loc} {ls : Array Slot} (hst : l.stackTraces = false) (hL : L ≤ 2560) (C0 : lw_At p s m meth c b L xs) (hs : Sx g (lwA s) s s.heap) (hN : NcU s) (hn : 5 * n + 5 ≤ L) (I : LawI g s b n H locs ls) (ih : ∀ (H1 : Heap) (locs1 : List Loc) (ls1 : Array Slot), LawI g s b (n + 1) H1 locs1 ls1 → W p l e room_1 s m #[Value.ref b] below meth c H1 locs1 (39 + 8 * (n + 1)) (5828 + 524 * (n + 1)) Q (F0 m 23 ls1 [])) : W p l e room_1 s m #[Value.ref b] below meth c H locs (39 + 8 * n) (5828 + 524 * n) Q (F0 m 717 ls []) := by
  obtain ⟨hx, hb, hr, hml, hown0, hts0, hX, hbl, hlocks, hgv⟩ := id C0
  obtain ⟨a, am, k, mm, t0, o, Lc, Lm, f, ro, hw, ⟨hk, hi, hle⟩, hm, hR, hfo, hl⟩ := I
  have hbA : ¬ lwA s b := Nat.not_le.mpr hbl
  have hts : ∀ w ∈ wsL_law, w.before #[Value.ref b] s = true := fun w h => hts0 w (wsL_law_in w h)
  have hown : s.vm.findClass RL = some m.cls := hown0
  have CF := (⟨hx, hb, hml, hown, hts⟩ : CallFix p m c cL_law 7 s #[Value.ref b] wsL_law RL)
  have hnd := hw.nodup
  have hP : Pt (Lm ++ (Lc ++ [o])) Lc (Lm ++ [o]) := by
    have n1 := List.nodup_append.mp hnd
    have n2 := List.nodup_append.mp n1.2.1
    refine ⟨fun q hq => List.mem_append_right _ (List.mem_append_left _ hq), fun q hq => ?_, n2.1, ?_, fun q hq h9 => ?_⟩
    · rcases List.mem_append.mp hq with h | h
      · exact List.mem_append_left _ h
      · exact List.mem_append_right _ (List.mem_append_right _ h)
    · refine List.nodup_append.mpr ⟨n1.1, n2.2.1, fun q hq q2 hq2 => n1.2.2 q hq q2 (List.mem_append_right _ hq2)⟩
    · rcases List.mem_append.mp h9 with h | h
      · exact n1.2.2 q h q (List.mem_append_left _ hq) rfl
      · exact n2.2.2 q hq q h rfl
  refine lv_aload_n hx hb dL_law_717 rfl (lv_at hl 1 rfl) ?_
  refine pf_i hP hw (va_runV (As := []) (rest := []) CF (c_changes l g Lc f a k hk hi _) (cwV 0 hts gL_law_X6_changes rfl rfl rfl (by decide +kernel) ⟨Nat.le_of_ble_eq_true rfl, Nat.le_of_ble_eq_true rfl⟩) (pm_preV (hw.sub hP.1 hP.2.2.1) hs (pm_recv (hw.sub hP.1 hP.2.2.1) (hk.q (i := 0) (dC (by decide))) (hk.f (i := 0) (dC (by decide))) rfl)) rfl rfl hl.1 rfl (lv_room (Nat.le_of_ble_eq_true rfl)) dL_law_718 ⟨by show _ ≤ 601024; omega, by show _ ≤ 7293034; omega⟩) (fun r Lx fx H locs hp hdx hw => ?_)
  obtain ⟨hrr, hu⟩ := hp
  obtain ⟨e1, e2⟩ := Prod.mk.inj hu
  obtain rfl := e1.symm
  obtain rfl := e2.symm
  rw [mix_same] at hw
  have hP1 : Pt (Lc ++ (Lm ++ [o])) Lm (Lc ++ [o]) := by
    have n1 := List.nodup_append.mp hnd
    have n2 := List.nodup_append.mp n1.2.1
    refine ⟨fun q hq => List.mem_append_right _ (List.mem_append_left _ hq), fun q hq => ?_, n1.1, n1.2.1, fun q hq h9 => n1.2.2 q hq q h9 rfl⟩
    rcases List.mem_append.mp hq with h | h
    · exact List.mem_append_left _ h
    · exact List.mem_append_right _ (List.mem_append_right _ h)
  refine lv_aload_n hx hb dL_law_721 rfl (lv_at hl 2 rfl) ?_
  refine pf_i hP1 hw (va_runV (As := []) (rest := [.int r]) CF (m_changes l g Lm f am mm hm _) (cwV 0 hts gL_law_X7_changes rfl rfl rfl (by decide +kernel) ⟨Nat.le_of_ble_eq_true rfl, Nat.le_of_ble_eq_true rfl⟩) (pm_preV (hw.sub hP1.1 hP1.2.2.1) hs (pm_recv (hw.sub hP1.1 hP1.2.2.1) (hm.q (i := 0) (by decide)) (hm.f (i := 0) (by decide)) rfl)) rfl rfl hl.1 rfl (lv_room (Nat.le_of_ble_eq_true rfl)) dL_law_722 ⟨by show _ ≤ 601024; omega, by show _ ≤ 7293034; omega⟩) (fun bb Ly fy H locs hp hdy hw => ?_)
  obtain ⟨hbb, hLy, hm9⟩ := hp
  obtain rfl : Lm = Ly := hLy.symm
  have hrb : r = bb := by rw [hrr, hbb, hR.1.1.2.2]
  have hm2 : MW g am (mT mm 0) Lm (mix (Lc ++ [o]) f fy) := FW.mixL hm9 hdy
  have hk2 : CW g a k Lc (mix (Lc ++ [o]) f fy) := FW.cong hk (fun q hq => if_pos (List.mem_append_left _ hq))
  have ho2 : mix (Lc ++ [o]) f fy o = .inl (g.2.1 4, 1, .inr (.inl ro)) := (if_pos (List.mem_append_right _ (List.mem_singleton.mpr rfl))).trans hfo
  have hR9 : Rel k (mT mm 0) t0 (n + 1) := hR.sm (kSm.rf k) (mSm.t mm 0) (Nat.le_succ n)
  generalize mix (Lc ++ [o]) f fy = F at hw hk2 hm2 ho2
  refine W.widen (k := 39 + 8 * (n + 1)) (n := 5828 + 524 * (n + 1)) (by omega) (by omega) ?_
  refine lv_icmp_eq (tgt := 1521) hx hb dL_law_725 (by decide) (fun _ => ?_) (fun h => absurd hrb h)
  refine lv_iinc (v := nI (5 * (n + 1))) (lv' := [(4, .int (nI (5 * (n + 1)))), (0, .ref b), (1, .ref (a 0)), (2, .ref (am 0)), (3, .ref o)]) hx hb dL_law_1521 hl (k := 4) rfl (nI_add (5 * n) 5) (by decide) rfl (fun ls hl => ?_)
  refine lv_goto (tgt := 23) hx hb dL_law_1524 (by decide) ?_
  exact ih _ _ _ ⟨a, am, k, mT mm 0, t0, o, Lc, Lm, F, ro, hw, ⟨hk2, hi, hle⟩, hm2, hR9, ho2, lv_sub hl [1, 2, 3, 4, 0] rfl⟩

