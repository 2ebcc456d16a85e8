/-! the law's loop, its start, the claim -/
section LAWS
set_option maxHeartbeats 4000000 in
set_option maxRecDepth 100000 in
theorem law_fin {p : Program} {e : Env} {s : State} {m : MethodId} {below : List Frame} {meth : Method} {c : Code} {l : Launch} {b L : Nat} {xs : Nat → Int32} {g : GE} {o κ : Nat} {H : Heap} {locs : List Loc} {ls : Array Slot} (hst : l.stackTraces = false) (hL : L ≤ 260) (C0 : lw_At p s m meth c b L xs) (hs : Sx g (lwA s) s s.heap) (hN : NcU s) (hκ : κ = 16) (I : LawI g s b o κ H locs ls) : W p l e room_1 s m #[Value.ref b] below meth c H locs (8058 + 1413 * κ) (515084 + 91554 * κ) (lw_Z below #[Value.ref b] s) (F0 m 35 ls []) := by
  obtain ⟨hx, hb, hr, hml, hown0, hts0, hX, hbl, hlocks, hgv⟩ := id C0
  have hbA : ¬ lwA s b := Nat.not_le.mpr hbl
  have hts : ∀ w ∈ wsL_law, w.before #[Value.ref b] s = true := fun w h => hts0 w (wsL_law_in w h)
  have hown : s.vm.findClass RL = some m.cls := hown0
  have CF := (⟨hx, hb, hml, hown, hts⟩ : CallFix p m c cL_law 5 s #[Value.ref b] wsL_law RL)
  obtain ⟨mm, L1, f1, hge, hW, hw, hl⟩ := I
  have pb0 : pB 1 0 := pb_0 (by decide)
  have hpm : 0 ≤ (pmM mm (ix 0) 0 κ 0).toInt := hW.pm (i := ix 0) (by decide)
  have k0 : kB mm 0 := ⟨by decide, by rw [i32_0]; omega⟩
  refine lv_iload_n hx hb dL_law_35 rfl (lv_at hl 2 rfl) ?_
  refine lv_bipush (v := 16) hx hb dL_law_36 (by decide) ?_
  refine lv_icmp_ge (tgt := 215) hx hb dL_law_38 (by decide) (fun _ => ?_) (fun h9 => absurd (by rw [i32_le, nI_toInt (by omega), show (16 : Int32).toInt = 16 from rfl]; omega) h9)
  refine lv_aload_n hx hb dL_law_215 rfl (lv_at hl 1 rfl) ?_
  refine lv_iconst (v := 0) hx hb dL_law_216 (by decide) ?_
  refine lv_iconst (v := 0) hx hb dL_law_217 (by decide) ?_
  obtain ⟨fs9, hq9, hf9⟩ := hW.rcv
  refine px_ic hw (vx_runV (As := [.int 0, .int 0]) (rest := []) CF ((q_premium l hst g _ _ hW 0 0).sure ⟨pb0, k0, trivial⟩ _) (cwV 2 hts gL_law_X6_premium rfl rfl rfl (by decide +kernel) ⟨Nat.le_of_ble_eq_true rfl, Nat.le_of_ble_eq_true rfl⟩) (pm_preV hw hs (pm_recv hw hq9 hf9 rfl)) rfl rfl hl.1 rfl (lv_room (Nat.le_of_ble_eq_true rfl)) dL_law_218 ⟨by show _ ≤ 600104; omega, by show _ ≤ 7301314; omega⟩) (fun E9 ce9 q9 L9 f9 H9 locs9 he9 _ _ _ _ => False.elim he9) (fun r9 La fa Ha loca hp hw9 => ?_)
  clear hw hW fs9 hq9 hf9
  have hw := hw9
  clear hw9
  obtain rfl : r9 = (pmM mm (ix 0) 0 κ 0) := hp.1
  have hW : Wd g o mm 1 κ 0 (1 + 2 * κ) La fa := hp.2
  clear hp
  refine lv_if_lt (tgt := 228) hx hb dL_law_221 (by decide) (fun h9 => absurd h9 (by rw [i32_lt, i32_0]; omega)) (fun _ => ?_)
  refine lv_iconst (v := 1) hx hb dL_law_224 (by decide) ?_
  refine lv_goto (tgt := 229) hx hb dL_law_225 (by decide) ?_
  refine va_forget (fun q hq => hw.2.2.2.1.2.2 q hq) ?_
  refine W.widen (k := 600104) (n := 7301314) (by omega) (by omega) ?_
  exact lw_ret hx hb hr hlocks dL_law_229
set_option maxHeartbeats 4000000 in
set_option maxRecDepth 100000 in
theorem law_loop {p : Program} {e : Env} {s : State} {m : MethodId} {below : List Frame} {meth : Method} {c : Code} {l : Launch} {b L : Nat} {xs : Nat → Int32} {g : GE} {o : Nat} (hst : l.stackTraces = false) (hL : L ≤ 260) (C0 : lw_At p s m meth c b L xs) (hs : Sx g (lwA s) s s.heap) (hN : NcU s) : ∀ (q κ : Nat), κ ≤ 16 → 16 - κ ≤ q → ∀ (H : Heap) (locs : List Loc) (ls : Array Slot), LawI g s b o κ H locs ls → W p l e room_1 s m #[Value.ref b] below meth c H locs (8058 + 1413 * κ) (515084 + 91554 * κ) (lw_Z below #[Value.ref b] s) (F0 m 35 ls []) := by
  intro q
  induction q with
  | zero =>
    intro κ h1 h2 H locs ls I
    exact law_fin hst hL C0 hs hN (by omega) I
  | succ q ih =>
    intro κ h1 h2 H locs ls I
    rcases Nat.eq_or_lt_of_le h1 with h3 | h3
    · exact law_fin hst hL C0 hs hN h3 I
    · have hl := I
      obtain ⟨mm, L1, f1, hge, hW, hw, hl⟩ := hl
      obtain ⟨hx, hb, hr, hml, hown0, hts0, hX, hbl, hlocks, hgv⟩ := id C0
      refine lv_iload_n hx hb dL_law_35 rfl (lv_at hl 2 rfl) ?_
      refine lv_bipush (v := 16) hx hb dL_law_36 (by decide) ?_
      refine lv_icmp_ge (tgt := 215) hx hb dL_law_38 (by decide) (fun h9 => absurd h9 (by rw [i32_le, nI_toInt (by omega), show (16 : Int32).toInt = 16 from rfl]; omega)) (fun _ => ?_)
      exact law_turn hst hL C0 hs hN h3 I (fun H1 locs1 ls1 I1 => ih (κ + 1) (by omega) (by omega) H1 locs1 ls1 I1)
set_option maxHeartbeats 4000000 in
set_option maxRecDepth 100000 in
theorem whole_start {p : Program} {e : Env} {s : State} {m : MethodId} {below : List Frame} {meth : Method} {c : Code} (l : Launch) (hflags : l.flags = flags0) {b L : Nat} {xs : Nat → Int32} (hL : L ≤ 260) (C0 : lw_At p s m meth c b L xs) : W p l e room_1 s m #[Value.ref b] below meth c s.heap [] 0 0 (lw_Z below #[Value.ref b] s) (entryFrame m ([Value.ref b] : List Value).toArray 5) := by
  obtain ⟨hx, hb, hr, hml, hown0, hts0, hX, hbl, hlocks, hgv⟩ := id C0
  have hst : l.stackTraces = false := by
    unfold Launch.stackTraces
    rw [hflags]
    decide +kernel
  have hts : ∀ w ∈ wsL_law, w.before #[Value.ref b] s = true := fun w h => hts0 w (wsL_law_in w h)
  have hown : s.vm.findClass RL = some m.cls := hown0
  have CF := (⟨hx, hb, hml, hown, hts⟩ : CallFix p m c cL_law 5 s #[Value.ref b] wsL_law RL)
  obtain ⟨g, hK, hs, hN⟩ := start_g (A := lwA s) hts0 hgv (fun q hq => Nat.not_le.mpr hq)
  have hw : PW g (lwA s) s s.heap [] [] (fun _ => .inr (0, [])) := ⟨hK, fun k q h => by simp [va_pl] at h, ⟨fun i j p q h => by simp [va_pl] at h, fun k q h => by simp [va_pl] at h⟩, va_S.rf, fun _ h => h⟩
  have hl := lv_entry ([.ref b]) (n := 5) (Nat.le_of_ble_eq_true rfl)
  rw [lg_entry_eq]
  generalize (lg_sl ([.ref b]) ++ List.replicate (5 - (lg_sl ([.ref b])).length) Slot.unset).toArray = ls at hl ⊢
  have hl : lv_has ls 5 [(0, .ref b)] := hl
  have hW : True := trivial
  refine px_ic hw (vx_runS (As := []) (rest := []) CF (l_days l hst g _ _ _) (va_cwS 0 hts gL_law_L_days rfl rfl rfl (by decide +kernel) ⟨Nat.le_of_ble_eq_true rfl, Nat.le_of_ble_eq_true rfl⟩) (pn_preS hw hs hN) rfl rfl hl.1 rfl (lv_room (Nat.le_of_ble_eq_true rfl)) dL_law_0 ⟨Nat.le_of_ble_eq_true rfl, Nat.le_of_ble_eq_true rfl⟩) (fun E9 ce9 q9 L9 f9 H9 locs9 he9 _ _ _ _ => False.elim he9) (fun r9 La fa Ha loca hp hw9 => ?_)
  clear hw hW
  have hw := hw9
  clear hw9
  obtain rfl : r9 = 1 := hp
  have hW : True := trivial
  replace hw := hw.sub (L1 := []) (fun b hb => absurd hb List.not_mem_nil) List.nodup_nil
  refine lv_if_eq (tgt := 12) hx hb dL_law_3 (by decide) (fun h9 => absurd h9 (by decide)) (fun _ => ?_)
  refine px_ic hw (vx_runS (As := []) (rest := []) CF (l_rows l hst g _ _ _) (va_cwS 0 hts gL_law_L_rows rfl rfl rfl (by decide +kernel) ⟨Nat.le_of_ble_eq_true rfl, Nat.le_of_ble_eq_true rfl⟩) (pn_preS hw hs hN) rfl rfl hl.1 rfl (lv_room (Nat.le_of_ble_eq_true rfl)) dL_law_6 ⟨Nat.le_of_ble_eq_true rfl, Nat.le_of_ble_eq_true rfl⟩) (fun E9 ce9 q9 L9 f9 H9 locs9 he9 _ _ _ _ => False.elim he9) (fun r9 Lb fb Hb locb hp hw9 => ?_)
  clear hw hW
  try clear loca Ha fa La
  have hw := hw9
  clear hw9
  obtain rfl : r9 = 1 := hp
  have hW : True := trivial
  replace hw := hw.sub (L1 := []) (fun b hb => absurd hb List.not_mem_nil) List.nodup_nil
  refine lv_if_ne (tgt := 14) hx hb dL_law_9 (by decide) (fun _ => ?_) (fun h9 => absurd h9 (by decide))
  refine pm_new (ci := 8) (fs := [.null, .null, .null, .null, .null, .int 0]) (C := RX6) (T := TX6) (N := 6) hx hb hts0 inX6 tyX6 tyX6_ok hown (hts (.classLink RL 8 RX6) (by decide +kernel)) (hts (.instantiable RX6 6) (by decide +kernel)) (hts (.initialized RX6) (by decide +kernel)) hw rfl (fun j hj => by rcases (show j = 0 ∨ j = 1 ∨ j = 2 ∨ j = 3 ∨ j = 4 ∨ j = 5 by omega) with rfl | rfl | rfl | rfl | rfl | rfl <;> rfl) (Nat.le_of_ble_eq_true rfl) (Nat.le_of_ble_eq_true rfl) dL_law_14 (fun o Hn hq hwa => ?_)
  refine lv_dup hx hb dL_law_17 rfl ?_
  refine pc_v hwa (va_runI (As := []) (rest := [.ref o]) CF (c_Backdater_init l g _ _ o (List.mem_append_right _ (List.mem_singleton.mpr rfl)) pu_s _) (cwI 0 hts gL_law_X6_init rfl rfl rfl (hts (.initialized RX6) (by decide +kernel)) (hts (.methodLink RL 94 yX6_init) (by decide +kernel)) (hts (.instanceMethod yX6_init) (by decide +kernel)) rfl (by decide +kernel) ⟨Nat.le_of_ble_eq_true rfl, Nat.le_of_ble_eq_true rfl⟩) (pm_preS hwa hs) rfl rfl hl.1 rfl (lv_room (Nat.le_of_ble_eq_true rfl)) dL_law_18 ⟨Nat.le_of_ble_eq_true rfl, Nat.le_of_ble_eq_true rfl⟩) (fun Lb fb Hb locb hp hw => ?_)
  obtain ⟨a9, ha9, -, hk9⟩ := hp
  have hW : Wd g o m0 0 0 0 0 Lb fb := ⟨a9, k0, ha9, hk9, Iv_0 a9, IvL_0, Rel_0, rfl, rfl⟩
  clear hwa ha9 hk9 a9
  refine lv_astore_n (lv' := [(1, .ref o), (0, .ref b)]) hx hb dL_law_21 rfl hl (by decide) rfl (fun ls hl => ?_)
  refine lv_aload_n hx hb dL_law_22 rfl (lv_at hl 0 rfl) ?_
  refine lv_bipush (v := 100) hx hb dL_law_23 (by decide) ?_
  obtain ⟨fs9, hq9, hf9⟩ := hW.rcv
  refine px_ic hw (vx_runV (As := [.int 100]) (rest := []) CF ((q_open l hst g _ _ hW 100).sure ⟨by decide, by decide, trivial⟩ _) (cwV 1 hts gL_law_X6_open rfl rfl rfl (by decide +kernel) ⟨Nat.le_of_ble_eq_true rfl, Nat.le_of_ble_eq_true rfl⟩) (pm_preV hw hs (pm_recv hw hq9 hf9 rfl)) rfl rfl hl.1 rfl (lv_room (Nat.le_of_ble_eq_true rfl)) dL_law_25 ⟨Nat.le_of_ble_eq_true rfl, Nat.le_of_ble_eq_true rfl⟩) (fun E9 ce9 q9 L9 f9 H9 locs9 he9 _ _ _ _ => False.elim he9) (fun r9 La fa Ha loca hp hw9 => ?_)
  clear hw hW fs9 hq9 hf9
  try clear locb Hb fb Lb
  have hw := hw9
  clear hw9
  obtain rfl : r9 = 0 := hp.1
  have hW : Wd g o (mOp m0 0 100) 1 0 0 1 La fa := hp.2
  clear hp
  refine lv_if_eq (tgt := 33) hx hb dL_law_28 (by decide) (fun _ => ?_) (fun h9 => absurd h9 (by decide))
  refine lv_iconst (v := 0) hx hb dL_law_33 (by decide) ?_
  refine lv_istore_n (lv' := [(2, .int 0), (1, .ref o), (0, .ref b)]) hx hb dL_law_34 rfl hl (by decide) rfl (fun ls hl => ?_)
  refine W.widen (k := 8058 + 1413 * 0) (n := 515084 + 91554 * 0) (Nat.le_of_ble_eq_true rfl) (Nat.le_of_ble_eq_true rfl) ?_
  exact law_loop hst hL C0 hs hN 16 0 (by omega) (by omega) _ _ _ ⟨mOp m0 0 100, _, _, by decide, hW, hw, lv_sub hl [2, 1, 0] rfl⟩
end LAWS
-- ===== YOUR PART ENDS =====
set_option maxHeartbeats 4000000 in
theorem lw_walk (l : Launch) (hflags : l.flags = flags0) (b : Addr) (xs : List Int32) : MetFree l x (headSpec (Jvm.Cond.code x code maxLocals ret :: tables_1) room_1) (lw_P b xs) (fun _ _ _ _ _ => True) lw_Q := by
  refine MetFree.of_bodyS (code := code) (maxLocals := maxLocals) (ret := ret) (by decide) ?_ ?_
  · intro args s m h hn
    obtain ⟨meth, c, h1, h2, h3, h4, h5, h6, -, -⟩ := Cond.code_spec hn (atoms_spec (ws := Jvm.Cond.code x code maxLocals ret :: tables_1) h _ List.mem_cons_self)
    exact ⟨meth, c, h1, h2, h3, h4, h5, h6⟩
  · intro p e s m args below meth c s₁ B hml0 hP _
    obtain ⟨rfl, hx, hbd, hgv⟩ := hP
    obtain ⟨scr, harrAt, hlist, hof, hsmall⟩ := hx
    obtain ⟨hcb, hkn, -, -⟩ := State.arrayAt?_spec harrAt
    have hown : s.vm.findClass R_law = some m.cls := findClass_of_methodNamed B.named
    have hts0 : ∀ c ∈ (Jvm.Cond.code x code maxLocals ret :: tables_1), c.before #[Value.ref b] s = true := atoms_spec (ws := Jvm.Cond.code x code maxLocals ret :: tables_1) B.pre
    have hts : ∀ w ∈ lw_tbl, w.before #[Value.ref b] s = true := k2_hts_sels lw_privs (fun w hw => hts0 w (List.mem_cons_of_mem _ hw)) lw_privs_ok
    have hml : c.maxLocals = 5 := B.maxLocals_eq (hts0 _ List.mem_cons_self)
    have X₀ : Stand p l e room_1 s m #[Value.ref b] below meth c s₁ [] 0 0 := Stand.of_body B
    have hh0 : s₁.heap = s.heap := by rw [B.state]; rfl
    have hsz : scr.slots.size = xs.length := by rw [← Array.length_toList, hlist, List.length_map]
    have hval : ∀ j : Nat, j < xs.length → scr.slots[j]? = some (.int (xs.getD j 0)) := fun j hj => by
      rw [← Array.getElem?_toList, hlist]
      simp [hj]
    have hbl : b < s.heap.size := (Array.getElem?_eq_some_iff.mp hcb).1
    have hX : va_X b xs.length (fun j => xs.getD j 0) s s.heap := ⟨scr, hcb, hof, hkn, hsz, hval⟩
    have K : W p l e room_1 s m #[Value.ref b] below meth c s₁.heap [] 0 0 (lw_Z below #[Value.ref b] s) (entryFrame m ([Value.ref b] : List Value).toArray 5) := by
      rw [hh0]
      exact whole_start l hflags hbd ⟨B.exec, B.bytes, B.returns, hml, hown, hts, hX, hbl, B.notSynchronized, hgv⟩
    obtain ⟨t, a1, o, b1, b2, b3⟩ := K s₁ rfl X₀
    exact ⟨t, o, a1, b1, b2, b3⟩
theorem lw_pre_spec {args : Array Value} {s : State} (h : (Jvm.Cond.and given_1 narrow_1).before args s = true) (hr : rest_1_c.before args s = true) : ∃ (b : Addr) (xs : List Int32), lw_P b xs args s := by
  have hs := flat_of_before _ h
  have hq := flat_of_before _ hr
  have hc : (Cond.count 1).before args s = true := hs _ (by decide +kernel)
  have harr : (Cond.arrayOf (.arg 0) .int).before args s = true := hs _ (by decide +kernel)
  have hle : (Cond.le (.length (.arg 0)) (.int 260)).before args s = true := hs _ (by decide +kernel)
  have hlen : (Cond.isInt (.length (.arg 0))).before args s = true := hq _ (by decide +kernel)
  have hall : (Cond.all (.arg 0) (.isInt (.elem (.arg 0) (.index 0)))).before args s = true := hq _ (by decide +kernel)
  obtain ⟨b, xs, hb, hx⟩ := State.ints_of_pre rfl harr hlen hall
  have hsm : xs.length < 2 ^ 31 := hx.choose_spec.2.2.2
  have hev : (Term.length (.arg 0)).eval args s none [] s = some (.int xs.length.toInt32) := hx.length_eval hb
  have hv := Cond.le_ints hev (show (Term.int 260).eval args s none [] s = some (.int 260) from rfl)
  have hd : xs.length.toInt32 ≤ 260 := by
    simpa [Cond.before, Cond.holds, hv] using hle
  have hN : xs.length ≤ 260 := (Int32.ofNat_le_ofNat hsm (by decide)).mp (show Int32.ofNat xs.length ≤ Int32.ofNat 260 from hd)
  exact ⟨b, xs, Cond.one_arg hc (show args[0]? = some (.ref b) from hb), hx, hN, h⟩
theorem lw_comes (l : Launch) (hflags : l.flags = flags0) : Comes l x (Jvm.Cond.code x code maxLocals ret :: tables_1) room_1 (fun tb e args s => Calls_1 tb e args s ∧ rest_1 tb e args s ∧ Pre_1 tb e args s)
    (fun _ _ args s o t => lw_Q args s o t) := by
  intro p e ha hc hk s m args below hf hfit hheap happ hpre
  obtain ⟨b, xs, hP⟩ := lw_pre_spec hpre.2.2 hpre.2.1
  obtain ⟨k, o, h1, h2, h3, hQ⟩ := lw_walk l hflags b xs p e ha hc hk s m args below hf ((Spec.applies_iff_loose hf).mp happ).1 hP trivial
  exact ⟨k, o, h1, h2, h3, hQ⟩
theorem lw_frame {s t : State} {o : Outcome} {args : Array Value} (h : Framed s o t [] 600104 7301314) :
    Framed s o t (fieldLocs frame_1_writes args s ++ arrayLocs frame_1_arrays args s ++ staticLocs frame_1_statics s) 600104 7301314 := h
theorem lw_limb (L : Cond) (hL : ∀ (args : Array Value) (s t : State), L.after args s (.returned (some (.int 1))) t = true) :
    ArmFor flags0 classFile x code maxLocals ret World_1 tables_1 room_1 Calls_1 rest_1 Pre_1
      (fun tb e a s o t => postC L tb e a s o t ∧ Framed s o t (fieldLocs frame_1_writes a s ++ arrayLocs frame_1_arrays a s ++ staticLocs frame_1_statics s) 600104 7301314) := by
  intro l hflags _ _ p e ha hc hk s m args below hf hfit hheap happ hpre
  obtain ⟨k, o, h1, h2, h3, rfl, hF⟩ := lw_comes l hflags p e ha hc hk s m args below hf hfit hheap happ hpre
  exact ⟨k, _, h1, h2, h3, hL args s _, lw_frame hF⟩
theorem i_vc : Claimed_1_1 ∧ Claimed_1_2 := ⟨lw_limb limb_1_1 (fun args s t => by simp [limb_1_1, Cond.after, Cond.holds, Cond.value]), lw_limb limb_1_2 (fun args s t => Cond.after_iff.mpr (by
  first | (rw [show limb_1_2 = Cond.eq .result (.int 1) from rfl, Cond.eq_ints (x := 1) (y := 1) rfl rfl]; simp; done) | (simp [limb_1_2, Cond.value, Term.eval]; done)))⟩
