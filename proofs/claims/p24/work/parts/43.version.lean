/-! the version -/
section VERSION
def filG (r : Nat → Int32) (v : Int32) (i : Nat) : Nat → Int32 := fun j => if j < i then v else r j
theorem filG_s (r : Nat → Int32) (v : Int32) (i : Nat) : upd (filG r v i) i v = filG r v (i + 1) := by
  funext j
  by_cases h : j = i
  · subst h
    rw [upd, if_pos rfl, filG, if_pos (Nat.lt_succ_self _)]
  · rw [upd, if_neg h, filG, filG]
    by_cases h2 : j < i
    · rw [if_pos h2, if_pos (by omega)]
    · rw [if_neg h2, if_neg (by omega)]
def s_bnd (x : Int32) : Int32 := if 20 < (if x < 0 then 0 else x) then 20 else (if x < 0 then 0 else x)
abbrev VS : Type := (Nat → Int32) × Int32
def s_lay (st : VS) (kd : Nat) (fl am : Int32) : VS := if kd = 0 then (s_put st.1 fl am, st.2) else if kd = 1 then (s_put st.1 fl (s_bnd (s_val st.1 fl + am)), st.2) else (st.1, if kd = 3 then 1 else 0)
abbrev kSt (k : KS) (st : VS) : KS := kW (kV k 1 st.1) 0 2 st.2

set_option maxHeartbeats 4000000 in
set_option maxRecDepth 100000 in
theorem c_fill (l : Launch) (g : GE) (L : List Nat) (f : Nat → va_E)  (h0 n : Nat) (r : Nat → Int32) (v : Int32) (hn : n < 2 ^ 31) (hq0 : h0 ∈ L) (hf0 : f h0 = .inl (g.2.1 0, n, .inl r)) : Mv l yJ7_fill_53178 wsJ7_fill_53178 (rmH 0 0 0) g L f [.ref h0, .int v] (fun u => u = (L, va_up f h0 (.inl (g.2.1 0, n, .inl (fun _ => v))))) 0 0 := by
  intro sz
  refine Met.ofW (cc := cJ7_fill_53178) (maxL := 4) (ret := none) (by decide) rfl ?_
  intro p e s m args below meth c s₁ B hml hv
  obtain ⟨rfl, hv⟩ := hv
  have hx := B.exec
  have hb := B.bytes
  have hr := B.returns
  have hts := atoms_spec (ws := wsJ7_fill_53178) B.pre
  have hown : s.vm.findClass RJ7 = some m.cls := findClass_of_methodNamed B.named
  have hlocks := B.notSynchronized
  obtain ⟨rfl, hw, hs⟩ := pm_begin hv
  generalize va_A (va_pl L f) s.heap.size = A at hw hs ⊢
  have CF := (⟨hx, hb, hml, hown, hts⟩ : CallFix p m c cJ7_fill_53178 4 s _ wsJ7_fill_53178 RJ7)
  have hl := lv_entry ([.ref h0, .int v]) (n := 4) (Nat.le_of_ble_eq_true rfl)
  rw [lg_entry_eq]
  generalize (lg_sl ([.ref h0, .int v]) ++ List.replicate (4 - (lg_sl ([.ref h0, .int v])).length) Slot.unset).toArray = ls at hl ⊢
  have hl : lv_has ls 4 [(0, .ref h0), (1, .int v)] := hl
  refine lv_iconst (v := 0) hx hb dJ7_fill_53178_0 (by decide) ?_
  refine lv_istore_n (lv' := [(2, .int 0), (0, .ref h0), (1, .int v)]) hx hb dJ7_fill_53178_1 rfl hl (by decide) rfl (fun ls hl => ?_)
  refine lv_aload_n hx hb dJ7_fill_53178_2 rfl (lv_at hl 1 rfl) ?_
  refine pm_ilen (v := (Int32.ofNat n)) hx hb hw 0 hq0 hf0 rfl rfl dJ7_fill_53178_3 ?_
  refine lv_istore_n (lv' := [(3, .int (Int32.ofNat n)), (2, .int 0), (0, .ref h0), (1, .int v)]) hx hb dJ7_fill_53178_4 rfl hl (by decide) rfl (fun ls hl => ?_)
  have hw := pm_ext (r' := filG r v 0) hw hf0 (fun j _ => (if_neg (Nat.not_lt_zero j)).symm)
  refine W_loop (σ := Nat) (fun i H locs ls => i ≤ n ∧ PW g A s H locs L (va_up f h0 (.inl (g.2.1 0, n, .inl (filG r v i)))) ∧ lv_has ls 4 [(2, .int (nI i)), (3, .int (nI n)), (0, .ref h0), (1, .int v)]) (fun i => n - i) 0 ⟨Nat.zero_le _, hw, lv_sub hl [1, 0, 2, 3] rfl⟩ ?_
  rintro i H locs ls ⟨hi9, hw, hl⟩ ih
  refine lv_iload_n hx hb dJ7_fill_53178_5 rfl (lv_at hl 0 rfl) ?_
  refine lv_iload_n hx hb dJ7_fill_53178_6 rfl (lv_at hl 1 rfl) ?_
  refine lv_icmp_ge (tgt := 20) hx hb dJ7_fill_53178_7 (by decide) (fun c_7 => ?_) (fun c_7 => ?_)
  · have hin : i = n := by rw [nI_leI hn (by omega)] at c_7; omega
    subst hin
    have hw := pm_ext (r' := fun _ => v) hw pu_s (fun j hj => if_pos hj)
    rw [va_up_up] at hw
    exact pr_v hx hb hr hlocks hw ⟨Nat.le_of_ble_eq_true rfl, Nat.le_of_ble_eq_true rfl⟩ (rfl) dJ7_fill_53178_20
  · have hi : i < n := by rw [nI_leI hn (by omega)] at c_7; omega
    refine lv_aload_n hx hb dJ7_fill_53178_10 rfl (lv_at hl 2 rfl) ?_
    refine lv_iload_n hx hb dJ7_fill_53178_11 rfl (lv_at hl 0 rfl) ?_
    refine lv_iload_n hx hb dJ7_fill_53178_12 rfl (lv_at hl 3 rfl) ?_
    refine pm_iast (n := n) (r := (filG r v i)) hx hb hw hq0 pu_s (j := i) (nI_clamp (by omega)) (vp_in_nI hi (by omega)) dJ7_fill_53178_13 (fun H locs hw => ?_)
    have hf_1 : (va_up (va_up f h0 (.inl (g.2.1 0, n, .inl (filG r v i)))) h0 (.inl (g.2.1 0, n, .inl (upd (filG r v i) i v)))) h0 = .inl (g.2.1 0, n, .inl (upd (filG r v i) i v)) := pu_s
    refine lv_iinc (v := (nI (i + 1))) (lv' := [(2, .int (nI (i + 1))), (3, .int (nI n)), (0, .ref h0), (1, .int v)]) hx hb dJ7_fill_53178_14 hl (k := 0) rfl (nI_1 i) (by decide) rfl (fun ls hl => ?_)
    refine lv_goto (tgt := 5) hx hb dJ7_fill_53178_17 (by decide) ?_
    rw [va_up_up, filG_s] at hw
    exact ih (i + 1) _ _ _ (by omega) ⟨by omega, hw, lv_sub hl [0, 1, 2, 3] rfl⟩

set_option maxHeartbeats 4000000 in
set_option maxRecDepth 100000 in
theorem c_begin (l : Launch) (g : GE) (L : List Nat) (f : Nat → va_E) (a : Nat → Nat) (k : KS) (hk : CW g a k L f)  : Mv l yX4_begin wsX4_begin (rmH 1 0 0) g L f [.ref (a 4)] (fun u => u.1 = L ∧ CW g a (kSt k (fun _ => 0, 1)) L u.2) 0 0 := by
  intro sz
  refine Met.ofW (cc := cX4_begin) (maxL := 1) (ret := none) (by decide) rfl ?_
  intro p e s m args below meth c s₁ B hml hv
  obtain ⟨rfl, hv⟩ := hv
  have hx := B.exec
  have hb := B.bytes
  have hr := B.returns
  have hts := atoms_spec (ws := wsX4_begin) B.pre
  have hown : s.vm.findClass RX4 = some m.cls := findClass_of_methodNamed B.named
  have hlocks := B.notSynchronized
  obtain ⟨rfl, hw, hs⟩ := pm_begin hv
  generalize va_A (va_pl L f) s.heap.size = A at hw hs ⊢
  have CF := (⟨hx, hb, hml, hown, hts⟩ : CallFix p m c cX4_begin 1 s _ wsX4_begin RX4)
  have hin_X4 : ∀ w ∈ wsX40, w ∈ wsX4_begin := by decide +kernel
  have hl := lv_entry ([.ref (a 4)]) (n := 1) (Nat.le_of_ble_eq_true rfl)
  rw [lg_entry_eq]
  generalize (lg_sl ([.ref (a 4)]) ++ List.replicate (1 - (lg_sl ([.ref (a 4)])).length) Slot.unset).toArray = ls at hl ⊢
  have hl : lv_has ls 1 [(0, .ref (a 4))] := hl
  refine lv_aload_n hx hb dX4_begin_0 rfl (lv_at hl 0 rfl) ?_
  refine pm_get (ci := 6) (v := .ref (a 14)) (C := RX4) (T := TX4) (N := 2) hx hb hts hin_X4 hown hw (hk.q (i := 4) (dC (by decide))) (hk.f (i := 4) (dC (by decide))) rfl 0 (by decide) (hts (.fieldLink RX4 9 "Backdater$Version" "values" "[I") (by decide +kernel)) (fun _ h9 => h9) rfl dX4_begin_1 ?_
  refine lv_iconst (v := 0) hx hb dX4_begin_4 (by decide) ?_
  refine pc_v hw (va_runS (As := [.ref (a 14), .int 0]) (rest := []) CF (c_fill l g L _ (a 14) 3 (k.1 1) 0 (by decide) (hk.q (i := 14) (dC (by decide))) (hk.f (i := 14) (dC (by decide))) _) (va_cwS 2 hts gX4_begin_J7_fill_53178 rfl rfl rfl (by decide +kernel) ⟨Nat.le_of_ble_eq_true rfl, Nat.le_of_ble_eq_true rfl⟩) (pm_preS hw hs) rfl rfl hl.1 rfl (lv_room (Nat.le_of_ble_eq_true rfl)) dX4_begin_5 ⟨Nat.le_of_ble_eq_true rfl, Nat.le_of_ble_eq_true rfl⟩) (fun L1 f1 H locs hp hw => ?_)
  obtain rfl : _ = L1 := (congrArg Prod.fst hp).symm
  obtain rfl : _ = f1 := (congrArg Prod.snd hp).symm
  have hk := hk.vals (fun _ => 0)
  refine lv_aload_n hx hb dX4_begin_8 rfl (lv_at hl 0 rfl) ?_
  refine lv_iconst (v := 1) hx hb dX4_begin_9 (by decide) ?_
  refine pm_put (ci := 6) (v := .int 1) (ty := .boolean) (C := RX4) (T := TX4) (N := 2) hx hb hts hin_X4 tyX4 tyX4_ok nmX4 hown hw (hk.q (i := 4) (dC (by decide))) (hk.f (i := 4) (dC (by decide))) rfl 1 (by decide) (hts (.fieldLink RX4 15 "Backdater$Version" "covered" "Z") (by decide +kernel)) (fun _ h9 => h9) rfl (by decide +kernel) rfl rfl (Nat.le_of_ble_eq_true rfl) dX4_begin_10 (fun H locs hw => ?_)
  have hk := hk.cov 1
  exact pr_v hx hb hr hlocks hw ⟨Nat.le_of_ble_eq_true rfl, Nat.le_of_ble_eq_true rfl⟩ (⟨rfl, hk⟩) dX4_begin_13

set_option maxHeartbeats 4000000 in
set_option maxRecDepth 100000 in
theorem c_layIn (l : Launch) (g : GE) (L : List Nat) (f : Nat → va_E) (a : Nat → Nat) (k : KS) (hk : CW g a k L f) (j : Nat) (hj : j < k.2.1 0 1) (hkd : k.2.1 2 j < 4) : Mv l yX4_layIn wsX4_layIn (rmH 2 0 0) g L f [.ref (a 4), .ref (a (32 + j))] (fun u => u.1 = L ∧ CW g a (kSt k (s_lay (k.1 1, k.1 0 2) (k.2.1 2 j) (k.1 12 j) (k.1 14 j))) L u.2) 0 0 := by
  intro sz
  refine Met.ofW (cc := cX4_layIn) (maxL := 3) (ret := none) (by decide) rfl ?_
  intro p e s m args below meth c s₁ B hml hv
  obtain ⟨rfl, hv⟩ := hv
  have hx := B.exec
  have hb := B.bytes
  have hr := B.returns
  have hts := atoms_spec (ws := wsX4_layIn) B.pre
  have hown : s.vm.findClass RX4 = some m.cls := findClass_of_methodNamed B.named
  have hlocks := B.notSynchronized
  obtain ⟨rfl, hw, hs⟩ := pm_begin hv
  generalize va_A (va_pl L f) s.heap.size = A at hw hs ⊢
  have CF := (⟨hx, hb, hml, hown, hts⟩ : CallFix p m c cX4_layIn 3 s _ wsX4_layIn RX4)
  have hin_X4 : ∀ w ∈ wsX40, w ∈ wsX4_layIn := by decide +kernel
  have hin_X0 : ∀ w ∈ wsX00, w ∈ wsX4_layIn := by decide +kernel
  have hl := lv_entry ([.ref (a 4), .ref (a (32 + j))]) (n := 3) (Nat.le_of_ble_eq_true rfl)
  rw [lg_entry_eq]
  generalize (lg_sl ([.ref (a 4), .ref (a (32 + j))]) ++ List.replicate (3 - (lg_sl ([.ref (a 4), .ref (a (32 + j))])).length) Slot.unset).toArray = ls at hl ⊢
  have hl : lv_has ls 3 [(0, .ref (a 4)), (1, .ref (a (32 + j)))] := hl
  refine lv_aload_n hx hb dX4_layIn_0 rfl (lv_at hl 1 rfl) ?_
  refine pm_get (ci := 3) (v := .ref (g.2.2 (k.2.1 2 j))) (C := RX0) (T := TX0) (N := 8) hx hb hts hin_X0 hown hw (hk.q (dCh hj)) ((hk.f (dCh hj)).trans (fCh g a _ j)) rfl 2 (by decide) (hts (.fieldLink RX4 25 "Backdater$Change" "kind" "LBackdater$Kind;") (by decide +kernel)) (fun _ h9 => h9) rfl dX4_layIn_1 ?_
  refine va_gets (v := .ref (g.2.2 0)) hx hb hs.1.1.1 hw.2.2.2.1 hown (hts (.fieldLink RX4 31 "Backdater$Kind" "SET" "LBackdater$Kind;") (by decide +kernel)) (fun _ h9 => h9) dX4_layIn_4 ?_
  refine lv_acmp_ne (rx := (some (g.2.2 (k.2.1 2 j)))) (ry := (some (g.2.2 0))) (tgt := 25) hx hb dX4_layIn_7 (by decide) (fun c_7 => ?_) (fun c_7 => ?_)
  · have n0 : ¬ k.2.1 2 j = 0 := fun q => c_7 (by rw [q])
    refine lv_aload_n hx hb dX4_layIn_25 rfl (lv_at hl 1 rfl) ?_
    refine pm_get (ci := 3) (v := .ref (g.2.2 (k.2.1 2 j))) (C := RX0) (T := TX0) (N := 8) hx hb hts hin_X0 hown hw (hk.q (dCh hj)) ((hk.f (dCh hj)).trans (fCh g a _ j)) rfl 2 (by decide) (hts (.fieldLink RX4 25 "Backdater$Change" "kind" "LBackdater$Kind;") (by decide +kernel)) (fun _ h9 => h9) rfl dX4_layIn_26 ?_
    refine va_gets (v := .ref (g.2.2 1)) hx hb hs.1.1.2.1 hw.2.2.2.1 hown (hts (.fieldLink RX4 47 "Backdater$Kind" "ADD" "LBackdater$Kind;") (by decide +kernel)) (fun _ h9 => h9) dX4_layIn_29 ?_
    refine lv_acmp_ne (rx := (some (g.2.2 (k.2.1 2 j)))) (ry := (some (g.2.2 1))) (tgt := 70) hx hb dX4_layIn_32 (by decide) (fun c_32 => ?_) (fun c_32 => ?_)
    · have n1 : ¬ k.2.1 2 j = 1 := fun q => c_32 (by rw [q])
      refine lv_aload_n hx hb dX4_layIn_70 rfl (lv_at hl 0 rfl) ?_
      refine lv_aload_n hx hb dX4_layIn_71 rfl (lv_at hl 1 rfl) ?_
      refine pm_get (ci := 3) (v := .ref (g.2.2 (k.2.1 2 j))) (C := RX0) (T := TX0) (N := 8) hx hb hts hin_X0 hown hw (hk.q (dCh hj)) ((hk.f (dCh hj)).trans (fCh g a _ j)) rfl 2 (by decide) (hts (.fieldLink RX4 25 "Backdater$Change" "kind" "LBackdater$Kind;") (by decide +kernel)) (fun _ h9 => h9) rfl dX4_layIn_72 ?_
      refine va_gets (v := .ref (g.2.2 3)) hx hb hs.1.1.2.2.2 hw.2.2.2.1 hown (hts (.fieldLink RX4 63 "Backdater$Kind" "REINSTATE" "LBackdater$Kind;") (by decide +kernel)) (fun _ h9 => h9) dX4_layIn_75 ?_
      refine lv_acmp_ne (rx := (some (g.2.2 (k.2.1 2 j)))) (ry := (some (g.2.2 3))) (tgt := 85) hx hb dX4_layIn_78 (by decide) (fun c_78 => ?_) (fun c_78 => ?_)
      · have n3 : ¬ k.2.1 2 j = 3 := fun q => c_78 (by rw [q])
        refine lv_iconst (v := 0) hx hb dX4_layIn_85 (by decide) ?_
        refine pm_put (ci := 6) (v := .int 0) (ty := .boolean) (C := RX4) (T := TX4) (N := 2) hx hb hts hin_X4 tyX4 tyX4_ok nmX4 hown hw (hk.q (i := 4) (dC (by decide))) (hk.f (i := 4) (dC (by decide))) rfl 1 (by decide) (hts (.fieldLink RX4 15 "Backdater$Version" "covered" "Z") (by decide +kernel)) (fun _ h9 => h9) rfl (by decide +kernel) rfl rfl (Nat.le_of_ble_eq_true rfl) dX4_layIn_86 (fun H locs hw => ?_)
        have hk := hk.cov 0
        exact pr_v hx hb hr hlocks hw ⟨Nat.le_of_ble_eq_true rfl, Nat.le_of_ble_eq_true rfl⟩ (⟨rfl, by rw [s_lay, if_neg n0, if_neg n1, if_neg n3]; show CW g a (kW (kV k 1 (k.1 1)) 0 2 _) _ _; rw [kV_id]; exact hk⟩) dX4_layIn_89
      · have e3 : k.2.1 2 j = 3 := hs.2.2.2.2.2.2.2.2.2.2.2 _ _ hkd (by decide) (Option.some.inj c_78)
        refine lv_iconst (v := 1) hx hb dX4_layIn_81 (by decide) ?_
        refine lv_goto (tgt := 86) hx hb dX4_layIn_82 (by decide) ?_
        refine pm_put (ci := 6) (v := .int 1) (ty := .boolean) (C := RX4) (T := TX4) (N := 2) hx hb hts hin_X4 tyX4 tyX4_ok nmX4 hown hw (hk.q (i := 4) (dC (by decide))) (hk.f (i := 4) (dC (by decide))) rfl 1 (by decide) (hts (.fieldLink RX4 15 "Backdater$Version" "covered" "Z") (by decide +kernel)) (fun _ h9 => h9) rfl (by decide +kernel) rfl rfl (Nat.le_of_ble_eq_true rfl) dX4_layIn_86 (fun H locs hw => ?_)
        have hk := hk.cov 1
        exact pr_v hx hb hr hlocks hw ⟨Nat.le_of_ble_eq_true rfl, Nat.le_of_ble_eq_true rfl⟩ (⟨rfl, by rw [s_lay, if_neg n0, if_neg n1, if_pos e3]; show CW g a (kW (kV k 1 (k.1 1)) 0 2 _) _ _; rw [kV_id]; exact hk⟩) dX4_layIn_89
    · have e1 : k.2.1 2 j = 1 := hs.2.2.2.2.2.2.2.2.2.2.2 _ _ hkd (by decide) (Option.some.inj c_32)
      refine lv_aload_n hx hb dX4_layIn_35 rfl (lv_at hl 0 rfl) ?_
      refine lv_aload_n hx hb dX4_layIn_36 rfl (lv_at hl 1 rfl) ?_
      refine pm_get (ci := 3) (v := .int (k.1 12 j)) (C := RX0) (T := TX0) (N := 8) hx hb hts hin_X0 hown hw (hk.q (dCh hj)) ((hk.f (dCh hj)).trans (fCh g a _ j)) rfl 3 (by decide) (hts (.fieldLink RX4 36 "Backdater$Change" "field" "I") (by decide +kernel)) (fun _ h9 => h9) rfl dX4_layIn_37 ?_
      refine pc_i hw (va_runV (As := [.int (k.1 12 j)]) (rest := []) CF ((c_valueOf l g L _ a k hk (k.1 12 j)) _) (cwV 1 hts gX4_layIn_X4_valueOf rfl rfl rfl (by decide +kernel) ⟨Nat.le_of_ble_eq_true rfl, Nat.le_of_ble_eq_true rfl⟩) (pm_preV hw hs (pm_recv hw (hk.q (i := 4) (dC (by decide))) (hk.f (i := 4) (dC (by decide))) rfl)) rfl rfl hl.1 rfl (lv_room (Nat.le_of_ble_eq_true rfl)) dX4_layIn_40 ⟨Nat.le_of_ble_eq_true rfl, Nat.le_of_ble_eq_true rfl⟩) (fun r L1 f1 H locs hp hw => ?_)
      obtain ⟨hE_40, hu⟩ := hp
      obtain rfl : _ = L1 := (congrArg Prod.fst hu).symm
      obtain rfl : _ = f1 := (congrArg Prod.snd hu).symm
      generalize r = r_40 at hE_40 ⊢
      subst hE_40
      refine lv_aload_n hx hb dX4_layIn_43 rfl (lv_at hl 1 rfl) ?_
      refine pm_get (ci := 3) (v := .int (k.1 14 j)) (C := RX0) (T := TX0) (N := 8) hx hb hts hin_X0 hown hw (hk.q (dCh hj)) ((hk.f (dCh hj)).trans (fCh g a _ j)) rfl 5 (by decide) (hts (.fieldLink RX4 40 "Backdater$Change" "amount" "I") (by decide +kernel)) (fun _ h9 => h9) rfl dX4_layIn_44 ?_
      refine lv_iadd hx hb dX4_layIn_47 ?_
      refine lv_istore_n (lv' := [(2, .int ((s_val (k.1 1) (k.1 12 j)) + (k.1 14 j))), (0, .ref (a 4)), (1, .ref (a (32 + j)))]) hx hb dX4_layIn_48 rfl hl (by decide) rfl (fun ls hl => ?_)
      refine lv_aload_n hx hb dX4_layIn_49 rfl (lv_at hl 1 rfl) ?_
      refine lv_aload_n hx hb dX4_layIn_50 rfl (lv_at hl 2 rfl) ?_
      refine pm_get (ci := 3) (v := .int (k.1 12 j)) (C := RX0) (T := TX0) (N := 8) hx hb hts hin_X0 hown hw (hk.q (dCh hj)) ((hk.f (dCh hj)).trans (fCh g a _ j)) rfl 3 (by decide) (hts (.fieldLink RX4 36 "Backdater$Change" "field" "I") (by decide +kernel)) (fun _ h9 => h9) rfl dX4_layIn_51 ?_
      refine lv_iload_n hx hb dX4_layIn_54 rfl (lv_at hl 0 rfl) ?_
      refine lv_iconst (v := 0) hx hb dX4_layIn_55 (by decide) ?_
      refine va_mmax hx hb (hml.trans hl.1.symm) hown (hts (.methodLink RX4 54 Lib.Math.max.name) (by decide +kernel)) (hts (.static Lib.Math.max.name) (by decide +kernel)) (hts (.initialized "java/lang/Math") (by decide +kernel)) (hts (.code Lib.Math.max.name Lib.Math.max.code 2 (some .int)) (by decide +kernel)) (Nat.le_of_ble_eq_true rfl) (Nat.le_of_ble_eq_true rfl) (Nat.le_of_ble_eq_true rfl) (Nat.le_of_ble_eq_true rfl) dX4_layIn_56 ?_
      refine lv_bipush (v := 20) hx hb dX4_layIn_59 (by decide) ?_
      refine va_mmin hx hb (hml.trans hl.1.symm) hown (hts (.methodLink RX4 60 Lib.Math.min.name) (by decide +kernel)) (hts (.static Lib.Math.min.name) (by decide +kernel)) (hts (.initialized "java/lang/Math") (by decide +kernel)) (hts (.code Lib.Math.min.name Lib.Math.min.code 2 (some .int)) (by decide +kernel)) (Nat.le_of_ble_eq_true rfl) (Nat.le_of_ble_eq_true rfl) (Nat.le_of_ble_eq_true rfl) (Nat.le_of_ble_eq_true rfl) dX4_layIn_61 ?_
      refine pc_v hw (va_runV (As := [.int (k.1 12 j), .int (if 20 < (if ((s_val (k.1 1) (k.1 12 j)) + (k.1 14 j)) < 0 then 0 else ((s_val (k.1 1) (k.1 12 j)) + (k.1 14 j))) then 20 else (if ((s_val (k.1 1) (k.1 12 j)) + (k.1 14 j)) < 0 then 0 else ((s_val (k.1 1) (k.1 12 j)) + (k.1 14 j))))]) (rest := []) CF ((c_putValue l g L _ a k hk (k.1 12 j) (if 20 < (if ((s_val (k.1 1) (k.1 12 j)) + (k.1 14 j)) < 0 then 0 else ((s_val (k.1 1) (k.1 12 j)) + (k.1 14 j))) then 20 else (if ((s_val (k.1 1) (k.1 12 j)) + (k.1 14 j)) < 0 then 0 else ((s_val (k.1 1) (k.1 12 j)) + (k.1 14 j))))) _) (cwV 2 hts gX4_layIn_X4_putValue rfl rfl rfl (by decide +kernel) ⟨Nat.le_of_ble_eq_true rfl, Nat.le_of_ble_eq_true rfl⟩) (pm_preV hw hs (pm_recv hw (hk.q (i := 4) (dC (by decide))) (hk.f (i := 4) (dC (by decide))) rfl)) rfl rfl hl.1 rfl (lv_room (Nat.le_of_ble_eq_true rfl)) dX4_layIn_64 ⟨Nat.le_of_ble_eq_true rfl, Nat.le_of_ble_eq_true rfl⟩) (fun L1 f1 H locs hp hw => ?_)
      obtain ⟨hu, hk⟩ := hp
      obtain rfl : _ = L1 := hu.symm
      have hk : CW g a (kV k 1 (s_put (k.1 1) (k.1 12 j) (if 20 < (if ((s_val (k.1 1) (k.1 12 j)) + (k.1 14 j)) < 0 then 0 else ((s_val (k.1 1) (k.1 12 j)) + (k.1 14 j))) then 20 else (if ((s_val (k.1 1) (k.1 12 j)) + (k.1 14 j)) < 0 then 0 else ((s_val (k.1 1) (k.1 12 j)) + (k.1 14 j)))))) _ f1 := hk
      refine lv_goto (tgt := 89) hx hb dX4_layIn_67 (by decide) ?_
      exact pr_v hx hb hr hlocks hw ⟨Nat.le_of_ble_eq_true rfl, Nat.le_of_ble_eq_true rfl⟩ (⟨rfl, by rw [s_lay, if_neg n0, if_pos e1]; show CW g a (kW _ 0 2 (k.1 0 2)) _ _; exact (kW_id (kV k 1 (s_put (k.1 1) (k.1 12 j) (s_bnd (s_val (k.1 1) (k.1 12 j) + k.1 14 j)))) 0 2).symm ▸ hk⟩) dX4_layIn_89
  · have e0 : k.2.1 2 j = 0 := hs.2.2.2.2.2.2.2.2.2.2.2 _ _ hkd (by decide) (Option.some.inj c_7)
    refine lv_aload_n hx hb dX4_layIn_10 rfl (lv_at hl 0 rfl) ?_
    refine lv_aload_n hx hb dX4_layIn_11 rfl (lv_at hl 1 rfl) ?_
    refine pm_get (ci := 3) (v := .int (k.1 12 j)) (C := RX0) (T := TX0) (N := 8) hx hb hts hin_X0 hown hw (hk.q (dCh hj)) ((hk.f (dCh hj)).trans (fCh g a _ j)) rfl 3 (by decide) (hts (.fieldLink RX4 36 "Backdater$Change" "field" "I") (by decide +kernel)) (fun _ h9 => h9) rfl dX4_layIn_12 ?_
    refine lv_aload_n hx hb dX4_layIn_15 rfl (lv_at hl 1 rfl) ?_
    refine pm_get (ci := 3) (v := .int (k.1 14 j)) (C := RX0) (T := TX0) (N := 8) hx hb hts hin_X0 hown hw (hk.q (dCh hj)) ((hk.f (dCh hj)).trans (fCh g a _ j)) rfl 5 (by decide) (hts (.fieldLink RX4 40 "Backdater$Change" "amount" "I") (by decide +kernel)) (fun _ h9 => h9) rfl dX4_layIn_16 ?_
    refine pc_v hw (va_runV (As := [.int (k.1 12 j), .int (k.1 14 j)]) (rest := []) CF ((c_putValue l g L _ a k hk (k.1 12 j) (k.1 14 j)) _) (cwV 2 hts gX4_layIn_X4_putValue rfl rfl rfl (by decide +kernel) ⟨Nat.le_of_ble_eq_true rfl, Nat.le_of_ble_eq_true rfl⟩) (pm_preV hw hs (pm_recv hw (hk.q (i := 4) (dC (by decide))) (hk.f (i := 4) (dC (by decide))) rfl)) rfl rfl hl.1 rfl (lv_room (Nat.le_of_ble_eq_true rfl)) dX4_layIn_19 ⟨Nat.le_of_ble_eq_true rfl, Nat.le_of_ble_eq_true rfl⟩) (fun L1 f1 H locs hp hw => ?_)
    obtain ⟨hu, hk⟩ := hp
    obtain rfl : _ = L1 := hu.symm
    have hk : CW g a (kV k 1 (s_put (k.1 1) (k.1 12 j) (k.1 14 j))) _ f1 := hk
    refine lv_goto (tgt := 89) hx hb dX4_layIn_22 (by decide) ?_
    exact pr_v hx hb hr hlocks hw ⟨Nat.le_of_ble_eq_true rfl, Nat.le_of_ble_eq_true rfl⟩ (⟨rfl, by rw [s_lay, if_pos e0]; show CW g a (kW _ 0 2 (k.1 0 2)) _ _; exact (kW_id (kV k 1 (s_put (k.1 1) (k.1 12 j) (k.1 14 j))) 0 2).symm ▸ hk⟩) dX4_layIn_89

end VERSION
