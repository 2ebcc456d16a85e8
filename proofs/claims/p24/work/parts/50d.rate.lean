/-! rates, years -/
section MID6
abbrev rateV (k : KS) (i : Nat) (st : VS) (d : Nat) : Int32 := if st.2 = 0 then 0 else k.1 10 i + st.1 0 * k.1 4 d + st.1 1 * k.1 5 d + st.1 2 * k.1 6 d
theorem s_val0 (v : Nat → Int32) : s_val v 0 = v 0 := if_pos (by decide)
theorem s_val1 (v : Nat → Int32) : s_val v 1 = v 1 := if_pos (by decide)
theorem s_val2 (v : Nat → Int32) : s_val v 2 = v 2 := if_pos (by decide)
/-- the version when the days ahead of n are gone through, and how many changes are laid in -/
def vsAt (k : KS) (i : Nat) (kn : Int32) : Nat → VS × Nat
  | 0 => ((fun _ => 0, 1), 0)
  | n + 1 => ((layS k kn (nI n) ((k.2.2.2 i).drop (vsAt k i kn n).2) (vsAt k i kn n).1).1, (vsAt k i kn n).2 + (layS k kn (nI n) ((k.2.2.2 i).drop (vsAt k i kn n).2) (vsAt k i kn n).1).2)
abbrev yRate (k : KS) (i : Nat) (kn : Int32) (d : Nat) : Int32 := rateV k i (vsAt k i kn (d + 1)).1 d
def ySum (k : KS) (i : Nat) (kn : Int32) : Nat → Int32
  | 0 => k.1 3 0
  | n + 1 => ySum k i kn n + yRate k i kn n
def yRates (k : KS) (i : Nat) (kn : Int32) (n : Nat) : Nat → Int32 := fun d => if d < n then yRate k i kn d else k.1 2 d
def ySums (k : KS) (i : Nat) (kn : Int32) (n : Nat) : Nat → Int32 := fun d => if d < n + 1 then ySum k i kn d else k.1 3 d
abbrev kScr (k : KS) (st : VS) (rt sm : Nat → Int32) : KS := kSt (kV (kV k 2 rt) 3 sm) st
theorem yRates_0 (k : KS) (i : Nat) (kn : Int32) : yRates k i kn 0 = k.1 2 := by
  funext d
  exact if_neg (Nat.not_lt_zero d)
theorem ySums_0 (k : KS) (i : Nat) (kn : Int32) : ySums k i kn 0 = k.1 3 := by
  funext d
  by_cases h : d < 1
  · obtain rfl : d = 0 := by omega
    rfl
  · exact if_neg h
theorem yRates_s (k : KS) (i : Nat) (kn : Int32) (n : Nat) : upd (yRates k i kn n) n (yRate k i kn n) = yRates k i kn (n + 1) := by
  funext d
  by_cases h : d = n
  · subst h
    rw [upd, if_pos rfl, yRates, if_pos (Nat.lt_succ_self _)]
  · rw [upd, if_neg h, yRates, yRates]
    by_cases h2 : d < n
    · rw [if_pos h2, if_pos (by omega)]
    · rw [if_neg h2, if_neg (by omega)]
theorem ySums_at (k : KS) (i : Nat) (kn : Int32) (n : Nat) : ySums k i kn n n = ySum k i kn n := if_pos (Nat.lt_succ_self _)
theorem ySums_s (k : KS) (i : Nat) (kn : Int32) (n : Nat) : upd (ySums k i kn n) (n + 1) (ySum k i kn n + yRate k i kn n) = ySums k i kn (n + 1) := by
  funext d
  by_cases h : d = n + 1
  · subst h
    rw [upd, if_pos rfl, ySums, if_pos (Nat.lt_succ_self _)]
    rfl
  · rw [upd, if_neg h, ySums, ySums]
    by_cases h2 : d < n + 1
    · rw [if_pos h2, if_pos (by omega)]
    · rw [if_neg h2, if_neg (by omega)]
theorem vsAt_le (k : KS) (i : Nat) (kn : Int32) : ∀ n, (vsAt k i kn n).2 ≤ (k.2.2.2 i).length
  | 0 => Nat.zero_le _
  | n + 1 => by
    have h1 := vsAt_le k i kn n
    have h2 := layS_le k kn (nI n) ((k.2.2.2 i).drop (vsAt k i kn n).2) (vsAt k i kn n).1
    rw [List.length_drop] at h2
    rw [vsAt]
    dsimp only
    omega
theorem layS_scr (k : KS) (x : VS) (rt sm : Nat → Int32) (kn d : Int32) : ∀ (O : List Nat) (st : VS), layS (kScr k x rt sm) kn d O st = layS k kn d O st
  | [], _ => rfl
  | j :: O, st => by
    have ih := layS_scr k x rt sm kn d O
    show (if (k.1 13 j).toInt ≤ d.toInt then _ else _) = _
    rw [layS, ih]
    rfl
theorem kScr_id (k : KS) : kScr k (k.1 1, k.1 0 2) (k.1 2) (k.1 3) = k := by
  show kSt (kV (kV k 2 (k.1 2)) 3 (k.1 3)) (k.1 1, k.1 0 2) = k
  rw [kV_id, kV_id, kSt_id]
/-- rates and sums written over a version: the order doesn't matter -/
theorem kScr_w (k : KS) (st : VS) (rt sm rt' sm' : Nat → Int32) : kV (kV (kScr k st rt sm) 2 rt') 3 sm' = kScr k st rt' sm' := by
  have e : ∀ f : Nat → Nat → Int32, va_up (va_up (va_up (va_up (va_up (va_up f 2 rt) 3 sm) 1 st.1) 0 (upd (va_up (va_up (va_up f 2 rt) 3 sm) 1 st.1 0) 2 st.2)) 2 rt') 3 sm' = va_up (va_up (va_up (va_up f 2 rt') 3 sm') 1 st.1) 0 (upd (va_up (va_up (va_up f 2 rt') 3 sm') 1 st.1 0) 2 st.2) := by
    intro f
    funext c
    by_cases h3 : c = 3
    · subst h3
      rw [pu_s, pu_n (by decide) (pu_n (by decide) pu_s)]
    · rw [pu_n h3 rfl]
      by_cases h2 : c = 2
      · subst h2
        rw [pu_s, pu_n (by decide) (pu_n (by decide) (pu_n (by decide) pu_s))]
      · rw [pu_n h2 rfl]
        by_cases h0 : c = 0
        · subst h0
          rw [pu_s, pu_s, pu_n (by decide) (pu_n (by decide) (pu_n (by decide) rfl)), pu_n (by decide) (pu_n (by decide) (pu_n (by decide) rfl))]
        · rw [pu_n h0 rfl, pu_n h0 rfl]
          by_cases h1 : c = 1
          · subst h1
            rw [pu_s, pu_s]
          · rw [pu_n h1 (pu_n h3 (pu_n h2 rfl)), pu_n h1 (pu_n h3 (pu_n h2 rfl))]
  show (va_up (va_up (va_up (va_up (va_up (va_up k.1 2 rt) 3 sm) 1 st.1) 0 (upd (va_up (va_up (va_up k.1 2 rt) 3 sm) 1 st.1 0) 2 st.2)) 2 rt') 3 sm', k.2) = _
  rw [e]

set_option maxHeartbeats 4000000 in
set_option maxRecDepth 100000 in
theorem c_rateOfVersion (l : Launch) (g : GE) (L : List Nat) (f : Nat → va_E) (a : Nat → Nat) (k : KS) (hk : CW g a k L f) (i : Nat) (hpi : i < kP k) (h4 : i < 4) (d : Nat) (hd : d < 365) : Mi l yX6_rateOfVersion wsX6_rateOfVersion (rmH 2 0 0) g L f [.ref (a 0), .ref (a (20 + 3 * i)), .int (nI d)] (fun r u => r = rateV k i (k.1 1, k.1 0 2) d ∧ u = (L, f)) 0 0 := by
  intro sz
  refine Met.ofW (cc := cX6_rateOfVersion) (maxL := 5) (ret := (some .int)) (by decide) rfl ?_
  intro p e s m args below meth c s₁ B hml hv
  obtain ⟨rfl, hv⟩ := hv
  have hx := B.exec
  have hb := B.bytes
  have hr := B.returns
  have hts := atoms_spec (ws := wsX6_rateOfVersion) B.pre
  have hown : s.vm.findClass RX6 = some m.cls := findClass_of_methodNamed B.named
  have hlocks := B.notSynchronized
  obtain ⟨rfl, hw, hs⟩ := pm_begin hv
  generalize va_A (va_pl L f) s.heap.size = A at hw hs ⊢
  have CF := (⟨hx, hb, hml, hown, hts⟩ : CallFix p m c cX6_rateOfVersion 5 s _ wsX6_rateOfVersion RX6)
  have hin_X6 : ∀ w ∈ wsX60, w ∈ wsX6_rateOfVersion := by decide +kernel
  have hin_X2 : ∀ w ∈ wsX20, w ∈ wsX6_rateOfVersion := by decide +kernel
  have hin_X4 : ∀ w ∈ wsX40, w ∈ wsX6_rateOfVersion := by decide +kernel
  have hl := lv_entry ([.ref (a 0), .ref (a (20 + 3 * i)), .int (nI d)]) (n := 5) (Nat.le_of_ble_eq_true rfl)
  rw [lg_entry_eq]
  generalize (lg_sl ([.ref (a 0), .ref (a (20 + 3 * i)), .int (nI d)]) ++ List.replicate (5 - (lg_sl ([.ref (a 0), .ref (a (20 + 3 * i)), .int (nI d)])).length) Slot.unset).toArray = ls at hl ⊢
  have hl : lv_has ls 5 [(0, .ref (a 0)), (1, .ref (a (20 + 3 * i))), (2, .int (nI d))] := hl
  refine lv_aload_n hx hb dX6_rateOfVersion_0 rfl (lv_at hl 0 rfl) ?_
  refine pm_get (ci := 8) (v := .ref (a 4)) (C := RX6) (T := TX6) (N := 6) hx hb hts hin_X6 hown hw (hk.q (i := 0) (dC (by decide))) (hk.f (i := 0) (dC (by decide))) rfl 3 (by decide) (hts (.fieldLink RX6 29 "Backdater" "version" "LBackdater$Version;") (by decide +kernel)) (fun _ h9 => h9) rfl dX6_rateOfVersion_1 ?_
  refine pm_get (ci := 6) (v := .int (k.1 0 2)) (C := RX4) (T := TX4) (N := 2) hx hb hts hin_X4 hown hw (hk.q (i := 4) (dC (by decide))) (hk.f (i := 4) (dC (by decide))) rfl 1 (by decide) (hts (.fieldLink RX6 152 "Backdater$Version" "covered" "Z") (by decide +kernel)) (fun _ h9 => h9) rfl dX6_rateOfVersion_4 ?_
  refine lv_if_ne (tgt := 12) hx hb dX6_rateOfVersion_7 (by decide) (fun c_7 => ?_) (fun c_7 => ?_)
  · refine lv_aload_n hx hb dX6_rateOfVersion_12 rfl (lv_at hl 1 rfl) ?_
    refine pm_get (ci := 4) (v := .int (k.1 10 i)) (C := RX2) (T := TX2) (N := 3) hx hb hts hin_X2 hown hw (hk.q (dP hpi h4)) ((hk.f (dP hpi h4)).trans (fP g a _ h4)) rfl 0 (by decide) (hts (.fieldLink RX6 222 "Backdater$Policy" "base" "I") (by decide +kernel)) (fun _ h9 => h9) rfl dX6_rateOfVersion_13 ?_
    refine lv_istore_n (lv' := [(3, .int (k.1 10 i)), (0, .ref (a 0)), (1, .ref (a (20 + 3 * i))), (2, .int (nI d))]) hx hb dX6_rateOfVersion_16 rfl hl (by decide) rfl (fun ls hl => ?_)
    refine lv_iconst (v := 0) hx hb dX6_rateOfVersion_17 (by decide) ?_
    refine lv_istore (lv' := [(4, .int 0), (3, .int (k.1 10 i)), (0, .ref (a 0)), (1, .ref (a (20 + 3 * i))), (2, .int (nI d))]) hx hb dX6_rateOfVersion_18 hl (by decide) rfl (fun ls hl => ?_)
    refine lv_iload hx hb dX6_rateOfVersion_20 (lv_at hl 0 rfl) ?_
    refine lv_iconst (v := 3) hx hb dX6_rateOfVersion_22 (by decide) ?_
    refine lv_icmp_ge (tgt := 55) hx hb dX6_rateOfVersion_23 (by decide) (fun c_23 => ?_) (fun c_23 => ?_)
    · exact absurd c_23 (by decide)
    · refine lv_iload_n hx hb dX6_rateOfVersion_26 rfl (lv_at hl 1 rfl) ?_
      refine lv_aload_n hx hb dX6_rateOfVersion_27 rfl (lv_at hl 2 rfl) ?_
      refine pm_get (ci := 8) (v := .ref (a 4)) (C := RX6) (T := TX6) (N := 6) hx hb hts hin_X6 hown hw (hk.q (i := 0) (dC (by decide))) (hk.f (i := 0) (dC (by decide))) rfl 3 (by decide) (hts (.fieldLink RX6 29 "Backdater" "version" "LBackdater$Version;") (by decide +kernel)) (fun _ h9 => h9) rfl dX6_rateOfVersion_28 ?_
      refine lv_iload hx hb dX6_rateOfVersion_31 (lv_at hl 0 rfl) ?_
      refine pc_i hw (va_runV (As := [.int 0]) (rest := [.int (k.1 10 i)]) CF (c_valueOf l g L _ a k hk 0 _) (cwV 1 hts gX6_rateOfVersion_X4_valueOf rfl rfl rfl (by decide +kernel) ⟨Nat.le_of_ble_eq_true rfl, Nat.le_of_ble_eq_true rfl⟩) (pm_preV hw hs (pm_recv hw (hk.q (i := 4) (dC (by decide))) (hk.f (i := 4) (dC (by decide))) rfl)) rfl rfl hl.1 rfl (lv_room (Nat.le_of_ble_eq_true rfl)) dX6_rateOfVersion_33 ⟨Nat.le_of_ble_eq_true rfl, Nat.le_of_ble_eq_true rfl⟩) (fun r L1 f1 H locs hp hw => ?_)
      obtain ⟨hE_33, hu⟩ := hp
      obtain rfl : _ = L1 := (congrArg Prod.fst hu).symm
      obtain rfl : _ = f1 := (congrArg Prod.snd hu).symm
      rw [s_val0] at hE_33
      subst hE_33
      refine lv_aload_n hx hb dX6_rateOfVersion_36 rfl (lv_at hl 2 rfl) ?_
      refine pm_get (ci := 8) (v := .ref (a 3)) (C := RX6) (T := TX6) (N := 6) hx hb hts hin_X6 hown hw (hk.q (i := 0) (dC (by decide))) (hk.f (i := 0) (dC (by decide))) rfl 2 (by decide) (hts (.fieldLink RX6 22 "Backdater" "tariffs" "LBackdater$Tariffs;") (by decide +kernel)) (fun _ h9 => h9) rfl dX6_rateOfVersion_37 ?_
      refine lv_iload hx hb dX6_rateOfVersion_40 (lv_at hl 0 rfl) ?_
      refine lv_iload_n hx hb dX6_rateOfVersion_42 rfl (lv_at hl 4 rfl) ?_
      refine pc_i hw (va_runV (As := [.int 0, .int (nI d)]) (rest := [.int (k.1 1 0), .int (k.1 10 i)]) CF (c_weightOn0 l g L _ a k hk d hd _) (cwV 2 hts gX6_rateOfVersion_X3_weightOn rfl rfl rfl (by decide +kernel) ⟨Nat.le_of_ble_eq_true rfl, Nat.le_of_ble_eq_true rfl⟩) (pm_preV hw hs (pm_recv hw (hk.q (i := 3) (dC (by decide))) (hk.f (i := 3) (dC (by decide))) rfl)) rfl rfl hl.1 rfl (lv_room (Nat.le_of_ble_eq_true rfl)) dX6_rateOfVersion_43 ⟨Nat.le_of_ble_eq_true rfl, Nat.le_of_ble_eq_true rfl⟩) (fun r L1 f1 H locs hp hw => ?_)
      obtain ⟨hE_43, hu⟩ := hp
      obtain rfl : _ = L1 := (congrArg Prod.fst hu).symm
      obtain rfl : _ = f1 := (congrArg Prod.snd hu).symm
      subst hE_43
      refine lv_imul hx hb dX6_rateOfVersion_46 ?_
      refine lv_iadd hx hb dX6_rateOfVersion_47 ?_
      refine lv_istore_n (lv' := [(3, .int ((k.1 10 i) + ((k.1 1 0) * (k.1 4 d)))), (4, .int 0), (0, .ref (a 0)), (1, .ref (a (20 + 3 * i))), (2, .int (nI d))]) hx hb dX6_rateOfVersion_48 rfl hl (by decide) rfl (fun ls hl => ?_)
      refine lv_iinc (v := 1) (lv' := [(4, .int 1), (3, .int ((k.1 10 i) + ((k.1 1 0) * (k.1 4 d)))), (0, .ref (a 0)), (1, .ref (a (20 + 3 * i))), (2, .int (nI d))]) hx hb dX6_rateOfVersion_49 hl (k := 1) rfl (rfl) (by decide) rfl (fun ls hl => ?_)
      refine lv_goto (tgt := 20) hx hb dX6_rateOfVersion_52 (by decide) ?_
      refine lv_iload hx hb dX6_rateOfVersion_20 (lv_at hl 0 rfl) ?_
      refine lv_iconst (v := 3) hx hb dX6_rateOfVersion_22 (by decide) ?_
      refine lv_icmp_ge (tgt := 55) hx hb dX6_rateOfVersion_23 (by decide) (fun c_23 => ?_) (fun c_23 => ?_)
      · exact absurd c_23 (by decide)
      · refine lv_iload_n hx hb dX6_rateOfVersion_26 rfl (lv_at hl 1 rfl) ?_
        refine lv_aload_n hx hb dX6_rateOfVersion_27 rfl (lv_at hl 2 rfl) ?_
        refine pm_get (ci := 8) (v := .ref (a 4)) (C := RX6) (T := TX6) (N := 6) hx hb hts hin_X6 hown hw (hk.q (i := 0) (dC (by decide))) (hk.f (i := 0) (dC (by decide))) rfl 3 (by decide) (hts (.fieldLink RX6 29 "Backdater" "version" "LBackdater$Version;") (by decide +kernel)) (fun _ h9 => h9) rfl dX6_rateOfVersion_28 ?_
        refine lv_iload hx hb dX6_rateOfVersion_31 (lv_at hl 0 rfl) ?_
        refine pc_i hw (va_runV (As := [.int 1]) (rest := [.int ((k.1 10 i) + ((k.1 1 0) * (k.1 4 d)))]) CF (c_valueOf l g L _ a k hk 1 _) (cwV 1 hts gX6_rateOfVersion_X4_valueOf rfl rfl rfl (by decide +kernel) ⟨Nat.le_of_ble_eq_true rfl, Nat.le_of_ble_eq_true rfl⟩) (pm_preV hw hs (pm_recv hw (hk.q (i := 4) (dC (by decide))) (hk.f (i := 4) (dC (by decide))) rfl)) rfl rfl hl.1 rfl (lv_room (Nat.le_of_ble_eq_true rfl)) dX6_rateOfVersion_33 ⟨Nat.le_of_ble_eq_true rfl, Nat.le_of_ble_eq_true rfl⟩) (fun r L1 f1 H locs hp hw => ?_)
        obtain ⟨hE_33, hu⟩ := hp
        obtain rfl : _ = L1 := (congrArg Prod.fst hu).symm
        obtain rfl : _ = f1 := (congrArg Prod.snd hu).symm
        rw [s_val1] at hE_33
        subst hE_33
        refine lv_aload_n hx hb dX6_rateOfVersion_36 rfl (lv_at hl 2 rfl) ?_
        refine pm_get (ci := 8) (v := .ref (a 3)) (C := RX6) (T := TX6) (N := 6) hx hb hts hin_X6 hown hw (hk.q (i := 0) (dC (by decide))) (hk.f (i := 0) (dC (by decide))) rfl 2 (by decide) (hts (.fieldLink RX6 22 "Backdater" "tariffs" "LBackdater$Tariffs;") (by decide +kernel)) (fun _ h9 => h9) rfl dX6_rateOfVersion_37 ?_
        refine lv_iload hx hb dX6_rateOfVersion_40 (lv_at hl 0 rfl) ?_
        refine lv_iload_n hx hb dX6_rateOfVersion_42 rfl (lv_at hl 4 rfl) ?_
        refine pc_i hw (va_runV (As := [.int 1, .int (nI d)]) (rest := [.int (k.1 1 1), .int ((k.1 10 i) + ((k.1 1 0) * (k.1 4 d)))]) CF (c_weightOn1 l g L _ a k hk d hd _) (cwV 2 hts gX6_rateOfVersion_X3_weightOn rfl rfl rfl (by decide +kernel) ⟨Nat.le_of_ble_eq_true rfl, Nat.le_of_ble_eq_true rfl⟩) (pm_preV hw hs (pm_recv hw (hk.q (i := 3) (dC (by decide))) (hk.f (i := 3) (dC (by decide))) rfl)) rfl rfl hl.1 rfl (lv_room (Nat.le_of_ble_eq_true rfl)) dX6_rateOfVersion_43 ⟨Nat.le_of_ble_eq_true rfl, Nat.le_of_ble_eq_true rfl⟩) (fun r L1 f1 H locs hp hw => ?_)
        obtain ⟨hE_43, hu⟩ := hp
        obtain rfl : _ = L1 := (congrArg Prod.fst hu).symm
        obtain rfl : _ = f1 := (congrArg Prod.snd hu).symm
        subst hE_43
        refine lv_imul hx hb dX6_rateOfVersion_46 ?_
        refine lv_iadd hx hb dX6_rateOfVersion_47 ?_
        refine lv_istore_n (lv' := [(3, .int (((k.1 10 i) + ((k.1 1 0) * (k.1 4 d))) + ((k.1 1 1) * (k.1 5 d)))), (4, .int 1), (0, .ref (a 0)), (1, .ref (a (20 + 3 * i))), (2, .int (nI d))]) hx hb dX6_rateOfVersion_48 rfl hl (by decide) rfl (fun ls hl => ?_)
        refine lv_iinc (v := 2) (lv' := [(4, .int 2), (3, .int (((k.1 10 i) + ((k.1 1 0) * (k.1 4 d))) + ((k.1 1 1) * (k.1 5 d)))), (0, .ref (a 0)), (1, .ref (a (20 + 3 * i))), (2, .int (nI d))]) hx hb dX6_rateOfVersion_49 hl (k := 1) rfl (rfl) (by decide) rfl (fun ls hl => ?_)
        refine lv_goto (tgt := 20) hx hb dX6_rateOfVersion_52 (by decide) ?_
        refine lv_iload hx hb dX6_rateOfVersion_20 (lv_at hl 0 rfl) ?_
        refine lv_iconst (v := 3) hx hb dX6_rateOfVersion_22 (by decide) ?_
        refine lv_icmp_ge (tgt := 55) hx hb dX6_rateOfVersion_23 (by decide) (fun c_23 => ?_) (fun c_23 => ?_)
        · exact absurd c_23 (by decide)
        · refine lv_iload_n hx hb dX6_rateOfVersion_26 rfl (lv_at hl 1 rfl) ?_
          refine lv_aload_n hx hb dX6_rateOfVersion_27 rfl (lv_at hl 2 rfl) ?_
          refine pm_get (ci := 8) (v := .ref (a 4)) (C := RX6) (T := TX6) (N := 6) hx hb hts hin_X6 hown hw (hk.q (i := 0) (dC (by decide))) (hk.f (i := 0) (dC (by decide))) rfl 3 (by decide) (hts (.fieldLink RX6 29 "Backdater" "version" "LBackdater$Version;") (by decide +kernel)) (fun _ h9 => h9) rfl dX6_rateOfVersion_28 ?_
          refine lv_iload hx hb dX6_rateOfVersion_31 (lv_at hl 0 rfl) ?_
          refine pc_i hw (va_runV (As := [.int 2]) (rest := [.int (((k.1 10 i) + ((k.1 1 0) * (k.1 4 d))) + ((k.1 1 1) * (k.1 5 d)))]) CF (c_valueOf l g L _ a k hk 2 _) (cwV 1 hts gX6_rateOfVersion_X4_valueOf rfl rfl rfl (by decide +kernel) ⟨Nat.le_of_ble_eq_true rfl, Nat.le_of_ble_eq_true rfl⟩) (pm_preV hw hs (pm_recv hw (hk.q (i := 4) (dC (by decide))) (hk.f (i := 4) (dC (by decide))) rfl)) rfl rfl hl.1 rfl (lv_room (Nat.le_of_ble_eq_true rfl)) dX6_rateOfVersion_33 ⟨Nat.le_of_ble_eq_true rfl, Nat.le_of_ble_eq_true rfl⟩) (fun r L1 f1 H locs hp hw => ?_)
          obtain ⟨hE_33, hu⟩ := hp
          obtain rfl : _ = L1 := (congrArg Prod.fst hu).symm
          obtain rfl : _ = f1 := (congrArg Prod.snd hu).symm
          rw [s_val2] at hE_33
          subst hE_33
          refine lv_aload_n hx hb dX6_rateOfVersion_36 rfl (lv_at hl 2 rfl) ?_
          refine pm_get (ci := 8) (v := .ref (a 3)) (C := RX6) (T := TX6) (N := 6) hx hb hts hin_X6 hown hw (hk.q (i := 0) (dC (by decide))) (hk.f (i := 0) (dC (by decide))) rfl 2 (by decide) (hts (.fieldLink RX6 22 "Backdater" "tariffs" "LBackdater$Tariffs;") (by decide +kernel)) (fun _ h9 => h9) rfl dX6_rateOfVersion_37 ?_
          refine lv_iload hx hb dX6_rateOfVersion_40 (lv_at hl 0 rfl) ?_
          refine lv_iload_n hx hb dX6_rateOfVersion_42 rfl (lv_at hl 4 rfl) ?_
          refine pc_i hw (va_runV (As := [.int 2, .int (nI d)]) (rest := [.int (k.1 1 2), .int (((k.1 10 i) + ((k.1 1 0) * (k.1 4 d))) + ((k.1 1 1) * (k.1 5 d)))]) CF (c_weightOn2 l g L _ a k hk d hd _) (cwV 2 hts gX6_rateOfVersion_X3_weightOn rfl rfl rfl (by decide +kernel) ⟨Nat.le_of_ble_eq_true rfl, Nat.le_of_ble_eq_true rfl⟩) (pm_preV hw hs (pm_recv hw (hk.q (i := 3) (dC (by decide))) (hk.f (i := 3) (dC (by decide))) rfl)) rfl rfl hl.1 rfl (lv_room (Nat.le_of_ble_eq_true rfl)) dX6_rateOfVersion_43 ⟨Nat.le_of_ble_eq_true rfl, Nat.le_of_ble_eq_true rfl⟩) (fun r L1 f1 H locs hp hw => ?_)
          obtain ⟨hE_43, hu⟩ := hp
          obtain rfl : _ = L1 := (congrArg Prod.fst hu).symm
          obtain rfl : _ = f1 := (congrArg Prod.snd hu).symm
          subst hE_43
          refine lv_imul hx hb dX6_rateOfVersion_46 ?_
          refine lv_iadd hx hb dX6_rateOfVersion_47 ?_
          refine lv_istore_n (lv' := [(3, .int ((((k.1 10 i) + ((k.1 1 0) * (k.1 4 d))) + ((k.1 1 1) * (k.1 5 d))) + ((k.1 1 2) * (k.1 6 d)))), (4, .int 2), (0, .ref (a 0)), (1, .ref (a (20 + 3 * i))), (2, .int (nI d))]) hx hb dX6_rateOfVersion_48 rfl hl (by decide) rfl (fun ls hl => ?_)
          refine lv_iinc (v := 3) (lv' := [(4, .int 3), (3, .int ((((k.1 10 i) + ((k.1 1 0) * (k.1 4 d))) + ((k.1 1 1) * (k.1 5 d))) + ((k.1 1 2) * (k.1 6 d)))), (0, .ref (a 0)), (1, .ref (a (20 + 3 * i))), (2, .int (nI d))]) hx hb dX6_rateOfVersion_49 hl (k := 1) rfl (rfl) (by decide) rfl (fun ls hl => ?_)
          refine lv_goto (tgt := 20) hx hb dX6_rateOfVersion_52 (by decide) ?_
          refine lv_iload hx hb dX6_rateOfVersion_20 (lv_at hl 0 rfl) ?_
          refine lv_iconst (v := 3) hx hb dX6_rateOfVersion_22 (by decide) ?_
          refine lv_icmp_ge (tgt := 55) hx hb dX6_rateOfVersion_23 (by decide) (fun c_23 => ?_) (fun c_23 => ?_)
          · refine lv_iload_n hx hb dX6_rateOfVersion_55 rfl (lv_at hl 1 rfl) ?_
            exact pr_i (v := ((((k.1 10 i) + ((k.1 1 0) * (k.1 4 d))) + ((k.1 1 1) * (k.1 5 d))) + ((k.1 1 2) * (k.1 6 d)))) hx hb hr hlocks hw rfl ⟨Nat.le_of_ble_eq_true rfl, Nat.le_of_ble_eq_true rfl⟩ (⟨(if_neg c_7).symm, rfl⟩) dX6_rateOfVersion_56
          · exact absurd (by decide) c_23
  · refine lv_iconst (v := 0) hx hb dX6_rateOfVersion_10 (by decide) ?_
    exact pr_i (v := 0) hx hb hr hlocks hw rfl ⟨Nat.le_of_ble_eq_true rfl, Nat.le_of_ble_eq_true rfl⟩ (⟨(if_pos c_7).symm, rfl⟩) dX6_rateOfVersion_11

set_option maxHeartbeats 4000000 in
set_option maxRecDepth 100000 in
theorem c_layYear (l : Launch) (g : GE) (L : List Nat) (f : Nat → va_E) (a : Nat → Nat) (k : KS) (hk : CW g a k L f) (i : Nat) (hpi : i < kP k) (h4 : i < 4) (ho : IvO a k i) (hkd : ∀ j, j < kC k → k.2.1 2 j < 4) (kn : Int32) : Mv l yX6_layYear wsX6_layYear (rmH 5 0 0) g L f [.ref (a 0), .ref (a (20 + 3 * i)), .int kn] (fun u => u.1 = L ∧ CW g a (kScr k (vsAt k i kn 365).1 (yRates k i kn 365) (ySums k i kn 365)) L u.2) 0 0 := by
  intro sz
  refine Met.ofW (cc := cX6_layYear) (maxL := 5) (ret := none) (by decide) rfl ?_
  intro p e s m args below meth c s₁ B hml hv
  obtain ⟨rfl, hv⟩ := hv
  have hx := B.exec
  have hb := B.bytes
  have hr := B.returns
  have hts := atoms_spec (ws := wsX6_layYear) B.pre
  have hown : s.vm.findClass RX6 = some m.cls := findClass_of_methodNamed B.named
  have hlocks := B.notSynchronized
  obtain ⟨rfl, hw, hs⟩ := pm_begin hv
  generalize va_A (va_pl L f) s.heap.size = A at hw hs ⊢
  have CF := (⟨hx, hb, hml, hown, hts⟩ : CallFix p m c cX6_layYear 5 s _ wsX6_layYear RX6)
  have hin_X6 : ∀ w ∈ wsX60, w ∈ wsX6_layYear := by decide +kernel
  have hl := lv_entry ([.ref (a 0), .ref (a (20 + 3 * i)), .int kn]) (n := 5) (Nat.le_of_ble_eq_true rfl)
  rw [lg_entry_eq]
  generalize (lg_sl ([.ref (a 0), .ref (a (20 + 3 * i)), .int kn]) ++ List.replicate (5 - (lg_sl ([.ref (a 0), .ref (a (20 + 3 * i)), .int kn])).length) Slot.unset).toArray = ls at hl ⊢
  have hl : lv_has ls 5 [(0, .ref (a 0)), (1, .ref (a (20 + 3 * i))), (2, .int kn)] := hl
  refine lv_aload_n hx hb dX6_layYear_0 rfl (lv_at hl 0 rfl) ?_
  refine pm_get (ci := 8) (v := .ref (a 4)) (C := RX6) (T := TX6) (N := 6) hx hb hts hin_X6 hown hw (hk.q (i := 0) (dC (by decide))) (hk.f (i := 0) (dC (by decide))) rfl 3 (by decide) (hts (.fieldLink RX6 29 "Backdater" "version" "LBackdater$Version;") (by decide +kernel)) (fun _ h9 => h9) rfl dX6_layYear_1 ?_
  refine pc_v hw (va_runV (As := []) (rest := []) CF ((c_begin l g L _ a k hk) _) (cwV 0 hts gX6_layYear_X4_begin rfl rfl rfl (by decide +kernel) ⟨Nat.le_of_ble_eq_true rfl, Nat.le_of_ble_eq_true rfl⟩) (pm_preV hw hs (pm_recv hw (hk.q (i := 4) (dC (by decide))) (hk.f (i := 4) (dC (by decide))) rfl)) rfl rfl hl.1 rfl (lv_room (Nat.le_of_ble_eq_true rfl)) dX6_layYear_4 ⟨Nat.le_of_ble_eq_true rfl, Nat.le_of_ble_eq_true rfl⟩) (fun L1 f1 H locs hp hw => ?_)
  obtain ⟨hu, hk⟩ := hp
  obtain rfl : _ = L1 := hu.symm
  have hk : CW g a (kSt k (fun _ => 0, 1)) _ f1 := hk
  refine lv_iconst (v := 0) hx hb dX6_layYear_7 (by decide) ?_
  refine lv_istore_n (lv' := [(3, .int 0), (0, .ref (a 0)), (1, .ref (a (20 + 3 * i))), (2, .int kn)]) hx hb dX6_layYear_8 rfl hl (by decide) rfl (fun ls hl => ?_)
  refine lv_iconst (v := 0) hx hb dX6_layYear_9 (by decide) ?_
  refine lv_istore (lv' := [(4, .int 0), (3, .int 0), (0, .ref (a 0)), (1, .ref (a (20 + 3 * i))), (2, .int kn)]) hx hb dX6_layYear_10 hl (by decide) rfl (fun ls hl => ?_)
  have hk : CW g a (kScr k (vsAt k i kn 0).1 (yRates k i kn 0) (ySums k i kn 0)) L f1 := by rw [yRates_0, ySums_0]; show CW g a (kSt (kV (kV k 2 (k.1 2)) 3 (k.1 3)) (fun _ => 0, 1)) L f1; rw [kV_id, kV_id]; exact hk
  refine W_loop (σ := Nat) (fun n H locs ls => ∃ f1 : Nat → va_E, (n ≤ 365) ∧ CW g a (kScr k (vsAt k i kn n).1 (yRates k i kn n) (ySums k i kn n)) L f1 ∧ PW g A s H locs L f1 ∧ lv_has ls 5 [(4, .int (nI n)), (3, .int (nI (vsAt k i kn n).2)), (0, .ref (a 0)), (1, .ref (a (20 + 3 * i))), (2, .int kn)]) (fun n => 365 - n) 0 ⟨_, Nat.zero_le _, hk, hw, lv_sub hl [0, 1, 2, 3, 4] rfl⟩ ?_
  rintro n H locs ls ⟨f1, hi9, hk, hw, hl⟩ ih_12
  refine lv_iload hx hb dX6_layYear_12 (lv_at hl 0 rfl) ?_
  refine lv_sipush (v := 365) hx hb dX6_layYear_14 (by decide) ?_
  refine lv_icmp_ge (tgt := 52) hx hb dX6_layYear_17 (by decide) (fun c_17 => ?_) (fun c_17 => ?_)
  · have hi5 : n = 365 := by rw [show (365 : Int32) = nI 365 from rfl, nI_leI (by decide) (by omega)] at c_17; omega
    exact pr_v hx hb hr hlocks hw ⟨Nat.le_of_ble_eq_true rfl, Nat.le_of_ble_eq_true rfl⟩ (⟨rfl, by rw [hi5] at hk; exact hk⟩) dX6_layYear_52
  · have hi : n < 365 := by rw [show (365 : Int32) = nI 365 from rfl, nI_leI (by decide) (by omega)] at c_17; omega
    refine lv_aload_n hx hb dX6_layYear_20 rfl (lv_at hl 2 rfl) ?_
    refine lv_aload_n hx hb dX6_layYear_21 rfl (lv_at hl 3 rfl) ?_
    refine lv_iload_n hx hb dX6_layYear_22 rfl (lv_at hl 1 rfl) ?_
    refine lv_iload hx hb dX6_layYear_23 (lv_at hl 0 rfl) ?_
    refine lv_iload_n hx hb dX6_layYear_25 rfl (lv_at hl 4 rfl) ?_
    refine pc_i hw (va_runV (As := [.ref (a (20 + 3 * i)), .int (nI (vsAt k i kn n).2), .int (nI n), .int kn]) (rest := []) CF (c_layInFrom l g L _ a (kScr k (vsAt k i kn n).1 (yRates k i kn n) (ySums k i kn n)) hk i hpi h4 ho hkd (vsAt k i kn n).2 (vsAt_le k i kn n) (nI n) kn _) (cwV 4 hts gX6_layYear_X6_layInFrom rfl rfl rfl (by decide +kernel) ⟨Nat.le_of_ble_eq_true rfl, Nat.le_of_ble_eq_true rfl⟩) (pm_preV hw hs (pm_recv hw (hk.q (i := 0) (dC (by decide))) (hk.f (i := 0) (dC (by decide))) rfl)) rfl rfl hl.1 rfl (lv_room (Nat.le_of_ble_eq_true rfl)) dX6_layYear_26 ⟨Nat.le_of_ble_eq_true rfl, Nat.le_of_ble_eq_true rfl⟩) (fun r L1 f1 H locs hp hw => ?_)
    obtain ⟨hE_26, hu, hk⟩ := hp
    obtain rfl : _ = L1 := hu.symm
    rw [layS_scr] at hk hE_26
    rw [kSt_kSt] at hk
    have hk : CW g a (kScr k (vsAt k i kn (n + 1)).1 (yRates k i kn n) (ySums k i kn n)) _ f1 := hk
    have hE_26 : r = nI (vsAt k i kn (n + 1)).2 := hE_26
    subst hE_26
    refine lv_istore_n (lv' := [(3, .int (nI (vsAt k i kn (n + 1)).2)), (4, .int (nI n)), (0, .ref (a 0)), (1, .ref (a (20 + 3 * i))), (2, .int kn)]) hx hb dX6_layYear_29 rfl hl (by decide) rfl (fun ls hl => ?_)
    refine lv_aload_n hx hb dX6_layYear_30 rfl (lv_at hl 2 rfl) ?_
    refine pm_get (ci := 8) (v := .ref (a 5)) (C := RX6) (T := TX6) (N := 6) hx hb hts hin_X6 hown hw (hk.q (i := 0) (dC (by decide))) (hk.f (i := 0) (dC (by decide))) rfl 4 (by decide) (hts (.fieldLink RX6 36 "Backdater" "year" "LBackdater$Year;") (by decide +kernel)) (fun _ h9 => h9) rfl dX6_layYear_31 ?_
    refine lv_iload hx hb dX6_layYear_34 (lv_at hl 1 rfl) ?_
    refine lv_aload_n hx hb dX6_layYear_36 rfl (lv_at hl 2 rfl) ?_
    refine lv_aload_n hx hb dX6_layYear_37 rfl (lv_at hl 3 rfl) ?_
    refine lv_iload hx hb dX6_layYear_38 (lv_at hl 1 rfl) ?_
    refine pc_i hw (va_runV (As := [.ref (a (20 + 3 * i)), .int (nI n)]) (rest := [.int (nI n), .ref (a 5)]) CF (c_rateOfVersion l g L _ a (kScr k (vsAt k i kn (n + 1)).1 (yRates k i kn n) (ySums k i kn n)) hk i hpi h4 n hi _) (cwV 2 hts gX6_layYear_X6_rateOfVersion rfl rfl rfl (by decide +kernel) ⟨Nat.le_of_ble_eq_true rfl, Nat.le_of_ble_eq_true rfl⟩) (pm_preV hw hs (pm_recv hw (hk.q (i := 0) (dC (by decide))) (hk.f (i := 0) (dC (by decide))) rfl)) rfl rfl hl.1 rfl (lv_room (Nat.le_of_ble_eq_true rfl)) dX6_layYear_40 ⟨Nat.le_of_ble_eq_true rfl, Nat.le_of_ble_eq_true rfl⟩) (fun r L1 f1 H locs hp hw => ?_)
    obtain ⟨hE_40, hu⟩ := hp
    obtain rfl : _ = L1 := (congrArg Prod.fst hu).symm
    obtain rfl : _ = f1 := (congrArg Prod.snd hu).symm
    have hE_40 : r = yRate k i kn n := hE_40
    subst hE_40
    refine pc_v hw (va_runV (As := [.int (nI n), .int (yRate k i kn n)]) (rest := []) CF (c_putRate l g L _ a (kScr k (vsAt k i kn (n + 1)).1 (yRates k i kn n) (ySums k i kn n)) hk n hi (yRate k i kn n) _) (cwV 2 hts gX6_layYear_X5_putRate rfl rfl rfl (by decide +kernel) ⟨Nat.le_of_ble_eq_true rfl, Nat.le_of_ble_eq_true rfl⟩) (pm_preV hw hs (pm_recv hw (hk.q (i := 5) (dC (by decide))) (hk.f (i := 5) (dC (by decide))) rfl)) rfl rfl hl.1 rfl (lv_room (Nat.le_of_ble_eq_true rfl)) dX6_layYear_43 ⟨Nat.le_of_ble_eq_true rfl, Nat.le_of_ble_eq_true rfl⟩) (fun L1 f1 H locs hp hw => ?_)
    obtain ⟨hu, hk⟩ := hp
    obtain rfl : _ = L1 := hu.symm
    have hk : CW g a (kV (kV (kScr k (vsAt k i kn (n + 1)).1 (yRates k i kn n) (ySums k i kn n)) 2 (upd (yRates k i kn n) n (yRate k i kn n))) 3 (upd (ySums k i kn n) (n + 1) (ySums k i kn n n + yRate k i kn n))) _ f1 := hk
    rw [kScr_w, ySums_at, yRates_s, ySums_s] at hk
    refine lv_iinc (v := (nI (n + 1))) (lv' := [(4, .int (nI (n + 1))), (3, .int (nI (vsAt k i kn (n + 1)).2)), (0, .ref (a 0)), (1, .ref (a (20 + 3 * i))), (2, .int kn)]) hx hb dX6_layYear_46 hl (k := 1) rfl (nI_1 n) (by decide) rfl (fun ls hl => ?_)
    refine lv_goto (tgt := 12) hx hb dX6_layYear_49 (by decide) ?_
    exact ih_12 (n + 1) _ _ _ (by omega) ⟨_, by omega, hk, hw, lv_sub hl [0, 1, 2, 3, 4] rfl⟩

end MID6
