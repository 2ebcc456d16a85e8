/-! the face: queries -/
section FACE1
def exL : List (String × Prop) → String → Prop
  | [], _ => False
  | x :: r, E => (¬ x.2 ∧ E = x.1) ∨ (x.2 ∧ exL r E)
abbrev polP (k : KS) (x : Int32) : Prop := 0 ≤ x.toInt ∧ x.toInt < (kP k : Nat)
abbrev chgP (k : KS) (x : Int32) : Prop := 0 ≤ x.toInt ∧ x.toInt < (kC k : Nat)
abbrev fldP (x : Int32) : Prop := 0 ≤ x.toInt ∧ x.toInt < 3
abbrev dayP (x : Int32) : Prop := 0 ≤ x.toInt ∧ x.toInt ≤ 364
abbrev knP (k : KS) (x : Int32) : Prop := 0 ≤ x.toInt ∧ x.toInt ≤ (k.1 0 0).toInt
/-- the class's state but for what each call lays out anew -/
def ScrP (g : GE) (a : Nat → Nat) (k : KS) (L : List Nat) (u : PE) : Prop := ∃ st rt sm, sm 0 = k.1 3 0 ∧ u.1 = L ∧ CW g a (kScr k st rt sm) L u.2
theorem scr_id {g : GE} {a : Nat → Nat} {k : KS} {L : List Nat} {f : Nat → va_E} (hk : CW g a k L f) : ScrP g a k L (L, f) := ⟨(k.1 1, k.1 0 2), k.1 2, k.1 3, rfl, rfl, by rw [kScr_id]; exact hk⟩
theorem scr_st {g : GE} {a : Nat → Nat} {k : KS} {L : List Nat} {f : Nat → va_E} {st : VS} (hk : CW g a (kSt k st) L f) : ScrP g a k L (L, f) := ⟨st, k.1 2, k.1 3, rfl, rfl, by
  show CW g a (kSt (kV (kV k 2 (k.1 2)) 3 (k.1 3)) st) L f
  rw [kV_id, kV_id]
  exact hk⟩
/-- the year that layYear lays -/
def isYr (k : KS) (i : Nat) (kn : Int32) (rt sm : Nat → Int32) : Prop := rt = yRates k i kn 365 ∧ sm = ySums k i kn 365
theorem ySums_z (k : KS) (i : Nat) (kn : Int32) (n : Nat) : ySums k i kn n 0 = k.1 3 0 := if_pos (Nat.zero_lt_succ n)
theorem isYr.z {k : KS} {i : Nat} {kn : Int32} {rt sm : Nat → Int32} (h : isYr k i kn rt sm) : sm 0 = k.1 3 0 := by
  obtain ⟨-, rfl⟩ := h
  exact ySums_z k i kn 365
theorem yr_ex {g : GE} {a : Nat → Nat} {k : KS} {L : List Nat} {f : Nat → va_E} {i : Nat} {kn : Int32} (hk : CW g a (kScr k (vsAt k i kn 365).1 (yRates k i kn 365) (ySums k i kn 365)) L f) : ∃ st rt sm, isYr k i kn rt sm ∧ CW g a (kScr k st rt sm) L f := ⟨_, _, _, ⟨rfl, rfl⟩, hk⟩
theorem isYr.un {k : KS} {i : Nat} {kn : Int32} {rt sm rt' sm' : Nat → Int32} (h : isYr k i kn rt sm) (h' : isYr k i kn rt' sm') : rt' = rt ∧ sm' = sm := ⟨h'.1.trans h.1.symm, h'.2.trans h.2.symm⟩
theorem scr_yr {g : GE} {a : Nat → Nat} {k : KS} {L : List Nat} {f : Nat → va_E} {i : Nat} {kn : Int32} {st : VS} {rt sm : Nat → Int32} (hy : isYr k i kn rt sm) (hk : CW g a (kScr k st rt sm) L f) : ScrP g a k L (L, f) := ⟨st, rt, sm, hy.z, rfl, hk⟩
theorem kScr_2 (k : KS) (st : VS) (rt sm : Nat → Int32) : (kScr k st rt sm).1 2 = rt := by
  show va_up (va_up (va_up (va_up k.1 2 rt) 3 sm) 1 st.1) 0 (upd (va_up (va_up (va_up k.1 2 rt) 3 sm) 1 st.1 0) 2 st.2) 2 = rt
  exact pu_n (by decide) (pu_n (by decide) (pu_n (by decide) pu_s))
theorem kScr_3 (k : KS) (st : VS) (rt sm : Nat → Int32) : (kScr k st rt sm).1 3 = sm := by
  show va_up (va_up (va_up (va_up k.1 2 rt) 3 sm) 1 st.1) 0 (upd (va_up (va_up (va_up k.1 2 rt) 3 sm) 1 st.1 0) 2 st.2) 3 = sm
  exact pu_n (by decide) (pu_n (by decide) pu_s)
theorem nI_m1 {i : Nat} (h : i < 2 ^ 31) : nI i ≠ -1 := fun h9 => by
  have h8 : (nI i).toInt = (-1 : Int32).toInt := by rw [h9]
  rw [nI_toInt h] at h8
  have : (-1 : Int32).toInt = -1 := by decide
  omega
theorem Iv.kd {a : Nat → Nat} {k : KS} (h : Iv a k) : ∀ j, j < kC k → k.2.1 2 j < 4 := fun j hj => (h.2.2.2.2.2.2.2 j hj).2
theorem Iv.h4 {a : Nat → Nat} {k : KS} (h : Iv a k) {i : Nat} (hi : i < kP k) : i < 4 := Nat.lt_of_lt_of_le hi h.1.1
theorem pol_ok {a : Nat → Nat} {k : KS} (h : Iv a k) {i : Nat} (hi : i < kP k) : polP k (nI i) := by
  have := h.h4 hi
  show 0 ≤ (nI i).toInt ∧ (nI i).toInt < ((kP k : Nat) : Int)
  rw [nI_toInt (by omega)]
  omega
theorem chg_ok {a : Nat → Nat} {k : KS} (h : Iv a k) {i : Nat} (hi : i < kC k) : chgP k (nI i) := by
  have := h.1.2
  show 0 ≤ (nI i).toInt ∧ (nI i).toInt < ((kC k : Nat) : Int)
  rw [nI_toInt (by omega)]
  omega
theorem day_ix {x : Int32} (h : dayP x) : ∃ d, d < 365 ∧ x = nI d := by
  rcases pk_ix x (n := 365) (by omega) with q | q | ⟨i, hi, rfl⟩
  · rw [i32_lt, i32_0] at q
    omega
  · rw [i32_le, nI_toInt (by omega)] at q
    omega
  · exact ⟨i, hi, rfl⟩
/-- covered is 0 or 1 -/
theorem layS_01 (k : KS) (kn d : Int32) : ∀ (O : List Nat) (st : VS), (st.2 = 0 ∨ st.2 = 1) → ((layS k kn d O st).1.2 = 0 ∨ (layS k kn d O st).1.2 = 1)
  | [], st, h => h
  | j :: O, st, h => by
    rw [layS]
    split
    · refine layS_01 k kn d O _ ?_
      split
      · unfold s_lay
        split
        · exact h
        · split
          · exact h
          · split
            · exact Or.inr rfl
            · exact Or.inl rfl
      · exact h
    · exact h
theorem nar_01 {x : Int32} (h : x = 0 ∨ x = 1) : narrow .boolean (.int x) = .int x := by
  rcases h with rfl | rfl <;> rfl
abbrev segOf (rt : Nat → Int32) (sg : Int32) (d : Nat) : Prop := d < 365 ∧ isSt rt d ∧ nI (cntS rt d) = sg
abbrev segP (k : KS) (x kn sg : Int32) : Prop := ∀ i rt sm, i < kP k → x = nI i → isYr k i kn rt sm → ∃ d, segOf rt sg d
/-- the sum of the rates of the first n days, each laid in from nothing -/
def dSum (k : KS) (i : Nat) (kn : Int32) : Nat → Int32
  | 0 => 0
  | n + 1 => dSum k i kn n + rateV k i (verS k i (nI n) kn) n

set_option maxHeartbeats 4000000 in
set_option maxRecDepth 100000 in
theorem c_premiumBySegments (l : Launch) (g : GE) (L : List Nat) (f : Nat → va_E) (a : Nat → Nat) (k : KS) (hk : CW g a k L f) (i : Nat) (hpi : i < kP k) (h4 : i < 4) (ho : IvO a k i) (hkd : ∀ j, j < kC k → k.2.1 2 j < 4) (kn : Int32) : Mi l yX6_premiumBySegments wsX6_premiumBySegments (rmH 6 0 0) g L f [.ref (a 0), .ref (a (20 + 3 * i)), .int kn] (fun r u => ∃ st rt sm, isYr k i kn rt sm ∧ r = sumP rt sm 365 ∧ u.1 = L ∧ CW g a (kScr k st rt sm) L u.2) 0 0 := by
  intro sz
  refine Met.ofW (cc := cX6_premiumBySegments) (maxL := 3) (ret := (some .int)) (by decide) rfl ?_
  intro p e s m args below meth c s₁ B hml hv
  obtain ⟨rfl, hv⟩ := hv
  have hx := B.exec
  have hb := B.bytes
  have hr := B.returns
  have hts := atoms_spec (ws := wsX6_premiumBySegments) B.pre
  have hown : s.vm.findClass RX6 = some m.cls := findClass_of_methodNamed B.named
  have hlocks := B.notSynchronized
  obtain ⟨rfl, hw, hs⟩ := pm_begin hv
  generalize va_A (va_pl L f) s.heap.size = A at hw hs ⊢
  have CF := (⟨hx, hb, hml, hown, hts⟩ : CallFix p m c cX6_premiumBySegments 3 s _ wsX6_premiumBySegments RX6)
  have hin_X6 : ∀ w ∈ wsX60, w ∈ wsX6_premiumBySegments := by decide +kernel
  have hl := lv_entry ([.ref (a 0), .ref (a (20 + 3 * i)), .int kn]) (n := 3) (Nat.le_of_ble_eq_true rfl)
  rw [lg_entry_eq]
  generalize (lg_sl ([.ref (a 0), .ref (a (20 + 3 * i)), .int kn]) ++ List.replicate (3 - (lg_sl ([.ref (a 0), .ref (a (20 + 3 * i)), .int kn])).length) Slot.unset).toArray = ls at hl ⊢
  have hl : lv_has ls 3 [(0, .ref (a 0)), (1, .ref (a (20 + 3 * i))), (2, .int kn)] := hl
  refine lv_aload_n hx hb dX6_premiumBySegments_0 rfl (lv_at hl 0 rfl) ?_
  refine lv_aload_n hx hb dX6_premiumBySegments_1 rfl (lv_at hl 1 rfl) ?_
  refine lv_iload_n hx hb dX6_premiumBySegments_2 rfl (lv_at hl 2 rfl) ?_
  refine pc_v hw (va_runV (As := [.ref (a (20 + 3 * i)), .int kn]) (rest := []) CF (c_layYear l g L _ a k hk i hpi h4 ho hkd kn _) (cwV 2 hts gX6_premiumBySegments_X6_layYear rfl rfl rfl (by decide +kernel) ⟨Nat.le_of_ble_eq_true rfl, Nat.le_of_ble_eq_true rfl⟩) (pm_preV hw hs (pm_recv hw (hk.q (i := 0) (dC (by decide))) (hk.f (i := 0) (dC (by decide))) rfl)) rfl rfl hl.1 rfl (lv_room (Nat.le_of_ble_eq_true rfl)) dX6_premiumBySegments_3 ⟨Nat.le_of_ble_eq_true rfl, Nat.le_of_ble_eq_true rfl⟩) (fun L1 f1 H locs hp hw => ?_)
  obtain ⟨hu, hk⟩ := hp
  obtain rfl : _ = L1 := hu.symm
  obtain ⟨st, rt, sm, hyr, hk⟩ := yr_ex hk
  refine lv_aload_n hx hb dX6_premiumBySegments_6 rfl (lv_at hl 0 rfl) ?_
  refine pm_get (ci := 8) (v := .ref (a 5)) (C := RX6) (T := TX6) (N := 6) hx hb hts hin_X6 hown hw (hk.q (i := 0) (dC (by decide))) (hk.f (i := 0) (dC (by decide))) rfl 4 (by decide) (hts (.fieldLink RX6 36 "Backdater" "year" "LBackdater$Year;") (by decide +kernel)) (fun _ h9 => h9) rfl dX6_premiumBySegments_7 ?_
  refine pc_i hw (va_runV (As := []) (rest := []) CF (c_sumOfPremiums l g L _ a (kScr k st rt sm) hk _) (cwV 0 hts gX6_premiumBySegments_X5_sumOfPremiums rfl rfl rfl (by decide +kernel) ⟨Nat.le_of_ble_eq_true rfl, Nat.le_of_ble_eq_true rfl⟩) (pm_preV hw hs (pm_recv hw (hk.q (i := 5) (dC (by decide))) (hk.f (i := 5) (dC (by decide))) rfl)) rfl rfl hl.1 rfl (lv_room (Nat.le_of_ble_eq_true rfl)) dX6_premiumBySegments_10 ⟨Nat.le_of_ble_eq_true rfl, Nat.le_of_ble_eq_true rfl⟩) (fun r L1 f1 H locs hp hw => ?_)
  obtain ⟨hE_10, hu⟩ := hp
  obtain rfl : _ = L1 := (congrArg Prod.fst hu).symm
  obtain rfl : _ = f1 := (congrArg Prod.snd hu).symm
  rw [kScr_2, kScr_3] at hE_10
  subst hE_10
  exact pr_i (v := (sumP rt sm 365)) hx hb hr hlocks hw rfl ⟨Nat.le_of_ble_eq_true rfl, Nat.le_of_ble_eq_true rfl⟩ (⟨st, rt, sm, hyr, rfl, rfl, hk⟩) dX6_premiumBySegments_13

set_option maxHeartbeats 4000000 in
set_option maxRecDepth 100000 in
theorem c_startOfSegment (l : Launch) (hst : l.stackTraces = false) (g : GE) (L : List Nat) (f : Nat → va_E) (a : Nat → Nat) (k : KS) (hk : CW g a k L f) (hi : Iv a k) (x sg kn : Int32) : Xi l yX6_startOfSegment wsX6_startOfSegment (rmH 6 2 12) g L f [.ref (a 0), .int x, .int sg, .int kn] (fun r u => ∃ i d st rt sm, i < kP k ∧ x = nI i ∧ isYr k i kn rt sm ∧ segOf rt sg d ∧ r = nI d ∧ u.1 = L ∧ CW g a (kScr k st rt sm) L u.2) (fun E u => exL [("java/lang/IndexOutOfBoundsException", polP k x), ("java/lang/IndexOutOfBoundsException", segP k x kn sg)] E ∧ ScrP g a k L u) 2 12 := by
  intro sz
  refine vx_ofW (cc := cX6_startOfSegment) (maxL := 5) (ret := (some .int)) (by decide) rfl ?_
  intro p e s m args below meth c s₁ B hml htab hv
  obtain ⟨rfl, hv⟩ := hv
  have hx := B.exec
  have hb := B.bytes
  have hr := B.returns
  have hts := atoms_spec (ws := wsX6_startOfSegment) B.pre
  have hown : s.vm.findClass RX6 = some m.cls := findClass_of_methodNamed B.named
  have hlocks := B.notSynchronized
  obtain ⟨rfl, hw, hs⟩ := pm_begin hv
  generalize va_A (va_pl L f) s.heap.size = A at hw hs ⊢
  have CF := (⟨hx, hb, hml, hown, hts⟩ : CallFix p m c cX6_startOfSegment 5 s _ wsX6_startOfSegment RX6)
  have hin_X6 : ∀ w ∈ wsX60, w ∈ wsX6_startOfSegment := by decide +kernel
  have hl := lv_entry ([.ref (a 0), .int x, .int sg, .int kn]) (n := 5) (Nat.le_of_ble_eq_true rfl)
  rw [lg_entry_eq]
  generalize (lg_sl ([.ref (a 0), .int x, .int sg, .int kn]) ++ List.replicate (5 - (lg_sl ([.ref (a 0), .int x, .int sg, .int kn])).length) Slot.unset).toArray = ls at hl ⊢
  have hl : lv_has ls 5 [(0, .ref (a 0)), (1, .int x), (2, .int sg), (3, .int kn)] := hl
  refine lv_aload_n hx hb dX6_startOfSegment_0 rfl (lv_at hl 0 rfl) ?_
  refine lv_aload_n hx hb dX6_startOfSegment_1 rfl (lv_at hl 0 rfl) ?_
  refine lv_iload_n hx hb dX6_startOfSegment_2 rfl (lv_at hl 1 rfl) ?_
  refine px_q hw (vx_runV (As := [.int x]) (rest := [.ref (a 0)]) CF (c_policyNumbered l hst g L _ a k hk hi x _) (cwV 1 hts gX6_startOfSegment_X6_policyNumbered rfl rfl rfl (by decide +kernel) ⟨Nat.le_of_ble_eq_true rfl, Nat.le_of_ble_eq_true rfl⟩) (pm_preV hw hs (pm_recv hw (hk.q (i := 0) (dC (by decide))) (hk.f (i := 0) (dC (by decide))) rfl)) rfl rfl hl.1 rfl (lv_room (Nat.le_of_ble_eq_true rfl)) dX6_startOfSegment_3 ⟨Nat.le_of_ble_eq_true rfl, Nat.le_of_ble_eq_true rfl⟩) htab hlocks ⟨Nat.le_of_ble_eq_true rfl, Nat.le_of_ble_eq_true rfl⟩ (fun E u hE => by obtain ⟨rfl, hn9, rfl⟩ := hE; exact ⟨Or.inl ⟨hn9, rfl⟩, scr_id hk⟩) (fun r L1 f1 H locs hp hw => ?_)
  obtain ⟨i, hpi, rfl, rfl, hu⟩ := hp
  obtain rfl : _ = L1 := (congrArg Prod.fst hu).symm
  obtain rfl : _ = f1 := (congrArg Prod.snd hu).symm
  have h4 : i < 4 := hi.h4 hpi
  have ho := hi.o hpi
  have hkd := hi.kd
  refine lv_iload_n hx hb dX6_startOfSegment_6 rfl (lv_at hl 3 rfl) ?_
  refine pc_v hw (va_runV (As := [.ref (a (20 + 3 * i)), .int kn]) (rest := []) CF (c_layYear l g L _ a k hk i hpi h4 ho hkd kn _) (cwV 2 hts gX6_startOfSegment_X6_layYear rfl rfl rfl (by decide +kernel) ⟨Nat.le_of_ble_eq_true rfl, Nat.le_of_ble_eq_true rfl⟩) (pm_preV hw hs (pm_recv hw (hk.q (i := 0) (dC (by decide))) (hk.f (i := 0) (dC (by decide))) rfl)) rfl rfl hl.1 rfl (lv_room (Nat.le_of_ble_eq_true rfl)) dX6_startOfSegment_7 ⟨Nat.le_of_ble_eq_true rfl, Nat.le_of_ble_eq_true rfl⟩) (fun L1 f1 H locs hp hw => ?_)
  obtain ⟨hu, hk⟩ := hp
  obtain rfl : _ = L1 := hu.symm
  obtain ⟨st, rt, sm, hyr, hk⟩ := yr_ex hk
  refine lv_aload_n hx hb dX6_startOfSegment_10 rfl (lv_at hl 0 rfl) ?_
  refine pm_get (ci := 8) (v := .ref (a 5)) (C := RX6) (T := TX6) (N := 6) hx hb hts hin_X6 hown hw (hk.q (i := 0) (dC (by decide))) (hk.f (i := 0) (dC (by decide))) rfl 4 (by decide) (hts (.fieldLink RX6 36 "Backdater" "year" "LBackdater$Year;") (by decide +kernel)) (fun _ h9 => h9) rfl dX6_startOfSegment_11 ?_
  refine lv_iload_n hx hb dX6_startOfSegment_14 rfl (lv_at hl 2 rfl) ?_
  refine pc_i hw (va_runV (As := [.int sg]) (rest := []) CF (c_startOf l g L _ a (kScr k st rt sm) hk sg _) (cwV 1 hts gX6_startOfSegment_X5_startOf rfl rfl rfl (by decide +kernel) ⟨Nat.le_of_ble_eq_true rfl, Nat.le_of_ble_eq_true rfl⟩) (pm_preV hw hs (pm_recv hw (hk.q (i := 5) (dC (by decide))) (hk.f (i := 5) (dC (by decide))) rfl)) rfl rfl hl.1 rfl (lv_room (Nat.le_of_ble_eq_true rfl)) dX6_startOfSegment_15 ⟨Nat.le_of_ble_eq_true rfl, Nat.le_of_ble_eq_true rfl⟩) (fun r L1 f1 H locs hp hw => ?_)
  obtain ⟨hE_15, hu⟩ := hp
  obtain rfl : _ = L1 := (congrArg Prod.fst hu).symm
  obtain rfl : _ = f1 := (congrArg Prod.snd hu).symm
  rw [kScr_2] at hE_15
  generalize r = rr at hE_15 ⊢
  refine lv_istore (lv' := [(4, .int rr), (0, .ref (a 0)), (1, .int (nI i)), (2, .int sg), (3, .int kn)]) hx hb dX6_startOfSegment_18 hl (by decide) rfl (fun ls hl => ?_)
  refine lv_iload hx hb dX6_startOfSegment_20 (lv_at hl 0 rfl) ?_
  refine lv_iconst (v := (-1)) hx hb dX6_startOfSegment_22 (by decide) ?_
  refine lv_icmp_ne (tgt := 36) hx hb dX6_startOfSegment_23 (by decide) (fun c_23 => ?_) (fun c_23 => ?_)
  · obtain ⟨d, hd9, hs9, hc9, rfl⟩ := hE_15.resolve_right (fun h9 => c_23 h9.2)
    refine lv_iload hx hb dX6_startOfSegment_36 (lv_at hl 0 rfl) ?_
    exact vx_ret (pr_i (v := (nI d)) hx hb hr hlocks hw rfl ⟨Nat.le_of_ble_eq_true rfl, Nat.le_of_ble_eq_true rfl⟩ (⟨i, d, st, rt, sm, hpi, rfl, hyr, ⟨hd9, hs9, hc9⟩, rfl, rfl, hk⟩) dX6_startOfSegment_38)
  · have hno : ∀ d, d < 365 → isSt rt d → nI (cntS rt d) ≠ sg := by
      rcases hE_15 with ⟨d, hd9, -, -, h8⟩ | ⟨h9, -⟩
      · exact absurd (h8.symm.trans c_23) (nI_m1 (by omega))
      · exact h9
    exact px_throwS (own := RX6) (cls := "java/lang/IndexOutOfBoundsException") (names := ["java/lang/RuntimeException", "java/lang/Exception"]) hx hb hst hown (by decide +kernel) (by decide +kernel) (hts (.classLink RX6 188 "java/lang/IndexOutOfBoundsException") (by decide +kernel)) (hts (.initialized "java/lang/IndexOutOfBoundsException") (by decide +kernel)) (by decide +kernel : (RX6, 235, "there is no such segment") ∈ sx_texts) hts (by decide +kernel) (by decide +kernel) (by decide +kernel) (by decide +kernel) hs hw hml hl.1 dX6_startOfSegment_26 dX6_startOfSegment_29 dX6_startOfSegment_30 dX6_startOfSegment_32 dX6_startOfSegment_35 htab hlocks ⟨Nat.le_of_ble_eq_true rfl, Nat.le_of_ble_eq_true rfl, Nat.le_of_ble_eq_true rfl, Nat.le_of_ble_eq_true rfl⟩ ⟨Nat.le_of_ble_eq_true rfl, Nat.le_of_ble_eq_true rfl⟩ (⟨Or.inr ⟨pol_ok hi hpi, Or.inl ⟨fun h9 => by obtain ⟨d, h1, h2, h3⟩ := h9 i rt sm hpi rfl hyr; exact hno d h1 h2 h3, rfl⟩⟩, scr_yr hyr hk⟩)

set_option maxHeartbeats 4000000 in
set_option maxRecDepth 100000 in
theorem c_value (l : Launch) (hst : l.stackTraces = false) (g : GE) (L : List Nat) (f : Nat → va_E) (a : Nat → Nat) (k : KS) (hk : CW g a k L f) (hi : Iv a k) (x y z kn : Int32) : Xi l yX6_value wsX6_value (rmH 6 4 24) g L f [.ref (a 0), .int x, .int y, .int z, .int kn] (fun r u => ∃ i, i < kP k ∧ x = nI i ∧ fldP y ∧ dayP z ∧ knP k kn ∧ r = s_val (verS k i z kn).1 y ∧ ScrP g a k L u) (fun E u => exL [("java/lang/IndexOutOfBoundsException", polP k x), ("java/lang/IndexOutOfBoundsException", fldP y), ("java/lang/IllegalArgumentException", dayP z), ("java/lang/IllegalArgumentException", knP k kn)] E ∧ ScrP g a k L u) 4 24 := by
  intro sz
  refine vx_ofW (cc := cX6_value) (maxL := 6) (ret := (some .int)) (by decide) rfl ?_
  intro p e s m args below meth c s₁ B hml htab hv
  obtain ⟨rfl, hv⟩ := hv
  have hx := B.exec
  have hb := B.bytes
  have hr := B.returns
  have hts := atoms_spec (ws := wsX6_value) B.pre
  have hown : s.vm.findClass RX6 = some m.cls := findClass_of_methodNamed B.named
  have hlocks := B.notSynchronized
  obtain ⟨rfl, hw, hs⟩ := pm_begin hv
  generalize va_A (va_pl L f) s.heap.size = A at hw hs ⊢
  have CF := (⟨hx, hb, hml, hown, hts⟩ : CallFix p m c cX6_value 6 s _ wsX6_value RX6)
  have hin_X6 : ∀ w ∈ wsX60, w ∈ wsX6_value := by decide +kernel
  have hl := lv_entry ([.ref (a 0), .int x, .int y, .int z, .int kn]) (n := 6) (Nat.le_of_ble_eq_true rfl)
  rw [lg_entry_eq]
  generalize (lg_sl ([.ref (a 0), .int x, .int y, .int z, .int kn]) ++ List.replicate (6 - (lg_sl ([.ref (a 0), .int x, .int y, .int z, .int kn])).length) Slot.unset).toArray = ls at hl ⊢
  have hl : lv_has ls 6 [(0, .ref (a 0)), (1, .int x), (2, .int y), (3, .int z), (4, .int kn)] := hl
  refine lv_aload_n hx hb dX6_value_0 rfl (lv_at hl 0 rfl) ?_
  refine lv_iload_n hx hb dX6_value_1 rfl (lv_at hl 1 rfl) ?_
  refine px_q hw (vx_runV (As := [.int x]) (rest := []) CF (c_policyNumbered l hst g L _ a k hk hi x _) (cwV 1 hts gX6_value_X6_policyNumbered rfl rfl rfl (by decide +kernel) ⟨Nat.le_of_ble_eq_true rfl, Nat.le_of_ble_eq_true rfl⟩) (pm_preV hw hs (pm_recv hw (hk.q (i := 0) (dC (by decide))) (hk.f (i := 0) (dC (by decide))) rfl)) rfl rfl hl.1 rfl (lv_room (Nat.le_of_ble_eq_true rfl)) dX6_value_2 ⟨Nat.le_of_ble_eq_true rfl, Nat.le_of_ble_eq_true rfl⟩) htab hlocks ⟨Nat.le_of_ble_eq_true rfl, Nat.le_of_ble_eq_true rfl⟩ (fun E u hE => by obtain ⟨rfl, hn9, rfl⟩ := hE; exact ⟨Or.inl ⟨hn9, rfl⟩, scr_id hk⟩) (fun r L1 f1 H locs hp hw => ?_)
  obtain ⟨i, hpi, rfl, rfl, hu⟩ := hp
  obtain rfl : _ = L1 := (congrArg Prod.fst hu).symm
  obtain rfl : _ = f1 := (congrArg Prod.snd hu).symm
  have h4 : i < 4 := hi.h4 hpi
  have ho := hi.o hpi
  have hkd := hi.kd
  refine lv_astore (lv' := [(5, .ref (a (20 + 3 * i))), (0, .ref (a 0)), (1, .int (nI i)), (2, .int y), (3, .int z), (4, .int kn)]) hx hb dX6_value_5 hl (by decide) rfl (fun ls hl => ?_)
  refine lv_iload_n hx hb dX6_value_7 rfl (lv_at hl 3 rfl) ?_
  refine px_v hw (vx_runS (As := [.int y]) (rest := []) CF (c_demandField l hst g L _ y _) (va_cwS 1 hts gX6_value_X6_demandField rfl rfl rfl (by decide +kernel) ⟨Nat.le_of_ble_eq_true rfl, Nat.le_of_ble_eq_true rfl⟩) (pm_preS hw hs) rfl rfl hl.1 rfl (lv_room (Nat.le_of_ble_eq_true rfl)) dX6_value_8 ⟨Nat.le_of_ble_eq_true rfl, Nat.le_of_ble_eq_true rfl⟩) htab hlocks ⟨Nat.le_of_ble_eq_true rfl, Nat.le_of_ble_eq_true rfl⟩ (fun E u hE => by obtain ⟨rfl, hn9, rfl⟩ := hE; exact ⟨Or.inr ⟨pol_ok hi hpi, Or.inl ⟨hn9, rfl⟩⟩, scr_id hk⟩) (fun L1 f1 H locs hp hw => ?_)
  obtain ⟨hF, hp⟩ := hp
  have hu := hp
  obtain rfl : _ = L1 := (congrArg Prod.fst hu).symm
  obtain rfl : _ = f1 := (congrArg Prod.snd hu).symm
  refine lv_iload_n hx hb dX6_value_11 rfl (lv_at hl 4 rfl) ?_
  refine px_v hw (vx_runS (As := [.int z]) (rest := []) CF (c_demandDay l hst g L _ z _) (va_cwS 1 hts gX6_value_X6_demandDay rfl rfl rfl (by decide +kernel) ⟨Nat.le_of_ble_eq_true rfl, Nat.le_of_ble_eq_true rfl⟩) (pm_preS hw hs) rfl rfl hl.1 rfl (lv_room (Nat.le_of_ble_eq_true rfl)) dX6_value_12 ⟨Nat.le_of_ble_eq_true rfl, Nat.le_of_ble_eq_true rfl⟩) htab hlocks ⟨Nat.le_of_ble_eq_true rfl, Nat.le_of_ble_eq_true rfl⟩ (fun E u hE => by obtain ⟨rfl, hn9, rfl⟩ := hE; exact ⟨Or.inr ⟨pol_ok hi hpi, Or.inr ⟨hF, Or.inl ⟨hn9, rfl⟩⟩⟩, scr_id hk⟩) (fun L1 f1 H locs hp hw => ?_)
  obtain ⟨hDy, hp⟩ := hp
  have hu := hp
  obtain rfl : _ = L1 := (congrArg Prod.fst hu).symm
  obtain rfl : _ = f1 := (congrArg Prod.snd hu).symm
  refine lv_aload_n hx hb dX6_value_15 rfl (lv_at hl 1 rfl) ?_
  refine lv_iload hx hb dX6_value_16 (lv_at hl 5 rfl) ?_
  refine px_v hw (vx_runV (As := [.int kn]) (rest := []) CF (c_demandKnown l hst g L _ a k hk kn _) (cwV 1 hts gX6_value_X6_demandKnown rfl rfl rfl (by decide +kernel) ⟨Nat.le_of_ble_eq_true rfl, Nat.le_of_ble_eq_true rfl⟩) (pm_preV hw hs (pm_recv hw (hk.q (i := 0) (dC (by decide))) (hk.f (i := 0) (dC (by decide))) rfl)) rfl rfl hl.1 rfl (lv_room (Nat.le_of_ble_eq_true rfl)) dX6_value_18 ⟨Nat.le_of_ble_eq_true rfl, Nat.le_of_ble_eq_true rfl⟩) htab hlocks ⟨Nat.le_of_ble_eq_true rfl, Nat.le_of_ble_eq_true rfl⟩ (fun E u hE => by obtain ⟨rfl, hn9, rfl⟩ := hE; exact ⟨Or.inr ⟨pol_ok hi hpi, Or.inr ⟨hF, Or.inr ⟨hDy, Or.inl ⟨hn9, rfl⟩⟩⟩⟩, scr_id hk⟩) (fun L1 f1 H locs hp hw => ?_)
  obtain ⟨hKn, hp⟩ := hp
  have hu := hp
  obtain rfl : _ = L1 := (congrArg Prod.fst hu).symm
  obtain rfl : _ = f1 := (congrArg Prod.snd hu).symm
  refine lv_aload_n hx hb dX6_value_21 rfl (lv_at hl 1 rfl) ?_
  refine lv_aload hx hb dX6_value_22 (lv_at hl 0 rfl) ?_
  refine lv_iload_n hx hb dX6_value_24 rfl (lv_at hl 4 rfl) ?_
  refine lv_iload hx hb dX6_value_25 (lv_at hl 5 rfl) ?_
  refine pc_v hw (va_runV (As := [.ref (a (20 + 3 * i)), .int z, .int kn]) (rest := []) CF ((c_layVersion l g L _ a k hk i hpi h4 ho hkd z kn) _) (cwV 3 hts gX6_value_X6_layVersion rfl rfl rfl (by decide +kernel) ⟨Nat.le_of_ble_eq_true rfl, Nat.le_of_ble_eq_true rfl⟩) (pm_preV hw hs (pm_recv hw (hk.q (i := 0) (dC (by decide))) (hk.f (i := 0) (dC (by decide))) rfl)) rfl rfl hl.1 rfl (lv_room (Nat.le_of_ble_eq_true rfl)) dX6_value_27 ⟨Nat.le_of_ble_eq_true rfl, Nat.le_of_ble_eq_true rfl⟩) (fun L1 f1 H locs hp hw => ?_)
  obtain ⟨hu, hk⟩ := hp
  obtain rfl : _ = L1 := hu.symm
  have hk : CW g a (kSt k (verS k i z kn)) _ f1 := hk
  refine lv_aload_n hx hb dX6_value_30 rfl (lv_at hl 1 rfl) ?_
  refine pm_get (ci := 8) (v := .ref (a 4)) (C := RX6) (T := TX6) (N := 6) hx hb hts hin_X6 hown hw (hk.q (i := 0) (dC (by decide))) (hk.f (i := 0) (dC (by decide))) rfl 3 (by decide) (hts (.fieldLink RX6 29 "Backdater" "version" "LBackdater$Version;") (by decide +kernel)) (fun _ h9 => h9) rfl dX6_value_31 ?_
  refine lv_iload_n hx hb dX6_value_34 rfl (lv_at hl 3 rfl) ?_
  refine pc_i hw (va_runV (As := [.int y]) (rest := []) CF (c_valueOf l g L _ a (kSt k (verS k i z kn)) hk y _) (cwV 1 hts gX6_value_X4_valueOf rfl rfl rfl (by decide +kernel) ⟨Nat.le_of_ble_eq_true rfl, Nat.le_of_ble_eq_true rfl⟩) (pm_preV hw hs (pm_recv hw (hk.q (i := 4) (dC (by decide))) (hk.f (i := 4) (dC (by decide))) rfl)) rfl rfl hl.1 rfl (lv_room (Nat.le_of_ble_eq_true rfl)) dX6_value_35 ⟨Nat.le_of_ble_eq_true rfl, Nat.le_of_ble_eq_true rfl⟩) (fun r L1 f1 H locs hp hw => ?_)
  obtain ⟨hE_35, hu⟩ := hp
  obtain rfl : _ = L1 := (congrArg Prod.fst hu).symm
  obtain rfl : _ = f1 := (congrArg Prod.snd hu).symm
  generalize r = r_35 at hE_35 ⊢
  subst hE_35
  exact vx_ret (pr_i (v := (s_val (verS k i z kn).1 y)) hx hb hr hlocks hw rfl ⟨Nat.le_of_ble_eq_true rfl, Nat.le_of_ble_eq_true rfl⟩ (⟨i, hpi, rfl, hF, hDy, hKn, rfl, scr_st hk⟩) dX6_value_38)

set_option maxHeartbeats 4000000 in
set_option maxRecDepth 100000 in
theorem c_isCovered (l : Launch) (hst : l.stackTraces = false) (g : GE) (L : List Nat) (f : Nat → va_E) (a : Nat → Nat) (k : KS) (hk : CW g a k L f) (hi : Iv a k) (x z kn : Int32) : Xi l yX6_isCovered wsX6_isCovered (rmH 6 3 18) g L f [.ref (a 0), .int x, .int z, .int kn] (fun r u => ∃ i, i < kP k ∧ x = nI i ∧ dayP z ∧ knP k kn ∧ r = (verS k i z kn).2 ∧ ScrP g a k L u) (fun E u => exL [("java/lang/IndexOutOfBoundsException", polP k x), ("java/lang/IllegalArgumentException", dayP z), ("java/lang/IllegalArgumentException", knP k kn)] E ∧ ScrP g a k L u) 3 18 := by
  intro sz
  refine vx_ofW (cc := cX6_isCovered) (maxL := 5) (ret := (some .boolean)) (by decide) rfl ?_
  intro p e s m args below meth c s₁ B hml htab hv
  obtain ⟨rfl, hv⟩ := hv
  have hx := B.exec
  have hb := B.bytes
  have hr := B.returns
  have hts := atoms_spec (ws := wsX6_isCovered) B.pre
  have hown : s.vm.findClass RX6 = some m.cls := findClass_of_methodNamed B.named
  have hlocks := B.notSynchronized
  obtain ⟨rfl, hw, hs⟩ := pm_begin hv
  generalize va_A (va_pl L f) s.heap.size = A at hw hs ⊢
  have CF := (⟨hx, hb, hml, hown, hts⟩ : CallFix p m c cX6_isCovered 5 s _ wsX6_isCovered RX6)
  have hin_X6 : ∀ w ∈ wsX60, w ∈ wsX6_isCovered := by decide +kernel
  have hin_X4 : ∀ w ∈ wsX40, w ∈ wsX6_isCovered := by decide +kernel
  have hl := lv_entry ([.ref (a 0), .int x, .int z, .int kn]) (n := 5) (Nat.le_of_ble_eq_true rfl)
  rw [lg_entry_eq]
  generalize (lg_sl ([.ref (a 0), .int x, .int z, .int kn]) ++ List.replicate (5 - (lg_sl ([.ref (a 0), .int x, .int z, .int kn])).length) Slot.unset).toArray = ls at hl ⊢
  have hl : lv_has ls 5 [(0, .ref (a 0)), (1, .int x), (2, .int z), (3, .int kn)] := hl
  refine lv_aload_n hx hb dX6_isCovered_0 rfl (lv_at hl 0 rfl) ?_
  refine lv_iload_n hx hb dX6_isCovered_1 rfl (lv_at hl 1 rfl) ?_
  refine px_q hw (vx_runV (As := [.int x]) (rest := []) CF (c_policyNumbered l hst g L _ a k hk hi x _) (cwV 1 hts gX6_isCovered_X6_policyNumbered rfl rfl rfl (by decide +kernel) ⟨Nat.le_of_ble_eq_true rfl, Nat.le_of_ble_eq_true rfl⟩) (pm_preV hw hs (pm_recv hw (hk.q (i := 0) (dC (by decide))) (hk.f (i := 0) (dC (by decide))) rfl)) rfl rfl hl.1 rfl (lv_room (Nat.le_of_ble_eq_true rfl)) dX6_isCovered_2 ⟨Nat.le_of_ble_eq_true rfl, Nat.le_of_ble_eq_true rfl⟩) htab hlocks ⟨Nat.le_of_ble_eq_true rfl, Nat.le_of_ble_eq_true rfl⟩ (fun E u hE => by obtain ⟨rfl, hn9, rfl⟩ := hE; exact ⟨Or.inl ⟨hn9, rfl⟩, scr_id hk⟩) (fun r L1 f1 H locs hp hw => ?_)
  obtain ⟨i, hpi, rfl, rfl, hu⟩ := hp
  obtain rfl : _ = L1 := (congrArg Prod.fst hu).symm
  obtain rfl : _ = f1 := (congrArg Prod.snd hu).symm
  have h4 : i < 4 := hi.h4 hpi
  have ho := hi.o hpi
  have hkd := hi.kd
  refine lv_astore (lv' := [(4, .ref (a (20 + 3 * i))), (0, .ref (a 0)), (1, .int (nI i)), (2, .int z), (3, .int kn)]) hx hb dX6_isCovered_5 hl (by decide) rfl (fun ls hl => ?_)
  refine lv_iload_n hx hb dX6_isCovered_7 rfl (lv_at hl 3 rfl) ?_
  refine px_v hw (vx_runS (As := [.int z]) (rest := []) CF (c_demandDay l hst g L _ z _) (va_cwS 1 hts gX6_isCovered_X6_demandDay rfl rfl rfl (by decide +kernel) ⟨Nat.le_of_ble_eq_true rfl, Nat.le_of_ble_eq_true rfl⟩) (pm_preS hw hs) rfl rfl hl.1 rfl (lv_room (Nat.le_of_ble_eq_true rfl)) dX6_isCovered_8 ⟨Nat.le_of_ble_eq_true rfl, Nat.le_of_ble_eq_true rfl⟩) htab hlocks ⟨Nat.le_of_ble_eq_true rfl, Nat.le_of_ble_eq_true rfl⟩ (fun E u hE => by obtain ⟨rfl, hn9, rfl⟩ := hE; exact ⟨Or.inr ⟨pol_ok hi hpi, Or.inl ⟨hn9, rfl⟩⟩, scr_id hk⟩) (fun L1 f1 H locs hp hw => ?_)
  obtain ⟨hDy, hp⟩ := hp
  have hu := hp
  obtain rfl : _ = L1 := (congrArg Prod.fst hu).symm
  obtain rfl : _ = f1 := (congrArg Prod.snd hu).symm
  refine lv_aload_n hx hb dX6_isCovered_11 rfl (lv_at hl 1 rfl) ?_
  refine lv_iload_n hx hb dX6_isCovered_12 rfl (lv_at hl 4 rfl) ?_
  refine px_v hw (vx_runV (As := [.int kn]) (rest := []) CF (c_demandKnown l hst g L _ a k hk kn _) (cwV 1 hts gX6_isCovered_X6_demandKnown rfl rfl rfl (by decide +kernel) ⟨Nat.le_of_ble_eq_true rfl, Nat.le_of_ble_eq_true rfl⟩) (pm_preV hw hs (pm_recv hw (hk.q (i := 0) (dC (by decide))) (hk.f (i := 0) (dC (by decide))) rfl)) rfl rfl hl.1 rfl (lv_room (Nat.le_of_ble_eq_true rfl)) dX6_isCovered_13 ⟨Nat.le_of_ble_eq_true rfl, Nat.le_of_ble_eq_true rfl⟩) htab hlocks ⟨Nat.le_of_ble_eq_true rfl, Nat.le_of_ble_eq_true rfl⟩ (fun E u hE => by obtain ⟨rfl, hn9, rfl⟩ := hE; exact ⟨Or.inr ⟨pol_ok hi hpi, Or.inr ⟨hDy, Or.inl ⟨hn9, rfl⟩⟩⟩, scr_id hk⟩) (fun L1 f1 H locs hp hw => ?_)
  obtain ⟨hKn, hp⟩ := hp
  have hu := hp
  obtain rfl : _ = L1 := (congrArg Prod.fst hu).symm
  obtain rfl : _ = f1 := (congrArg Prod.snd hu).symm
  refine lv_aload_n hx hb dX6_isCovered_16 rfl (lv_at hl 1 rfl) ?_
  refine lv_aload hx hb dX6_isCovered_17 (lv_at hl 0 rfl) ?_
  refine lv_iload_n hx hb dX6_isCovered_19 rfl (lv_at hl 3 rfl) ?_
  refine lv_iload_n hx hb dX6_isCovered_20 rfl (lv_at hl 4 rfl) ?_
  refine pc_v hw (va_runV (As := [.ref (a (20 + 3 * i)), .int z, .int kn]) (rest := []) CF ((c_layVersion l g L _ a k hk i hpi h4 ho hkd z kn) _) (cwV 3 hts gX6_isCovered_X6_layVersion rfl rfl rfl (by decide +kernel) ⟨Nat.le_of_ble_eq_true rfl, Nat.le_of_ble_eq_true rfl⟩) (pm_preV hw hs (pm_recv hw (hk.q (i := 0) (dC (by decide))) (hk.f (i := 0) (dC (by decide))) rfl)) rfl rfl hl.1 rfl (lv_room (Nat.le_of_ble_eq_true rfl)) dX6_isCovered_21 ⟨Nat.le_of_ble_eq_true rfl, Nat.le_of_ble_eq_true rfl⟩) (fun L1 f1 H locs hp hw => ?_)
  obtain ⟨hu, hk⟩ := hp
  obtain rfl : _ = L1 := hu.symm
  have hk : CW g a (kSt k (verS k i z kn)) _ f1 := hk
  refine lv_aload_n hx hb dX6_isCovered_24 rfl (lv_at hl 1 rfl) ?_
  refine pm_get (ci := 8) (v := .ref (a 4)) (C := RX6) (T := TX6) (N := 6) hx hb hts hin_X6 hown hw (hk.q (i := 0) (dC (by decide))) (hk.f (i := 0) (dC (by decide))) rfl 3 (by decide) (hts (.fieldLink RX6 29 "Backdater" "version" "LBackdater$Version;") (by decide +kernel)) (fun _ h9 => h9) rfl dX6_isCovered_25 ?_
  refine pm_get (ci := 6) (v := .int ((verS k i z kn).2)) (C := RX4) (T := TX4) (N := 2) hx hb hts hin_X4 hown hw (hk.q (i := 4) (dC (by decide))) (hk.f (i := 4) (dC (by decide))) rfl 1 (by decide) (hts (.fieldLink RX6 152 "Backdater$Version" "covered" "Z") (by decide +kernel)) (fun _ h9 => h9) rfl dX6_isCovered_28 ?_
  exact vx_ret (pr_i (v := ((verS k i z kn).2)) hx hb hr hlocks hw (nar_01 (layS_01 k kn z _ _ (Or.inr rfl))) ⟨Nat.le_of_ble_eq_true rfl, Nat.le_of_ble_eq_true rfl⟩ (⟨i, hpi, rfl, hDy, hKn, rfl, scr_st hk⟩) dX6_isCovered_31)

set_option maxHeartbeats 4000000 in
set_option maxRecDepth 100000 in
theorem c_rate (l : Launch) (hst : l.stackTraces = false) (g : GE) (L : List Nat) (f : Nat → va_E) (a : Nat → Nat) (k : KS) (hk : CW g a k L f) (hi : Iv a k) (x z kn : Int32) : Xi l yX6_rate wsX6_rate (rmH 6 3 18) g L f [.ref (a 0), .int x, .int z, .int kn] (fun r u => ∃ i d, i < kP k ∧ x = nI i ∧ d < 365 ∧ z = nI d ∧ knP k kn ∧ r = rateV k i (verS k i (nI d) kn) d ∧ ScrP g a k L u) (fun E u => exL [("java/lang/IndexOutOfBoundsException", polP k x), ("java/lang/IllegalArgumentException", dayP z), ("java/lang/IllegalArgumentException", knP k kn)] E ∧ ScrP g a k L u) 3 18 := by
  intro sz
  refine vx_ofW (cc := cX6_rate) (maxL := 5) (ret := (some .int)) (by decide) rfl ?_
  intro p e s m args below meth c s₁ B hml htab hv
  obtain ⟨rfl, hv⟩ := hv
  have hx := B.exec
  have hb := B.bytes
  have hr := B.returns
  have hts := atoms_spec (ws := wsX6_rate) B.pre
  have hown : s.vm.findClass RX6 = some m.cls := findClass_of_methodNamed B.named
  have hlocks := B.notSynchronized
  obtain ⟨rfl, hw, hs⟩ := pm_begin hv
  generalize va_A (va_pl L f) s.heap.size = A at hw hs ⊢
  have CF := (⟨hx, hb, hml, hown, hts⟩ : CallFix p m c cX6_rate 5 s _ wsX6_rate RX6)
  have hin_X6 : ∀ w ∈ wsX60, w ∈ wsX6_rate := by decide +kernel
  have hl := lv_entry ([.ref (a 0), .int x, .int z, .int kn]) (n := 5) (Nat.le_of_ble_eq_true rfl)
  rw [lg_entry_eq]
  generalize (lg_sl ([.ref (a 0), .int x, .int z, .int kn]) ++ List.replicate (5 - (lg_sl ([.ref (a 0), .int x, .int z, .int kn])).length) Slot.unset).toArray = ls at hl ⊢
  have hl : lv_has ls 5 [(0, .ref (a 0)), (1, .int x), (2, .int z), (3, .int kn)] := hl
  refine lv_aload_n hx hb dX6_rate_0 rfl (lv_at hl 0 rfl) ?_
  refine lv_iload_n hx hb dX6_rate_1 rfl (lv_at hl 1 rfl) ?_
  refine px_q hw (vx_runV (As := [.int x]) (rest := []) CF (c_policyNumbered l hst g L _ a k hk hi x _) (cwV 1 hts gX6_rate_X6_policyNumbered rfl rfl rfl (by decide +kernel) ⟨Nat.le_of_ble_eq_true rfl, Nat.le_of_ble_eq_true rfl⟩) (pm_preV hw hs (pm_recv hw (hk.q (i := 0) (dC (by decide))) (hk.f (i := 0) (dC (by decide))) rfl)) rfl rfl hl.1 rfl (lv_room (Nat.le_of_ble_eq_true rfl)) dX6_rate_2 ⟨Nat.le_of_ble_eq_true rfl, Nat.le_of_ble_eq_true rfl⟩) htab hlocks ⟨Nat.le_of_ble_eq_true rfl, Nat.le_of_ble_eq_true rfl⟩ (fun E u hE => by obtain ⟨rfl, hn9, rfl⟩ := hE; exact ⟨Or.inl ⟨hn9, rfl⟩, scr_id hk⟩) (fun r L1 f1 H locs hp hw => ?_)
  obtain ⟨i, hpi, rfl, rfl, hu⟩ := hp
  obtain rfl : _ = L1 := (congrArg Prod.fst hu).symm
  obtain rfl : _ = f1 := (congrArg Prod.snd hu).symm
  have h4 : i < 4 := hi.h4 hpi
  have ho := hi.o hpi
  have hkd := hi.kd
  refine lv_astore (lv' := [(4, .ref (a (20 + 3 * i))), (0, .ref (a 0)), (1, .int (nI i)), (2, .int z), (3, .int kn)]) hx hb dX6_rate_5 hl (by decide) rfl (fun ls hl => ?_)
  refine lv_iload_n hx hb dX6_rate_7 rfl (lv_at hl 3 rfl) ?_
  refine px_v hw (vx_runS (As := [.int z]) (rest := []) CF (c_demandDay l hst g L _ z _) (va_cwS 1 hts gX6_rate_X6_demandDay rfl rfl rfl (by decide +kernel) ⟨Nat.le_of_ble_eq_true rfl, Nat.le_of_ble_eq_true rfl⟩) (pm_preS hw hs) rfl rfl hl.1 rfl (lv_room (Nat.le_of_ble_eq_true rfl)) dX6_rate_8 ⟨Nat.le_of_ble_eq_true rfl, Nat.le_of_ble_eq_true rfl⟩) htab hlocks ⟨Nat.le_of_ble_eq_true rfl, Nat.le_of_ble_eq_true rfl⟩ (fun E u hE => by obtain ⟨rfl, hn9, rfl⟩ := hE; exact ⟨Or.inr ⟨pol_ok hi hpi, Or.inl ⟨hn9, rfl⟩⟩, scr_id hk⟩) (fun L1 f1 H locs hp hw => ?_)
  obtain ⟨hDy, hp⟩ := hp
  have hu := hp
  obtain rfl : _ = L1 := (congrArg Prod.fst hu).symm
  obtain rfl : _ = f1 := (congrArg Prod.snd hu).symm
  obtain ⟨d, hd9, rfl⟩ := day_ix hDy
  refine lv_aload_n hx hb dX6_rate_11 rfl (lv_at hl 1 rfl) ?_
  refine lv_iload_n hx hb dX6_rate_12 rfl (lv_at hl 4 rfl) ?_
  refine px_v hw (vx_runV (As := [.int kn]) (rest := []) CF (c_demandKnown l hst g L _ a k hk kn _) (cwV 1 hts gX6_rate_X6_demandKnown rfl rfl rfl (by decide +kernel) ⟨Nat.le_of_ble_eq_true rfl, Nat.le_of_ble_eq_true rfl⟩) (pm_preV hw hs (pm_recv hw (hk.q (i := 0) (dC (by decide))) (hk.f (i := 0) (dC (by decide))) rfl)) rfl rfl hl.1 rfl (lv_room (Nat.le_of_ble_eq_true rfl)) dX6_rate_13 ⟨Nat.le_of_ble_eq_true rfl, Nat.le_of_ble_eq_true rfl⟩) htab hlocks ⟨Nat.le_of_ble_eq_true rfl, Nat.le_of_ble_eq_true rfl⟩ (fun E u hE => by obtain ⟨rfl, hn9, rfl⟩ := hE; exact ⟨Or.inr ⟨pol_ok hi hpi, Or.inr ⟨hDy, Or.inl ⟨hn9, rfl⟩⟩⟩, scr_id hk⟩) (fun L1 f1 H locs hp hw => ?_)
  obtain ⟨hKn, hp⟩ := hp
  have hu := hp
  obtain rfl : _ = L1 := (congrArg Prod.fst hu).symm
  obtain rfl : _ = f1 := (congrArg Prod.snd hu).symm
  refine lv_aload_n hx hb dX6_rate_16 rfl (lv_at hl 1 rfl) ?_
  refine lv_aload hx hb dX6_rate_17 (lv_at hl 0 rfl) ?_
  refine lv_iload_n hx hb dX6_rate_19 rfl (lv_at hl 3 rfl) ?_
  refine lv_iload_n hx hb dX6_rate_20 rfl (lv_at hl 4 rfl) ?_
  refine pc_v hw (va_runV (As := [.ref (a (20 + 3 * i)), .int (nI d), .int kn]) (rest := []) CF ((c_layVersion l g L _ a k hk i hpi h4 ho hkd (nI d) kn) _) (cwV 3 hts gX6_rate_X6_layVersion rfl rfl rfl (by decide +kernel) ⟨Nat.le_of_ble_eq_true rfl, Nat.le_of_ble_eq_true rfl⟩) (pm_preV hw hs (pm_recv hw (hk.q (i := 0) (dC (by decide))) (hk.f (i := 0) (dC (by decide))) rfl)) rfl rfl hl.1 rfl (lv_room (Nat.le_of_ble_eq_true rfl)) dX6_rate_21 ⟨Nat.le_of_ble_eq_true rfl, Nat.le_of_ble_eq_true rfl⟩) (fun L1 f1 H locs hp hw => ?_)
  obtain ⟨hu, hk⟩ := hp
  obtain rfl : _ = L1 := hu.symm
  have hk : CW g a (kSt k (verS k i (nI d) kn)) _ f1 := hk
  refine lv_aload_n hx hb dX6_rate_24 rfl (lv_at hl 1 rfl) ?_
  refine lv_aload hx hb dX6_rate_25 (lv_at hl 0 rfl) ?_
  refine lv_iload_n hx hb dX6_rate_27 rfl (lv_at hl 3 rfl) ?_
  refine pc_i hw (va_runV (As := [.ref (a (20 + 3 * i)), .int (nI d)]) (rest := []) CF (c_rateOfVersion l g L _ a (kSt k (verS k i (nI d) kn)) hk i hpi h4 d hd9 _) (cwV 2 hts gX6_rate_X6_rateOfVersion rfl rfl rfl (by decide +kernel) ⟨Nat.le_of_ble_eq_true rfl, Nat.le_of_ble_eq_true rfl⟩) (pm_preV hw hs (pm_recv hw (hk.q (i := 0) (dC (by decide))) (hk.f (i := 0) (dC (by decide))) rfl)) rfl rfl hl.1 rfl (lv_room (Nat.le_of_ble_eq_true rfl)) dX6_rate_28 ⟨Nat.le_of_ble_eq_true rfl, Nat.le_of_ble_eq_true rfl⟩) (fun r L1 f1 H locs hp hw => ?_)
  obtain ⟨hE_28, hu⟩ := hp
  obtain rfl : _ = L1 := (congrArg Prod.fst hu).symm
  obtain rfl : _ = f1 := (congrArg Prod.snd hu).symm
  have hE_28 : r = rateV k i (verS k i (nI d) kn) d := hE_28
  subst hE_28
  exact vx_ret (pr_i (v := (rateV k i (verS k i (nI d) kn) d)) hx hb hr hlocks hw rfl ⟨Nat.le_of_ble_eq_true rfl, Nat.le_of_ble_eq_true rfl⟩ (⟨i, d, hpi, rfl, hd9, rfl, hKn, rfl, scr_st hk⟩) dX6_rate_31)

set_option maxHeartbeats 4000000 in
set_option maxRecDepth 100000 in
theorem c_segments (l : Launch) (hst : l.stackTraces = false) (g : GE) (L : List Nat) (f : Nat → va_E) (a : Nat → Nat) (k : KS) (hk : CW g a k L f) (hi : Iv a k) (x kn : Int32) : Xi l yX6_segments wsX6_segments (rmH 6 2 12) g L f [.ref (a 0), .int x, .int kn] (fun r u => ∃ i rt sm, i < kP k ∧ x = nI i ∧ knP k kn ∧ isYr k i kn rt sm ∧ r = nI (cntS rt 365) ∧ ScrP g a k L u) (fun E u => exL [("java/lang/IndexOutOfBoundsException", polP k x), ("java/lang/IllegalArgumentException", knP k kn)] E ∧ ScrP g a k L u) 2 12 := by
  intro sz
  refine vx_ofW (cc := cX6_segments) (maxL := 4) (ret := (some .int)) (by decide) rfl ?_
  intro p e s m args below meth c s₁ B hml htab hv
  obtain ⟨rfl, hv⟩ := hv
  have hx := B.exec
  have hb := B.bytes
  have hr := B.returns
  have hts := atoms_spec (ws := wsX6_segments) B.pre
  have hown : s.vm.findClass RX6 = some m.cls := findClass_of_methodNamed B.named
  have hlocks := B.notSynchronized
  obtain ⟨rfl, hw, hs⟩ := pm_begin hv
  generalize va_A (va_pl L f) s.heap.size = A at hw hs ⊢
  have CF := (⟨hx, hb, hml, hown, hts⟩ : CallFix p m c cX6_segments 4 s _ wsX6_segments RX6)
  have hin_X6 : ∀ w ∈ wsX60, w ∈ wsX6_segments := by decide +kernel
  have hl := lv_entry ([.ref (a 0), .int x, .int kn]) (n := 4) (Nat.le_of_ble_eq_true rfl)
  rw [lg_entry_eq]
  generalize (lg_sl ([.ref (a 0), .int x, .int kn]) ++ List.replicate (4 - (lg_sl ([.ref (a 0), .int x, .int kn])).length) Slot.unset).toArray = ls at hl ⊢
  have hl : lv_has ls 4 [(0, .ref (a 0)), (1, .int x), (2, .int kn)] := hl
  refine lv_aload_n hx hb dX6_segments_0 rfl (lv_at hl 0 rfl) ?_
  refine lv_iload_n hx hb dX6_segments_1 rfl (lv_at hl 1 rfl) ?_
  refine px_q hw (vx_runV (As := [.int x]) (rest := []) CF (c_policyNumbered l hst g L _ a k hk hi x _) (cwV 1 hts gX6_segments_X6_policyNumbered rfl rfl rfl (by decide +kernel) ⟨Nat.le_of_ble_eq_true rfl, Nat.le_of_ble_eq_true rfl⟩) (pm_preV hw hs (pm_recv hw (hk.q (i := 0) (dC (by decide))) (hk.f (i := 0) (dC (by decide))) rfl)) rfl rfl hl.1 rfl (lv_room (Nat.le_of_ble_eq_true rfl)) dX6_segments_2 ⟨Nat.le_of_ble_eq_true rfl, Nat.le_of_ble_eq_true rfl⟩) htab hlocks ⟨Nat.le_of_ble_eq_true rfl, Nat.le_of_ble_eq_true rfl⟩ (fun E u hE => by obtain ⟨rfl, hn9, rfl⟩ := hE; exact ⟨Or.inl ⟨hn9, rfl⟩, scr_id hk⟩) (fun r L1 f1 H locs hp hw => ?_)
  obtain ⟨i, hpi, rfl, rfl, hu⟩ := hp
  obtain rfl : _ = L1 := (congrArg Prod.fst hu).symm
  obtain rfl : _ = f1 := (congrArg Prod.snd hu).symm
  have h4 : i < 4 := hi.h4 hpi
  have ho := hi.o hpi
  have hkd := hi.kd
  refine lv_astore_n (lv' := [(3, .ref (a (20 + 3 * i))), (0, .ref (a 0)), (1, .int (nI i)), (2, .int kn)]) hx hb dX6_segments_5 rfl hl (by decide) rfl (fun ls hl => ?_)
  refine lv_aload_n hx hb dX6_segments_6 rfl (lv_at hl 1 rfl) ?_
  refine lv_iload_n hx hb dX6_segments_7 rfl (lv_at hl 3 rfl) ?_
  refine px_v hw (vx_runV (As := [.int kn]) (rest := []) CF (c_demandKnown l hst g L _ a k hk kn _) (cwV 1 hts gX6_segments_X6_demandKnown rfl rfl rfl (by decide +kernel) ⟨Nat.le_of_ble_eq_true rfl, Nat.le_of_ble_eq_true rfl⟩) (pm_preV hw hs (pm_recv hw (hk.q (i := 0) (dC (by decide))) (hk.f (i := 0) (dC (by decide))) rfl)) rfl rfl hl.1 rfl (lv_room (Nat.le_of_ble_eq_true rfl)) dX6_segments_8 ⟨Nat.le_of_ble_eq_true rfl, Nat.le_of_ble_eq_true rfl⟩) htab hlocks ⟨Nat.le_of_ble_eq_true rfl, Nat.le_of_ble_eq_true rfl⟩ (fun E u hE => by obtain ⟨rfl, hn9, rfl⟩ := hE; exact ⟨Or.inr ⟨pol_ok hi hpi, Or.inl ⟨hn9, rfl⟩⟩, scr_id hk⟩) (fun L1 f1 H locs hp hw => ?_)
  obtain ⟨hKn, hp⟩ := hp
  have hu := hp
  obtain rfl : _ = L1 := (congrArg Prod.fst hu).symm
  obtain rfl : _ = f1 := (congrArg Prod.snd hu).symm
  refine lv_aload_n hx hb dX6_segments_11 rfl (lv_at hl 1 rfl) ?_
  refine lv_aload_n hx hb dX6_segments_12 rfl (lv_at hl 0 rfl) ?_
  refine lv_iload_n hx hb dX6_segments_13 rfl (lv_at hl 3 rfl) ?_
  refine pc_v hw (va_runV (As := [.ref (a (20 + 3 * i)), .int kn]) (rest := []) CF (c_layYear l g L _ a k hk i hpi h4 ho hkd kn _) (cwV 2 hts gX6_segments_X6_layYear rfl rfl rfl (by decide +kernel) ⟨Nat.le_of_ble_eq_true rfl, Nat.le_of_ble_eq_true rfl⟩) (pm_preV hw hs (pm_recv hw (hk.q (i := 0) (dC (by decide))) (hk.f (i := 0) (dC (by decide))) rfl)) rfl rfl hl.1 rfl (lv_room (Nat.le_of_ble_eq_true rfl)) dX6_segments_14 ⟨Nat.le_of_ble_eq_true rfl, Nat.le_of_ble_eq_true rfl⟩) (fun L1 f1 H locs hp hw => ?_)
  obtain ⟨hu, hk⟩ := hp
  obtain rfl : _ = L1 := hu.symm
  obtain ⟨st, rt, sm, hyr, hk⟩ := yr_ex hk
  refine lv_aload_n hx hb dX6_segments_17 rfl (lv_at hl 1 rfl) ?_
  refine pm_get (ci := 8) (v := .ref (a 5)) (C := RX6) (T := TX6) (N := 6) hx hb hts hin_X6 hown hw (hk.q (i := 0) (dC (by decide))) (hk.f (i := 0) (dC (by decide))) rfl 4 (by decide) (hts (.fieldLink RX6 36 "Backdater" "year" "LBackdater$Year;") (by decide +kernel)) (fun _ h9 => h9) rfl dX6_segments_18 ?_
  refine pc_i hw (va_runV (As := []) (rest := []) CF (c_countSegments l g L _ a (kScr k st rt sm) hk _) (cwV 0 hts gX6_segments_X5_countSegments rfl rfl rfl (by decide +kernel) ⟨Nat.le_of_ble_eq_true rfl, Nat.le_of_ble_eq_true rfl⟩) (pm_preV hw hs (pm_recv hw (hk.q (i := 5) (dC (by decide))) (hk.f (i := 5) (dC (by decide))) rfl)) rfl rfl hl.1 rfl (lv_room (Nat.le_of_ble_eq_true rfl)) dX6_segments_21 ⟨Nat.le_of_ble_eq_true rfl, Nat.le_of_ble_eq_true rfl⟩) (fun r L1 f1 H locs hp hw => ?_)
  obtain ⟨hE_21, hu⟩ := hp
  obtain rfl : _ = L1 := (congrArg Prod.fst hu).symm
  obtain rfl : _ = f1 := (congrArg Prod.snd hu).symm
  rw [kScr_2] at hE_21
  subst hE_21
  exact vx_ret (pr_i (v := (nI (cntS rt 365))) hx hb hr hlocks hw rfl ⟨Nat.le_of_ble_eq_true rfl, Nat.le_of_ble_eq_true rfl⟩ (⟨i, rt, sm, hpi, rfl, hKn, hyr, rfl, scr_yr hyr hk⟩) dX6_segments_24)

set_option maxHeartbeats 4000000 in
set_option maxRecDepth 100000 in
theorem c_segmentStart (l : Launch) (hst : l.stackTraces = false) (g : GE) (L : List Nat) (f : Nat → va_E) (a : Nat → Nat) (k : KS) (hk : CW g a k L f) (hi : Iv a k) (x sg kn : Int32) : Xi l yX6_segmentStart wsX6_segmentStart (rmH 7 3 18) g L f [.ref (a 0), .int x, .int sg, .int kn] (fun r u => ∃ i d rt sm, i < kP k ∧ x = nI i ∧ knP k kn ∧ isYr k i kn rt sm ∧ segOf rt sg d ∧ r = nI d ∧ ScrP g a k L u) (fun E u => exL [("java/lang/IllegalArgumentException", knP k kn), ("java/lang/IndexOutOfBoundsException", polP k x), ("java/lang/IndexOutOfBoundsException", segP k x kn sg)] E ∧ ScrP g a k L u) 3 18 := by
  intro sz
  refine vx_ofW (cc := cX6_segmentStart) (maxL := 4) (ret := (some .int)) (by decide) rfl ?_
  intro p e s m args below meth c s₁ B hml htab hv
  obtain ⟨rfl, hv⟩ := hv
  have hx := B.exec
  have hb := B.bytes
  have hr := B.returns
  have hts := atoms_spec (ws := wsX6_segmentStart) B.pre
  have hown : s.vm.findClass RX6 = some m.cls := findClass_of_methodNamed B.named
  have hlocks := B.notSynchronized
  obtain ⟨rfl, hw, hs⟩ := pm_begin hv
  generalize va_A (va_pl L f) s.heap.size = A at hw hs ⊢
  have CF := (⟨hx, hb, hml, hown, hts⟩ : CallFix p m c cX6_segmentStart 4 s _ wsX6_segmentStart RX6)
  have hin_X6 : ∀ w ∈ wsX60, w ∈ wsX6_segmentStart := by decide +kernel
  have hl := lv_entry ([.ref (a 0), .int x, .int sg, .int kn]) (n := 4) (Nat.le_of_ble_eq_true rfl)
  rw [lg_entry_eq]
  generalize (lg_sl ([.ref (a 0), .int x, .int sg, .int kn]) ++ List.replicate (4 - (lg_sl ([.ref (a 0), .int x, .int sg, .int kn])).length) Slot.unset).toArray = ls at hl ⊢
  have hl : lv_has ls 4 [(0, .ref (a 0)), (1, .int x), (2, .int sg), (3, .int kn)] := hl
  refine lv_aload_n hx hb dX6_segmentStart_0 rfl (lv_at hl 0 rfl) ?_
  refine lv_iload_n hx hb dX6_segmentStart_1 rfl (lv_at hl 3 rfl) ?_
  refine px_v hw (vx_runV (As := [.int kn]) (rest := []) CF (c_demandKnown l hst g L _ a k hk kn _) (cwV 1 hts gX6_segmentStart_X6_demandKnown rfl rfl rfl (by decide +kernel) ⟨Nat.le_of_ble_eq_true rfl, Nat.le_of_ble_eq_true rfl⟩) (pm_preV hw hs (pm_recv hw (hk.q (i := 0) (dC (by decide))) (hk.f (i := 0) (dC (by decide))) rfl)) rfl rfl hl.1 rfl (lv_room (Nat.le_of_ble_eq_true rfl)) dX6_segmentStart_2 ⟨Nat.le_of_ble_eq_true rfl, Nat.le_of_ble_eq_true rfl⟩) htab hlocks ⟨Nat.le_of_ble_eq_true rfl, Nat.le_of_ble_eq_true rfl⟩ (fun E u hE => by obtain ⟨rfl, hn9, rfl⟩ := hE; exact ⟨Or.inl ⟨hn9, rfl⟩, scr_id hk⟩) (fun L1 f1 H locs hp hw => ?_)
  obtain ⟨hKn, hp⟩ := hp
  have hu := hp
  obtain rfl : _ = L1 := (congrArg Prod.fst hu).symm
  obtain rfl : _ = f1 := (congrArg Prod.snd hu).symm
  refine lv_aload_n hx hb dX6_segmentStart_5 rfl (lv_at hl 0 rfl) ?_
  refine lv_iload_n hx hb dX6_segmentStart_6 rfl (lv_at hl 1 rfl) ?_
  refine lv_iload_n hx hb dX6_segmentStart_7 rfl (lv_at hl 2 rfl) ?_
  refine lv_iload_n hx hb dX6_segmentStart_8 rfl (lv_at hl 3 rfl) ?_
  refine px_i hw (vx_runV (As := [.int x, .int sg, .int kn]) (rest := []) CF (c_startOfSegment l hst g L _ a k hk hi x sg kn _) (cwV 3 hts gX6_segmentStart_X6_startOfSegment rfl rfl rfl (by decide +kernel) ⟨Nat.le_of_ble_eq_true rfl, Nat.le_of_ble_eq_true rfl⟩) (pm_preV hw hs (pm_recv hw (hk.q (i := 0) (dC (by decide))) (hk.f (i := 0) (dC (by decide))) rfl)) rfl rfl hl.1 rfl (lv_room (Nat.le_of_ble_eq_true rfl)) dX6_segmentStart_9 ⟨Nat.le_of_ble_eq_true rfl, Nat.le_of_ble_eq_true rfl⟩) htab hlocks ⟨Nat.le_of_ble_eq_true rfl, Nat.le_of_ble_eq_true rfl⟩ (fun E u hE => ⟨Or.inr ⟨hKn, hE.1⟩, hE.2⟩) (fun r L1 f1 H locs hp hw => ?_)
  obtain ⟨i, d, st, rt, sm, hpi, rfl, hyr, hsg, rfl, hu, hk⟩ := hp
  obtain rfl : _ = L1 := hu.symm
  exact vx_ret (pr_i (v := (nI d)) hx hb hr hlocks hw rfl ⟨Nat.le_of_ble_eq_true rfl, Nat.le_of_ble_eq_true rfl⟩ (⟨i, d, rt, sm, hpi, rfl, hKn, hyr, hsg, rfl, scr_yr hyr hk⟩) dX6_segmentStart_12)

set_option maxHeartbeats 4000000 in
set_option maxRecDepth 100000 in
theorem c_segmentPremium (l : Launch) (hst : l.stackTraces = false) (g : GE) (L : List Nat) (f : Nat → va_E) (a : Nat → Nat) (k : KS) (hk : CW g a k L f) (hi : Iv a k) (x sg kn : Int32) : Xi l yX6_segmentPremium wsX6_segmentPremium (rmH 7 3 18) g L f [.ref (a 0), .int x, .int sg, .int kn] (fun r u => ∃ i d rt sm, i < kP k ∧ x = nI i ∧ knP k kn ∧ isYr k i kn rt sm ∧ segOf rt sg d ∧ r = (sm (endD rt d) / 365 - sm d / 365) ∧ ScrP g a k L u) (fun E u => exL [("java/lang/IllegalArgumentException", knP k kn), ("java/lang/IndexOutOfBoundsException", polP k x), ("java/lang/IndexOutOfBoundsException", segP k x kn sg)] E ∧ ScrP g a k L u) 3 18 := by
  intro sz
  refine vx_ofW (cc := cX6_segmentPremium) (maxL := 4) (ret := (some .int)) (by decide) rfl ?_
  intro p e s m args below meth c s₁ B hml htab hv
  obtain ⟨rfl, hv⟩ := hv
  have hx := B.exec
  have hb := B.bytes
  have hr := B.returns
  have hts := atoms_spec (ws := wsX6_segmentPremium) B.pre
  have hown : s.vm.findClass RX6 = some m.cls := findClass_of_methodNamed B.named
  have hlocks := B.notSynchronized
  obtain ⟨rfl, hw, hs⟩ := pm_begin hv
  generalize va_A (va_pl L f) s.heap.size = A at hw hs ⊢
  have CF := (⟨hx, hb, hml, hown, hts⟩ : CallFix p m c cX6_segmentPremium 4 s _ wsX6_segmentPremium RX6)
  have hin_X6 : ∀ w ∈ wsX60, w ∈ wsX6_segmentPremium := by decide +kernel
  have hl := lv_entry ([.ref (a 0), .int x, .int sg, .int kn]) (n := 4) (Nat.le_of_ble_eq_true rfl)
  rw [lg_entry_eq]
  generalize (lg_sl ([.ref (a 0), .int x, .int sg, .int kn]) ++ List.replicate (4 - (lg_sl ([.ref (a 0), .int x, .int sg, .int kn])).length) Slot.unset).toArray = ls at hl ⊢
  have hl : lv_has ls 4 [(0, .ref (a 0)), (1, .int x), (2, .int sg), (3, .int kn)] := hl
  refine lv_aload_n hx hb dX6_segmentPremium_0 rfl (lv_at hl 0 rfl) ?_
  refine lv_iload_n hx hb dX6_segmentPremium_1 rfl (lv_at hl 3 rfl) ?_
  refine px_v hw (vx_runV (As := [.int kn]) (rest := []) CF (c_demandKnown l hst g L _ a k hk kn _) (cwV 1 hts gX6_segmentPremium_X6_demandKnown rfl rfl rfl (by decide +kernel) ⟨Nat.le_of_ble_eq_true rfl, Nat.le_of_ble_eq_true rfl⟩) (pm_preV hw hs (pm_recv hw (hk.q (i := 0) (dC (by decide))) (hk.f (i := 0) (dC (by decide))) rfl)) rfl rfl hl.1 rfl (lv_room (Nat.le_of_ble_eq_true rfl)) dX6_segmentPremium_2 ⟨Nat.le_of_ble_eq_true rfl, Nat.le_of_ble_eq_true rfl⟩) htab hlocks ⟨Nat.le_of_ble_eq_true rfl, Nat.le_of_ble_eq_true rfl⟩ (fun E u hE => by obtain ⟨rfl, hn9, rfl⟩ := hE; exact ⟨Or.inl ⟨hn9, rfl⟩, scr_id hk⟩) (fun L1 f1 H locs hp hw => ?_)
  obtain ⟨hKn, hp⟩ := hp
  have hu := hp
  obtain rfl : _ = L1 := (congrArg Prod.fst hu).symm
  obtain rfl : _ = f1 := (congrArg Prod.snd hu).symm
  refine lv_aload_n hx hb dX6_segmentPremium_5 rfl (lv_at hl 0 rfl) ?_
  refine pm_get (ci := 8) (v := .ref (a 5)) (C := RX6) (T := TX6) (N := 6) hx hb hts hin_X6 hown hw (hk.q (i := 0) (dC (by decide))) (hk.f (i := 0) (dC (by decide))) rfl 4 (by decide) (hts (.fieldLink RX6 36 "Backdater" "year" "LBackdater$Year;") (by decide +kernel)) (fun _ h9 => h9) rfl dX6_segmentPremium_6 ?_
  refine lv_aload_n hx hb dX6_segmentPremium_9 rfl (lv_at hl 0 rfl) ?_
  refine lv_iload_n hx hb dX6_segmentPremium_10 rfl (lv_at hl 1 rfl) ?_
  refine lv_iload_n hx hb dX6_segmentPremium_11 rfl (lv_at hl 2 rfl) ?_
  refine lv_iload_n hx hb dX6_segmentPremium_12 rfl (lv_at hl 3 rfl) ?_
  refine px_i hw (vx_runV (As := [.int x, .int sg, .int kn]) (rest := [.ref (a 5)]) CF (c_startOfSegment l hst g L _ a k hk hi x sg kn _) (cwV 3 hts gX6_segmentPremium_X6_startOfSegment rfl rfl rfl (by decide +kernel) ⟨Nat.le_of_ble_eq_true rfl, Nat.le_of_ble_eq_true rfl⟩) (pm_preV hw hs (pm_recv hw (hk.q (i := 0) (dC (by decide))) (hk.f (i := 0) (dC (by decide))) rfl)) rfl rfl hl.1 rfl (lv_room (Nat.le_of_ble_eq_true rfl)) dX6_segmentPremium_13 ⟨Nat.le_of_ble_eq_true rfl, Nat.le_of_ble_eq_true rfl⟩) htab hlocks ⟨Nat.le_of_ble_eq_true rfl, Nat.le_of_ble_eq_true rfl⟩ (fun E u hE => ⟨Or.inr ⟨hKn, hE.1⟩, hE.2⟩) (fun r L1 f1 H locs hp hw => ?_)
  obtain ⟨i, d, st, rt, sm, hpi, rfl, hyr, hsg, rfl, hu, hk⟩ := hp
  obtain rfl : _ = L1 := hu.symm
  refine pc_i hw (va_runV (As := [.int (nI d)]) (rest := []) CF (c_premiumFrom l g L _ a (kScr k st rt sm) hk d hsg.1 _) (cwV 1 hts gX6_segmentPremium_X5_premiumOfSegmentFrom rfl rfl rfl (by decide +kernel) ⟨Nat.le_of_ble_eq_true rfl, Nat.le_of_ble_eq_true rfl⟩) (pm_preV hw hs (pm_recv hw (hk.q (i := 5) (dC (by decide))) (hk.f (i := 5) (dC (by decide))) rfl)) rfl rfl hl.1 rfl (lv_room (Nat.le_of_ble_eq_true rfl)) dX6_segmentPremium_16 ⟨Nat.le_of_ble_eq_true rfl, Nat.le_of_ble_eq_true rfl⟩) (fun r L1 f1 H locs hp hw => ?_)
  obtain ⟨hE_16, hu⟩ := hp
  obtain rfl : _ = L1 := (congrArg Prod.fst hu).symm
  obtain rfl : _ = f1 := (congrArg Prod.snd hu).symm
  rw [kScr_2, kScr_3] at hE_16
  subst hE_16
  exact vx_ret (pr_i (v := (sm (endD rt d) / 365 - sm d / 365)) hx hb hr hlocks hw rfl ⟨Nat.le_of_ble_eq_true rfl, Nat.le_of_ble_eq_true rfl⟩ (⟨i, d, rt, sm, hpi, rfl, hKn, hyr, hsg, rfl, scr_yr hyr hk⟩) dX6_segmentPremium_19)

set_option maxHeartbeats 4000000 in
set_option maxRecDepth 100000 in
theorem c_premium (l : Launch) (hst : l.stackTraces = false) (g : GE) (L : List Nat) (f : Nat → va_E) (a : Nat → Nat) (k : KS) (hk : CW g a k L f) (hi : Iv a k) (x kn : Int32) : Xi l yX6_premium wsX6_premium (rmH 7 2 12) g L f [.ref (a 0), .int x, .int kn] (fun r u => ∃ i rt sm, i < kP k ∧ x = nI i ∧ knP k kn ∧ isYr k i kn rt sm ∧ r = (sumP rt sm 365) ∧ ScrP g a k L u) (fun E u => exL [("java/lang/IndexOutOfBoundsException", polP k x), ("java/lang/IllegalArgumentException", knP k kn)] E ∧ ScrP g a k L u) 2 12 := by
  intro sz
  refine vx_ofW (cc := cX6_premium) (maxL := 4) (ret := (some .int)) (by decide) rfl ?_
  intro p e s m args below meth c s₁ B hml htab hv
  obtain ⟨rfl, hv⟩ := hv
  have hx := B.exec
  have hb := B.bytes
  have hr := B.returns
  have hts := atoms_spec (ws := wsX6_premium) B.pre
  have hown : s.vm.findClass RX6 = some m.cls := findClass_of_methodNamed B.named
  have hlocks := B.notSynchronized
  obtain ⟨rfl, hw, hs⟩ := pm_begin hv
  generalize va_A (va_pl L f) s.heap.size = A at hw hs ⊢
  have CF := (⟨hx, hb, hml, hown, hts⟩ : CallFix p m c cX6_premium 4 s _ wsX6_premium RX6)
  have hin_X6 : ∀ w ∈ wsX60, w ∈ wsX6_premium := by decide +kernel
  have hl := lv_entry ([.ref (a 0), .int x, .int kn]) (n := 4) (Nat.le_of_ble_eq_true rfl)
  rw [lg_entry_eq]
  generalize (lg_sl ([.ref (a 0), .int x, .int kn]) ++ List.replicate (4 - (lg_sl ([.ref (a 0), .int x, .int kn])).length) Slot.unset).toArray = ls at hl ⊢
  have hl : lv_has ls 4 [(0, .ref (a 0)), (1, .int x), (2, .int kn)] := hl
  refine lv_aload_n hx hb dX6_premium_0 rfl (lv_at hl 0 rfl) ?_
  refine lv_iload_n hx hb dX6_premium_1 rfl (lv_at hl 1 rfl) ?_
  refine px_q hw (vx_runV (As := [.int x]) (rest := []) CF (c_policyNumbered l hst g L _ a k hk hi x _) (cwV 1 hts gX6_premium_X6_policyNumbered rfl rfl rfl (by decide +kernel) ⟨Nat.le_of_ble_eq_true rfl, Nat.le_of_ble_eq_true rfl⟩) (pm_preV hw hs (pm_recv hw (hk.q (i := 0) (dC (by decide))) (hk.f (i := 0) (dC (by decide))) rfl)) rfl rfl hl.1 rfl (lv_room (Nat.le_of_ble_eq_true rfl)) dX6_premium_2 ⟨Nat.le_of_ble_eq_true rfl, Nat.le_of_ble_eq_true rfl⟩) htab hlocks ⟨Nat.le_of_ble_eq_true rfl, Nat.le_of_ble_eq_true rfl⟩ (fun E u hE => by obtain ⟨rfl, hn9, rfl⟩ := hE; exact ⟨Or.inl ⟨hn9, rfl⟩, scr_id hk⟩) (fun r L1 f1 H locs hp hw => ?_)
  obtain ⟨i, hpi, rfl, rfl, hu⟩ := hp
  obtain rfl : _ = L1 := (congrArg Prod.fst hu).symm
  obtain rfl : _ = f1 := (congrArg Prod.snd hu).symm
  have h4 : i < 4 := hi.h4 hpi
  have ho := hi.o hpi
  have hkd := hi.kd
  refine lv_astore_n (lv' := [(3, .ref (a (20 + 3 * i))), (0, .ref (a 0)), (1, .int (nI i)), (2, .int kn)]) hx hb dX6_premium_5 rfl hl (by decide) rfl (fun ls hl => ?_)
  refine lv_aload_n hx hb dX6_premium_6 rfl (lv_at hl 1 rfl) ?_
  refine lv_iload_n hx hb dX6_premium_7 rfl (lv_at hl 3 rfl) ?_
  refine px_v hw (vx_runV (As := [.int kn]) (rest := []) CF (c_demandKnown l hst g L _ a k hk kn _) (cwV 1 hts gX6_premium_X6_demandKnown rfl rfl rfl (by decide +kernel) ⟨Nat.le_of_ble_eq_true rfl, Nat.le_of_ble_eq_true rfl⟩) (pm_preV hw hs (pm_recv hw (hk.q (i := 0) (dC (by decide))) (hk.f (i := 0) (dC (by decide))) rfl)) rfl rfl hl.1 rfl (lv_room (Nat.le_of_ble_eq_true rfl)) dX6_premium_8 ⟨Nat.le_of_ble_eq_true rfl, Nat.le_of_ble_eq_true rfl⟩) htab hlocks ⟨Nat.le_of_ble_eq_true rfl, Nat.le_of_ble_eq_true rfl⟩ (fun E u hE => by obtain ⟨rfl, hn9, rfl⟩ := hE; exact ⟨Or.inr ⟨pol_ok hi hpi, Or.inl ⟨hn9, rfl⟩⟩, scr_id hk⟩) (fun L1 f1 H locs hp hw => ?_)
  obtain ⟨hKn, hp⟩ := hp
  have hu := hp
  obtain rfl : _ = L1 := (congrArg Prod.fst hu).symm
  obtain rfl : _ = f1 := (congrArg Prod.snd hu).symm
  refine lv_aload_n hx hb dX6_premium_11 rfl (lv_at hl 1 rfl) ?_
  refine lv_aload_n hx hb dX6_premium_12 rfl (lv_at hl 0 rfl) ?_
  refine lv_iload_n hx hb dX6_premium_13 rfl (lv_at hl 3 rfl) ?_
  refine pc_i hw (va_runV (As := [.ref (a (20 + 3 * i)), .int kn]) (rest := []) CF (c_premiumBySegments l g L _ a k hk i hpi h4 ho hkd kn _) (cwV 2 hts gX6_premium_X6_premiumBySegments rfl rfl rfl (by decide +kernel) ⟨Nat.le_of_ble_eq_true rfl, Nat.le_of_ble_eq_true rfl⟩) (pm_preV hw hs (pm_recv hw (hk.q (i := 0) (dC (by decide))) (hk.f (i := 0) (dC (by decide))) rfl)) rfl rfl hl.1 rfl (lv_room (Nat.le_of_ble_eq_true rfl)) dX6_premium_14 ⟨Nat.le_of_ble_eq_true rfl, Nat.le_of_ble_eq_true rfl⟩) (fun r L1 f1 H locs hp hw => ?_)
  obtain ⟨st, rt, sm, hyr, hE_14, hu, hk⟩ := hp
  obtain rfl : _ = L1 := hu.symm
  subst hE_14
  exact vx_ret (pr_i (v := (sumP rt sm 365)) hx hb hr hlocks hw rfl ⟨Nat.le_of_ble_eq_true rfl, Nat.le_of_ble_eq_true rfl⟩ (⟨i, rt, sm, hpi, rfl, hKn, hyr, rfl, scr_yr hyr hk⟩) dX6_premium_17)

set_option maxHeartbeats 4000000 in
set_option maxRecDepth 100000 in
theorem c_premiumByDays (l : Launch) (hst : l.stackTraces = false) (g : GE) (L : List Nat) (f : Nat → va_E) (a : Nat → Nat) (k : KS) (hk : CW g a k L f) (hi : Iv a k) (x kn : Int32) : Xi l yX6_premiumByDays wsX6_premiumByDays (rmH 6 2 12) g L f [.ref (a 0), .int x, .int kn] (fun r u => ∃ i, i < kP k ∧ x = nI i ∧ knP k kn ∧ r = dSum k i kn 365 / 365 ∧ ScrP g a k L u) (fun E u => exL [("java/lang/IndexOutOfBoundsException", polP k x), ("java/lang/IllegalArgumentException", knP k kn)] E ∧ ScrP g a k L u) 2 12 := by
  intro sz
  refine vx_ofW (cc := cX6_premiumByDays) (maxL := 6) (ret := (some .int)) (by decide) rfl ?_
  intro p e s m args below meth c s₁ B hml htab hv
  obtain ⟨rfl, hv⟩ := hv
  have hx := B.exec
  have hb := B.bytes
  have hr := B.returns
  have hts := atoms_spec (ws := wsX6_premiumByDays) B.pre
  have hown : s.vm.findClass RX6 = some m.cls := findClass_of_methodNamed B.named
  have hlocks := B.notSynchronized
  obtain ⟨rfl, hw, hs⟩ := pm_begin hv
  generalize va_A (va_pl L f) s.heap.size = A at hw hs ⊢
  have CF := (⟨hx, hb, hml, hown, hts⟩ : CallFix p m c cX6_premiumByDays 6 s _ wsX6_premiumByDays RX6)
  have hin_X6 : ∀ w ∈ wsX60, w ∈ wsX6_premiumByDays := by decide +kernel
  have hl := lv_entry ([.ref (a 0), .int x, .int kn]) (n := 6) (Nat.le_of_ble_eq_true rfl)
  rw [lg_entry_eq]
  generalize (lg_sl ([.ref (a 0), .int x, .int kn]) ++ List.replicate (6 - (lg_sl ([.ref (a 0), .int x, .int kn])).length) Slot.unset).toArray = ls at hl ⊢
  have hl : lv_has ls 6 [(0, .ref (a 0)), (1, .int x), (2, .int kn)] := hl
  refine lv_aload_n hx hb dX6_premiumByDays_0 rfl (lv_at hl 0 rfl) ?_
  refine lv_iload_n hx hb dX6_premiumByDays_1 rfl (lv_at hl 1 rfl) ?_
  refine px_q hw (vx_runV (As := [.int x]) (rest := []) CF (c_policyNumbered l hst g L _ a k hk hi x _) (cwV 1 hts gX6_premiumByDays_X6_policyNumbered rfl rfl rfl (by decide +kernel) ⟨Nat.le_of_ble_eq_true rfl, Nat.le_of_ble_eq_true rfl⟩) (pm_preV hw hs (pm_recv hw (hk.q (i := 0) (dC (by decide))) (hk.f (i := 0) (dC (by decide))) rfl)) rfl rfl hl.1 rfl (lv_room (Nat.le_of_ble_eq_true rfl)) dX6_premiumByDays_2 ⟨Nat.le_of_ble_eq_true rfl, Nat.le_of_ble_eq_true rfl⟩) htab hlocks ⟨Nat.le_of_ble_eq_true rfl, Nat.le_of_ble_eq_true rfl⟩ (fun E u hE => by obtain ⟨rfl, hn9, rfl⟩ := hE; exact ⟨Or.inl ⟨hn9, rfl⟩, scr_id hk⟩) (fun r L1 f1 H locs hp hw => ?_)
  obtain ⟨i, hpi, rfl, rfl, hu⟩ := hp
  obtain rfl : _ = L1 := (congrArg Prod.fst hu).symm
  obtain rfl : _ = f1 := (congrArg Prod.snd hu).symm
  have h4 : i < 4 := hi.h4 hpi
  have ho := hi.o hpi
  have hkd := hi.kd
  refine lv_astore_n (lv' := [(3, .ref (a (20 + 3 * i))), (0, .ref (a 0)), (1, .int (nI i)), (2, .int kn)]) hx hb dX6_premiumByDays_5 rfl hl (by decide) rfl (fun ls hl => ?_)
  refine lv_aload_n hx hb dX6_premiumByDays_6 rfl (lv_at hl 1 rfl) ?_
  refine lv_iload_n hx hb dX6_premiumByDays_7 rfl (lv_at hl 3 rfl) ?_
  refine px_v hw (vx_runV (As := [.int kn]) (rest := []) CF (c_demandKnown l hst g L _ a k hk kn _) (cwV 1 hts gX6_premiumByDays_X6_demandKnown rfl rfl rfl (by decide +kernel) ⟨Nat.le_of_ble_eq_true rfl, Nat.le_of_ble_eq_true rfl⟩) (pm_preV hw hs (pm_recv hw (hk.q (i := 0) (dC (by decide))) (hk.f (i := 0) (dC (by decide))) rfl)) rfl rfl hl.1 rfl (lv_room (Nat.le_of_ble_eq_true rfl)) dX6_premiumByDays_8 ⟨Nat.le_of_ble_eq_true rfl, Nat.le_of_ble_eq_true rfl⟩) htab hlocks ⟨Nat.le_of_ble_eq_true rfl, Nat.le_of_ble_eq_true rfl⟩ (fun E u hE => by obtain ⟨rfl, hn9, rfl⟩ := hE; exact ⟨Or.inr ⟨pol_ok hi hpi, Or.inl ⟨hn9, rfl⟩⟩, scr_id hk⟩) (fun L1 f1 H locs hp hw => ?_)
  obtain ⟨hKn, hp⟩ := hp
  have hu := hp
  obtain rfl : _ = L1 := (congrArg Prod.fst hu).symm
  obtain rfl : _ = f1 := (congrArg Prod.snd hu).symm
  refine lv_iconst (v := 0) hx hb dX6_premiumByDays_11 (by decide) ?_
  refine lv_istore (lv' := [(4, .int 0), (3, .ref (a (20 + 3 * i))), (0, .ref (a 0)), (1, .int (nI i)), (2, .int kn)]) hx hb dX6_premiumByDays_12 hl (by decide) rfl (fun ls hl => ?_)
  refine lv_iconst (v := 0) hx hb dX6_premiumByDays_14 (by decide) ?_
  refine lv_istore (lv' := [(5, .int 0), (4, .int 0), (3, .ref (a (20 + 3 * i))), (0, .ref (a 0)), (1, .int (nI i)), (2, .int kn)]) hx hb dX6_premiumByDays_15 hl (by decide) rfl (fun ls hl => ?_)
  have hk : CW g a (kSt k (k.1 1, k.1 0 2)) L f := by rw [kSt_id]; exact hk
  refine W_loop (σ := Nat × VS) (fun ⟨n, st⟩ H locs ls => ∃ f1 : Nat → va_E, (n ≤ 365) ∧ CW g a (kSt k st) L f1 ∧ PW g A s H locs L f1 ∧ lv_has ls 6 [(5, .int (nI n)), (4, .int (dSum k i kn n)), (0, .ref (a 0)), (3, .ref (a (20 + 3 * i))), (2, .int kn)]) (fun ⟨n, st⟩ => 365 - n) (0, (k.1 1, k.1 0 2)) ⟨_, Nat.zero_le _, hk, hw, lv_sub hl [0, 1, 3, 2, 5] rfl⟩ ?_
  rintro ⟨n, st⟩ H locs ls ⟨f1, hi9, hk, hw, hl⟩ ih_17
  refine lv_iload hx hb dX6_premiumByDays_17 (lv_at hl 0 rfl) ?_
  refine lv_sipush (v := 365) hx hb dX6_premiumByDays_19 (by decide) ?_
  refine lv_icmp_ge (tgt := 51) hx hb dX6_premiumByDays_22 (by decide) (fun c_22 => ?_) (fun c_22 => ?_)
  · have hi5 : n = 365 := by
      have h9 : (365 : Int32) ≤ nI n := c_22
      rw [i32_le, nI_toInt (by omega)] at h9
      have : (365 : Int32).toInt = 365 := by decide
      omega
    refine lv_iload hx hb dX6_premiumByDays_51 (lv_at hl 1 rfl) ?_
    refine lv_sipush (v := 365) hx hb dX6_premiumByDays_53 (by decide) ?_
    refine lv_idiv hx hb dX6_premiumByDays_56 (by decide) ?_
    exact vx_ret (pr_i (v := ((dSum k i kn n) / 365)) hx hb hr hlocks hw rfl ⟨Nat.le_of_ble_eq_true rfl, Nat.le_of_ble_eq_true rfl⟩ (⟨i, hpi, rfl, hKn, by rw [hi5], scr_st hk⟩) dX6_premiumByDays_57)
  · have hd9 : n < 365 := by
      have h9 : ¬ (365 : Int32) ≤ nI n := c_22
      rw [i32_le, nI_toInt (by omega)] at h9
      have : (365 : Int32).toInt = 365 := by decide
      omega
    refine lv_aload_n hx hb dX6_premiumByDays_25 rfl (lv_at hl 2 rfl) ?_
    refine lv_aload_n hx hb dX6_premiumByDays_26 rfl (lv_at hl 3 rfl) ?_
    refine lv_iload hx hb dX6_premiumByDays_27 (lv_at hl 0 rfl) ?_
    refine lv_iload_n hx hb dX6_premiumByDays_29 rfl (lv_at hl 4 rfl) ?_
    refine pc_v hw (va_runV (As := [.ref (a (20 + 3 * i)), .int (nI n), .int kn]) (rest := []) CF (c_layVersion l g L _ a (kSt k st) hk i hpi h4 ho hkd (nI n) kn _) (cwV 3 hts gX6_premiumByDays_X6_layVersion rfl rfl rfl (by decide +kernel) ⟨Nat.le_of_ble_eq_true rfl, Nat.le_of_ble_eq_true rfl⟩) (pm_preV hw hs (pm_recv hw (hk.q (i := 0) (dC (by decide))) (hk.f (i := 0) (dC (by decide))) rfl)) rfl rfl hl.1 rfl (lv_room (Nat.le_of_ble_eq_true rfl)) dX6_premiumByDays_30 ⟨Nat.le_of_ble_eq_true rfl, Nat.le_of_ble_eq_true rfl⟩) (fun L1 f1 H locs hp hw => ?_)
    obtain ⟨hu, hk⟩ := hp
    obtain rfl : _ = L1 := hu.symm
    have hk : CW g a (kSt (kSt k st) (layS (kSt k st) kn (nI n) (k.2.2.2 i) (fun _ => 0, 1)).1) _ f1 := hk
    rw [layS_st, kSt_kSt] at hk
    have hk : CW g a (kSt k (verS k i (nI n) kn)) _ f1 := hk
    refine lv_iload hx hb dX6_premiumByDays_33 (lv_at hl 1 rfl) ?_
    refine lv_aload_n hx hb dX6_premiumByDays_35 rfl (lv_at hl 2 rfl) ?_
    refine lv_aload_n hx hb dX6_premiumByDays_36 rfl (lv_at hl 3 rfl) ?_
    refine lv_iload hx hb dX6_premiumByDays_37 (lv_at hl 0 rfl) ?_
    refine pc_i hw (va_runV (As := [.ref (a (20 + 3 * i)), .int (nI n)]) (rest := [.int (dSum k i kn n)]) CF (c_rateOfVersion l g L _ a (kSt k (verS k i (nI n) kn)) hk i hpi h4 n hd9 _) (cwV 2 hts gX6_premiumByDays_X6_rateOfVersion rfl rfl rfl (by decide +kernel) ⟨Nat.le_of_ble_eq_true rfl, Nat.le_of_ble_eq_true rfl⟩) (pm_preV hw hs (pm_recv hw (hk.q (i := 0) (dC (by decide))) (hk.f (i := 0) (dC (by decide))) rfl)) rfl rfl hl.1 rfl (lv_room (Nat.le_of_ble_eq_true rfl)) dX6_premiumByDays_39 ⟨Nat.le_of_ble_eq_true rfl, Nat.le_of_ble_eq_true rfl⟩) (fun r L1 f1 H locs hp hw => ?_)
    obtain ⟨hE_39, hu⟩ := hp
    obtain rfl : _ = L1 := (congrArg Prod.fst hu).symm
    obtain rfl : _ = f1 := (congrArg Prod.snd hu).symm
    have hE_39 : r = rateV k i (verS k i (nI n) kn) n := hE_39
    subst hE_39
    refine lv_iadd hx hb dX6_premiumByDays_42 ?_
    refine lv_istore (lv' := [(4, .int ((dSum k i kn n) + (rateV k i (verS k i (nI n) kn) n))), (5, .int (nI n)), (0, .ref (a 0)), (3, .ref (a (20 + 3 * i))), (2, .int kn)]) hx hb dX6_premiumByDays_43 hl (by decide) rfl (fun ls hl => ?_)
    refine lv_iinc (v := (nI (n + 1))) (lv' := [(5, .int (nI (n + 1))), (4, .int ((dSum k i kn n) + (rateV k i (verS k i (nI n) kn) n))), (0, .ref (a 0)), (3, .ref (a (20 + 3 * i))), (2, .int kn)]) hx hb dX6_premiumByDays_45 hl (k := 1) rfl (nI_1 n) (by decide) rfl (fun ls hl => ?_)
    refine lv_goto (tgt := 17) hx hb dX6_premiumByDays_48 (by decide) ?_
    exact ih_17 (n + 1, verS k i (nI n) kn) _ _ _ (by dsimp only; omega) ⟨_, by omega, hk, hw, lv_sub hl [0, 1, 2, 3, 4] rfl⟩

theorem kScr_kW11 (k : KS) (st : VS) (rt sm : Nat → Int32) (i : Nat) (x : Int32) : kW (kScr k st rt sm) 11 i x = kScr (kW k 11 i x) st rt sm := by
  have e : ∀ (f : Nat → Nat → Int32) (z : Nat → Int32), va_up (va_up (va_up (va_up (va_up f 2 rt) 3 sm) 1 st.1) 0 (upd (va_up (va_up (va_up f 2 rt) 3 sm) 1 st.1 0) 2 st.2)) 11 z = va_up (va_up (va_up (va_up (va_up f 11 z) 2 rt) 3 sm) 1 st.1) 0 (upd (va_up (va_up (va_up f 2 rt) 3 sm) 1 st.1 0) 2 st.2) := by
    intro f z
    funext c
    by_cases h0 : c = 0
    · subst h0
      rw [pu_s, pu_n (by decide) pu_s]
    by_cases h1 : c = 1
    · subst h1
      rw [pu_n (by decide) pu_s, pu_n (by decide) (pu_n (by decide) pu_s)]
    by_cases h2 : c = 2
    · subst h2
      rw [pu_n (by decide) (pu_n (by decide) (pu_n (by decide) pu_s)), pu_n (by decide) (pu_n (by decide) (pu_n (by decide) (pu_n (by decide) pu_s)))]
    by_cases h3 : c = 3
    · subst h3
      rw [pu_n (by decide) (pu_n (by decide) pu_s), pu_n (by decide) (pu_n (by decide) (pu_n (by decide) pu_s))]
    by_cases h11 : c = 11
    · subst h11
      rw [pu_s, pu_n (by decide) (pu_n (by decide) (pu_n (by decide) (pu_n (by decide) pu_s)))]
    · rw [pu_n h11 (pu_n h0 (pu_n h1 (pu_n h3 (pu_n h2 rfl)))), pu_n h0 (pu_n h1 (pu_n h3 (pu_n h2 (pu_n h11 rfl))))]
  exact Prod.ext (e k.1 _) rfl

set_option maxHeartbeats 4000000 in
set_option maxRecDepth 100000 in
theorem c_bill (l : Launch) (hst : l.stackTraces = false) (g : GE) (L : List Nat) (f : Nat → va_E) (a : Nat → Nat) (k : KS) (hk : CW g a k L f) (hi : Iv a k) (x : Int32) : Xi l yX6_bill wsX6_bill (rmH 7 1 6) g L f [.ref (a 0), .int x] (fun r u => ∃ i rt sm, i < kP k ∧ x = nI i ∧ isYr k i (k.1 0 0) rt sm ∧ r = ((sumP rt sm 365) - k.1 11 i) ∧ ScrP g a (kW k 11 i (k.1 11 i + ((sumP rt sm 365) - k.1 11 i))) L u) (fun E u => exL [("java/lang/IndexOutOfBoundsException", polP k x)] E ∧ ScrP g a k L u) 1 6 := by
  intro sz
  refine vx_ofW (cc := cX6_bill) (maxL := 4) (ret := (some .int)) (by decide) rfl ?_
  intro p e s m args below meth c s₁ B hml htab hv
  obtain ⟨rfl, hv⟩ := hv
  have hx := B.exec
  have hb := B.bytes
  have hr := B.returns
  have hts := atoms_spec (ws := wsX6_bill) B.pre
  have hown : s.vm.findClass RX6 = some m.cls := findClass_of_methodNamed B.named
  have hlocks := B.notSynchronized
  obtain ⟨rfl, hw, hs⟩ := pm_begin hv
  generalize va_A (va_pl L f) s.heap.size = A at hw hs ⊢
  have CF := (⟨hx, hb, hml, hown, hts⟩ : CallFix p m c cX6_bill 4 s _ wsX6_bill RX6)
  have hin_X6 : ∀ w ∈ wsX60, w ∈ wsX6_bill := by decide +kernel
  have hin_X2 : ∀ w ∈ wsX20, w ∈ wsX6_bill := by decide +kernel
  have hl := lv_entry ([.ref (a 0), .int x]) (n := 4) (Nat.le_of_ble_eq_true rfl)
  rw [lg_entry_eq]
  generalize (lg_sl ([.ref (a 0), .int x]) ++ List.replicate (4 - (lg_sl ([.ref (a 0), .int x])).length) Slot.unset).toArray = ls at hl ⊢
  have hl : lv_has ls 4 [(0, .ref (a 0)), (1, .int x)] := hl
  refine lv_aload_n hx hb dX6_bill_0 rfl (lv_at hl 0 rfl) ?_
  refine lv_iload_n hx hb dX6_bill_1 rfl (lv_at hl 1 rfl) ?_
  refine px_q hw (vx_runV (As := [.int x]) (rest := []) CF (c_policyNumbered l hst g L _ a k hk hi x _) (cwV 1 hts gX6_bill_X6_policyNumbered rfl rfl rfl (by decide +kernel) ⟨Nat.le_of_ble_eq_true rfl, Nat.le_of_ble_eq_true rfl⟩) (pm_preV hw hs (pm_recv hw (hk.q (i := 0) (dC (by decide))) (hk.f (i := 0) (dC (by decide))) rfl)) rfl rfl hl.1 rfl (lv_room (Nat.le_of_ble_eq_true rfl)) dX6_bill_2 ⟨Nat.le_of_ble_eq_true rfl, Nat.le_of_ble_eq_true rfl⟩) htab hlocks ⟨Nat.le_of_ble_eq_true rfl, Nat.le_of_ble_eq_true rfl⟩ (fun E u hE => by obtain ⟨rfl, hn9, rfl⟩ := hE; exact ⟨Or.inl ⟨hn9, rfl⟩, scr_id hk⟩) (fun r L1 f1 H locs hp hw => ?_)
  obtain ⟨i, hpi, rfl, rfl, hu⟩ := hp
  obtain rfl : _ = L1 := (congrArg Prod.fst hu).symm
  obtain rfl : _ = f1 := (congrArg Prod.snd hu).symm
  have h4 : i < 4 := hi.h4 hpi
  have ho := hi.o hpi
  have hkd := hi.kd
  refine lv_astore_n (lv' := [(2, .ref (a (20 + 3 * i))), (0, .ref (a 0)), (1, .int (nI i))]) hx hb dX6_bill_5 rfl hl (by decide) rfl (fun ls hl => ?_)
  refine lv_aload_n hx hb dX6_bill_6 rfl (lv_at hl 1 rfl) ?_
  refine lv_aload_n hx hb dX6_bill_7 rfl (lv_at hl 0 rfl) ?_
  refine lv_aload_n hx hb dX6_bill_8 rfl (lv_at hl 1 rfl) ?_
  refine pm_get (ci := 8) (v := .int (k.1 0 0)) (C := RX6) (T := TX6) (N := 6) hx hb hts hin_X6 hown hw (hk.q (i := 0) (dC (by decide))) (hk.f (i := 0) (dC (by decide))) rfl 5 (by decide) (hts (.fieldLink RX6 40 "Backdater" "currentDay" "I") (by decide +kernel)) (fun _ h9 => h9) rfl dX6_bill_9 ?_
  refine pc_i hw (va_runV (As := [.ref (a (20 + 3 * i)), .int (k.1 0 0)]) (rest := []) CF (c_premiumBySegments l g L _ a k hk i hpi h4 ho hkd (k.1 0 0) _) (cwV 2 hts gX6_bill_X6_premiumBySegments rfl rfl rfl (by decide +kernel) ⟨Nat.le_of_ble_eq_true rfl, Nat.le_of_ble_eq_true rfl⟩) (pm_preV hw hs (pm_recv hw (hk.q (i := 0) (dC (by decide))) (hk.f (i := 0) (dC (by decide))) rfl)) rfl rfl hl.1 rfl (lv_room (Nat.le_of_ble_eq_true rfl)) dX6_bill_12 ⟨Nat.le_of_ble_eq_true rfl, Nat.le_of_ble_eq_true rfl⟩) (fun r L1 f1 H locs hp hw => ?_)
  obtain ⟨st, rt, sm, hyr, hE_12, hu, hk⟩ := hp
  obtain rfl : _ = L1 := hu.symm
  subst hE_12
  refine lv_aload_n hx hb dX6_bill_15 rfl (lv_at hl 0 rfl) ?_
  refine pm_get (ci := 4) (v := .int (k.1 11 i)) (C := RX2) (T := TX2) (N := 3) hx hb hts hin_X2 hown hw (hk.q (dP hpi h4)) ((hk.f (dP hpi h4)).trans (fP g a _ h4)) rfl 2 (by decide) (hts (.fieldLink RX6 177 "Backdater$Policy" "billedSoFar" "I") (by decide +kernel)) (fun _ h9 => h9) rfl dX6_bill_16 ?_
  refine lv_isub hx hb dX6_bill_19 ?_
  refine lv_istore_n (lv' := [(3, .int ((sumP rt sm 365) - (k.1 11 i))), (2, .ref (a (20 + 3 * i))), (0, .ref (a 0)), (1, .int (nI i))]) hx hb dX6_bill_20 rfl hl (by decide) rfl (fun ls hl => ?_)
  refine lv_aload_n hx hb dX6_bill_21 rfl (lv_at hl 1 rfl) ?_
  refine lv_dup hx hb dX6_bill_22 rfl ?_
  refine pm_get (ci := 4) (v := .int (k.1 11 i)) (C := RX2) (T := TX2) (N := 3) hx hb hts hin_X2 hown hw (hk.q (dP hpi h4)) ((hk.f (dP hpi h4)).trans (fP g a _ h4)) rfl 2 (by decide) (hts (.fieldLink RX6 177 "Backdater$Policy" "billedSoFar" "I") (by decide +kernel)) (fun _ h9 => h9) rfl dX6_bill_23 ?_
  refine lv_iload_n hx hb dX6_bill_26 rfl (lv_at hl 0 rfl) ?_
  refine lv_iadd hx hb dX6_bill_27 ?_
  refine pm_put (ci := 4) (v := .int ((k.1 11 i) + ((sumP rt sm 365) - (k.1 11 i)))) (ty := .int) (C := RX2) (T := TX2) (N := 3) hx hb hts hin_X2 tyX2 tyX2_ok nmX2 hown hw (hk.q (dP hpi h4)) ((hk.f (dP hpi h4)).trans (fP g a _ h4)) rfl 2 (by decide) (hts (.fieldLink RX6 177 "Backdater$Policy" "billedSoFar" "I") (by decide +kernel)) (fun _ h9 => h9) rfl (by decide +kernel) rfl rfl (Nat.le_of_ble_eq_true rfl) dX6_bill_28 (fun H locs hw => ?_)
  have hk := hk.bil hpi h4 ((k.1 11 i) + ((sumP rt sm 365) - (k.1 11 i)))
  refine lv_iload_n hx hb dX6_bill_31 rfl (lv_at hl 0 rfl) ?_
  exact vx_ret (pr_i (v := ((sumP rt sm 365) - (k.1 11 i))) hx hb hr hlocks hw rfl ⟨Nat.le_of_ble_eq_true rfl, Nat.le_of_ble_eq_true rfl⟩ (⟨i, rt, sm, hpi, rfl, hyr, rfl, _, _, _, hyr.z, rfl, by rw [kScr_kW11] at hk; exact hk⟩) dX6_bill_32)

set_option maxHeartbeats 4000000 in
set_option maxRecDepth 100000 in
theorem c_billed (l : Launch) (hst : l.stackTraces = false) (g : GE) (L : List Nat) (f : Nat → va_E) (a : Nat → Nat) (k : KS) (hk : CW g a k L f) (hi : Iv a k) (x : Int32) : Xi l yX6_billed wsX6_billed (rmH 4 1 6) g L f [.ref (a 0), .int x] (fun r u => ∃ i, i < kP k ∧ x = nI i ∧ r = k.1 11 i ∧ ScrP g a k L u) (fun E u => exL [("java/lang/IndexOutOfBoundsException", polP k x)] E ∧ ScrP g a k L u) 1 6 := by
  intro sz
  refine vx_ofW (cc := cX6_billed) (maxL := 2) (ret := (some .int)) (by decide) rfl ?_
  intro p e s m args below meth c s₁ B hml htab hv
  obtain ⟨rfl, hv⟩ := hv
  have hx := B.exec
  have hb := B.bytes
  have hr := B.returns
  have hts := atoms_spec (ws := wsX6_billed) B.pre
  have hown : s.vm.findClass RX6 = some m.cls := findClass_of_methodNamed B.named
  have hlocks := B.notSynchronized
  obtain ⟨rfl, hw, hs⟩ := pm_begin hv
  generalize va_A (va_pl L f) s.heap.size = A at hw hs ⊢
  have CF := (⟨hx, hb, hml, hown, hts⟩ : CallFix p m c cX6_billed 2 s _ wsX6_billed RX6)
  have hin_X6 : ∀ w ∈ wsX60, w ∈ wsX6_billed := by decide +kernel
  have hin_X2 : ∀ w ∈ wsX20, w ∈ wsX6_billed := by decide +kernel
  have hl := lv_entry ([.ref (a 0), .int x]) (n := 2) (Nat.le_of_ble_eq_true rfl)
  rw [lg_entry_eq]
  generalize (lg_sl ([.ref (a 0), .int x]) ++ List.replicate (2 - (lg_sl ([.ref (a 0), .int x])).length) Slot.unset).toArray = ls at hl ⊢
  have hl : lv_has ls 2 [(0, .ref (a 0)), (1, .int x)] := hl
  refine lv_aload_n hx hb dX6_billed_0 rfl (lv_at hl 0 rfl) ?_
  refine lv_iload_n hx hb dX6_billed_1 rfl (lv_at hl 1 rfl) ?_
  refine px_q hw (vx_runV (As := [.int x]) (rest := []) CF (c_policyNumbered l hst g L _ a k hk hi x _) (cwV 1 hts gX6_billed_X6_policyNumbered rfl rfl rfl (by decide +kernel) ⟨Nat.le_of_ble_eq_true rfl, Nat.le_of_ble_eq_true rfl⟩) (pm_preV hw hs (pm_recv hw (hk.q (i := 0) (dC (by decide))) (hk.f (i := 0) (dC (by decide))) rfl)) rfl rfl hl.1 rfl (lv_room (Nat.le_of_ble_eq_true rfl)) dX6_billed_2 ⟨Nat.le_of_ble_eq_true rfl, Nat.le_of_ble_eq_true rfl⟩) htab hlocks ⟨Nat.le_of_ble_eq_true rfl, Nat.le_of_ble_eq_true rfl⟩ (fun E u hE => by obtain ⟨rfl, hn9, rfl⟩ := hE; exact ⟨Or.inl ⟨hn9, rfl⟩, scr_id hk⟩) (fun r L1 f1 H locs hp hw => ?_)
  obtain ⟨i, hpi, rfl, rfl, hu⟩ := hp
  obtain rfl : _ = L1 := (congrArg Prod.fst hu).symm
  obtain rfl : _ = f1 := (congrArg Prod.snd hu).symm
  have h4 : i < 4 := hi.h4 hpi
  have ho := hi.o hpi
  have hkd := hi.kd
  refine pm_get (ci := 4) (v := .int (k.1 11 i)) (C := RX2) (T := TX2) (N := 3) hx hb hts hin_X2 hown hw (hk.q (dP hpi h4)) ((hk.f (dP hpi h4)).trans (fP g a _ h4)) rfl 2 (by decide) (hts (.fieldLink RX6 177 "Backdater$Policy" "billedSoFar" "I") (by decide +kernel)) (fun _ h9 => h9) rfl dX6_billed_5 ?_
  exact vx_ret (pr_i (v := (k.1 11 i)) hx hb hr hlocks hw rfl ⟨Nat.le_of_ble_eq_true rfl, Nat.le_of_ble_eq_true rfl⟩ (⟨i, hpi, rfl, rfl, scr_id hk⟩) dX6_billed_8)

end FACE1
