/-! the face: change, add, cancel, reinstate, open -/
section FACE3
/-- what stands behind a change that was told -/
def TolP (g : GE) (a : Nat → Nat) (k : KS) (L : List Nat) (i kd : Nat) (fl fr am : Int32) (u : PE) : Prop := (∀ b, b ∈ L → b ∈ u.1) ∧ ∃ a9 m1 m2 c1 c2 r1 r2, a9 0 = a 0 ∧ CW g a9 (kTold k i kd fl fr am m1 m2 c1 c2 r1 r2) u.1 u.2 ∧ Iv a9 (kTold k i kd fl fr am m1 m2 c1 c2 r1 r2) ∧ ∀ p, p < kP k → (va_up k.2.2.2 i (insO (k.1 13) fr (kC k) (k.2.2.2 i)) p).length ≤ kC k + 1
abbrev IvL (k : KS) : Prop := ∀ i, i < kP k → (k.2.2.2 i).length ≤ kC k

set_option maxHeartbeats 4000000 in
set_option maxRecDepth 100000 in
theorem c_change (l : Launch) (hst : l.stackTraces = false) (g : GE) (L : List Nat) (f : Nat → va_E) (a : Nat → Nat) (k : KS) (hk : CW g a k L f) (hi : Iv a k) (hle : IvL k) (x y z w : Int32) : Xi l yX6_change wsX6_change (rmH 9 8 524) g L f [.ref (a 0), .int x, .int y, .int z, .int w] (fun r u => ∃ i, i < kP k ∧ x = nI i ∧ fldP y ∧ dayP z ∧ (0 ≤ w.toInt ∧ w.toInt ≤ 20) ∧ kC k < 60 ∧ r = nI (kC k) ∧ TolP g a k L i 0 y z w u) (fun E u => exL [("java/lang/IndexOutOfBoundsException", polP k x), ("java/lang/IndexOutOfBoundsException", fldP y), ("java/lang/IllegalArgumentException", dayP z), ("java/lang/IllegalArgumentException", 0 ≤ w.toInt ∧ w.toInt ≤ 20), ("java/lang/IllegalStateException", kC k < 60)] E ∧ ScrP g a k L u) 8 524 := by
  intro sz
  refine vx_ofW (cc := cX6_change) (maxL := 6) (ret := (some .int)) (by decide) rfl ?_
  intro p e s m args below meth c s₁ B hml htab hv
  obtain ⟨rfl, hv⟩ := hv
  have hx := B.exec
  have hb := B.bytes
  have hr := B.returns
  have hts := atoms_spec (ws := wsX6_change) B.pre
  have hown : s.vm.findClass RX6 = some m.cls := findClass_of_methodNamed B.named
  have hlocks := B.notSynchronized
  obtain ⟨rfl, hw, hs⟩ := pm_begin hv
  generalize va_A (va_pl L f) s.heap.size = A at hw hs ⊢
  have CF := (⟨hx, hb, hml, hown, hts⟩ : CallFix p m c cX6_change 6 s _ wsX6_change RX6)
  have hin_X6 : ∀ w ∈ wsX60, w ∈ wsX6_change := by decide +kernel
  have hl := lv_entry ([.ref (a 0), .int x, .int y, .int z, .int w]) (n := 6) (Nat.le_of_ble_eq_true rfl)
  rw [lg_entry_eq]
  generalize (lg_sl ([.ref (a 0), .int x, .int y, .int z, .int w]) ++ List.replicate (6 - (lg_sl ([.ref (a 0), .int x, .int y, .int z, .int w])).length) Slot.unset).toArray = ls at hl ⊢
  have hl : lv_has ls 6 [(0, .ref (a 0)), (1, .int x), (2, .int y), (3, .int z), (4, .int w)] := hl
  refine lv_aload_n hx hb dX6_change_0 rfl (lv_at hl 0 rfl) ?_
  refine lv_iload_n hx hb dX6_change_1 rfl (lv_at hl 1 rfl) ?_
  refine px_q hw (vx_runV (As := [.int x]) (rest := []) CF (c_policyNumbered l hst g L _ a k hk hi x _) (cwV 1 hts gX6_change_X6_policyNumbered rfl rfl rfl (by decide +kernel) ⟨Nat.le_of_ble_eq_true rfl, Nat.le_of_ble_eq_true rfl⟩) (pm_preV hw hs (pm_recv hw (hk.q (i := 0) (dC (by decide))) (hk.f (i := 0) (dC (by decide))) rfl)) rfl rfl hl.1 rfl (lv_room (Nat.le_of_ble_eq_true rfl)) dX6_change_2 ⟨Nat.le_of_ble_eq_true rfl, Nat.le_of_ble_eq_true rfl⟩) htab hlocks ⟨Nat.le_of_ble_eq_true rfl, Nat.le_of_ble_eq_true rfl⟩ (fun E u hE => by obtain ⟨rfl, hn9, rfl⟩ := hE; exact ⟨Or.inl ⟨hn9, rfl⟩, scr_id hk⟩) (fun r L1 f1 H locs hp hw => ?_)
  obtain ⟨i, hpi, rfl, rfl, hu⟩ := hp
  obtain rfl : _ = L1 := (congrArg Prod.fst hu).symm
  obtain rfl : _ = f1 := (congrArg Prod.snd hu).symm
  have h4 : i < 4 := hi.h4 hpi
  have ho := hi.o hpi
  have hkd := hi.kd
  refine lv_astore (lv' := [(5, .ref (a (20 + 3 * i))), (0, .ref (a 0)), (1, .int (nI i)), (2, .int y), (3, .int z), (4, .int w)]) hx hb dX6_change_5 hl (by decide) rfl (fun ls hl => ?_)
  refine lv_iload_n hx hb dX6_change_7 rfl (lv_at hl 3 rfl) ?_
  refine px_v hw (vx_runS (As := [.int y]) (rest := []) CF (c_demandField l hst g L _ y _) (va_cwS 1 hts gX6_change_X6_demandField rfl rfl rfl (by decide +kernel) ⟨Nat.le_of_ble_eq_true rfl, Nat.le_of_ble_eq_true rfl⟩) (pm_preS hw hs) rfl rfl hl.1 rfl (lv_room (Nat.le_of_ble_eq_true rfl)) dX6_change_8 ⟨Nat.le_of_ble_eq_true rfl, Nat.le_of_ble_eq_true rfl⟩) htab hlocks ⟨Nat.le_of_ble_eq_true rfl, Nat.le_of_ble_eq_true rfl⟩ (fun E u hE => by obtain ⟨rfl, hn9, rfl⟩ := hE; exact ⟨Or.inr ⟨pol_ok hi hpi, Or.inl ⟨hn9, rfl⟩⟩, scr_id hk⟩) (fun L1 f1 H locs hp hw => ?_)
  obtain ⟨hF, hp⟩ := hp
  have hu := hp
  obtain rfl : _ = L1 := (congrArg Prod.fst hu).symm
  obtain rfl : _ = f1 := (congrArg Prod.snd hu).symm
  refine lv_iload_n hx hb dX6_change_11 rfl (lv_at hl 4 rfl) ?_
  refine px_v hw (vx_runS (As := [.int z]) (rest := []) CF (c_demandDay l hst g L _ z _) (va_cwS 1 hts gX6_change_X6_demandDay rfl rfl rfl (by decide +kernel) ⟨Nat.le_of_ble_eq_true rfl, Nat.le_of_ble_eq_true rfl⟩) (pm_preS hw hs) rfl rfl hl.1 rfl (lv_room (Nat.le_of_ble_eq_true rfl)) dX6_change_12 ⟨Nat.le_of_ble_eq_true rfl, Nat.le_of_ble_eq_true rfl⟩) htab hlocks ⟨Nat.le_of_ble_eq_true rfl, Nat.le_of_ble_eq_true rfl⟩ (fun E u hE => by obtain ⟨rfl, hn9, rfl⟩ := hE; exact ⟨Or.inr ⟨pol_ok hi hpi, Or.inr ⟨hF, Or.inl ⟨hn9, rfl⟩⟩⟩, scr_id hk⟩) (fun L1 f1 H locs hp hw => ?_)
  obtain ⟨hDy, hp⟩ := hp
  have hu := hp
  obtain rfl : _ = L1 := (congrArg Prod.fst hu).symm
  obtain rfl : _ = f1 := (congrArg Prod.snd hu).symm
  refine lv_iload hx hb dX6_change_15 (lv_at hl 5 rfl) ?_
  refine lv_iconst (v := 0) hx hb dX6_change_17 (by decide) ?_
  refine lv_bipush (v := 20) hx hb dX6_change_18 (by decide) ?_
  refine px_v hw (vx_runS (As := [.int w, .int 0, .int 20]) (rest := []) CF (c_demandWithin l hst g L _ w 0 20 _) (va_cwS 3 hts gX6_change_X6_demandWithin rfl rfl rfl (by decide +kernel) ⟨Nat.le_of_ble_eq_true rfl, Nat.le_of_ble_eq_true rfl⟩) (pm_preS hw hs) rfl rfl hl.1 rfl (lv_room (Nat.le_of_ble_eq_true rfl)) dX6_change_20 ⟨Nat.le_of_ble_eq_true rfl, Nat.le_of_ble_eq_true rfl⟩) htab hlocks ⟨Nat.le_of_ble_eq_true rfl, Nat.le_of_ble_eq_true rfl⟩ (fun E u hE => by obtain ⟨rfl, hn9, rfl⟩ := hE; exact ⟨Or.inr ⟨pol_ok hi hpi, Or.inr ⟨hF, Or.inr ⟨hDy, Or.inl ⟨hn9, rfl⟩⟩⟩⟩, scr_id hk⟩) (fun L1 f1 H locs hp hw => ?_)
  obtain ⟨hW, hp⟩ := hp
  have hu := hp
  obtain rfl : _ = L1 := (congrArg Prod.fst hu).symm
  obtain rfl : _ = f1 := (congrArg Prod.snd hu).symm
  refine lv_aload_n hx hb dX6_change_23 rfl (lv_at hl 1 rfl) ?_
  refine lv_aload hx hb dX6_change_24 (lv_at hl 0 rfl) ?_
  refine va_gets (v := .ref (g.2.2 0)) hx hb hs.1.1.1 hw.2.2.2.1 hown (hts (.fieldLink RX6 88 "Backdater$Kind" "SET" "LBackdater$Kind;") (by decide +kernel)) (fun _ h9 => h9) dX6_change_26 ?_
  refine lv_iload_n hx hb dX6_change_29 rfl (lv_at hl 3 rfl) ?_
  refine lv_iload_n hx hb dX6_change_30 rfl (lv_at hl 4 rfl) ?_
  refine lv_iload hx hb dX6_change_31 (lv_at hl 5 rfl) ?_
  refine px_i hw (vx_runV (As := [.ref (a (20 + 3 * i)), .ref (g.2.2 0), .int y, .int z, .int w]) (rest := []) CF (c_tell l hst g L _ a k hk hi hle i hpi 0 (by decide) y z w _) (cwV 5 hts gX6_change_X6_tell rfl rfl rfl (by decide +kernel) ⟨Nat.le_of_ble_eq_true rfl, Nat.le_of_ble_eq_true rfl⟩) (pm_preV hw hs (pm_recv hw (hk.q (i := 0) (dC (by decide))) (hk.f (i := 0) (dC (by decide))) rfl)) rfl rfl hl.1 rfl (lv_room (Nat.le_of_ble_eq_true rfl)) dX6_change_33 ⟨Nat.le_of_ble_eq_true rfl, Nat.le_of_ble_eq_true rfl⟩) htab hlocks ⟨Nat.le_of_ble_eq_true rfl, Nat.le_of_ble_eq_true rfl⟩ (fun E u hE => by obtain ⟨rfl, hn9, rfl⟩ := hE; exact ⟨Or.inr ⟨pol_ok hi hpi, Or.inr ⟨hF, Or.inr ⟨hDy, Or.inr ⟨hW, Or.inl ⟨hn9, rfl⟩⟩⟩⟩⟩, scr_id hk⟩) (fun r L1 f1 H locs hp hw => ?_)
  obtain ⟨h60, rfl, hT⟩ := hp
  exact vx_ret (pr_i (v := (nI (kC k))) hx hb hr hlocks hw rfl ⟨Nat.le_of_ble_eq_true rfl, Nat.le_of_ble_eq_true rfl⟩ (⟨i, hpi, rfl, hF, hDy, hW, h60, rfl, hT⟩) dX6_change_36)

set_option maxHeartbeats 4000000 in
set_option maxRecDepth 100000 in
theorem c_addF (l : Launch) (hst : l.stackTraces = false) (g : GE) (L : List Nat) (f : Nat → va_E) (a : Nat → Nat) (k : KS) (hk : CW g a k L f) (hi : Iv a k) (hle : IvL k) (x y z w : Int32) : Xi l yX6_add wsX6_add (rmH 9 8 524) g L f [.ref (a 0), .int x, .int y, .int z, .int w] (fun r u => ∃ i, i < kP k ∧ x = nI i ∧ fldP y ∧ dayP z ∧ (-20 ≤ w.toInt ∧ w.toInt ≤ 20) ∧ kC k < 60 ∧ r = nI (kC k) ∧ TolP g a k L i 1 y z w u) (fun E u => exL [("java/lang/IndexOutOfBoundsException", polP k x), ("java/lang/IndexOutOfBoundsException", fldP y), ("java/lang/IllegalArgumentException", dayP z), ("java/lang/IllegalArgumentException", -20 ≤ w.toInt ∧ w.toInt ≤ 20), ("java/lang/IllegalStateException", kC k < 60)] E ∧ ScrP g a k L u) 8 524 := by
  intro sz
  refine vx_ofW (cc := cX6_add) (maxL := 6) (ret := (some .int)) (by decide) rfl ?_
  intro p e s m args below meth c s₁ B hml htab hv
  obtain ⟨rfl, hv⟩ := hv
  have hx := B.exec
  have hb := B.bytes
  have hr := B.returns
  have hts := atoms_spec (ws := wsX6_add) B.pre
  have hown : s.vm.findClass RX6 = some m.cls := findClass_of_methodNamed B.named
  have hlocks := B.notSynchronized
  obtain ⟨rfl, hw, hs⟩ := pm_begin hv
  generalize va_A (va_pl L f) s.heap.size = A at hw hs ⊢
  have CF := (⟨hx, hb, hml, hown, hts⟩ : CallFix p m c cX6_add 6 s _ wsX6_add RX6)
  have hin_X6 : ∀ w ∈ wsX60, w ∈ wsX6_add := by decide +kernel
  have hl := lv_entry ([.ref (a 0), .int x, .int y, .int z, .int w]) (n := 6) (Nat.le_of_ble_eq_true rfl)
  rw [lg_entry_eq]
  generalize (lg_sl ([.ref (a 0), .int x, .int y, .int z, .int w]) ++ List.replicate (6 - (lg_sl ([.ref (a 0), .int x, .int y, .int z, .int w])).length) Slot.unset).toArray = ls at hl ⊢
  have hl : lv_has ls 6 [(0, .ref (a 0)), (1, .int x), (2, .int y), (3, .int z), (4, .int w)] := hl
  refine lv_aload_n hx hb dX6_add_0 rfl (lv_at hl 0 rfl) ?_
  refine lv_iload_n hx hb dX6_add_1 rfl (lv_at hl 1 rfl) ?_
  refine px_q hw (vx_runV (As := [.int x]) (rest := []) CF (c_policyNumbered l hst g L _ a k hk hi x _) (cwV 1 hts gX6_add_X6_policyNumbered rfl rfl rfl (by decide +kernel) ⟨Nat.le_of_ble_eq_true rfl, Nat.le_of_ble_eq_true rfl⟩) (pm_preV hw hs (pm_recv hw (hk.q (i := 0) (dC (by decide))) (hk.f (i := 0) (dC (by decide))) rfl)) rfl rfl hl.1 rfl (lv_room (Nat.le_of_ble_eq_true rfl)) dX6_add_2 ⟨Nat.le_of_ble_eq_true rfl, Nat.le_of_ble_eq_true rfl⟩) htab hlocks ⟨Nat.le_of_ble_eq_true rfl, Nat.le_of_ble_eq_true rfl⟩ (fun E u hE => by obtain ⟨rfl, hn9, rfl⟩ := hE; exact ⟨Or.inl ⟨hn9, rfl⟩, scr_id hk⟩) (fun r L1 f1 H locs hp hw => ?_)
  obtain ⟨i, hpi, rfl, rfl, hu⟩ := hp
  obtain rfl : _ = L1 := (congrArg Prod.fst hu).symm
  obtain rfl : _ = f1 := (congrArg Prod.snd hu).symm
  have h4 : i < 4 := hi.h4 hpi
  have ho := hi.o hpi
  have hkd := hi.kd
  refine lv_astore (lv' := [(5, .ref (a (20 + 3 * i))), (0, .ref (a 0)), (1, .int (nI i)), (2, .int y), (3, .int z), (4, .int w)]) hx hb dX6_add_5 hl (by decide) rfl (fun ls hl => ?_)
  refine lv_iload_n hx hb dX6_add_7 rfl (lv_at hl 3 rfl) ?_
  refine px_v hw (vx_runS (As := [.int y]) (rest := []) CF (c_demandField l hst g L _ y _) (va_cwS 1 hts gX6_add_X6_demandField rfl rfl rfl (by decide +kernel) ⟨Nat.le_of_ble_eq_true rfl, Nat.le_of_ble_eq_true rfl⟩) (pm_preS hw hs) rfl rfl hl.1 rfl (lv_room (Nat.le_of_ble_eq_true rfl)) dX6_add_8 ⟨Nat.le_of_ble_eq_true rfl, Nat.le_of_ble_eq_true rfl⟩) htab hlocks ⟨Nat.le_of_ble_eq_true rfl, Nat.le_of_ble_eq_true rfl⟩ (fun E u hE => by obtain ⟨rfl, hn9, rfl⟩ := hE; exact ⟨Or.inr ⟨pol_ok hi hpi, Or.inl ⟨hn9, rfl⟩⟩, scr_id hk⟩) (fun L1 f1 H locs hp hw => ?_)
  obtain ⟨hF, hp⟩ := hp
  have hu := hp
  obtain rfl : _ = L1 := (congrArg Prod.fst hu).symm
  obtain rfl : _ = f1 := (congrArg Prod.snd hu).symm
  refine lv_iload_n hx hb dX6_add_11 rfl (lv_at hl 4 rfl) ?_
  refine px_v hw (vx_runS (As := [.int z]) (rest := []) CF (c_demandDay l hst g L _ z _) (va_cwS 1 hts gX6_add_X6_demandDay rfl rfl rfl (by decide +kernel) ⟨Nat.le_of_ble_eq_true rfl, Nat.le_of_ble_eq_true rfl⟩) (pm_preS hw hs) rfl rfl hl.1 rfl (lv_room (Nat.le_of_ble_eq_true rfl)) dX6_add_12 ⟨Nat.le_of_ble_eq_true rfl, Nat.le_of_ble_eq_true rfl⟩) htab hlocks ⟨Nat.le_of_ble_eq_true rfl, Nat.le_of_ble_eq_true rfl⟩ (fun E u hE => by obtain ⟨rfl, hn9, rfl⟩ := hE; exact ⟨Or.inr ⟨pol_ok hi hpi, Or.inr ⟨hF, Or.inl ⟨hn9, rfl⟩⟩⟩, scr_id hk⟩) (fun L1 f1 H locs hp hw => ?_)
  obtain ⟨hDy, hp⟩ := hp
  have hu := hp
  obtain rfl : _ = L1 := (congrArg Prod.fst hu).symm
  obtain rfl : _ = f1 := (congrArg Prod.snd hu).symm
  refine lv_iload hx hb dX6_add_15 (lv_at hl 5 rfl) ?_
  refine lv_bipush (v := (-20)) hx hb dX6_add_17 (by decide) ?_
  refine lv_bipush (v := 20) hx hb dX6_add_19 (by decide) ?_
  refine px_v hw (vx_runS (As := [.int w, .int (-20), .int 20]) (rest := []) CF (c_demandWithin l hst g L _ w (-20) 20 _) (va_cwS 3 hts gX6_add_X6_demandWithin rfl rfl rfl (by decide +kernel) ⟨Nat.le_of_ble_eq_true rfl, Nat.le_of_ble_eq_true rfl⟩) (pm_preS hw hs) rfl rfl hl.1 rfl (lv_room (Nat.le_of_ble_eq_true rfl)) dX6_add_21 ⟨Nat.le_of_ble_eq_true rfl, Nat.le_of_ble_eq_true rfl⟩) htab hlocks ⟨Nat.le_of_ble_eq_true rfl, Nat.le_of_ble_eq_true rfl⟩ (fun E u hE => by obtain ⟨rfl, hn9, rfl⟩ := hE; exact ⟨Or.inr ⟨pol_ok hi hpi, Or.inr ⟨hF, Or.inr ⟨hDy, Or.inl ⟨hn9, rfl⟩⟩⟩⟩, scr_id hk⟩) (fun L1 f1 H locs hp hw => ?_)
  obtain ⟨hW, hp⟩ := hp
  have hu := hp
  obtain rfl : _ = L1 := (congrArg Prod.fst hu).symm
  obtain rfl : _ = f1 := (congrArg Prod.snd hu).symm
  refine lv_aload_n hx hb dX6_add_24 rfl (lv_at hl 1 rfl) ?_
  refine lv_aload hx hb dX6_add_25 (lv_at hl 0 rfl) ?_
  refine va_gets (v := .ref (g.2.2 1)) hx hb hs.1.1.2.1 hw.2.2.2.1 hown (hts (.fieldLink RX6 97 "Backdater$Kind" "ADD" "LBackdater$Kind;") (by decide +kernel)) (fun _ h9 => h9) dX6_add_27 ?_
  refine lv_iload_n hx hb dX6_add_30 rfl (lv_at hl 3 rfl) ?_
  refine lv_iload_n hx hb dX6_add_31 rfl (lv_at hl 4 rfl) ?_
  refine lv_iload hx hb dX6_add_32 (lv_at hl 5 rfl) ?_
  refine px_i hw (vx_runV (As := [.ref (a (20 + 3 * i)), .ref (g.2.2 1), .int y, .int z, .int w]) (rest := []) CF (c_tell l hst g L _ a k hk hi hle i hpi 1 (by decide) y z w _) (cwV 5 hts gX6_add_X6_tell rfl rfl rfl (by decide +kernel) ⟨Nat.le_of_ble_eq_true rfl, Nat.le_of_ble_eq_true rfl⟩) (pm_preV hw hs (pm_recv hw (hk.q (i := 0) (dC (by decide))) (hk.f (i := 0) (dC (by decide))) rfl)) rfl rfl hl.1 rfl (lv_room (Nat.le_of_ble_eq_true rfl)) dX6_add_34 ⟨Nat.le_of_ble_eq_true rfl, Nat.le_of_ble_eq_true rfl⟩) htab hlocks ⟨Nat.le_of_ble_eq_true rfl, Nat.le_of_ble_eq_true rfl⟩ (fun E u hE => by obtain ⟨rfl, hn9, rfl⟩ := hE; exact ⟨Or.inr ⟨pol_ok hi hpi, Or.inr ⟨hF, Or.inr ⟨hDy, Or.inr ⟨hW, Or.inl ⟨hn9, rfl⟩⟩⟩⟩⟩, scr_id hk⟩) (fun r L1 f1 H locs hp hw => ?_)
  obtain ⟨h60, rfl, hT⟩ := hp
  exact vx_ret (pr_i (v := (nI (kC k))) hx hb hr hlocks hw rfl ⟨Nat.le_of_ble_eq_true rfl, Nat.le_of_ble_eq_true rfl⟩ (⟨i, hpi, rfl, hF, hDy, hW, h60, rfl, hT⟩) dX6_add_37)

set_option maxHeartbeats 4000000 in
set_option maxRecDepth 100000 in
theorem c_cancel (l : Launch) (hst : l.stackTraces = false) (g : GE) (L : List Nat) (f : Nat → va_E) (a : Nat → Nat) (k : KS) (hk : CW g a k L f) (hi : Iv a k) (hle : IvL k) (x z : Int32) : Xi l yX6_cancel wsX6_cancel (rmH 9 6 512) g L f [.ref (a 0), .int x, .int z] (fun r u => ∃ i, i < kP k ∧ x = nI i ∧ dayP z ∧ kC k < 60 ∧ r = nI (kC k) ∧ TolP g a k L i 2 (-1) z 0 u) (fun E u => exL [("java/lang/IndexOutOfBoundsException", polP k x), ("java/lang/IllegalArgumentException", dayP z), ("java/lang/IllegalStateException", kC k < 60)] E ∧ ScrP g a k L u) 6 512 := by
  intro sz
  refine vx_ofW (cc := cX6_cancel) (maxL := 4) (ret := (some .int)) (by decide) rfl ?_
  intro p e s m args below meth c s₁ B hml htab hv
  obtain ⟨rfl, hv⟩ := hv
  have hx := B.exec
  have hb := B.bytes
  have hr := B.returns
  have hts := atoms_spec (ws := wsX6_cancel) B.pre
  have hown : s.vm.findClass RX6 = some m.cls := findClass_of_methodNamed B.named
  have hlocks := B.notSynchronized
  obtain ⟨rfl, hw, hs⟩ := pm_begin hv
  generalize va_A (va_pl L f) s.heap.size = A at hw hs ⊢
  have CF := (⟨hx, hb, hml, hown, hts⟩ : CallFix p m c cX6_cancel 4 s _ wsX6_cancel RX6)
  have hin_X6 : ∀ w ∈ wsX60, w ∈ wsX6_cancel := by decide +kernel
  have hl := lv_entry ([.ref (a 0), .int x, .int z]) (n := 4) (Nat.le_of_ble_eq_true rfl)
  rw [lg_entry_eq]
  generalize (lg_sl ([.ref (a 0), .int x, .int z]) ++ List.replicate (4 - (lg_sl ([.ref (a 0), .int x, .int z])).length) Slot.unset).toArray = ls at hl ⊢
  have hl : lv_has ls 4 [(0, .ref (a 0)), (1, .int x), (2, .int z)] := hl
  refine lv_aload_n hx hb dX6_cancel_0 rfl (lv_at hl 0 rfl) ?_
  refine lv_iload_n hx hb dX6_cancel_1 rfl (lv_at hl 1 rfl) ?_
  refine px_q hw (vx_runV (As := [.int x]) (rest := []) CF (c_policyNumbered l hst g L _ a k hk hi x _) (cwV 1 hts gX6_cancel_X6_policyNumbered rfl rfl rfl (by decide +kernel) ⟨Nat.le_of_ble_eq_true rfl, Nat.le_of_ble_eq_true rfl⟩) (pm_preV hw hs (pm_recv hw (hk.q (i := 0) (dC (by decide))) (hk.f (i := 0) (dC (by decide))) rfl)) rfl rfl hl.1 rfl (lv_room (Nat.le_of_ble_eq_true rfl)) dX6_cancel_2 ⟨Nat.le_of_ble_eq_true rfl, Nat.le_of_ble_eq_true rfl⟩) htab hlocks ⟨Nat.le_of_ble_eq_true rfl, Nat.le_of_ble_eq_true rfl⟩ (fun E u hE => by obtain ⟨rfl, hn9, rfl⟩ := hE; exact ⟨Or.inl ⟨hn9, rfl⟩, scr_id hk⟩) (fun r L1 f1 H locs hp hw => ?_)
  obtain ⟨i, hpi, rfl, rfl, hu⟩ := hp
  obtain rfl : _ = L1 := (congrArg Prod.fst hu).symm
  obtain rfl : _ = f1 := (congrArg Prod.snd hu).symm
  have h4 : i < 4 := hi.h4 hpi
  have ho := hi.o hpi
  have hkd := hi.kd
  refine lv_astore_n (lv' := [(3, .ref (a (20 + 3 * i))), (0, .ref (a 0)), (1, .int (nI i)), (2, .int z)]) hx hb dX6_cancel_5 rfl hl (by decide) rfl (fun ls hl => ?_)
  refine lv_iload_n hx hb dX6_cancel_6 rfl (lv_at hl 3 rfl) ?_
  refine px_v hw (vx_runS (As := [.int z]) (rest := []) CF (c_demandDay l hst g L _ z _) (va_cwS 1 hts gX6_cancel_X6_demandDay rfl rfl rfl (by decide +kernel) ⟨Nat.le_of_ble_eq_true rfl, Nat.le_of_ble_eq_true rfl⟩) (pm_preS hw hs) rfl rfl hl.1 rfl (lv_room (Nat.le_of_ble_eq_true rfl)) dX6_cancel_7 ⟨Nat.le_of_ble_eq_true rfl, Nat.le_of_ble_eq_true rfl⟩) htab hlocks ⟨Nat.le_of_ble_eq_true rfl, Nat.le_of_ble_eq_true rfl⟩ (fun E u hE => by obtain ⟨rfl, hn9, rfl⟩ := hE; exact ⟨Or.inr ⟨pol_ok hi hpi, Or.inl ⟨hn9, rfl⟩⟩, scr_id hk⟩) (fun L1 f1 H locs hp hw => ?_)
  obtain ⟨hDy, hp⟩ := hp
  have hu := hp
  obtain rfl : _ = L1 := (congrArg Prod.fst hu).symm
  obtain rfl : _ = f1 := (congrArg Prod.snd hu).symm
  refine lv_aload_n hx hb dX6_cancel_10 rfl (lv_at hl 1 rfl) ?_
  refine lv_aload_n hx hb dX6_cancel_11 rfl (lv_at hl 0 rfl) ?_
  refine va_gets (v := .ref (g.2.2 2)) hx hb hs.1.1.2.2.1 hw.2.2.2.1 hown (hts (.fieldLink RX6 100 "Backdater$Kind" "CANCEL" "LBackdater$Kind;") (by decide +kernel)) (fun _ h9 => h9) dX6_cancel_12 ?_
  refine lv_iconst (v := (-1)) hx hb dX6_cancel_15 (by decide) ?_
  refine lv_iload_n hx hb dX6_cancel_16 rfl (lv_at hl 3 rfl) ?_
  refine lv_iconst (v := 0) hx hb dX6_cancel_17 (by decide) ?_
  refine px_i hw (vx_runV (As := [.ref (a (20 + 3 * i)), .ref (g.2.2 2), .int (-1), .int z, .int 0]) (rest := []) CF (c_tell l hst g L _ a k hk hi hle i hpi 2 (by decide) (-1) z 0 _) (cwV 5 hts gX6_cancel_X6_tell rfl rfl rfl (by decide +kernel) ⟨Nat.le_of_ble_eq_true rfl, Nat.le_of_ble_eq_true rfl⟩) (pm_preV hw hs (pm_recv hw (hk.q (i := 0) (dC (by decide))) (hk.f (i := 0) (dC (by decide))) rfl)) rfl rfl hl.1 rfl (lv_room (Nat.le_of_ble_eq_true rfl)) dX6_cancel_18 ⟨Nat.le_of_ble_eq_true rfl, Nat.le_of_ble_eq_true rfl⟩) htab hlocks ⟨Nat.le_of_ble_eq_true rfl, Nat.le_of_ble_eq_true rfl⟩ (fun E u hE => by obtain ⟨rfl, hn9, rfl⟩ := hE; exact ⟨Or.inr ⟨pol_ok hi hpi, Or.inr ⟨hDy, Or.inl ⟨hn9, rfl⟩⟩⟩, scr_id hk⟩) (fun r L1 f1 H locs hp hw => ?_)
  obtain ⟨h60, rfl, hT⟩ := hp
  exact vx_ret (pr_i (v := (nI (kC k))) hx hb hr hlocks hw rfl ⟨Nat.le_of_ble_eq_true rfl, Nat.le_of_ble_eq_true rfl⟩ (⟨i, hpi, rfl, hDy, h60, rfl, hT⟩) dX6_cancel_21)

set_option maxHeartbeats 4000000 in
set_option maxRecDepth 100000 in
theorem c_reinstate (l : Launch) (hst : l.stackTraces = false) (g : GE) (L : List Nat) (f : Nat → va_E) (a : Nat → Nat) (k : KS) (hk : CW g a k L f) (hi : Iv a k) (hle : IvL k) (x z : Int32) : Xi l yX6_reinstate wsX6_reinstate (rmH 9 6 512) g L f [.ref (a 0), .int x, .int z] (fun r u => ∃ i, i < kP k ∧ x = nI i ∧ dayP z ∧ kC k < 60 ∧ r = nI (kC k) ∧ TolP g a k L i 3 (-1) z 0 u) (fun E u => exL [("java/lang/IndexOutOfBoundsException", polP k x), ("java/lang/IllegalArgumentException", dayP z), ("java/lang/IllegalStateException", kC k < 60)] E ∧ ScrP g a k L u) 6 512 := by
  intro sz
  refine vx_ofW (cc := cX6_reinstate) (maxL := 4) (ret := (some .int)) (by decide) rfl ?_
  intro p e s m args below meth c s₁ B hml htab hv
  obtain ⟨rfl, hv⟩ := hv
  have hx := B.exec
  have hb := B.bytes
  have hr := B.returns
  have hts := atoms_spec (ws := wsX6_reinstate) B.pre
  have hown : s.vm.findClass RX6 = some m.cls := findClass_of_methodNamed B.named
  have hlocks := B.notSynchronized
  obtain ⟨rfl, hw, hs⟩ := pm_begin hv
  generalize va_A (va_pl L f) s.heap.size = A at hw hs ⊢
  have CF := (⟨hx, hb, hml, hown, hts⟩ : CallFix p m c cX6_reinstate 4 s _ wsX6_reinstate RX6)
  have hin_X6 : ∀ w ∈ wsX60, w ∈ wsX6_reinstate := by decide +kernel
  have hl := lv_entry ([.ref (a 0), .int x, .int z]) (n := 4) (Nat.le_of_ble_eq_true rfl)
  rw [lg_entry_eq]
  generalize (lg_sl ([.ref (a 0), .int x, .int z]) ++ List.replicate (4 - (lg_sl ([.ref (a 0), .int x, .int z])).length) Slot.unset).toArray = ls at hl ⊢
  have hl : lv_has ls 4 [(0, .ref (a 0)), (1, .int x), (2, .int z)] := hl
  refine lv_aload_n hx hb dX6_reinstate_0 rfl (lv_at hl 0 rfl) ?_
  refine lv_iload_n hx hb dX6_reinstate_1 rfl (lv_at hl 1 rfl) ?_
  refine px_q hw (vx_runV (As := [.int x]) (rest := []) CF (c_policyNumbered l hst g L _ a k hk hi x _) (cwV 1 hts gX6_reinstate_X6_policyNumbered rfl rfl rfl (by decide +kernel) ⟨Nat.le_of_ble_eq_true rfl, Nat.le_of_ble_eq_true rfl⟩) (pm_preV hw hs (pm_recv hw (hk.q (i := 0) (dC (by decide))) (hk.f (i := 0) (dC (by decide))) rfl)) rfl rfl hl.1 rfl (lv_room (Nat.le_of_ble_eq_true rfl)) dX6_reinstate_2 ⟨Nat.le_of_ble_eq_true rfl, Nat.le_of_ble_eq_true rfl⟩) htab hlocks ⟨Nat.le_of_ble_eq_true rfl, Nat.le_of_ble_eq_true rfl⟩ (fun E u hE => by obtain ⟨rfl, hn9, rfl⟩ := hE; exact ⟨Or.inl ⟨hn9, rfl⟩, scr_id hk⟩) (fun r L1 f1 H locs hp hw => ?_)
  obtain ⟨i, hpi, rfl, rfl, hu⟩ := hp
  obtain rfl : _ = L1 := (congrArg Prod.fst hu).symm
  obtain rfl : _ = f1 := (congrArg Prod.snd hu).symm
  have h4 : i < 4 := hi.h4 hpi
  have ho := hi.o hpi
  have hkd := hi.kd
  refine lv_astore_n (lv' := [(3, .ref (a (20 + 3 * i))), (0, .ref (a 0)), (1, .int (nI i)), (2, .int z)]) hx hb dX6_reinstate_5 rfl hl (by decide) rfl (fun ls hl => ?_)
  refine lv_iload_n hx hb dX6_reinstate_6 rfl (lv_at hl 3 rfl) ?_
  refine px_v hw (vx_runS (As := [.int z]) (rest := []) CF (c_demandDay l hst g L _ z _) (va_cwS 1 hts gX6_reinstate_X6_demandDay rfl rfl rfl (by decide +kernel) ⟨Nat.le_of_ble_eq_true rfl, Nat.le_of_ble_eq_true rfl⟩) (pm_preS hw hs) rfl rfl hl.1 rfl (lv_room (Nat.le_of_ble_eq_true rfl)) dX6_reinstate_7 ⟨Nat.le_of_ble_eq_true rfl, Nat.le_of_ble_eq_true rfl⟩) htab hlocks ⟨Nat.le_of_ble_eq_true rfl, Nat.le_of_ble_eq_true rfl⟩ (fun E u hE => by obtain ⟨rfl, hn9, rfl⟩ := hE; exact ⟨Or.inr ⟨pol_ok hi hpi, Or.inl ⟨hn9, rfl⟩⟩, scr_id hk⟩) (fun L1 f1 H locs hp hw => ?_)
  obtain ⟨hDy, hp⟩ := hp
  have hu := hp
  obtain rfl : _ = L1 := (congrArg Prod.fst hu).symm
  obtain rfl : _ = f1 := (congrArg Prod.snd hu).symm
  refine lv_aload_n hx hb dX6_reinstate_10 rfl (lv_at hl 1 rfl) ?_
  refine lv_aload_n hx hb dX6_reinstate_11 rfl (lv_at hl 0 rfl) ?_
  refine va_gets (v := .ref (g.2.2 3)) hx hb hs.1.1.2.2.2 hw.2.2.2.1 hown (hts (.fieldLink RX6 103 "Backdater$Kind" "REINSTATE" "LBackdater$Kind;") (by decide +kernel)) (fun _ h9 => h9) dX6_reinstate_12 ?_
  refine lv_iconst (v := (-1)) hx hb dX6_reinstate_15 (by decide) ?_
  refine lv_iload_n hx hb dX6_reinstate_16 rfl (lv_at hl 3 rfl) ?_
  refine lv_iconst (v := 0) hx hb dX6_reinstate_17 (by decide) ?_
  refine px_i hw (vx_runV (As := [.ref (a (20 + 3 * i)), .ref (g.2.2 3), .int (-1), .int z, .int 0]) (rest := []) CF (c_tell l hst g L _ a k hk hi hle i hpi 3 (by decide) (-1) z 0 _) (cwV 5 hts gX6_reinstate_X6_tell rfl rfl rfl (by decide +kernel) ⟨Nat.le_of_ble_eq_true rfl, Nat.le_of_ble_eq_true rfl⟩) (pm_preV hw hs (pm_recv hw (hk.q (i := 0) (dC (by decide))) (hk.f (i := 0) (dC (by decide))) rfl)) rfl rfl hl.1 rfl (lv_room (Nat.le_of_ble_eq_true rfl)) dX6_reinstate_18 ⟨Nat.le_of_ble_eq_true rfl, Nat.le_of_ble_eq_true rfl⟩) htab hlocks ⟨Nat.le_of_ble_eq_true rfl, Nat.le_of_ble_eq_true rfl⟩ (fun E u hE => by obtain ⟨rfl, hn9, rfl⟩ := hE; exact ⟨Or.inr ⟨pol_ok hi hpi, Or.inr ⟨hDy, Or.inl ⟨hn9, rfl⟩⟩⟩, scr_id hk⟩) (fun r L1 f1 H locs hp hw => ?_)
  obtain ⟨h60, rfl, hT⟩ := hp
  exact vx_ret (pr_i (v := (nI (kC k))) hx hb hr hlocks hw rfl ⟨Nat.le_of_ble_eq_true rfl, Nat.le_of_ble_eq_true rfl⟩ (⟨i, hpi, rfl, hDy, h60, rfl, hT⟩) dX6_reinstate_21)

/-- the state behind a policy that was opened -/
def kOpen (k : KS) (ba m : Int32) (c : Nat) (r : Nat → Option Nat) : KS := kAdd (kPol k ba) 0 m c r
theorem Iv.opened {a : Nat → Nat} {k : KS} (hi : Iv a k) (hle : IvL k) (hp4 : kP k < 4) {h0 q ea : Nat} {ba m : Int32} {c : Nat} {r : Nat → Option Nat} (hc : k.2.1 3 0 + 1 ≤ c ∧ c ≤ 100) (hr : ∀ j, j < k.2.1 3 0 + 1 → r j = insT (k.2.2.1 0) (k.2.1 3 0) h0 j) : Iv (va_up (va_up (va_up a (20 + 3 * kP k) h0) (21 + 3 * kP k) q) 17 ea) (kOpen k ba m c r) ∧ ∀ p, p < kP k + 1 → (va_up k.2.2.2 (kP k) [] p).length ≤ kC k := by
  have N3 : ∀ t, t ≠ 0 → t ≠ 2 + kP k → (kOpen k ba m c r).2.1 3 t = k.2.1 3 t := fun t h1 h2 => pu_n h1 (pu_n h2 rfl)
  have N4 : ∀ t, t ≠ 0 → t ≠ 2 + kP k → (kOpen k ba m c r).2.1 4 t = k.2.1 4 t := fun t h1 h2 => pu_n h1 (pu_n h2 rfl)
  have N30 : (kOpen k ba m c r).2.1 3 0 = k.2.1 3 0 + 1 := by
    show va_up (va_up (k.2.1 3) (2 + kP k) 0) 0 (va_up (k.2.1 3) (2 + kP k) 0 0 + 1) 0 = _
    rw [pu_s, pu_n (show 0 ≠ 2 + kP k by omega) rfl]
  have N40 : (kOpen k ba m c r).2.1 4 0 = c := by
    show va_up (va_up (k.2.1 4) (2 + kP k) 0) 0 c 0 = c
    exact pu_s
  have N3i : (kOpen k ba m c r).2.1 3 (2 + kP k) = 0 := by
    show va_up (va_up (k.2.1 3) (2 + kP k) 0) 0 (va_up (k.2.1 3) (2 + kP k) 0 0 + 1) (2 + kP k) = _
    exact pu_n (by omega) pu_s
  have N4i : (kOpen k ba m c r).2.1 4 (2 + kP k) = 0 := by
    show va_up (va_up (k.2.1 4) (2 + kP k) 0) 0 c (2 + kP k) = _
    exact pu_n (by omega) pu_s
  have R : ∀ t, t ≠ 0 → (kOpen k ba m c r).2.2.1 t = k.2.2.1 t := fun t h1 => pu_n h1 rfl
  have R0 : (kOpen k ba m c r).2.2.1 0 = r := by
    show va_up k.2.2.1 0 r 0 = r
    exact pu_s
  have Oi : (kOpen k ba m c r).2.2.2 (kP k) = [] := pu_s
  have On : ∀ p, p ≠ kP k → (kOpen k ba m c r).2.2.2 p = k.2.2.2 p := fun p h => pu_n h rfl
  have hs0 := hi.2.1.1
  have A1 : ∀ p, p < kP k → va_up (va_up (va_up a (20 + 3 * kP k) h0) (21 + 3 * kP k) q) 17 ea (20 + 3 * p) = a (20 + 3 * p) := fun p hp => pu_n (by omega) (pu_n (by omega) (pu_n (by omega) rfl))
  have A2 : ∀ j, va_up (va_up (va_up a (20 + 3 * kP k) h0) (21 + 3 * kP k) q) 17 ea (32 + j) = a (32 + j) := fun j => pu_n (by omega) (pu_n (by omega) (pu_n (by omega) rfl))
  have A3 : va_up (va_up (va_up a (20 + 3 * kP k) h0) (21 + 3 * kP k) q) 17 ea (20 + 3 * kP k) = h0 := pu_n (by omega) (pu_n (by omega) pu_s)
  refine ⟨⟨⟨show kP k + 1 ≤ 4 by omega, hi.1.2⟩, ⟨by rw [N30]; show k.2.1 3 0 + 1 = kP k + 1; omega, (N3 1 (by omega) (by omega)).trans hi.2.1.2⟩, fun t => ?_, fun p hp => ?_, fun j hj => ?_, fun p hp => ?_, fun p hp j hj => ?_, fun j hj => ?_⟩, fun p hp => ?_⟩
  · by_cases e1 : t = 0
    · subst e1
      rw [N30, N40]
      omega
    · by_cases e2 : t = 2 + kP k
      · subst e2
        rw [N3i, N4i]
        omega
      · rw [N3 t e1 e2, N4 t e1 e2]
        exact hi.2.2.1 t
  · have hp : p < kP k + 1 := hp
    rw [R0, hr p (by omega)]
    unfold insT
    by_cases e : p = kP k
    · subst e
      rw [if_neg (by omega), if_pos hs0.symm, A3]
    · rw [if_pos (by omega), A1 p (by omega)]
      exact hi.2.2.2.1 p (by omega)
  · rw [R 1 (by omega), A2 j]
    exact hi.2.2.2.2.1 j hj
  · have hp : p < kP k + 1 := hp
    by_cases e : p = kP k
    · subst e
      rw [N3i, Oi]
      exact ⟨rfl, fun x hx => absurd hx (Nat.not_lt_zero x)⟩
    · have h9 := hi.2.2.2.2.2.1 p (by omega)
      rw [N3 (2 + p) (by omega) (by omega), On p e, R (2 + p) (by omega)]
      refine ⟨h9.1, fun x hx => ?_⟩
      rw [h9.2 x hx]
      exact congrArg some (A2 _).symm
  · have hp : p < kP k + 1 := hp
    by_cases e : p = kP k
    · subst e
      rw [Oi] at hj
      exact absurd hj (List.not_mem_nil)
    · rw [On p e] at hj
      exact hi.2.2.2.2.2.2.1 p (by omega) j hj
  · have h9 := hi.2.2.2.2.2.2.2 j hj
    exact ⟨Nat.lt_succ_of_lt h9.1, h9.2⟩
  · by_cases e : p = kP k
    · subst e
      rw [pu_s]
      exact Nat.zero_le _
    · rw [pu_n e rfl]
      exact hle p (by omega)
def OpnP (g : GE) (a : Nat → Nat) (k : KS) (L : List Nat) (ba : Int32) (u : PE) : Prop := (∀ b, b ∈ L → b ∈ u.1) ∧ ∃ a9 m c r, a9 0 = a 0 ∧ CW g a9 (kOpen k ba m c r) u.1 u.2 ∧ Iv a9 (kOpen k ba m c r) ∧ ∀ p, p < kP k + 1 → (va_up k.2.2.2 (kP k) [] p).length ≤ kC k

set_option maxHeartbeats 4000000 in
set_option maxRecDepth 100000 in
theorem c_open (l : Launch) (hst : l.stackTraces = false) (g : GE) (L : List Nat) (f : Nat → va_E) (a : Nat → Nat) (k : KS) (hk : CW g a k L f) (hi : Iv a k) (hle : IvL k) (x : Int32) : Xi l yX6_open wsX6_open (rmH 8 6 300) g L f [.ref (a 0), .int x] (fun r u => (1 ≤ x.toInt ∧ x.toInt ≤ 1000) ∧ kP k < 4 ∧ r = nI (kP k) ∧ OpnP g a k L x u) (fun E u => exL [("java/lang/IllegalArgumentException", 1 ≤ x.toInt ∧ x.toInt ≤ 1000), ("java/lang/IllegalStateException", kP k < 4)] E ∧ ScrP g a k L u) 6 300 := by
  intro sz
  refine vx_ofW (cc := cX6_open) (maxL := 2) (ret := (some .int)) (by decide) rfl ?_
  intro p e s m args below meth c s₁ B hml htab hv
  obtain ⟨rfl, hv⟩ := hv
  have hx := B.exec
  have hb := B.bytes
  have hr := B.returns
  have hts := atoms_spec (ws := wsX6_open) B.pre
  have hown : s.vm.findClass RX6 = some m.cls := findClass_of_methodNamed B.named
  have hlocks := B.notSynchronized
  obtain ⟨rfl, hw, hs⟩ := pm_begin hv
  generalize va_A (va_pl L f) s.heap.size = A at hw hs ⊢
  have CF := (⟨hx, hb, hml, hown, hts⟩ : CallFix p m c cX6_open 2 s _ wsX6_open RX6)
  have hin_X6 : ∀ w ∈ wsX60, w ∈ wsX6_open := by decide +kernel
  have hin_X2 : ∀ w ∈ wsX20, w ∈ wsX6_open := by decide +kernel
  have hl := lv_entry ([.ref (a 0), .int x]) (n := 2) (Nat.le_of_ble_eq_true rfl)
  rw [lg_entry_eq]
  generalize (lg_sl ([.ref (a 0), .int x]) ++ List.replicate (2 - (lg_sl ([.ref (a 0), .int x])).length) Slot.unset).toArray = ls at hl ⊢
  have hl : lv_has ls 2 [(0, .ref (a 0)), (1, .int x)] := hl
  have hL0 := hk.ls0 hi
  have h44 := hi.1.1
  refine lv_iload_n hx hb dX6_open_0 rfl (lv_at hl 1 rfl) ?_
  refine lv_iconst (v := 1) hx hb dX6_open_1 (by decide) ?_
  refine lv_sipush (v := 1000) hx hb dX6_open_2 (by decide) ?_
  refine px_v hw (vx_runS (As := [.int x, .int 1, .int 1000]) (rest := []) CF (c_demandWithin l hst g L _ x 1 1000 _) (va_cwS 3 hts gX6_open_X6_demandWithin rfl rfl rfl (by decide +kernel) ⟨Nat.le_of_ble_eq_true rfl, Nat.le_of_ble_eq_true rfl⟩) (pm_preS hw hs) rfl rfl hl.1 rfl (lv_room (Nat.le_of_ble_eq_true rfl)) dX6_open_5 ⟨Nat.le_of_ble_eq_true rfl, Nat.le_of_ble_eq_true rfl⟩) htab hlocks ⟨Nat.le_of_ble_eq_true rfl, Nat.le_of_ble_eq_true rfl⟩ (fun E u hE => by obtain ⟨rfl, hn9, rfl⟩ := hE; exact ⟨Or.inl ⟨hn9, rfl⟩, scr_id hk⟩) (fun L1 f1 H locs hp hw => ?_)
  obtain ⟨hW, hp⟩ := hp
  have hu := hp
  obtain rfl : _ = L1 := (congrArg Prod.fst hu).symm
  obtain rfl : _ = f1 := (congrArg Prod.snd hu).symm
  refine lv_aload_n hx hb dX6_open_8 rfl (lv_at hl 0 rfl) ?_
  refine pm_get (ci := 8) (v := .ref (a 1)) (C := RX6) (T := TX6) (N := 6) hx hb hts hin_X6 hown hw (hk.q (i := 0) (dC (by decide))) (hk.f (i := 0) (dC (by decide))) rfl 0 (by decide) (hts (.fieldLink RX6 10 "Backdater" "policies" "Ljava/util/List;") (by decide +kernel)) (fun _ h9 => h9) rfl dX6_open_9 ?_
  refine pc_Fi hw (va_runF (As := []) (rest := []) (hw.1.1 2 _ rfl).2 CF (c_size l g _ _ (a 1) _ _ _ hL0.q hL0.f _) (va_cwF 0 hts gX6_open_Jx4a65c_size_8abf5_f48Jx4a65c rfl rfl rfl hs.2.2.2.2.2.2.1.1 (by decide +kernel) ⟨Nat.le_of_ble_eq_true rfl, Nat.le_of_ble_eq_true rfl⟩) (pm_preV hw hs (pm_recv hw (hk.q (i := 1) (dC (by decide))) (hk.f (i := 1) (dC (by decide))) rfl)) rfl rfl hl.1 rfl (lv_room (Nat.le_of_ble_eq_true rfl)) dX6_open_12 ⟨Nat.le_of_ble_eq_true rfl, Nat.le_of_ble_eq_true rfl⟩) (fun r L1 f1 H locs hp hw => ?_)
  obtain ⟨hE_12, hu⟩ := hp
  obtain rfl : _ = L1 := (congrArg Prod.fst hu).symm
  obtain rfl : _ = f1 := (congrArg Prod.snd hu).symm
  generalize r = r_12 at hE_12 ⊢
  rw [hi.2.1.1] at hE_12
  subst hE_12
  refine lv_iconst (v := 4) hx hb dX6_open_17 (by decide) ?_
  refine lv_icmp_lt (tgt := 31) hx hb dX6_open_18 (by decide) (fun c_18 => ?_) (fun c_18 => ?_)
  · have hlt : kP k < 4 := by
      rw [i32_lt, nI_toInt (by omega)] at c_18
      have : (4 : Int32).toInt = 4 := by decide
      omega
    refine lv_aload_n hx hb dX6_open_31 rfl (lv_at hl 0 rfl) ?_
    refine pm_get (ci := 8) (v := .ref (a 1)) (C := RX6) (T := TX6) (N := 6) hx hb hts hin_X6 hown hw (hk.q (i := 0) (dC (by decide))) (hk.f (i := 0) (dC (by decide))) rfl 0 (by decide) (hts (.fieldLink RX6 10 "Backdater" "policies" "Ljava/util/List;") (by decide +kernel)) (fun _ h9 => h9) rfl dX6_open_32 ?_
    refine pm_new (ci := 4) (fs := [.int 0, .null, .int 0]) (C := RX2) (T := TX2) (N := 3) hx hb hts hin_X2 tyX2 tyX2_ok hown (hts (.classLink RX6 61 RX2) (by decide +kernel)) (hts (.instantiable RX2 3) (by decide +kernel)) (hts (.initialized RX2) (by decide +kernel)) hw rfl (fun j hj => by rcases (show j = 0 ∨ j = 1 ∨ j = 2 by omega) with rfl | rfl | rfl <;> rfl) (Nat.le_of_ble_eq_true rfl) (Nat.le_of_ble_eq_true rfl) dX6_open_35 (fun h9 H hnh hw => ?_)
    refine lv_dup hx hb dX6_open_38 rfl ?_
    refine lv_iload_n hx hb dX6_open_39 rfl (lv_at hl 1 rfl) ?_
    refine pc_v hw (va_runI (As := [.int x]) (rest := [.ref h9, .ref (a 1)]) CF (c_Policy_init l g _ _ h9 x (List.mem_append_right _ (List.mem_singleton.mpr rfl)) pu_s _) (cwI 1 hts gX6_open_X2_init rfl rfl rfl (hts (.initialized RX2) (by decide +kernel)) (hts (.methodLink RX6 63 yX2_init) (by decide +kernel)) (hts (.instanceMethod yX2_init) (by decide +kernel)) rfl (by decide +kernel) ⟨Nat.le_of_ble_eq_true rfl, Nat.le_of_ble_eq_true rfl⟩) (pm_preS hw hs) rfl rfl hl.1 rfl (lv_room (Nat.le_of_ble_eq_true rfl)) dX6_open_40 ⟨Nat.le_of_ble_eq_true rfl, Nat.le_of_ble_eq_true rfl⟩) (fun L1 f1 H locs hp hw => ?_)
    obtain ⟨q, hnq, hp⟩ := hp
    obtain rfl : _ = L1 := (congrArg Prod.fst hp).symm
    have hf9 := (congrArg Prod.snd hp)
    have hf9 : f1 = va_up (va_up (va_up f h9 (.inr (4, [.int 0, .null, .int 0]))) q (.inr (2, [.int 0, .ref (g.2.2 4), .int 0]))) h9 (.inr (4, [.int x, .ref q, .int 0])) := hf9
    have hqL : q ∉ L := fun e9 => hnq (List.mem_append_left _ e9)
    have hqh : q ≠ h9 := fun e9 => hnq (e9 ▸ List.mem_append_right _ (List.mem_singleton.mpr rfl))
    have hoth : ∀ b, b ∈ L → f1 b = f b := fun b hb => by
      have n1 : b ≠ h9 := fun e9 => hnh (e9 ▸ hb)
      have n2 : b ≠ q := fun e9 => hqL (e9 ▸ hb)
      rw [hf9]
      exact pu_n n1 (pu_n n2 (pu_n n1 rfl))
    have e9 : f1 h9 = .inr (4, [.int x, .ref q, .int 0]) := by
      rw [hf9]
      exact pu_s
    have e8 : f1 q = .inr (2, [.int 0, .ref (g.2.2 4), .int 0]) := by
      rw [hf9]
      exact pu_n hqh pu_s
    have hLL : ∀ b, b ∈ L → b ∈ L ++ [h9] ++ [q] := fun b hb => List.mem_append_left _ (List.mem_append_left _ hb)
    have hh9 : h9 ∈ L ++ [h9] ++ [q] := List.mem_append_left _ (List.mem_append_right _ (List.mem_singleton.mpr rfl))
    have hk1 := hk.pol hi hlt x hnh hqL hqh hLL hh9 (List.mem_append_right _ (List.mem_singleton.mpr rfl)) e9 e8 hoth
    have hkk : CW g a k (L ++ [h9] ++ [q]) f1 := ⟨fun i hi => ⟨hLL _ (hk.q hi), (hoth _ (hk.q hi)).trans (hk.f hi)⟩, hk.2⟩
    have hL0 := hkk.ls0 hi
    have hemp := pm_emp hw hs
    rename Nat → va_E => fq
    refine pc_Fi hw (va_runF (As := [.ref h9]) (rest := []) (hw.1.1 2 _ rfl).2 CF (c_addE l g _ _ (a 1) _ _ _ _ _ hL0 h9 ⟨hh9, 4, _, e9, Or.inr rfl⟩ _) (va_cwF 1 hts gX6_open_Jx4a65c_add_9ea2d_f66Jx4a65c rfl rfl rfl hs.2.2.2.2.2.2.1.2.2.1 (by decide +kernel) ⟨Nat.le_of_ble_eq_true rfl, Nat.le_of_ble_eq_true rfl⟩) (pm_preV hw hs (pm_recv hw hL0.q hL0.f rfl)) rfl rfl hl.1 rfl (lv_room (Nat.le_of_ble_eq_true rfl)) dX6_open_43 ⟨Nat.le_of_ble_eq_true rfl, Nat.le_of_ble_eq_true rfl⟩) (fun r L1 f1 H locs hp hw => ?_)
    obtain ⟨rfl, hadd⟩ := hp
    have hadd1 : AddP g (L ++ [h9] ++ [q]) fq (va_up (va_up a (20 + 3 * kP k) h9) (21 + 3 * kP k) q (li 0)) (k.1 17 0 + 1) (lea g (va_up (va_up a (20 + 3 * kP k) h9) (21 + 3 * kP k) q) (kPol k x) 0 (ai 0)) (k.2.1 3 0) (insT (k.2.2.1 0) (k.2.1 3 0) h9) (L1, f1) := by
      have e1 : (va_up (va_up a (20 + 3 * kP k) h9) (21 + 3 * kP k) q) 1 = a 1 := pu_n (by omega) (pu_n (by omega) rfl)
      have e2 : (va_up (va_up a (20 + 3 * kP k) h9) (21 + 3 * kP k) q) 17 = a 17 := pu_n (by omega) (pu_n (by omega) rfl)
      have e3 : (kPol k x).2.1 4 0 = k.2.1 4 0 := pu_n (show 0 ≠ 2 + kP k by omega) rfl
      show AddP g _ _ ((va_up (va_up a (20 + 3 * kP k) h9) (21 + 3 * kP k) q) 1) _ (if (kPol k x).2.1 4 0 = 0 then g.2.2 4 else (va_up (va_up a (20 + 3 * kP k) h9) (21 + 3 * kP k) q) 17) _ _ _
      rw [e1, e2, e3]
      exact hadd
    have S3 : (kPol k x).2.1 3 0 = k.2.1 3 0 := pu_n (show 0 ≠ 2 + kP k by omega) rfl
    have hs0 := hi.2.1.1
    obtain ⟨ea, c1, r1, hk2, hc1, hr1, hL2⟩ := hk1.add (t := 0) (Or.inl rfl) (show kP k + 1 ≤ 4 by omega) (fun j hj => hi.p4 hj) hemp (by rw [S3]; exact hadd1)
    rw [S3] at hc1 hr1
    have hIv := hi.opened hle hlt (h0 := h9) (q := q) (ea := ea) (ba := x) (m := k.1 17 0 + 1) hc1 hr1
    have A0 : va_up (va_up (va_up a (20 + 3 * kP k) h9) (21 + 3 * kP k) q) 17 ea 0 = a 0 := pu_n (by omega) (pu_n (by omega) (pu_n (by omega) rfl))
    have hq0 : a 0 ∈ L1 := A0 ▸ hk2.q (i := 0) (dC (by decide))
    have hf0 := hk2.f (i := 0) (dC (by decide))
    have hf0 : f1 (va_up (va_up (va_up a (20 + 3 * kP k) h9) (21 + 3 * kP k) q) 17 ea 0) = .inr (8, [.ref (va_up (va_up (va_up a (20 + 3 * kP k) h9) (21 + 3 * kP k) q) 17 ea 1), .ref (va_up (va_up (va_up a (20 + 3 * kP k) h9) (21 + 3 * kP k) q) 17 ea 2), .ref (va_up (va_up (va_up a (20 + 3 * kP k) h9) (21 + 3 * kP k) q) 17 ea 3), .ref (va_up (va_up (va_up a (20 + 3 * kP k) h9) (21 + 3 * kP k) q) 17 ea 4), .ref (va_up (va_up (va_up a (20 + 3 * kP k) h9) (21 + 3 * kP k) q) 17 ea 5), .int (k.1 0 0)]) := hf0
    have A1 : va_up (va_up (va_up a (20 + 3 * kP k) h9) (21 + 3 * kP k) q) 17 ea 1 = a 1 := pu_n (by omega) (pu_n (by omega) (pu_n (by omega) rfl))
    rw [A0, A1] at hf0
    obtain ⟨ez, cz, rz, hz1, hz2, hz3⟩ := hadd
    have hqz : a 1 ∈ L1 := hz1 _ hL0.q
    refine lv_pop hx hb dX6_open_48 rfl ?_
    refine lv_aload_n hx hb dX6_open_49 rfl (lv_at hl 0 rfl) ?_
    refine pm_get (ci := 8) (v := .ref (a 1)) (C := RX6) (T := TX6) (N := 6) hx hb hts hin_X6 hown hw hq0 hf0 rfl 0 (by decide) (hts (.fieldLink RX6 10 "Backdater" "policies" "Ljava/util/List;") (by decide +kernel)) (fun _ h9 => h9) rfl dX6_open_50 ?_
    refine pc_Fi hw (va_runF (As := []) (rest := []) (hw.1.1 2 _ rfl).2 CF (c_size l g _ _ (a 1) _ _ _ hqz hz2 _) (va_cwF 0 hts gX6_open_Jx4a65c_size_8abf5_f48Jx4a65c rfl rfl rfl hs.2.2.2.2.2.2.1.1 (by decide +kernel) ⟨Nat.le_of_ble_eq_true rfl, Nat.le_of_ble_eq_true rfl⟩) (pm_preV hw hs (pm_recv hw hqz hz2 rfl)) rfl rfl hl.1 rfl (lv_room (Nat.le_of_ble_eq_true rfl)) dX6_open_53 ⟨Nat.le_of_ble_eq_true rfl, Nat.le_of_ble_eq_true rfl⟩) (fun r L1 f1 H locs hp hw => ?_)
    obtain ⟨hE_53, hu⟩ := hp
    obtain rfl : _ = L1 := (congrArg Prod.fst hu).symm
    obtain rfl : _ = f1 := (congrArg Prod.snd hu).symm
    subst hE_53
    refine lv_iconst (v := 1) hx hb dX6_open_58 (by decide) ?_
    refine lv_isub hx hb dX6_open_59 ?_
    exact vx_ret (pr_i (v := ((nI (k.2.1 3 0 + 1)) - 1)) hx hb hr hlocks hw rfl ⟨Nat.le_of_ble_eq_true rfl, Nat.le_of_ble_eq_true rfl⟩ (⟨hW, hlt, (by rw [hs0]; exact nI_i1 (Nat.succ_pos _)), fun b hb => hL2 b (hLL b hb), _, _, _, _, A0, hk2, hIv⟩) dX6_open_60)
  · have hlt : ¬ kP k < 4 := by
      rw [i32_lt, nI_toInt (by omega)] at c_18
      have : (4 : Int32).toInt = 4 := by decide
      omega
    exact px_throwS (own := RX6) (cls := "java/lang/IllegalStateException") (names := ["java/lang/RuntimeException", "java/lang/Exception"]) hx hb hst hown (by decide +kernel) (by decide +kernel) (hts (.classLink RX6 54 "java/lang/IllegalStateException") (by decide +kernel)) (hts (.initialized "java/lang/IllegalStateException") (by decide +kernel)) (by decide +kernel : (RX6, 56, "there are 4 policies") ∈ sx_texts) hts (by decide +kernel) (by decide +kernel) (by decide +kernel) (by decide +kernel) hs hw hml hl.1 dX6_open_21 dX6_open_24 dX6_open_25 dX6_open_27 dX6_open_30 htab hlocks ⟨Nat.le_of_ble_eq_true rfl, Nat.le_of_ble_eq_true rfl, Nat.le_of_ble_eq_true rfl, Nat.le_of_ble_eq_true rfl⟩ ⟨Nat.le_of_ble_eq_true rfl, Nat.le_of_ble_eq_true rfl⟩ (⟨Or.inr ⟨hW, Or.inl ⟨hlt, rfl⟩⟩, scr_id hk⟩)

end FACE3
