/-! the reference: what is asked of the days -/
section ASK
theorem fld_ex {y : Int32} (h : mFld y) : ∃ f, f < 3 ∧ y = nI f := by
  rcases fld_ix (x := y) ⟨h.1, by have h2 : y.toInt ≤ 2 := h.2; omega⟩ with e | e | e
  · exact ⟨0, by decide, e⟩
  · exact ⟨1, by decide, e⟩
  · exact ⟨2, by decide, e⟩
abbrev whP (k : MS) (n0 : Nat) : Prop := ∀ c, c < n0 → ∃ w, w < 3 ∧ k 8 c = nI w
abbrev knI (k : MS) (kn : Int32) : Prop := inP kn 0 (k 0 1)
/-- the days are gone through -/
def GoP (g : GE) (a : Nat → Nat) (k : MS) (i : Nat) (kn : Int32) (n0 t0 : Nat) (L : List Nat) (u : PE) (T S : Nat → Int32) : Prop := ∃ R C, gdV k i kn n0 365 R ∧ gdC k i kn n0 t0 365 C T S ∧ ScM g a (gK k R C T S) L u
theorem GoP.T {g : GE} {a : Nat → Nat} {k : MS} {i : Nat} {kn : Int32} {n0 t0 : Nat} {L : List Nat} {u : PE} {T S : Nat → Int32} (h : GoP g a k i kn n0 t0 L u T S) : (∀ d, d < 365 → T d = rtM k i kn n0 t0 d) ∧ S 0 = 0 ∧ ∀ d, d < 365 → S (d + 1) = S d + T d := by
  obtain ⟨R, C, -, h, -⟩ := h
  exact h.2

set_option maxHeartbeats 4000000 in
set_option maxRecDepth 100000 in
theorem m_looks (l : Launch) (g : GE) (L : List Nat) (f : Nat → va_E) (a : Nat → Nat) (k : MS) (hk : MW g a k L f) (p0 t0 n0 : Nat) (hI : MInv k p0 t0 n0) (hwh : whP k n0) (x y z kn : Int32) : Mi l yX7_looks wsX7_looks (rmH 2 0 0) g L f [.ref (a 0), .int x, .int y, .int z, .int kn] (fun r u => (∃ t, exT [(1, mPol k x ∧ mFld y), (2, mDay z ∧ knI k kn)] t ∧ r = 0 ∧ ScM g a (mT k t) L u) ∨ (∃ i T S, i < p0 ∧ x = nI i ∧ mFld y ∧ (mDay z ∧ knI k kn) ∧ r = 1 ∧ GoP g a (mT k 0) i kn n0 t0 L u T S)) 0 0 := by
  intro sz
  refine Met.ofW (cc := cX7_looks) (maxL := 5) (ret := (some .boolean)) (by decide) rfl ?_
  intro p e s m args below meth c s₁ B hml hv
  obtain ⟨rfl, hv⟩ := hv
  have hx := B.exec
  have hb := B.bytes
  have hr := B.returns
  have hts := atoms_spec (ws := wsX7_looks) B.pre
  have hown : s.vm.findClass RX7 = some m.cls := findClass_of_methodNamed B.named
  have hlocks := B.notSynchronized
  obtain ⟨rfl, hw, hs⟩ := pm_begin hv
  generalize va_A (va_pl L f) s.heap.size = A at hw hs ⊢
  have CF := (⟨hx, hb, hml, hown, hts⟩ : CallFix p m c cX7_looks 5 s _ wsX7_looks RX7)
  have hin_X7 : ∀ w ∈ wsX70, w ∈ wsX7_looks := by decide +kernel
  have hl := lv_entry ([.ref (a 0), .int x, .int y, .int z, .int kn]) (n := 5) (Nat.le_of_ble_eq_true rfl)
  rw [lg_entry_eq]
  generalize (lg_sl ([.ref (a 0), .int x, .int y, .int z, .int kn]) ++ List.replicate (5 - (lg_sl ([.ref (a 0), .int x, .int y, .int z, .int kn])).length) Slot.unset).toArray = ls at hl ⊢
  have hl : lv_has ls 5 [(0, .ref (a 0)), (1, .int x), (2, .int y), (3, .int z), (4, .int kn)] := hl
  obtain ⟨⟨hp0, ht0, hn0⟩, hpl, htl, hnl⟩ := hI
  refine lv_aload_n hx hb dX7_looks_0 rfl (lv_at hl 0 rfl) ?_
  refine lv_aload_n hx hb dX7_looks_1 rfl (lv_at hl 0 rfl) ?_
  refine lv_iload_n hx hb dX7_looks_2 rfl (lv_at hl 1 rfl) ?_
  refine pc_i hw (va_runV (As := [.int x]) (rest := [.ref (a 0)]) CF (m_isPolicy l g L _ a k hk x _) (cwV 1 hts gX7_looks_X7_isPolicy rfl rfl rfl (by decide +kernel) ⟨Nat.le_of_ble_eq_true rfl, Nat.le_of_ble_eq_true rfl⟩) (pm_preV hw hs (pm_recv hw (hk.q (i := 0) (by decide)) (hk.f (i := 0) (by decide)) rfl)) rfl rfl hl.1 rfl (lv_room (Nat.le_of_ble_eq_true rfl)) dX7_looks_3 ⟨Nat.le_of_ble_eq_true rfl, Nat.le_of_ble_eq_true rfl⟩) (fun r L1 f1 H locs hp hw => ?_)
  obtain ⟨hE_3, hu⟩ := hp
  obtain rfl : _ = L1 := (congrArg Prod.fst hu).symm
  obtain rfl : _ = f1 := (congrArg Prod.snd hu).symm
  generalize r = r_3 at hE_3 ⊢
  refine lv_if_eq (tgt := 16) hx hb dX7_looks_6 (by decide) (fun c_6 => ?_) (fun c_6 => ?_)
  · have hN : ¬ (mPol k x ∧ mFld y) := fun h9 => b2i_eq0 (hE_3 ▸ c_6) h9.1
    refine lv_iconst (v := 1) hx hb dX7_looks_16 (by decide) ?_
    refine lv_goto (tgt := 45) hx hb dX7_looks_17 (by decide) ?_
    refine pm_put (ci := 9) (v := .int 1) (ty := .int) (C := RX7) (T := TX7) (N := 21) hx hb hts hin_X7 tyX7 tyX7_ok nmX7 hown hw (hk.q (i := 0) (by decide)) (hk.f (i := 0) (by decide)) rfl 20 (by decide) (hts (.fieldLink RX7 59 "BackdaterModel" "thrown" "I") (by decide +kernel)) (fun _ h9 => h9) rfl (by decide +kernel) rfl rfl (Nat.le_of_ble_eq_true rfl) dX7_looks_45 (fun H locs hw => ?_)
    have hk := hk.s4 1
    refine lv_aload_n hx hb dX7_looks_48 rfl (lv_at hl 0 rfl) ?_
    refine pm_get (ci := 9) (v := .int 1) (C := RX7) (T := TX7) (N := 21) hx hb hts hin_X7 hown hw (hk.q (i := 0) (by decide)) (hk.f (i := 0) (by decide)) rfl 20 (by decide) (hts (.fieldLink RX7 59 "BackdaterModel" "thrown" "I") (by decide +kernel)) (fun _ h9 => h9) rfl dX7_looks_49 ?_
    refine lv_if_ne (tgt := 62) hx hb dX7_looks_52 (by decide) (fun c_52 => ?_) (fun c_52 => ?_)
    · refine lv_aload_n hx hb dX7_looks_62 rfl (lv_at hl 0 rfl) ?_
      refine pm_get (ci := 9) (v := .int 1) (C := RX7) (T := TX7) (N := 21) hx hb hts hin_X7 hown hw (hk.q (i := 0) (by decide)) (hk.f (i := 0) (by decide)) rfl 20 (by decide) (hts (.fieldLink RX7 59 "BackdaterModel" "thrown" "I") (by decide +kernel)) (fun _ h9 => h9) rfl dX7_looks_63 ?_
      refine lv_if_ne (tgt := 73) hx hb dX7_looks_66 (by decide) (fun c_66 => ?_) (fun c_66 => ?_)
      · refine lv_iconst (v := 0) hx hb dX7_looks_73 (by decide) ?_
        exact pr_i (v := 0) hx hb hr hlocks hw rfl ⟨Nat.le_of_ble_eq_true rfl, Nat.le_of_ble_eq_true rfl⟩ (Or.inl ⟨1, Or.inl ⟨hN, rfl⟩, rfl, rfl, hk⟩) dX7_looks_74
      · exact absurd c_66 (by decide)
    · exact absurd c_52 (by decide)
  · have h1 : mPol k x := b2i_ne0 (hE_3 ▸ c_6)
    obtain ⟨i, hi9, rfl⟩ := ixM hp0 (by omega) h1
    refine lv_iload_n hx hb dX7_looks_9 rfl (lv_at hl 2 rfl) ?_
    refine pc_i hw (va_runS (As := [.int y]) (rest := [.ref (a 0)]) CF (m_isField l g L _ y _) (va_cwS 1 hts gX7_looks_X7_isField rfl rfl rfl (by decide +kernel) ⟨Nat.le_of_ble_eq_true rfl, Nat.le_of_ble_eq_true rfl⟩) (pm_preS hw hs) rfl rfl hl.1 rfl (lv_room (Nat.le_of_ble_eq_true rfl)) dX7_looks_10 ⟨Nat.le_of_ble_eq_true rfl, Nat.le_of_ble_eq_true rfl⟩) (fun r L1 f1 H locs hp hw => ?_)
    obtain ⟨hE_10, hu⟩ := hp
    obtain rfl : _ = L1 := (congrArg Prod.fst hu).symm
    obtain rfl : _ = f1 := (congrArg Prod.snd hu).symm
    generalize r = r_10 at hE_10 ⊢
    refine lv_if_ne (tgt := 20) hx hb dX7_looks_13 (by decide) (fun c_13 => ?_) (fun c_13 => ?_)
    · have h2 : mFld y := b2i_ne0 (hE_10 ▸ c_13)
      refine lv_iload_n hx hb dX7_looks_20 rfl (lv_at hl 3 rfl) ?_
      refine pc_i hw (va_runS (As := [.int z]) (rest := [.ref (a 0)]) CF (m_isDay l g L _ z _) (va_cwS 1 hts gX7_looks_X7_isDay rfl rfl rfl (by decide +kernel) ⟨Nat.le_of_ble_eq_true rfl, Nat.le_of_ble_eq_true rfl⟩) (pm_preS hw hs) rfl rfl hl.1 rfl (lv_room (Nat.le_of_ble_eq_true rfl)) dX7_looks_21 ⟨Nat.le_of_ble_eq_true rfl, Nat.le_of_ble_eq_true rfl⟩) (fun r L1 f1 H locs hp hw => ?_)
      obtain ⟨hE_21, hu⟩ := hp
      obtain rfl : _ = L1 := (congrArg Prod.fst hu).symm
      obtain rfl : _ = f1 := (congrArg Prod.snd hu).symm
      generalize r = r_21 at hE_21 ⊢
      refine lv_if_eq (tgt := 44) hx hb dX7_looks_24 (by decide) (fun c_24 => ?_) (fun c_24 => ?_)
      · have hN : ¬ (mDay z ∧ knI k kn) := fun h9 => b2i_eq0 (hE_21 ▸ c_24) h9.1
        refine lv_iconst (v := 2) hx hb dX7_looks_44 (by decide) ?_
        refine pm_put (ci := 9) (v := .int 2) (ty := .int) (C := RX7) (T := TX7) (N := 21) hx hb hts hin_X7 tyX7 tyX7_ok nmX7 hown hw (hk.q (i := 0) (by decide)) (hk.f (i := 0) (by decide)) rfl 20 (by decide) (hts (.fieldLink RX7 59 "BackdaterModel" "thrown" "I") (by decide +kernel)) (fun _ h9 => h9) rfl (by decide +kernel) rfl rfl (Nat.le_of_ble_eq_true rfl) dX7_looks_45 (fun H locs hw => ?_)
        have hk := hk.s4 2
        refine lv_aload_n hx hb dX7_looks_48 rfl (lv_at hl 0 rfl) ?_
        refine pm_get (ci := 9) (v := .int 2) (C := RX7) (T := TX7) (N := 21) hx hb hts hin_X7 hown hw (hk.q (i := 0) (by decide)) (hk.f (i := 0) (by decide)) rfl 20 (by decide) (hts (.fieldLink RX7 59 "BackdaterModel" "thrown" "I") (by decide +kernel)) (fun _ h9 => h9) rfl dX7_looks_49 ?_
        refine lv_if_ne (tgt := 62) hx hb dX7_looks_52 (by decide) (fun c_52 => ?_) (fun c_52 => ?_)
        · refine lv_aload_n hx hb dX7_looks_62 rfl (lv_at hl 0 rfl) ?_
          refine pm_get (ci := 9) (v := .int 2) (C := RX7) (T := TX7) (N := 21) hx hb hts hin_X7 hown hw (hk.q (i := 0) (by decide)) (hk.f (i := 0) (by decide)) rfl 20 (by decide) (hts (.fieldLink RX7 59 "BackdaterModel" "thrown" "I") (by decide +kernel)) (fun _ h9 => h9) rfl dX7_looks_63 ?_
          refine lv_if_ne (tgt := 73) hx hb dX7_looks_66 (by decide) (fun c_66 => ?_) (fun c_66 => ?_)
          · refine lv_iconst (v := 0) hx hb dX7_looks_73 (by decide) ?_
            exact pr_i (v := 0) hx hb hr hlocks hw rfl ⟨Nat.le_of_ble_eq_true rfl, Nat.le_of_ble_eq_true rfl⟩ (Or.inl ⟨2, Or.inr ⟨⟨h1, h2⟩, Or.inl ⟨hN, rfl⟩⟩, rfl, rfl, hk⟩) dX7_looks_74
          · exact absurd c_66 (by decide)
        · exact absurd c_52 (by decide)
      · have h3 : mDay z := b2i_ne0 (hE_21 ▸ c_24)
        refine lv_iload hx hb dX7_looks_27 (lv_at hl 4 rfl) ?_
        refine lv_iconst (v := 0) hx hb dX7_looks_29 (by decide) ?_
        refine lv_aload_n hx hb dX7_looks_30 rfl (lv_at hl 0 rfl) ?_
        refine pm_get (ci := 9) (v := .int (k 0 1)) (C := RX7) (T := TX7) (N := 21) hx hb hts hin_X7 hown hw (hk.q (i := 0) (by decide)) (hk.f (i := 0) (by decide)) rfl 3 (by decide) (hts (.fieldLink RX7 80 "BackdaterModel" "today" "I") (by decide +kernel)) (fun _ h9 => h9) rfl dX7_looks_31 ?_
        refine pc_i hw (va_runS (As := [.int kn, .int 0, .int (k 0 1)]) (rest := [.ref (a 0)]) CF (m_isIn l g L _ kn 0 (k 0 1) _) (va_cwS 3 hts gX7_looks_X7_isIn rfl rfl rfl (by decide +kernel) ⟨Nat.le_of_ble_eq_true rfl, Nat.le_of_ble_eq_true rfl⟩) (pm_preS hw hs) rfl rfl hl.1 rfl (lv_room (Nat.le_of_ble_eq_true rfl)) dX7_looks_34 ⟨Nat.le_of_ble_eq_true rfl, Nat.le_of_ble_eq_true rfl⟩) (fun r L1 f1 H locs hp hw => ?_)
        obtain ⟨hE_34, hu⟩ := hp
        obtain rfl : _ = L1 := (congrArg Prod.fst hu).symm
        obtain rfl : _ = f1 := (congrArg Prod.snd hu).symm
        generalize r = r_34 at hE_34 ⊢
        refine lv_if_eq (tgt := 44) hx hb dX7_looks_37 (by decide) (fun c_37 => ?_) (fun c_37 => ?_)
        · have hN : ¬ (mDay z ∧ knI k kn) := fun h9 => b2i_eq0 (hE_34 ▸ c_37) h9.2
          refine lv_iconst (v := 2) hx hb dX7_looks_44 (by decide) ?_
          refine pm_put (ci := 9) (v := .int 2) (ty := .int) (C := RX7) (T := TX7) (N := 21) hx hb hts hin_X7 tyX7 tyX7_ok nmX7 hown hw (hk.q (i := 0) (by decide)) (hk.f (i := 0) (by decide)) rfl 20 (by decide) (hts (.fieldLink RX7 59 "BackdaterModel" "thrown" "I") (by decide +kernel)) (fun _ h9 => h9) rfl (by decide +kernel) rfl rfl (Nat.le_of_ble_eq_true rfl) dX7_looks_45 (fun H locs hw => ?_)
          have hk := hk.s4 2
          refine lv_aload_n hx hb dX7_looks_48 rfl (lv_at hl 0 rfl) ?_
          refine pm_get (ci := 9) (v := .int 2) (C := RX7) (T := TX7) (N := 21) hx hb hts hin_X7 hown hw (hk.q (i := 0) (by decide)) (hk.f (i := 0) (by decide)) rfl 20 (by decide) (hts (.fieldLink RX7 59 "BackdaterModel" "thrown" "I") (by decide +kernel)) (fun _ h9 => h9) rfl dX7_looks_49 ?_
          refine lv_if_ne (tgt := 62) hx hb dX7_looks_52 (by decide) (fun c_52 => ?_) (fun c_52 => ?_)
          · refine lv_aload_n hx hb dX7_looks_62 rfl (lv_at hl 0 rfl) ?_
            refine pm_get (ci := 9) (v := .int 2) (C := RX7) (T := TX7) (N := 21) hx hb hts hin_X7 hown hw (hk.q (i := 0) (by decide)) (hk.f (i := 0) (by decide)) rfl 20 (by decide) (hts (.fieldLink RX7 59 "BackdaterModel" "thrown" "I") (by decide +kernel)) (fun _ h9 => h9) rfl dX7_looks_63 ?_
            refine lv_if_ne (tgt := 73) hx hb dX7_looks_66 (by decide) (fun c_66 => ?_) (fun c_66 => ?_)
            · refine lv_iconst (v := 0) hx hb dX7_looks_73 (by decide) ?_
              exact pr_i (v := 0) hx hb hr hlocks hw rfl ⟨Nat.le_of_ble_eq_true rfl, Nat.le_of_ble_eq_true rfl⟩ (Or.inl ⟨2, Or.inr ⟨⟨h1, h2⟩, Or.inl ⟨hN, rfl⟩⟩, rfl, rfl, hk⟩) dX7_looks_74
            · exact absurd c_66 (by decide)
          · exact absurd c_52 (by decide)
        · have h4 : knI k kn := b2i_ne0 (hE_34 ▸ c_37)
          refine lv_iconst (v := 0) hx hb dX7_looks_40 (by decide) ?_
          refine lv_goto (tgt := 45) hx hb dX7_looks_41 (by decide) ?_
          refine pm_put (ci := 9) (v := .int 0) (ty := .int) (C := RX7) (T := TX7) (N := 21) hx hb hts hin_X7 tyX7 tyX7_ok nmX7 hown hw (hk.q (i := 0) (by decide)) (hk.f (i := 0) (by decide)) rfl 20 (by decide) (hts (.fieldLink RX7 59 "BackdaterModel" "thrown" "I") (by decide +kernel)) (fun _ h9 => h9) rfl (by decide +kernel) rfl rfl (Nat.le_of_ble_eq_true rfl) dX7_looks_45 (fun H locs hw => ?_)
          have hk := hk.s4 0
          refine lv_aload_n hx hb dX7_looks_48 rfl (lv_at hl 0 rfl) ?_
          refine pm_get (ci := 9) (v := .int 0) (C := RX7) (T := TX7) (N := 21) hx hb hts hin_X7 hown hw (hk.q (i := 0) (by decide)) (hk.f (i := 0) (by decide)) rfl 20 (by decide) (hts (.fieldLink RX7 59 "BackdaterModel" "thrown" "I") (by decide +kernel)) (fun _ h9 => h9) rfl dX7_looks_49 ?_
          refine lv_if_ne (tgt := 62) hx hb dX7_looks_52 (by decide) (fun c_52 => ?_) (fun c_52 => ?_)
          · exact absurd c_52 (by decide)
          · refine lv_aload_n hx hb dX7_looks_55 rfl (lv_at hl 0 rfl) ?_
            refine lv_iload_n hx hb dX7_looks_56 rfl (lv_at hl 1 rfl) ?_
            refine lv_iload hx hb dX7_looks_57 (lv_at hl 4 rfl) ?_
            refine pc_v hw (va_runV (As := [.int (nI i), .int kn]) (rest := []) CF (m_goes l g L _ a (va_up k 0 (upd (k 0) 4 0)) hk p0 t0 n0 ⟨⟨hp0, ht0, hn0⟩, hpl, htl, hnl⟩ i hi9 kn hwh _) (cwV 2 hts gX7_looks_X7_goes rfl rfl rfl (by decide +kernel) ⟨Nat.le_of_ble_eq_true rfl, Nat.le_of_ble_eq_true rfl⟩) (pm_preV hw hs (pm_recv hw (hk.q (i := 0) (by decide)) (hk.f (i := 0) (by decide)) rfl)) rfl rfl hl.1 rfl (lv_room (Nat.le_of_ble_eq_true rfl)) dX7_looks_59 ⟨Nat.le_of_ble_eq_true rfl, Nat.le_of_ble_eq_true rfl⟩) (fun L1 f1 H locs hp hw => ?_)
            obtain ⟨R, C, T, S, hR, hC, hu, hk⟩ := hp
            obtain rfl : _ = L1 := hu.symm
            have hk : MW g a (gK (mT k 0) R C T S) _ f1 := hk
            refine lv_aload_n hx hb dX7_looks_62 rfl (lv_at hl 0 rfl) ?_
            refine pm_get (ci := 9) (v := .int 0) (C := RX7) (T := TX7) (N := 21) hx hb hts hin_X7 hown hw (hk.q (i := 0) (by decide)) (hk.f (i := 0) (by decide)) rfl 20 (by decide) (hts (.fieldLink RX7 59 "BackdaterModel" "thrown" "I") (by decide +kernel)) (fun _ h9 => h9) rfl dX7_looks_63 ?_
            refine lv_if_ne (tgt := 73) hx hb dX7_looks_66 (by decide) (fun c_66 => ?_) (fun c_66 => ?_)
            · exact absurd c_66 (by decide)
            · refine lv_iconst (v := 1) hx hb dX7_looks_69 (by decide) ?_
              refine lv_goto (tgt := 74) hx hb dX7_looks_70 (by decide) ?_
              exact pr_i (v := 1) hx hb hr hlocks hw rfl ⟨Nat.le_of_ble_eq_true rfl, Nat.le_of_ble_eq_true rfl⟩ (Or.inr ⟨i, T, S, hi9, rfl, h2, ⟨h3, h4⟩, rfl, R, C, hR, hC, rfl, hk⟩) dX7_looks_74
    · have hN : ¬ (mPol k (nI i) ∧ mFld y) := fun h9 => b2i_eq0 (hE_10 ▸ c_13) h9.2
      refine lv_iconst (v := 1) hx hb dX7_looks_16 (by decide) ?_
      refine lv_goto (tgt := 45) hx hb dX7_looks_17 (by decide) ?_
      refine pm_put (ci := 9) (v := .int 1) (ty := .int) (C := RX7) (T := TX7) (N := 21) hx hb hts hin_X7 tyX7 tyX7_ok nmX7 hown hw (hk.q (i := 0) (by decide)) (hk.f (i := 0) (by decide)) rfl 20 (by decide) (hts (.fieldLink RX7 59 "BackdaterModel" "thrown" "I") (by decide +kernel)) (fun _ h9 => h9) rfl (by decide +kernel) rfl rfl (Nat.le_of_ble_eq_true rfl) dX7_looks_45 (fun H locs hw => ?_)
      have hk := hk.s4 1
      refine lv_aload_n hx hb dX7_looks_48 rfl (lv_at hl 0 rfl) ?_
      refine pm_get (ci := 9) (v := .int 1) (C := RX7) (T := TX7) (N := 21) hx hb hts hin_X7 hown hw (hk.q (i := 0) (by decide)) (hk.f (i := 0) (by decide)) rfl 20 (by decide) (hts (.fieldLink RX7 59 "BackdaterModel" "thrown" "I") (by decide +kernel)) (fun _ h9 => h9) rfl dX7_looks_49 ?_
      refine lv_if_ne (tgt := 62) hx hb dX7_looks_52 (by decide) (fun c_52 => ?_) (fun c_52 => ?_)
      · refine lv_aload_n hx hb dX7_looks_62 rfl (lv_at hl 0 rfl) ?_
        refine pm_get (ci := 9) (v := .int 1) (C := RX7) (T := TX7) (N := 21) hx hb hts hin_X7 hown hw (hk.q (i := 0) (by decide)) (hk.f (i := 0) (by decide)) rfl 20 (by decide) (hts (.fieldLink RX7 59 "BackdaterModel" "thrown" "I") (by decide +kernel)) (fun _ h9 => h9) rfl dX7_looks_63 ?_
        refine lv_if_ne (tgt := 73) hx hb dX7_looks_66 (by decide) (fun c_66 => ?_) (fun c_66 => ?_)
        · refine lv_iconst (v := 0) hx hb dX7_looks_73 (by decide) ?_
          exact pr_i (v := 0) hx hb hr hlocks hw rfl ⟨Nat.le_of_ble_eq_true rfl, Nat.le_of_ble_eq_true rfl⟩ (Or.inl ⟨1, Or.inl ⟨hN, rfl⟩, rfl, rfl, hk⟩) dX7_looks_74
        · exact absurd c_66 (by decide)
      · exact absurd c_52 (by decide)

set_option maxHeartbeats 4000000 in
set_option maxRecDepth 100000 in
theorem m_value (l : Launch) (g : GE) (L : List Nat) (f : Nat → va_E) (a : Nat → Nat) (k : MS) (hk : MW g a k L f) (p0 t0 n0 : Nat) (hI : MInv k p0 t0 n0) (hwh : whP k n0) (x y z kn : Int32) : Mi l yX7_value wsX7_value (rmH 3 0 0) g L f [.ref (a 0), .int x, .int y, .int z, .int kn] (fun r u => (∃ t, exT [(1, mPol k x ∧ mFld y), (2, mDay z ∧ knI k kn)] t ∧ ScM g a (mT k t) L u) ∨ ∃ i d f9 T S, i < p0 ∧ x = nI i ∧ f9 < 3 ∧ y = nI f9 ∧ d < 365 ∧ z = nI d ∧ knI k kn ∧ r = (goM (mT k 0) i kn n0 (d + 1)).1 f9 ∧ GoP g a (mT k 0) i kn n0 t0 L u T S) 0 0 := by
  intro sz
  refine Met.ofW (cc := cX7_value) (maxL := 5) (ret := (some .int)) (by decide) rfl ?_
  intro p e s m args below meth c s₁ B hml hv
  obtain ⟨rfl, hv⟩ := hv
  have hx := B.exec
  have hb := B.bytes
  have hr := B.returns
  have hts := atoms_spec (ws := wsX7_value) B.pre
  have hown : s.vm.findClass RX7 = some m.cls := findClass_of_methodNamed B.named
  have hlocks := B.notSynchronized
  obtain ⟨rfl, hw, hs⟩ := pm_begin hv
  generalize va_A (va_pl L f) s.heap.size = A at hw hs ⊢
  have CF := (⟨hx, hb, hml, hown, hts⟩ : CallFix p m c cX7_value 5 s _ wsX7_value RX7)
  have hin_X7 : ∀ w ∈ wsX70, w ∈ wsX7_value := by decide +kernel
  have hl := lv_entry ([.ref (a 0), .int x, .int y, .int z, .int kn]) (n := 5) (Nat.le_of_ble_eq_true rfl)
  rw [lg_entry_eq]
  generalize (lg_sl ([.ref (a 0), .int x, .int y, .int z, .int kn]) ++ List.replicate (5 - (lg_sl ([.ref (a 0), .int x, .int y, .int z, .int kn])).length) Slot.unset).toArray = ls at hl ⊢
  have hl : lv_has ls 5 [(0, .ref (a 0)), (1, .int x), (2, .int y), (3, .int z), (4, .int kn)] := hl
  refine lv_aload_n hx hb dX7_value_0 rfl (lv_at hl 0 rfl) ?_
  refine lv_iload_n hx hb dX7_value_1 rfl (lv_at hl 1 rfl) ?_
  refine lv_iload_n hx hb dX7_value_2 rfl (lv_at hl 2 rfl) ?_
  refine lv_iload_n hx hb dX7_value_3 rfl (lv_at hl 3 rfl) ?_
  refine lv_iload hx hb dX7_value_4 (lv_at hl 4 rfl) ?_
  refine pc_i hw (va_runV (As := [.int x, .int y, .int z, .int kn]) (rest := []) CF (m_looks l g L _ a k hk p0 t0 n0 hI hwh x y z kn _) (cwV 4 hts gX7_value_X7_looks rfl rfl rfl (by decide +kernel) ⟨Nat.le_of_ble_eq_true rfl, Nat.le_of_ble_eq_true rfl⟩) (pm_preV hw hs (pm_recv hw (hk.q (i := 0) (by decide)) (hk.f (i := 0) (by decide)) rfl)) rfl rfl hl.1 rfl (lv_room (Nat.le_of_ble_eq_true rfl)) dX7_value_6 ⟨Nat.le_of_ble_eq_true rfl, Nat.le_of_ble_eq_true rfl⟩) (fun r L1 f1 H locs hp hw => ?_)
  rcases hp with ⟨t, ht, rfl, hu, hk⟩ | ⟨i, T, S, hi9, rfl, hy, ⟨hz, hkn⟩, rfl, R, C, hR, hC, hu, hk⟩
  · obtain rfl : _ = L1 := hu.symm
    have hk : MW g a (mT k t) _ f1 := hk
    refine lv_if_eq (tgt := 25) hx hb dX7_value_9 (by decide) (fun c_9 => ?_) (fun c_9 => ?_)
    · refine lv_iconst (v := 0) hx hb dX7_value_25 (by decide) ?_
      exact pr_i (v := 0) hx hb hr hlocks hw rfl ⟨Nat.le_of_ble_eq_true rfl, Nat.le_of_ble_eq_true rfl⟩ (Or.inl ⟨t, ht, rfl, hk⟩) dX7_value_26
    · exact absurd rfl c_9
  · obtain rfl : _ = L1 := hu.symm
    have hk : MW g a (gK (mT k 0) R C T S) _ f1 := hk
    obtain ⟨d, hd9, rfl⟩ := day_ix ⟨hz.1, hz.2⟩
    obtain ⟨f9, hf9, rfl⟩ := fld_ex hy
    refine lv_if_eq (tgt := 25) hx hb dX7_value_9 (by decide) (fun c_9 => ?_) (fun c_9 => ?_)
    · exact absurd c_9 (by decide)
    · refine lv_aload_n hx hb dX7_value_12 rfl (lv_at hl 0 rfl) ?_
      refine pm_get (ci := 9) (v := .ref (a 13)) (C := RX7) (T := TX7) (N := 21) hx hb hts hin_X7 hown hw (hk.q (i := 0) (by decide)) (hk.f (i := 0) (by decide)) rfl 16 (by decide) (hts (.fieldLink RX7 46 "BackdaterModel" "value" "[I") (by decide +kernel)) (fun _ h9 => h9) rfl dX7_value_13 ?_
      refine lv_iconst (v := 3) hx hb dX7_value_16 (by decide) ?_
      refine lv_iload_n hx hb dX7_value_17 rfl (lv_at hl 3 rfl) ?_
      refine lv_imul hx hb dX7_value_18 ?_
      refine lv_iload_n hx hb dX7_value_19 rfl (lv_at hl 2 rfl) ?_
      refine lv_iadd hx hb dX7_value_20 ?_
      refine pm_iald (n := 1095) (r := R) hx hb hw (hk.q (i := 13) (by decide)) (hk.f (i := 13) (by decide)) (j := (3 * d + f9)) (by rw [ix3 d f9]; exact nI_clamp (by omega)) (by rw [ix3 d f9]; exact vp_in_nI (by omega) (by decide)) dX7_value_21 ?_
      refine lv_goto (tgt := 26) hx hb dX7_value_22 (by decide) ?_
      exact pr_i (v := (R (3 * d + f9))) hx hb hr hlocks hw rfl ⟨Nat.le_of_ble_eq_true rfl, Nat.le_of_ble_eq_true rfl⟩ (Or.inr ⟨i, d, f9, T, S, hi9, rfl, hf9, rfl, hd9, rfl, hkn, hR d hd9 f9 hf9, R, C, hR, hC, rfl, hk⟩) dX7_value_26

set_option maxHeartbeats 4000000 in
set_option maxRecDepth 100000 in
theorem m_isCovered (l : Launch) (g : GE) (L : List Nat) (f : Nat → va_E) (a : Nat → Nat) (k : MS) (hk : MW g a k L f) (p0 t0 n0 : Nat) (hI : MInv k p0 t0 n0) (hwh : whP k n0) (x z kn : Int32) : Mi l yX7_isCovered wsX7_isCovered (rmH 3 0 0) g L f [.ref (a 0), .int x, .int z, .int kn] (fun r u => (r = 0 ∧ (∃ t, exT [(1, mPol k x ∧ mFld 0), (2, mDay z ∧ knI k kn)] t ∧ ScM g a (mT k t) L u)) ∨ ∃ i d T S, i < p0 ∧ x = nI i ∧ d < 365 ∧ z = nI d ∧ knI k kn ∧ r = (goM (mT k 0) i kn n0 (d + 1)).2 ∧ GoP g a (mT k 0) i kn n0 t0 L u T S) 0 0 := by
  intro sz
  refine Met.ofW (cc := cX7_isCovered) (maxL := 4) (ret := (some .boolean)) (by decide) rfl ?_
  intro p e s m args below meth c s₁ B hml hv
  obtain ⟨rfl, hv⟩ := hv
  have hx := B.exec
  have hb := B.bytes
  have hr := B.returns
  have hts := atoms_spec (ws := wsX7_isCovered) B.pre
  have hown : s.vm.findClass RX7 = some m.cls := findClass_of_methodNamed B.named
  have hlocks := B.notSynchronized
  obtain ⟨rfl, hw, hs⟩ := pm_begin hv
  generalize va_A (va_pl L f) s.heap.size = A at hw hs ⊢
  have CF := (⟨hx, hb, hml, hown, hts⟩ : CallFix p m c cX7_isCovered 4 s _ wsX7_isCovered RX7)
  have hin_X7 : ∀ w ∈ wsX70, w ∈ wsX7_isCovered := by decide +kernel
  have hl := lv_entry ([.ref (a 0), .int x, .int z, .int kn]) (n := 4) (Nat.le_of_ble_eq_true rfl)
  rw [lg_entry_eq]
  generalize (lg_sl ([.ref (a 0), .int x, .int z, .int kn]) ++ List.replicate (4 - (lg_sl ([.ref (a 0), .int x, .int z, .int kn])).length) Slot.unset).toArray = ls at hl ⊢
  have hl : lv_has ls 4 [(0, .ref (a 0)), (1, .int x), (2, .int z), (3, .int kn)] := hl
  refine lv_aload_n hx hb dX7_isCovered_0 rfl (lv_at hl 0 rfl) ?_
  refine lv_iload_n hx hb dX7_isCovered_1 rfl (lv_at hl 1 rfl) ?_
  refine lv_iconst (v := 0) hx hb dX7_isCovered_2 (by decide) ?_
  refine lv_iload_n hx hb dX7_isCovered_3 rfl (lv_at hl 2 rfl) ?_
  refine lv_iload_n hx hb dX7_isCovered_4 rfl (lv_at hl 3 rfl) ?_
  refine pc_i hw (va_runV (As := [.int x, .int 0, .int z, .int kn]) (rest := []) CF (m_looks l g L _ a k hk p0 t0 n0 hI hwh x 0 z kn _) (cwV 4 hts gX7_isCovered_X7_looks rfl rfl rfl (by decide +kernel) ⟨Nat.le_of_ble_eq_true rfl, Nat.le_of_ble_eq_true rfl⟩) (pm_preV hw hs (pm_recv hw (hk.q (i := 0) (by decide)) (hk.f (i := 0) (by decide)) rfl)) rfl rfl hl.1 rfl (lv_room (Nat.le_of_ble_eq_true rfl)) dX7_isCovered_5 ⟨Nat.le_of_ble_eq_true rfl, Nat.le_of_ble_eq_true rfl⟩) (fun r L1 f1 H locs hp hw => ?_)
  rcases hp with ⟨t, ht, rfl, hu, hk⟩ | ⟨i, T, S, hi9, rfl, hy, ⟨hz, hkn⟩, rfl, R, C, hR, hC, hu, hk⟩
  · obtain rfl : _ = L1 := hu.symm
    have hk : MW g a (mT k t) _ f1 := hk
    refine lv_if_eq (tgt := 24) hx hb dX7_isCovered_8 (by decide) (fun c_8 => ?_) (fun c_8 => ?_)
    · refine lv_iconst (v := 0) hx hb dX7_isCovered_24 (by decide) ?_
      exact pr_i (v := 0) hx hb hr hlocks hw rfl ⟨Nat.le_of_ble_eq_true rfl, Nat.le_of_ble_eq_true rfl⟩ (Or.inl ⟨rfl, t, ht, rfl, hk⟩) dX7_isCovered_25
    · exact absurd rfl c_8
  · obtain rfl : _ = L1 := hu.symm
    have hk : MW g a (gK (mT k 0) R C T S) _ f1 := hk
    obtain ⟨d, hd9, rfl⟩ := day_ix ⟨hz.1, hz.2⟩
    refine lv_if_eq (tgt := 24) hx hb dX7_isCovered_8 (by decide) (fun c_8 => ?_) (fun c_8 => ?_)
    · exact absurd c_8 (by decide)
    · refine lv_aload_n hx hb dX7_isCovered_11 rfl (lv_at hl 0 rfl) ?_
      refine pm_get (ci := 9) (v := .ref (a 14)) (C := RX7) (T := TX7) (N := 21) hx hb hts hin_X7 hown hw (hk.q (i := 0) (by decide)) (hk.f (i := 0) (by decide)) rfl 17 (by decide) (hts (.fieldLink RX7 49 "BackdaterModel" "covered" "[Z") (by decide +kernel)) (fun _ h9 => h9) rfl dX7_isCovered_12 ?_
      refine lv_iload_n hx hb dX7_isCovered_15 rfl (lv_at hl 2 rfl) ?_
      refine pm_zald (n := 365) (r := C) hx hb hw (hk.q (i := 14) (by decide)) (hk.f (i := 14) (by decide)) (j := d) (nI_clamp (by omega)) (vp_in_nI (by omega) (by decide)) dX7_isCovered_16 ?_
      refine lv_if_eq (tgt := 24) hx hb dX7_isCovered_17 (by decide) (fun c_17 => ?_) (fun c_17 => ?_)
      · have hc9 : (0 : Int32) = (goM (mT k 0) i kn n0 (d + 1)).2 := c_17.symm.trans (hC.1 d hd9)
        refine lv_iconst (v := 0) hx hb dX7_isCovered_24 (by decide) ?_
        exact pr_i (v := 0) hx hb hr hlocks hw rfl ⟨Nat.le_of_ble_eq_true rfl, Nat.le_of_ble_eq_true rfl⟩ (Or.inr ⟨i, d, T, S, hi9, rfl, hd9, rfl, hkn, hc9, R, C, hR, hC, rfl, hk⟩) dX7_isCovered_25
      · have hc9 : (1 : Int32) = (goM (mT k 0) i kn n0 (d + 1)).2 := ((goM01 (mT k 0) i kn n0 (d + 1)).resolve_left (fun h9 => c_17 ((hC.1 d hd9).trans h9))).symm
        refine lv_iconst (v := 1) hx hb dX7_isCovered_20 (by decide) ?_
        refine lv_goto (tgt := 25) hx hb dX7_isCovered_21 (by decide) ?_
        exact pr_i (v := 1) hx hb hr hlocks hw rfl ⟨Nat.le_of_ble_eq_true rfl, Nat.le_of_ble_eq_true rfl⟩ (Or.inr ⟨i, d, T, S, hi9, rfl, hd9, rfl, hkn, hc9, R, C, hR, hC, rfl, hk⟩) dX7_isCovered_25

set_option maxHeartbeats 4000000 in
set_option maxRecDepth 100000 in
theorem m_rate (l : Launch) (g : GE) (L : List Nat) (f : Nat → va_E) (a : Nat → Nat) (k : MS) (hk : MW g a k L f) (p0 t0 n0 : Nat) (hI : MInv k p0 t0 n0) (hwh : whP k n0) (x z kn : Int32) : Mi l yX7_rate wsX7_rate (rmH 3 0 0) g L f [.ref (a 0), .int x, .int z, .int kn] (fun r u => (∃ t, exT [(1, mPol k x ∧ mFld 0), (2, mDay z ∧ knI k kn)] t ∧ ScM g a (mT k t) L u) ∨ ∃ i d T S, i < p0 ∧ x = nI i ∧ d < 365 ∧ z = nI d ∧ knI k kn ∧ r = rtM (mT k 0) i kn n0 t0 d ∧ GoP g a (mT k 0) i kn n0 t0 L u T S) 0 0 := by
  intro sz
  refine Met.ofW (cc := cX7_rate) (maxL := 4) (ret := (some .int)) (by decide) rfl ?_
  intro p e s m args below meth c s₁ B hml hv
  obtain ⟨rfl, hv⟩ := hv
  have hx := B.exec
  have hb := B.bytes
  have hr := B.returns
  have hts := atoms_spec (ws := wsX7_rate) B.pre
  have hown : s.vm.findClass RX7 = some m.cls := findClass_of_methodNamed B.named
  have hlocks := B.notSynchronized
  obtain ⟨rfl, hw, hs⟩ := pm_begin hv
  generalize va_A (va_pl L f) s.heap.size = A at hw hs ⊢
  have CF := (⟨hx, hb, hml, hown, hts⟩ : CallFix p m c cX7_rate 4 s _ wsX7_rate RX7)
  have hin_X7 : ∀ w ∈ wsX70, w ∈ wsX7_rate := by decide +kernel
  have hl := lv_entry ([.ref (a 0), .int x, .int z, .int kn]) (n := 4) (Nat.le_of_ble_eq_true rfl)
  rw [lg_entry_eq]
  generalize (lg_sl ([.ref (a 0), .int x, .int z, .int kn]) ++ List.replicate (4 - (lg_sl ([.ref (a 0), .int x, .int z, .int kn])).length) Slot.unset).toArray = ls at hl ⊢
  have hl : lv_has ls 4 [(0, .ref (a 0)), (1, .int x), (2, .int z), (3, .int kn)] := hl
  refine lv_aload_n hx hb dX7_rate_0 rfl (lv_at hl 0 rfl) ?_
  refine lv_iload_n hx hb dX7_rate_1 rfl (lv_at hl 1 rfl) ?_
  refine lv_iconst (v := 0) hx hb dX7_rate_2 (by decide) ?_
  refine lv_iload_n hx hb dX7_rate_3 rfl (lv_at hl 2 rfl) ?_
  refine lv_iload_n hx hb dX7_rate_4 rfl (lv_at hl 3 rfl) ?_
  refine pc_i hw (va_runV (As := [.int x, .int 0, .int z, .int kn]) (rest := []) CF (m_looks l g L _ a k hk p0 t0 n0 hI hwh x 0 z kn _) (cwV 4 hts gX7_rate_X7_looks rfl rfl rfl (by decide +kernel) ⟨Nat.le_of_ble_eq_true rfl, Nat.le_of_ble_eq_true rfl⟩) (pm_preV hw hs (pm_recv hw (hk.q (i := 0) (by decide)) (hk.f (i := 0) (by decide)) rfl)) rfl rfl hl.1 rfl (lv_room (Nat.le_of_ble_eq_true rfl)) dX7_rate_5 ⟨Nat.le_of_ble_eq_true rfl, Nat.le_of_ble_eq_true rfl⟩) (fun r L1 f1 H locs hp hw => ?_)
  rcases hp with ⟨t, ht, rfl, hu, hk⟩ | ⟨i, T, S, hi9, rfl, hy, ⟨hz, hkn⟩, rfl, R, C, hR, hC, hu, hk⟩
  · obtain rfl : _ = L1 := hu.symm
    have hk : MW g a (mT k t) _ f1 := hk
    refine lv_if_eq (tgt := 20) hx hb dX7_rate_8 (by decide) (fun c_8 => ?_) (fun c_8 => ?_)
    · refine lv_iconst (v := 0) hx hb dX7_rate_20 (by decide) ?_
      exact pr_i (v := 0) hx hb hr hlocks hw rfl ⟨Nat.le_of_ble_eq_true rfl, Nat.le_of_ble_eq_true rfl⟩ (Or.inl ⟨t, ht, rfl, hk⟩) dX7_rate_21
    · exact absurd rfl c_8
  · obtain rfl : _ = L1 := hu.symm
    have hk : MW g a (gK (mT k 0) R C T S) _ f1 := hk
    obtain ⟨d, hd9, rfl⟩ := day_ix ⟨hz.1, hz.2⟩
    refine lv_if_eq (tgt := 20) hx hb dX7_rate_8 (by decide) (fun c_8 => ?_) (fun c_8 => ?_)
    · exact absurd c_8 (by decide)
    · refine lv_aload_n hx hb dX7_rate_11 rfl (lv_at hl 0 rfl) ?_
      refine pm_get (ci := 9) (v := .ref (a 15)) (C := RX7) (T := TX7) (N := 21) hx hb hts hin_X7 hown hw (hk.q (i := 0) (by decide)) (hk.f (i := 0) (by decide)) rfl 18 (by decide) (hts (.fieldLink RX7 53 "BackdaterModel" "rate" "[I") (by decide +kernel)) (fun _ h9 => h9) rfl dX7_rate_12 ?_
      refine lv_iload_n hx hb dX7_rate_15 rfl (lv_at hl 2 rfl) ?_
      refine pm_iald (n := 365) (r := T) hx hb hw (hk.q (i := 15) (by decide)) (hk.f (i := 15) (by decide)) (j := d) (nI_clamp (by omega)) (vp_in_nI (by omega) (by decide)) dX7_rate_16 ?_
      refine lv_goto (tgt := 21) hx hb dX7_rate_17 (by decide) ?_
      exact pr_i (v := (T d)) hx hb hr hlocks hw rfl ⟨Nat.le_of_ble_eq_true rfl, Nat.le_of_ble_eq_true rfl⟩ (Or.inr ⟨i, d, T, S, hi9, rfl, hd9, rfl, hkn, hC.2.1 d hd9, R, C, hR, hC, rfl, hk⟩) dX7_rate_21

set_option maxHeartbeats 4000000 in
set_option maxRecDepth 100000 in
theorem m_all (l : Launch) (g : GE) (L : List Nat) (f : Nat → va_E) (a : Nat → Nat) (k : MS) (hk : MW g a k L f) (p0 t0 n0 : Nat) (hI : MInv k p0 t0 n0) (hwh : whP k n0) (x kn : Int32) : Mi l yX7_all wsX7_all (rmH 3 0 0) g L f [.ref (a 0), .int x, .int kn] (fun r u => (r = 0 ∧ (∃ t, exT [(1, mPol k x ∧ mFld 0), (2, mDay 0 ∧ knI k kn)] t ∧ ScM g a (mT k t) L u)) ∨ ∃ i T S, i < p0 ∧ x = nI i ∧ knI k kn ∧ r = S 365 / 365 ∧ GoP g a (mT k 0) i kn n0 t0 L u T S) 0 0 := by
  intro sz
  refine Met.ofW (cc := cX7_all) (maxL := 3) (ret := (some .int)) (by decide) rfl ?_
  intro p e s m args below meth c s₁ B hml hv
  obtain ⟨rfl, hv⟩ := hv
  have hx := B.exec
  have hb := B.bytes
  have hr := B.returns
  have hts := atoms_spec (ws := wsX7_all) B.pre
  have hown : s.vm.findClass RX7 = some m.cls := findClass_of_methodNamed B.named
  have hlocks := B.notSynchronized
  obtain ⟨rfl, hw, hs⟩ := pm_begin hv
  generalize va_A (va_pl L f) s.heap.size = A at hw hs ⊢
  have CF := (⟨hx, hb, hml, hown, hts⟩ : CallFix p m c cX7_all 3 s _ wsX7_all RX7)
  have hin_X7 : ∀ w ∈ wsX70, w ∈ wsX7_all := by decide +kernel
  have hl := lv_entry ([.ref (a 0), .int x, .int kn]) (n := 3) (Nat.le_of_ble_eq_true rfl)
  rw [lg_entry_eq]
  generalize (lg_sl ([.ref (a 0), .int x, .int kn]) ++ List.replicate (3 - (lg_sl ([.ref (a 0), .int x, .int kn])).length) Slot.unset).toArray = ls at hl ⊢
  have hl : lv_has ls 3 [(0, .ref (a 0)), (1, .int x), (2, .int kn)] := hl
  refine lv_aload_n hx hb dX7_all_0 rfl (lv_at hl 0 rfl) ?_
  refine lv_iload_n hx hb dX7_all_1 rfl (lv_at hl 1 rfl) ?_
  refine lv_iconst (v := 0) hx hb dX7_all_2 (by decide) ?_
  refine lv_iconst (v := 0) hx hb dX7_all_3 (by decide) ?_
  refine lv_iload_n hx hb dX7_all_4 rfl (lv_at hl 2 rfl) ?_
  refine pc_i hw (va_runV (As := [.int x, .int 0, .int 0, .int kn]) (rest := []) CF (m_looks l g L _ a k hk p0 t0 n0 hI hwh x 0 0 kn _) (cwV 4 hts gX7_all_X7_looks rfl rfl rfl (by decide +kernel) ⟨Nat.le_of_ble_eq_true rfl, Nat.le_of_ble_eq_true rfl⟩) (pm_preV hw hs (pm_recv hw (hk.q (i := 0) (by decide)) (hk.f (i := 0) (by decide)) rfl)) rfl rfl hl.1 rfl (lv_room (Nat.le_of_ble_eq_true rfl)) dX7_all_5 ⟨Nat.le_of_ble_eq_true rfl, Nat.le_of_ble_eq_true rfl⟩) (fun r L1 f1 H locs hp hw => ?_)
  rcases hp with ⟨t, ht, rfl, hu, hk⟩ | ⟨i, T, S, hi9, rfl, hy, ⟨hz, hkn⟩, rfl, R, C, hR, hC, hu, hk⟩
  · obtain rfl : _ = L1 := hu.symm
    have hk : MW g a (mT k t) _ f1 := hk
    refine lv_if_eq (tgt := 21) hx hb dX7_all_8 (by decide) (fun c_8 => ?_) (fun c_8 => ?_)
    · refine lv_iconst (v := 0) hx hb dX7_all_21 (by decide) ?_
      exact pr_i (v := 0) hx hb hr hlocks hw rfl ⟨Nat.le_of_ble_eq_true rfl, Nat.le_of_ble_eq_true rfl⟩ (Or.inl ⟨rfl, t, ht, rfl, hk⟩) dX7_all_22
    · exact absurd rfl c_8
  · obtain rfl : _ = L1 := hu.symm
    have hk : MW g a (gK (mT k 0) R C T S) _ f1 := hk
    refine lv_if_eq (tgt := 21) hx hb dX7_all_8 (by decide) (fun c_8 => ?_) (fun c_8 => ?_)
    · exact absurd c_8 (by decide)
    · refine lv_aload_n hx hb dX7_all_11 rfl (lv_at hl 0 rfl) ?_
      refine lv_sipush (v := 365) hx hb dX7_all_12 (by decide) ?_
      refine pc_i hw (va_runV (As := [.int (nI 365)]) (rest := []) CF (m_charge l g L _ a (gK (mT k 0) R C T S) hk 365 (Nat.le_refl _) _) (cwV 1 hts gX7_all_X7_charge rfl rfl rfl (by decide +kernel) ⟨Nat.le_of_ble_eq_true rfl, Nat.le_of_ble_eq_true rfl⟩) (pm_preV hw hs (pm_recv hw (hk.q (i := 0) (by decide)) (hk.f (i := 0) (by decide)) rfl)) rfl rfl hl.1 rfl (lv_room (Nat.le_of_ble_eq_true rfl)) dX7_all_15 ⟨Nat.le_of_ble_eq_true rfl, Nat.le_of_ble_eq_true rfl⟩) (fun r L1 f1 H locs hp hw => ?_)
      obtain ⟨hE_15, hu⟩ := hp
      obtain rfl : _ = L1 := (congrArg Prod.fst hu).symm
      obtain rfl : _ = f1 := (congrArg Prod.snd hu).symm
      generalize r = r_15 at hE_15 ⊢
      subst hE_15
      refine lv_goto (tgt := 22) hx hb dX7_all_18 (by decide) ?_
      exact pr_i (v := (S 365 / 365)) hx hb hr hlocks hw rfl ⟨Nat.le_of_ble_eq_true rfl, Nat.le_of_ble_eq_true rfl⟩ (Or.inr ⟨i, T, S, hi9, rfl, hkn, rfl, R, C, hR, hC, rfl, hk⟩) dX7_all_22

set_option maxHeartbeats 4000000 in
set_option maxRecDepth 100000 in
theorem m_premium (l : Launch) (g : GE) (L : List Nat) (f : Nat → va_E) (a : Nat → Nat) (k : MS) (hk : MW g a k L f) (p0 t0 n0 : Nat) (hI : MInv k p0 t0 n0) (hwh : whP k n0) (x kn : Int32) : Mi l yX7_premium wsX7_premium (rmH 4 0 0) g L f [.ref (a 0), .int x, .int kn] (fun r u => (r = 0 ∧ (∃ t, exT [(1, mPol k x ∧ mFld 0), (2, mDay 0 ∧ knI k kn)] t ∧ ScM g a (mT k t) L u)) ∨ ∃ i T S, i < p0 ∧ x = nI i ∧ knI k kn ∧ r = S 365 / 365 ∧ GoP g a (mT k 0) i kn n0 t0 L u T S) 0 0 := by
  intro sz
  refine Met.ofW (cc := cX7_premium) (maxL := 3) (ret := (some .int)) (by decide) rfl ?_
  intro p e s m args below meth c s₁ B hml hv
  obtain ⟨rfl, hv⟩ := hv
  have hx := B.exec
  have hb := B.bytes
  have hr := B.returns
  have hts := atoms_spec (ws := wsX7_premium) B.pre
  have hown : s.vm.findClass RX7 = some m.cls := findClass_of_methodNamed B.named
  have hlocks := B.notSynchronized
  obtain ⟨rfl, hw, hs⟩ := pm_begin hv
  generalize va_A (va_pl L f) s.heap.size = A at hw hs ⊢
  have CF := (⟨hx, hb, hml, hown, hts⟩ : CallFix p m c cX7_premium 3 s _ wsX7_premium RX7)
  have hin_X7 : ∀ w ∈ wsX70, w ∈ wsX7_premium := by decide +kernel
  have hl := lv_entry ([.ref (a 0), .int x, .int kn]) (n := 3) (Nat.le_of_ble_eq_true rfl)
  rw [lg_entry_eq]
  generalize (lg_sl ([.ref (a 0), .int x, .int kn]) ++ List.replicate (3 - (lg_sl ([.ref (a 0), .int x, .int kn])).length) Slot.unset).toArray = ls at hl ⊢
  have hl : lv_has ls 3 [(0, .ref (a 0)), (1, .int x), (2, .int kn)] := hl
  refine lv_aload_n hx hb dX7_premium_0 rfl (lv_at hl 0 rfl) ?_
  refine lv_iload_n hx hb dX7_premium_1 rfl (lv_at hl 1 rfl) ?_
  refine lv_iload_n hx hb dX7_premium_2 rfl (lv_at hl 2 rfl) ?_
  refine pc_i hw (va_runV (As := [.int x, .int kn]) (rest := []) CF (m_all l g L _ a k hk p0 t0 n0 hI hwh x kn _) (cwV 2 hts gX7_premium_X7_all rfl rfl rfl (by decide +kernel) ⟨Nat.le_of_ble_eq_true rfl, Nat.le_of_ble_eq_true rfl⟩) (pm_preV hw hs (pm_recv hw (hk.q (i := 0) (by decide)) (hk.f (i := 0) (by decide)) rfl)) rfl rfl hl.1 rfl (lv_room (Nat.le_of_ble_eq_true rfl)) dX7_premium_3 ⟨Nat.le_of_ble_eq_true rfl, Nat.le_of_ble_eq_true rfl⟩) (fun r L1 f1 H locs hp hw => ?_)
  exact pr_i (v := r) hx hb hr hlocks hw rfl ⟨Nat.le_of_ble_eq_true rfl, Nat.le_of_ble_eq_true rfl⟩ (hp) dX7_premium_6

set_option maxHeartbeats 4000000 in
set_option maxRecDepth 100000 in
theorem m_premiumByDays (l : Launch) (g : GE) (L : List Nat) (f : Nat → va_E) (a : Nat → Nat) (k : MS) (hk : MW g a k L f) (p0 t0 n0 : Nat) (hI : MInv k p0 t0 n0) (hwh : whP k n0) (x kn : Int32) : Mi l yX7_premiumByDays wsX7_premiumByDays (rmH 4 0 0) g L f [.ref (a 0), .int x, .int kn] (fun r u => (r = 0 ∧ (∃ t, exT [(1, mPol k x ∧ mFld 0), (2, mDay 0 ∧ knI k kn)] t ∧ ScM g a (mT k t) L u)) ∨ ∃ i T S, i < p0 ∧ x = nI i ∧ knI k kn ∧ r = S 365 / 365 ∧ GoP g a (mT k 0) i kn n0 t0 L u T S) 0 0 := by
  intro sz
  refine Met.ofW (cc := cX7_premiumByDays) (maxL := 3) (ret := (some .int)) (by decide) rfl ?_
  intro p e s m args below meth c s₁ B hml hv
  obtain ⟨rfl, hv⟩ := hv
  have hx := B.exec
  have hb := B.bytes
  have hr := B.returns
  have hts := atoms_spec (ws := wsX7_premiumByDays) B.pre
  have hown : s.vm.findClass RX7 = some m.cls := findClass_of_methodNamed B.named
  have hlocks := B.notSynchronized
  obtain ⟨rfl, hw, hs⟩ := pm_begin hv
  generalize va_A (va_pl L f) s.heap.size = A at hw hs ⊢
  have CF := (⟨hx, hb, hml, hown, hts⟩ : CallFix p m c cX7_premiumByDays 3 s _ wsX7_premiumByDays RX7)
  have hin_X7 : ∀ w ∈ wsX70, w ∈ wsX7_premiumByDays := by decide +kernel
  have hl := lv_entry ([.ref (a 0), .int x, .int kn]) (n := 3) (Nat.le_of_ble_eq_true rfl)
  rw [lg_entry_eq]
  generalize (lg_sl ([.ref (a 0), .int x, .int kn]) ++ List.replicate (3 - (lg_sl ([.ref (a 0), .int x, .int kn])).length) Slot.unset).toArray = ls at hl ⊢
  have hl : lv_has ls 3 [(0, .ref (a 0)), (1, .int x), (2, .int kn)] := hl
  refine lv_aload_n hx hb dX7_premiumByDays_0 rfl (lv_at hl 0 rfl) ?_
  refine lv_iload_n hx hb dX7_premiumByDays_1 rfl (lv_at hl 1 rfl) ?_
  refine lv_iload_n hx hb dX7_premiumByDays_2 rfl (lv_at hl 2 rfl) ?_
  refine pc_i hw (va_runV (As := [.int x, .int kn]) (rest := []) CF (m_all l g L _ a k hk p0 t0 n0 hI hwh x kn _) (cwV 2 hts gX7_premiumByDays_X7_all rfl rfl rfl (by decide +kernel) ⟨Nat.le_of_ble_eq_true rfl, Nat.le_of_ble_eq_true rfl⟩) (pm_preV hw hs (pm_recv hw (hk.q (i := 0) (by decide)) (hk.f (i := 0) (by decide)) rfl)) rfl rfl hl.1 rfl (lv_room (Nat.le_of_ble_eq_true rfl)) dX7_premiumByDays_3 ⟨Nat.le_of_ble_eq_true rfl, Nat.le_of_ble_eq_true rfl⟩) (fun r L1 f1 H locs hp hw => ?_)
  exact pr_i (v := r) hx hb hr hlocks hw rfl ⟨Nat.le_of_ble_eq_true rfl, Nat.le_of_ble_eq_true rfl⟩ (hp) dX7_premiumByDays_6

set_option maxHeartbeats 4000000 in
set_option maxRecDepth 100000 in
theorem m_bill (l : Launch) (g : GE) (L : List Nat) (f : Nat → va_E) (a : Nat → Nat) (k : MS) (hk : MW g a k L f) (p0 t0 n0 : Nat) (hI : MInv k p0 t0 n0) (hwh : whP k n0) (x : Int32) : Mi l yX7_bill wsX7_bill (rmH 4 0 0) g L f [.ref (a 0), .int x] (fun r u => (∃ t, exT [(1, mPol k x ∧ mFld 0), (2, mDay 0 ∧ knI k (k 0 1))] t ∧ ScM g a (mT k t) L u) ∨ ∃ i R C T S, i < p0 ∧ x = nI i ∧ r = S 365 / 365 - k 2 i ∧ gdC (mT k 0) i (k 0 1) n0 t0 365 C T S ∧ ScM g a (mS (gK (mT k 0) R C T S) 2 i (S 365 / 365)) L u) 0 0 := by
  intro sz
  refine Met.ofW (cc := cX7_bill) (maxL := 4) (ret := (some .int)) (by decide) rfl ?_
  intro p e s m args below meth c s₁ B hml hv
  obtain ⟨rfl, hv⟩ := hv
  have hx := B.exec
  have hb := B.bytes
  have hr := B.returns
  have hts := atoms_spec (ws := wsX7_bill) B.pre
  have hown : s.vm.findClass RX7 = some m.cls := findClass_of_methodNamed B.named
  have hlocks := B.notSynchronized
  obtain ⟨rfl, hw, hs⟩ := pm_begin hv
  generalize va_A (va_pl L f) s.heap.size = A at hw hs ⊢
  have CF := (⟨hx, hb, hml, hown, hts⟩ : CallFix p m c cX7_bill 4 s _ wsX7_bill RX7)
  have hin_X7 : ∀ w ∈ wsX70, w ∈ wsX7_bill := by decide +kernel
  have hl := lv_entry ([.ref (a 0), .int x]) (n := 4) (Nat.le_of_ble_eq_true rfl)
  rw [lg_entry_eq]
  generalize (lg_sl ([.ref (a 0), .int x]) ++ List.replicate (4 - (lg_sl ([.ref (a 0), .int x])).length) Slot.unset).toArray = ls at hl ⊢
  have hl : lv_has ls 4 [(0, .ref (a 0)), (1, .int x)] := hl
  obtain ⟨⟨hp0, ht0, hn0⟩, hpl, htl, hnl⟩ := id hI
  refine lv_aload_n hx hb dX7_bill_0 rfl (lv_at hl 0 rfl) ?_
  refine lv_iload_n hx hb dX7_bill_1 rfl (lv_at hl 1 rfl) ?_
  refine lv_aload_n hx hb dX7_bill_2 rfl (lv_at hl 0 rfl) ?_
  refine pm_get (ci := 9) (v := .int (k 0 1)) (C := RX7) (T := TX7) (N := 21) hx hb hts hin_X7 hown hw (hk.q (i := 0) (by decide)) (hk.f (i := 0) (by decide)) rfl 3 (by decide) (hts (.fieldLink RX7 80 "BackdaterModel" "today" "I") (by decide +kernel)) (fun _ h9 => h9) rfl dX7_bill_3 ?_
  refine pc_i hw (va_runV (As := [.int x, .int (k 0 1)]) (rest := []) CF (m_all l g L _ a k hk p0 t0 n0 hI hwh x (k 0 1) _) (cwV 2 hts gX7_bill_X7_all rfl rfl rfl (by decide +kernel) ⟨Nat.le_of_ble_eq_true rfl, Nat.le_of_ble_eq_true rfl⟩) (pm_preV hw hs (pm_recv hw (hk.q (i := 0) (by decide)) (hk.f (i := 0) (by decide)) rfl)) rfl rfl hl.1 rfl (lv_room (Nat.le_of_ble_eq_true rfl)) dX7_bill_6 ⟨Nat.le_of_ble_eq_true rfl, Nat.le_of_ble_eq_true rfl⟩) (fun r L1 f1 H locs hp hw => ?_)
  rcases hp with ⟨rfl, t, ht, hu, hk⟩ | ⟨i, T, S, hi9, rfl, hkn, rfl, R, C, hR, hC, hu, hk⟩
  · obtain rfl : _ = L1 := hu.symm
    have hk : MW g a (mT k t) _ f1 := hk
    have htp : t = 1 ∨ t = 2 := by
      rcases ht with ⟨-, h⟩ | ⟨-, ⟨-, h⟩ | ⟨-, h⟩⟩
      · exact Or.inl h
      · exact Or.inr h
      · exact h.elim
    refine lv_istore_n (lv' := [(2, .int 0), (0, .ref (a 0)), (1, .int x)]) hx hb dX7_bill_9 rfl hl (by decide) rfl (fun ls hl => ?_)
    refine lv_aload_n hx hb dX7_bill_10 rfl (lv_at hl 1 rfl) ?_
    refine pm_get (ci := 9) (v := .int t) (C := RX7) (T := TX7) (N := 21) hx hb hts hin_X7 hown hw (hk.q (i := 0) (by decide)) (hk.f (i := 0) (by decide)) rfl 20 (by decide) (hts (.fieldLink RX7 59 "BackdaterModel" "thrown" "I") (by decide +kernel)) (fun _ h9 => h9) rfl dX7_bill_11 ?_
    refine lv_if_le (tgt := 19) hx hb dX7_bill_14 (by decide) (fun c_14 => ?_) (fun c_14 => ?_)
    · exact absurd c_14 (by rcases htp with rfl | rfl <;> decide)
    · refine lv_iconst (v := 0) hx hb dX7_bill_17 (by decide) ?_
      exact pr_i (v := 0) hx hb hr hlocks hw rfl ⟨Nat.le_of_ble_eq_true rfl, Nat.le_of_ble_eq_true rfl⟩ (Or.inl ⟨t, ht, rfl, hk⟩) dX7_bill_18
  · obtain rfl : _ = L1 := hu.symm
    have hk : MW g a (gK (mT k 0) R C T S) _ f1 := hk
    refine lv_istore_n (lv' := [(2, .int (S 365 / 365)), (0, .ref (a 0)), (1, .int (nI i))]) hx hb dX7_bill_9 rfl hl (by decide) rfl (fun ls hl => ?_)
    refine lv_aload_n hx hb dX7_bill_10 rfl (lv_at hl 1 rfl) ?_
    refine pm_get (ci := 9) (v := .int 0) (C := RX7) (T := TX7) (N := 21) hx hb hts hin_X7 hown hw (hk.q (i := 0) (by decide)) (hk.f (i := 0) (by decide)) rfl 20 (by decide) (hts (.fieldLink RX7 59 "BackdaterModel" "thrown" "I") (by decide +kernel)) (fun _ h9 => h9) rfl dX7_bill_11 ?_
    refine lv_if_le (tgt := 19) hx hb dX7_bill_14 (by decide) (fun c_14 => ?_) (fun c_14 => ?_)
    · refine lv_iload_n hx hb dX7_bill_19 rfl (lv_at hl 0 rfl) ?_
      refine lv_aload_n hx hb dX7_bill_20 rfl (lv_at hl 1 rfl) ?_
      refine pm_get (ci := 9) (v := .ref (a 2)) (C := RX7) (T := TX7) (N := 21) hx hb hts hin_X7 hown hw (hk.q (i := 0) (by decide)) (hk.f (i := 0) (by decide)) rfl 2 (by decide) (hts (.fieldLink RX7 13 "BackdaterModel" "paid" "[I") (by decide +kernel)) (fun _ h9 => h9) rfl dX7_bill_21 ?_
      refine lv_iload_n hx hb dX7_bill_24 rfl (lv_at hl 2 rfl) ?_
      refine pm_iald (n := 4) (r := (k 2)) hx hb hw (hk.q (i := 2) (by decide)) (hk.f (i := 2) (by decide)) (j := i) (nI_clamp (by omega)) (vp_in_nI (by omega) (by decide)) dX7_bill_25 ?_
      refine lv_isub hx hb dX7_bill_26 ?_
      refine lv_istore_n (lv' := [(3, .int ((S 365 / 365) - ((k 2) i))), (2, .int (S 365 / 365)), (0, .ref (a 0)), (1, .int (nI i))]) hx hb dX7_bill_27 rfl hl (by decide) rfl (fun ls hl => ?_)
      refine lv_aload_n hx hb dX7_bill_28 rfl (lv_at hl 2 rfl) ?_
      refine pm_get (ci := 9) (v := .ref (a 2)) (C := RX7) (T := TX7) (N := 21) hx hb hts hin_X7 hown hw (hk.q (i := 0) (by decide)) (hk.f (i := 0) (by decide)) rfl 2 (by decide) (hts (.fieldLink RX7 13 "BackdaterModel" "paid" "[I") (by decide +kernel)) (fun _ h9 => h9) rfl dX7_bill_29 ?_
      refine lv_iload_n hx hb dX7_bill_32 rfl (lv_at hl 3 rfl) ?_
      refine lv_iload_n hx hb dX7_bill_33 rfl (lv_at hl 1 rfl) ?_
      refine pm_iast (n := 4) (r := (k 2)) hx hb hw (hk.q (i := 2) (by decide)) (hk.f (i := 2) (by decide)) (j := i) (nI_clamp (by omega)) (vp_in_nI (by omega) (by decide)) dX7_bill_34 (fun H locs hw => ?_)
      have hk := hk.a2 (upd (k 2) i (S 365 / 365))
      refine lv_iload_n hx hb dX7_bill_35 rfl (lv_at hl 0 rfl) ?_
      exact pr_i (v := ((S 365 / 365) - ((k 2) i))) hx hb hr hlocks hw rfl ⟨Nat.le_of_ble_eq_true rfl, Nat.le_of_ble_eq_true rfl⟩ (Or.inr ⟨i, R, C, T, S, hi9, rfl, rfl, hC, rfl, hk⟩) dX7_bill_36
    · exact absurd (by decide) c_14

set_option maxHeartbeats 4000000 in
set_option maxRecDepth 100000 in
theorem m_billed (l : Launch) (g : GE) (L : List Nat) (f : Nat → va_E) (a : Nat → Nat) (k : MS) (hk : MW g a k L f) (p0 t0 n0 : Nat) (hI : MInv k p0 t0 n0) (x : Int32) : Mi l yX7_billed wsX7_billed (rmH 2 0 0) g L f [.ref (a 0), .int x] (fun r u => (¬ mPol k x ∧ ScM g a (mT k 1) L u) ∨ ∃ i, i < p0 ∧ x = nI i ∧ r = k 2 i ∧ ScM g a (mT k 0) L u) 0 0 := by
  intro sz
  refine Met.ofW (cc := cX7_billed) (maxL := 2) (ret := (some .int)) (by decide) rfl ?_
  intro p e s m args below meth c s₁ B hml hv
  obtain ⟨rfl, hv⟩ := hv
  have hx := B.exec
  have hb := B.bytes
  have hr := B.returns
  have hts := atoms_spec (ws := wsX7_billed) B.pre
  have hown : s.vm.findClass RX7 = some m.cls := findClass_of_methodNamed B.named
  have hlocks := B.notSynchronized
  obtain ⟨rfl, hw, hs⟩ := pm_begin hv
  generalize va_A (va_pl L f) s.heap.size = A at hw hs ⊢
  have CF := (⟨hx, hb, hml, hown, hts⟩ : CallFix p m c cX7_billed 2 s _ wsX7_billed RX7)
  have hin_X7 : ∀ w ∈ wsX70, w ∈ wsX7_billed := by decide +kernel
  have hl := lv_entry ([.ref (a 0), .int x]) (n := 2) (Nat.le_of_ble_eq_true rfl)
  rw [lg_entry_eq]
  generalize (lg_sl ([.ref (a 0), .int x]) ++ List.replicate (2 - (lg_sl ([.ref (a 0), .int x])).length) Slot.unset).toArray = ls at hl ⊢
  have hl : lv_has ls 2 [(0, .ref (a 0)), (1, .int x)] := hl
  obtain ⟨⟨hp0, ht0, hn0⟩, hpl, htl, hnl⟩ := hI
  refine lv_aload_n hx hb dX7_billed_0 rfl (lv_at hl 0 rfl) ?_
  refine lv_aload_n hx hb dX7_billed_1 rfl (lv_at hl 0 rfl) ?_
  refine lv_iload_n hx hb dX7_billed_2 rfl (lv_at hl 1 rfl) ?_
  refine pc_i hw (va_runV (As := [.int x]) (rest := [.ref (a 0)]) CF (m_isPolicy l g L _ a k hk x _) (cwV 1 hts gX7_billed_X7_isPolicy rfl rfl rfl (by decide +kernel) ⟨Nat.le_of_ble_eq_true rfl, Nat.le_of_ble_eq_true rfl⟩) (pm_preV hw hs (pm_recv hw (hk.q (i := 0) (by decide)) (hk.f (i := 0) (by decide)) rfl)) rfl rfl hl.1 rfl (lv_room (Nat.le_of_ble_eq_true rfl)) dX7_billed_3 ⟨Nat.le_of_ble_eq_true rfl, Nat.le_of_ble_eq_true rfl⟩) (fun r L1 f1 H locs hp hw => ?_)
  obtain ⟨hE_3, hu⟩ := hp
  obtain rfl : _ = L1 := (congrArg Prod.fst hu).symm
  obtain rfl : _ = f1 := (congrArg Prod.snd hu).symm
  generalize r = r_3 at hE_3 ⊢
  refine lv_if_eq (tgt := 13) hx hb dX7_billed_6 (by decide) (fun c_6 => ?_) (fun c_6 => ?_)
  · have hN : ¬ mPol k x := b2i_eq0 (hE_3 ▸ c_6)
    refine lv_iconst (v := 1) hx hb dX7_billed_13 (by decide) ?_
    refine pm_put (ci := 9) (v := .int 1) (ty := .int) (C := RX7) (T := TX7) (N := 21) hx hb hts hin_X7 tyX7 tyX7_ok nmX7 hown hw (hk.q (i := 0) (by decide)) (hk.f (i := 0) (by decide)) rfl 20 (by decide) (hts (.fieldLink RX7 59 "BackdaterModel" "thrown" "I") (by decide +kernel)) (fun _ h9 => h9) rfl (by decide +kernel) rfl rfl (Nat.le_of_ble_eq_true rfl) dX7_billed_14 (fun H locs hw => ?_)
    have hk := hk.s4 1
    refine lv_aload_n hx hb dX7_billed_17 rfl (lv_at hl 0 rfl) ?_
    refine pm_get (ci := 9) (v := .int 1) (C := RX7) (T := TX7) (N := 21) hx hb hts hin_X7 hown hw (hk.q (i := 0) (by decide)) (hk.f (i := 0) (by decide)) rfl 20 (by decide) (hts (.fieldLink RX7 59 "BackdaterModel" "thrown" "I") (by decide +kernel)) (fun _ h9 => h9) rfl dX7_billed_18 ?_
    refine lv_if_le (tgt := 28) hx hb dX7_billed_21 (by decide) (fun c_21 => ?_) (fun c_21 => ?_)
    · exact absurd c_21 (by decide)
    · refine lv_iconst (v := 0) hx hb dX7_billed_24 (by decide) ?_
      refine lv_goto (tgt := 34) hx hb dX7_billed_25 (by decide) ?_
      exact pr_i (v := 0) hx hb hr hlocks hw rfl ⟨Nat.le_of_ble_eq_true rfl, Nat.le_of_ble_eq_true rfl⟩ (Or.inl ⟨hN, rfl, hk⟩) dX7_billed_34
  · have h1 : mPol k x := b2i_ne0 (hE_3 ▸ c_6)
    obtain ⟨i, hi9, rfl⟩ := ixM hp0 (by omega) h1
    refine lv_iconst (v := 0) hx hb dX7_billed_9 (by decide) ?_
    refine lv_goto (tgt := 14) hx hb dX7_billed_10 (by decide) ?_
    refine pm_put (ci := 9) (v := .int 0) (ty := .int) (C := RX7) (T := TX7) (N := 21) hx hb hts hin_X7 tyX7 tyX7_ok nmX7 hown hw (hk.q (i := 0) (by decide)) (hk.f (i := 0) (by decide)) rfl 20 (by decide) (hts (.fieldLink RX7 59 "BackdaterModel" "thrown" "I") (by decide +kernel)) (fun _ h9 => h9) rfl (by decide +kernel) rfl rfl (Nat.le_of_ble_eq_true rfl) dX7_billed_14 (fun H locs hw => ?_)
    have hk := hk.s4 0
    refine lv_aload_n hx hb dX7_billed_17 rfl (lv_at hl 0 rfl) ?_
    refine pm_get (ci := 9) (v := .int 0) (C := RX7) (T := TX7) (N := 21) hx hb hts hin_X7 hown hw (hk.q (i := 0) (by decide)) (hk.f (i := 0) (by decide)) rfl 20 (by decide) (hts (.fieldLink RX7 59 "BackdaterModel" "thrown" "I") (by decide +kernel)) (fun _ h9 => h9) rfl dX7_billed_18 ?_
    refine lv_if_le (tgt := 28) hx hb dX7_billed_21 (by decide) (fun c_21 => ?_) (fun c_21 => ?_)
    · refine lv_aload_n hx hb dX7_billed_28 rfl (lv_at hl 0 rfl) ?_
      refine pm_get (ci := 9) (v := .ref (a 2)) (C := RX7) (T := TX7) (N := 21) hx hb hts hin_X7 hown hw (hk.q (i := 0) (by decide)) (hk.f (i := 0) (by decide)) rfl 2 (by decide) (hts (.fieldLink RX7 13 "BackdaterModel" "paid" "[I") (by decide +kernel)) (fun _ h9 => h9) rfl dX7_billed_29 ?_
      refine lv_iload_n hx hb dX7_billed_32 rfl (lv_at hl 1 rfl) ?_
      refine pm_iald (n := 4) (r := (k 2)) hx hb hw (hk.q (i := 2) (by decide)) (hk.f (i := 2) (by decide)) (j := i) (nI_clamp (by omega)) (vp_in_nI (by omega) (by decide)) dX7_billed_33 ?_
      exact pr_i (v := ((k 2) i)) hx hb hr hlocks hw rfl ⟨Nat.le_of_ble_eq_true rfl, Nat.le_of_ble_eq_true rfl⟩ (Or.inr ⟨i, hi9, rfl, rfl, rfl, hk⟩) dX7_billed_34
    · exact absurd (by decide) c_21

end ASK
