/-! the reference: segments -/
section SEGM
/-- the segment numbered sg among the first n days: its first day, or -1 -/
def fndM (T : Nat → Int32) (sg at9 : Int32) (n : Nat) : Prop := (∃ d, d < n ∧ isSt T d ∧ nI (cntS T d) = sg ∧ at9 = nI d) ∨ ((∀ d, d < n → isSt T d → nI (cntS T d) ≠ sg) ∧ at9 = -1)
theorem fndM.hit {T : Nat → Int32} {sg : Int32} {n : Nat} (h1 : isSt T n) (h2 : nI (cntS T n) = sg) : fndM T sg (nI n) (n + 1) := Or.inl ⟨n, Nat.lt_succ_self n, h1, h2, rfl⟩
theorem fndM.miss {T : Nat → Int32} {sg at9 : Int32} {n : Nat} (h : fndM T sg at9 n) (h1 : ¬ (isSt T n ∧ nI (cntS T n) = sg)) : fndM T sg at9 (n + 1) := by
  rcases h with ⟨d, hd, h2, h3, h4⟩ | ⟨h2, h3⟩
  · exact Or.inl ⟨d, Nat.lt_succ_of_lt hd, h2, h3, h4⟩
  · refine Or.inr ⟨fun d hd hs he => ?_, h3⟩
    by_cases e : d = n
    · subst e
      exact h1 ⟨hs, he⟩
    · exact h2 d (by omega) hs he
theorem cnt_le (T : Nat → Int32) : ∀ n, cntS T n ≤ n
  | 0 => Nat.le_refl 0
  | n + 1 => by
    have := cnt_le T n
    rw [cntS]
    split <;> omega

set_option maxHeartbeats 4000000 in
set_option maxRecDepth 100000 in
theorem m_segments (l : Launch) (g : GE) (L : List Nat) (f : Nat → va_E) (a : Nat → Nat) (k : MS) (hk : MW g a k L f) (p0 t0 n0 : Nat) (hI : MInv k p0 t0 n0) (hwh : whP k n0) (x kn : Int32) : Mi l yX7_segments wsX7_segments (rmH 3 0 0) g L f [.ref (a 0), .int x, .int kn] (fun r u => (∃ t, exT [(1, mPol k x ∧ mFld 0), (2, mDay 0 ∧ knI k kn)] t ∧ ScM g a (mT k t) L u) ∨ ∃ i T S, i < p0 ∧ x = nI i ∧ knI k kn ∧ r = nI (cntS T 365) ∧ GoP g a (mT k 0) i kn n0 t0 L u T S) 0 0 := by
  intro sz
  refine Met.ofW (cc := cX7_segments) (maxL := 6) (ret := (some .int)) (by decide) rfl ?_
  intro p e s m args below meth c s₁ B hml hv
  obtain ⟨rfl, hv⟩ := hv
  have hx := B.exec
  have hb := B.bytes
  have hr := B.returns
  have hts := atoms_spec (ws := wsX7_segments) B.pre
  have hown : s.vm.findClass RX7 = some m.cls := findClass_of_methodNamed B.named
  have hlocks := B.notSynchronized
  obtain ⟨rfl, hw, hs⟩ := pm_begin hv
  generalize va_A (va_pl L f) s.heap.size = A at hw hs ⊢
  have CF := (⟨hx, hb, hml, hown, hts⟩ : CallFix p m c cX7_segments 6 s _ wsX7_segments RX7)
  have hin_X7 : ∀ w ∈ wsX70, w ∈ wsX7_segments := by decide +kernel
  have hl := lv_entry ([.ref (a 0), .int x, .int kn]) (n := 6) (Nat.le_of_ble_eq_true rfl)
  rw [lg_entry_eq]
  generalize (lg_sl ([.ref (a 0), .int x, .int kn]) ++ List.replicate (6 - (lg_sl ([.ref (a 0), .int x, .int kn])).length) Slot.unset).toArray = ls at hl ⊢
  have hl : lv_has ls 6 [(0, .ref (a 0)), (1, .int x), (2, .int kn)] := hl
  refine lv_iconst (v := 0) hx hb dX7_segments_0 (by decide) ?_
  refine lv_istore_n (lv' := [(3, .int 0), (0, .ref (a 0)), (1, .int x), (2, .int kn)]) hx hb dX7_segments_1 rfl hl (by decide) rfl (fun ls hl => ?_)
  refine lv_aload_n hx hb dX7_segments_2 rfl (lv_at hl 1 rfl) ?_
  refine lv_iload_n hx hb dX7_segments_3 rfl (lv_at hl 2 rfl) ?_
  refine lv_iconst (v := 0) hx hb dX7_segments_4 (by decide) ?_
  refine lv_iconst (v := 0) hx hb dX7_segments_5 (by decide) ?_
  refine lv_iload_n hx hb dX7_segments_6 rfl (lv_at hl 3 rfl) ?_
  refine pc_i hw (va_runV (As := [.int x, .int 0, .int 0, .int kn]) (rest := []) CF (m_looks l g L _ a k hk p0 t0 n0 hI hwh x 0 0 kn _) (cwV 4 hts gX7_segments_X7_looks rfl rfl rfl (by decide +kernel) ⟨Nat.le_of_ble_eq_true rfl, Nat.le_of_ble_eq_true rfl⟩) (pm_preV hw hs (pm_recv hw (hk.q (i := 0) (by decide)) (hk.f (i := 0) (by decide)) rfl)) rfl rfl hl.1 rfl (lv_room (Nat.le_of_ble_eq_true rfl)) dX7_segments_7 ⟨Nat.le_of_ble_eq_true rfl, Nat.le_of_ble_eq_true rfl⟩) (fun r L1 f1 H locs hp hw => ?_)
  rcases hp with ⟨t, ht, rfl, hu, hk⟩ | ⟨i, T, S, hi9, rfl, hy, ⟨hz, hkn⟩, rfl, R, C, hR, hC, hu, hk⟩
  · obtain rfl : _ = L1 := hu.symm
    have hk : MW g a (mT k t) _ f1 := hk
    refine lv_istore (lv' := [(4, .int 0), (3, .int 0), (0, .ref (a 0)), (1, .int x), (2, .int kn)]) hx hb dX7_segments_10 hl (by decide) rfl (fun ls hl => ?_)
    refine lv_iconst (v := 0) hx hb dX7_segments_12 (by decide) ?_
    refine lv_istore (lv' := [(5, .int 0), (4, .int 0), (3, .int 0), (0, .ref (a 0)), (1, .int x), (2, .int kn)]) hx hb dX7_segments_13 hl (by decide) rfl (fun ls hl => ?_)
    refine lv_iload hx hb dX7_segments_15 (lv_at hl 1 rfl) ?_
    refine lv_if_eq (tgt := 51) hx hb dX7_segments_17 (by decide) (fun c_17 => ?_) (fun c_17 => ?_)
    · refine lv_iload_n hx hb dX7_segments_51 rfl (lv_at hl 2 rfl) ?_
      exact pr_i (v := 0) hx hb hr hlocks hw rfl ⟨Nat.le_of_ble_eq_true rfl, Nat.le_of_ble_eq_true rfl⟩ (Or.inl ⟨t, ht, rfl, hk⟩) dX7_segments_52
    · exact absurd rfl c_17
  · obtain rfl : _ = L1 := hu.symm
    have hk : MW g a (gK (mT k 0) R C T S) _ f1 := hk
    refine lv_istore (lv' := [(4, .int 1), (3, .int 0), (0, .ref (a 0)), (1, .int (nI i)), (2, .int kn)]) hx hb dX7_segments_10 hl (by decide) rfl (fun ls hl => ?_)
    refine lv_iconst (v := 0) hx hb dX7_segments_12 (by decide) ?_
    refine lv_istore (lv' := [(5, .int 0), (4, .int 1), (3, .int 0), (0, .ref (a 0)), (1, .int (nI i)), (2, .int kn)]) hx hb dX7_segments_13 hl (by decide) rfl (fun ls hl => ?_)
    refine W_loop (σ := Nat) (fun d H locs ls => (d ≤ 365) ∧ PW g A s H locs L _ ∧ lv_has ls 6 [(5, .int (nI d)), (3, .int (nI (cntS T d))), (4, .int 1), (0, .ref (a 0))]) (fun d => 365 - d) 0 ⟨Nat.zero_le _, hw, lv_sub hl [0, 2, 1, 3] rfl⟩ ?_
    rintro d H locs ls ⟨hd5, hw, hl⟩ ih_15
    refine lv_iload hx hb dX7_segments_15 (lv_at hl 2 rfl) ?_
    refine lv_if_eq (tgt := 51) hx hb dX7_segments_17 (by decide) (fun c_17 => ?_) (fun c_17 => ?_)
    · exact absurd c_17 (by decide)
    · refine lv_iload hx hb dX7_segments_20 (lv_at hl 0 rfl) ?_
      refine lv_sipush (v := 365) hx hb dX7_segments_22 (by decide) ?_
      refine lv_icmp_ge (tgt := 51) hx hb dX7_segments_25 (by decide) (fun c_25 => ?_) (fun c_25 => ?_)
      · have hdf := (nI_leI (b := d) (a := 365) (by omega) (by omega)).mp (show nI 365 ≤ nI d from c_25)
        refine lv_iload_n hx hb dX7_segments_51 rfl (lv_at hl 1 rfl) ?_
        exact pr_i (v := (nI (cntS T d))) hx hb hr hlocks hw rfl ⟨Nat.le_of_ble_eq_true rfl, Nat.le_of_ble_eq_true rfl⟩ (Or.inr ⟨i, T, S, hi9, rfl, hkn, (by rw [show d = 365 by omega]), R, C, hR, hC, rfl, hk⟩) dX7_segments_52
      · have hd9 : d < 365 := by
          rcases Nat.lt_or_ge d 365 with h9 | h9
          · exact h9
          · exact absurd ((nI_leI (b := d) (a := 365) (by omega) (by omega)).mpr h9) (show ¬ nI 365 ≤ nI d from c_25)
        refine lv_iload_n hx hb dX7_segments_28 rfl (lv_at hl 1 rfl) ?_
        refine lv_aload_n hx hb dX7_segments_29 rfl (lv_at hl 3 rfl) ?_
        refine lv_iload hx hb dX7_segments_30 (lv_at hl 0 rfl) ?_
        refine pc_i hw (va_runV (As := [.int (nI d)]) (rest := [.int (nI (cntS T d))]) CF (m_begins l g L _ a (gK (mT k 0) R C T S) hk d hd9 _) (cwV 1 hts gX7_segments_X7_begins rfl rfl rfl (by decide +kernel) ⟨Nat.le_of_ble_eq_true rfl, Nat.le_of_ble_eq_true rfl⟩) (pm_preV hw hs (pm_recv hw (hk.q (i := 0) (by decide)) (hk.f (i := 0) (by decide)) rfl)) rfl rfl hl.1 rfl (lv_room (Nat.le_of_ble_eq_true rfl)) dX7_segments_32 ⟨Nat.le_of_ble_eq_true rfl, Nat.le_of_ble_eq_true rfl⟩) (fun r L1 f1 H locs hp hw => ?_)
        obtain ⟨hE_32, hu⟩ := hp
        obtain rfl : _ = L1 := (congrArg Prod.fst hu).symm
        obtain rfl : _ = f1 := (congrArg Prod.snd hu).symm
        have hE_32 : r = b2i (isSt T d) := hE_32
        generalize r = r_32 at hE_32 ⊢
        refine lv_if_eq (tgt := 42) hx hb dX7_segments_35 (by decide) (fun c_35 => ?_) (fun c_35 => ?_)
        · have hst : ¬ isSt T d := b2i_eq0 (hE_32 ▸ c_35)
          refine lv_iconst (v := 0) hx hb dX7_segments_42 (by decide) ?_
          refine lv_iadd hx hb dX7_segments_43 ?_
          rw [Int32.add_zero, ← cntS_f hst]
          refine lv_istore_n (lv' := [(3, .int (nI (cntS T (d + 1)))), (5, .int (nI d)), (4, .int 1), (0, .ref (a 0))]) hx hb dX7_segments_44 rfl hl (by decide) rfl (fun ls hl => ?_)
          refine lv_iinc (v := (nI (d + 1))) (lv' := [(5, .int (nI (d + 1))), (3, .int (nI (cntS T (d + 1)))), (4, .int 1), (0, .ref (a 0))]) hx hb dX7_segments_45 hl (k := 1) rfl (nI_1 d) (by decide) rfl (fun ls hl => ?_)
          refine lv_goto (tgt := 15) hx hb dX7_segments_48 (by decide) ?_
          exact ih_15 (d + 1) _ _ _ (by omega) ⟨by omega, hw, lv_sub hl [0, 1, 2, 3] rfl⟩
        · have hst : isSt T d := b2i_ne0 (hE_32 ▸ c_35)
          refine lv_iconst (v := 1) hx hb dX7_segments_38 (by decide) ?_
          refine lv_goto (tgt := 43) hx hb dX7_segments_39 (by decide) ?_
          refine lv_iadd hx hb dX7_segments_43 ?_
          rw [show nI (cntS T d) + 1 = nI (cntS T d + 1) from nI_1 _, ← cntS_t hst]
          refine lv_istore_n (lv' := [(3, .int (nI (cntS T (d + 1)))), (5, .int (nI d)), (4, .int 1), (0, .ref (a 0))]) hx hb dX7_segments_44 rfl hl (by decide) rfl (fun ls hl => ?_)
          refine lv_iinc (v := (nI (d + 1))) (lv' := [(5, .int (nI (d + 1))), (3, .int (nI (cntS T (d + 1)))), (4, .int 1), (0, .ref (a 0))]) hx hb dX7_segments_45 hl (k := 1) rfl (nI_1 d) (by decide) rfl (fun ls hl => ?_)
          refine lv_goto (tgt := 15) hx hb dX7_segments_48 (by decide) ?_
          exact ih_15 (d + 1) _ _ _ (by omega) ⟨by omega, hw, lv_sub hl [0, 1, 2, 3] rfl⟩

set_option maxHeartbeats 4000000 in
set_option maxRecDepth 100000 in
theorem m_found (l : Launch) (g : GE) (L : List Nat) (f : Nat → va_E) (a : Nat → Nat) (k : MS) (hk : MW g a k L f) (p0 t0 n0 : Nat) (hI : MInv k p0 t0 n0) (hwh : whP k n0) (x sg kn : Int32) : Mi l yX7_found wsX7_found (rmH 3 0 0) g L f [.ref (a 0), .int x, .int sg, .int kn] (fun r u => (¬ knI k kn ∧ r = -1 ∧ ScM g a (mT k 1) L u) ∨ (knI k kn ∧ ¬ mPol k x ∧ r = -1 ∧ ScM g a (mT k 2) L u) ∨ ∃ i R C T S t, i < p0 ∧ x = nI i ∧ knI k kn ∧ fndM T sg r 365 ∧ ((r.toInt < 0 ∧ t = 2) ∨ (0 ≤ r.toInt ∧ t = 0)) ∧ gdC (mT k 0) i kn n0 t0 365 C T S ∧ ScM g a (mT (gK (mT k 0) R C T S) t) L u) 0 0 := by
  intro sz
  refine Met.ofW (cc := cX7_found) (maxL := 9) (ret := (some .int)) (by decide) rfl ?_
  intro p e s m args below meth c s₁ B hml hv
  obtain ⟨rfl, hv⟩ := hv
  have hx := B.exec
  have hb := B.bytes
  have hr := B.returns
  have hts := atoms_spec (ws := wsX7_found) B.pre
  have hown : s.vm.findClass RX7 = some m.cls := findClass_of_methodNamed B.named
  have hlocks := B.notSynchronized
  obtain ⟨rfl, hw, hs⟩ := pm_begin hv
  generalize va_A (va_pl L f) s.heap.size = A at hw hs ⊢
  have CF := (⟨hx, hb, hml, hown, hts⟩ : CallFix p m c cX7_found 9 s _ wsX7_found RX7)
  have hin_X7 : ∀ w ∈ wsX70, w ∈ wsX7_found := by decide +kernel
  have hl := lv_entry ([.ref (a 0), .int x, .int sg, .int kn]) (n := 9) (Nat.le_of_ble_eq_true rfl)
  rw [lg_entry_eq]
  generalize (lg_sl ([.ref (a 0), .int x, .int sg, .int kn]) ++ List.replicate (9 - (lg_sl ([.ref (a 0), .int x, .int sg, .int kn])).length) Slot.unset).toArray = ls at hl ⊢
  have hl : lv_has ls 9 [(0, .ref (a 0)), (1, .int x), (2, .int sg), (3, .int kn)] := hl
  refine lv_iconst (v := (-1)) hx hb dX7_found_0 (by decide) ?_
  refine lv_istore (lv' := [(4, .int (-1)), (0, .ref (a 0)), (1, .int x), (2, .int sg), (3, .int kn)]) hx hb dX7_found_1 hl (by decide) rfl (fun ls hl => ?_)
  refine lv_iload_n hx hb dX7_found_3 rfl (lv_at hl 4 rfl) ?_
  refine lv_iconst (v := 0) hx hb dX7_found_4 (by decide) ?_
  refine lv_aload_n hx hb dX7_found_5 rfl (lv_at hl 1 rfl) ?_
  refine pm_get (ci := 9) (v := .int (k 0 1)) (C := RX7) (T := TX7) (N := 21) hx hb hts hin_X7 hown hw (hk.q (i := 0) (by decide)) (hk.f (i := 0) (by decide)) rfl 3 (by decide) (hts (.fieldLink RX7 80 "BackdaterModel" "today" "I") (by decide +kernel)) (fun _ h9 => h9) rfl dX7_found_6 ?_
  refine pc_i hw (va_runS (As := [.int kn, .int 0, .int (k 0 1)]) (rest := []) CF (m_isIn l g L _ kn 0 (k 0 1) _) (va_cwS 3 hts gX7_found_X7_isIn rfl rfl rfl (by decide +kernel) ⟨Nat.le_of_ble_eq_true rfl, Nat.le_of_ble_eq_true rfl⟩) (pm_preS hw hs) rfl rfl hl.1 rfl (lv_room (Nat.le_of_ble_eq_true rfl)) dX7_found_9 ⟨Nat.le_of_ble_eq_true rfl, Nat.le_of_ble_eq_true rfl⟩) (fun r L1 f1 H locs hp hw => ?_)
  obtain ⟨hE_9, hu⟩ := hp
  obtain rfl : _ = L1 := (congrArg Prod.fst hu).symm
  obtain rfl : _ = f1 := (congrArg Prod.snd hu).symm
  generalize r = r_9 at hE_9 ⊢
  subst hE_9
  refine lv_istore (lv' := [(5, .int (b2i (knI k kn))), (4, .int (-1)), (0, .ref (a 0)), (1, .int x), (2, .int sg), (3, .int kn)]) hx hb dX7_found_12 hl (by decide) rfl (fun ls hl => ?_)
  refine lv_iload hx hb dX7_found_14 (lv_at hl 0 rfl) ?_
  refine lv_if_eq (tgt := 34) hx hb dX7_found_16 (by decide) (fun c_16 => ?_) (fun c_16 => ?_)
  · have hkn9 : ¬ knI k kn := b2i_eq0 c_16
    refine lv_iconst (v := 0) hx hb dX7_found_34 (by decide) ?_
    refine lv_istore (lv' := [(6, .int 0), (5, .int (b2i (knI k kn))), (4, .int (-1)), (0, .ref (a 0)), (1, .int x), (2, .int sg), (3, .int kn)]) hx hb dX7_found_35 hl (by decide) rfl (fun ls hl => ?_)
    refine lv_iconst (v := 0) hx hb dX7_found_37 (by decide) ?_
    refine lv_istore (lv' := [(7, .int 0), (6, .int 0), (5, .int (b2i (knI k kn))), (4, .int (-1)), (0, .ref (a 0)), (1, .int x), (2, .int sg), (3, .int kn)]) hx hb dX7_found_38 hl (by decide) rfl (fun ls hl => ?_)
    refine lv_iconst (v := 0) hx hb dX7_found_40 (by decide) ?_
    refine lv_istore (lv' := [(8, .int 0), (7, .int 0), (6, .int 0), (5, .int (b2i (knI k kn))), (4, .int (-1)), (0, .ref (a 0)), (1, .int x), (2, .int sg), (3, .int kn)]) hx hb dX7_found_41 hl (by decide) rfl (fun ls hl => ?_)
    refine lv_iload hx hb dX7_found_43 (lv_at hl 2 rfl) ?_
    refine lv_if_eq (tgt := 105) hx hb dX7_found_45 (by decide) (fun c_45 => ?_) (fun c_45 => ?_)
    · refine lv_aload_n hx hb dX7_found_105 rfl (lv_at hl 5 rfl) ?_
      refine lv_iload hx hb dX7_found_106 (lv_at hl 3 rfl) ?_
      refine lv_if_ne (tgt := 115) hx hb dX7_found_108 (by decide) (fun c_108 => ?_) (fun c_108 => ?_)
      · have hk9 : knI k kn := b2i_ne0 c_108
        refine lv_iload hx hb dX7_found_115 (lv_at hl 4 rfl) ?_
        refine lv_if_ge (tgt := 124) hx hb dX7_found_117 (by decide) (fun c_117 => ?_) (fun c_117 => ?_)
        · have h117 := c_117
          refine lv_iconst (v := 0) hx hb dX7_found_124 (by decide) ?_
          refine pm_put (ci := 9) (v := .int 0) (ty := .int) (C := RX7) (T := TX7) (N := 21) hx hb hts hin_X7 tyX7 tyX7_ok nmX7 hown hw (hk.q (i := 0) (by decide)) (hk.f (i := 0) (by decide)) rfl 20 (by decide) (hts (.fieldLink RX7 59 "BackdaterModel" "thrown" "I") (by decide +kernel)) (fun _ h9 => h9) rfl (by decide +kernel) rfl rfl (Nat.le_of_ble_eq_true rfl) dX7_found_125 (fun H locs hw => ?_)
          have hk := hk.s4 0
          refine lv_iload hx hb dX7_found_128 (lv_at hl 4 rfl) ?_
          exact pr_i (v := (-1)) hx hb hr hlocks hw rfl ⟨Nat.le_of_ble_eq_true rfl, Nat.le_of_ble_eq_true rfl⟩ ((absurd hk9 hkn9)) dX7_found_130
        · have h117 := c_117
          refine lv_iconst (v := 2) hx hb dX7_found_120 (by decide) ?_
          refine lv_goto (tgt := 125) hx hb dX7_found_121 (by decide) ?_
          refine pm_put (ci := 9) (v := .int 2) (ty := .int) (C := RX7) (T := TX7) (N := 21) hx hb hts hin_X7 tyX7 tyX7_ok nmX7 hown hw (hk.q (i := 0) (by decide)) (hk.f (i := 0) (by decide)) rfl 20 (by decide) (hts (.fieldLink RX7 59 "BackdaterModel" "thrown" "I") (by decide +kernel)) (fun _ h9 => h9) rfl (by decide +kernel) rfl rfl (Nat.le_of_ble_eq_true rfl) dX7_found_125 (fun H locs hw => ?_)
          have hk := hk.s4 2
          refine lv_iload hx hb dX7_found_128 (lv_at hl 4 rfl) ?_
          exact pr_i (v := (-1)) hx hb hr hlocks hw rfl ⟨Nat.le_of_ble_eq_true rfl, Nat.le_of_ble_eq_true rfl⟩ ((absurd hk9 hkn9)) dX7_found_130
      · have hk9 : ¬ knI k kn := b2i_eq0 c_108
        refine lv_iconst (v := 1) hx hb dX7_found_111 (by decide) ?_
        refine lv_goto (tgt := 125) hx hb dX7_found_112 (by decide) ?_
        refine pm_put (ci := 9) (v := .int 1) (ty := .int) (C := RX7) (T := TX7) (N := 21) hx hb hts hin_X7 tyX7 tyX7_ok nmX7 hown hw (hk.q (i := 0) (by decide)) (hk.f (i := 0) (by decide)) rfl 20 (by decide) (hts (.fieldLink RX7 59 "BackdaterModel" "thrown" "I") (by decide +kernel)) (fun _ h9 => h9) rfl (by decide +kernel) rfl rfl (Nat.le_of_ble_eq_true rfl) dX7_found_125 (fun H locs hw => ?_)
        have hk := hk.s4 1
        refine lv_iload hx hb dX7_found_128 (lv_at hl 4 rfl) ?_
        exact pr_i (v := (-1)) hx hb hr hlocks hw rfl ⟨Nat.le_of_ble_eq_true rfl, Nat.le_of_ble_eq_true rfl⟩ (Or.inl ⟨hk9, rfl, rfl, hk⟩) dX7_found_130
    · exact absurd rfl c_45
  · have hkn9 : knI k kn := b2i_ne0 c_16
    refine lv_aload_n hx hb dX7_found_19 rfl (lv_at hl 2 rfl) ?_
    refine lv_iload_n hx hb dX7_found_20 rfl (lv_at hl 3 rfl) ?_
    refine lv_iconst (v := 0) hx hb dX7_found_21 (by decide) ?_
    refine lv_iconst (v := 0) hx hb dX7_found_22 (by decide) ?_
    refine lv_iload_n hx hb dX7_found_23 rfl (lv_at hl 5 rfl) ?_
    refine pc_i hw (va_runV (As := [.int x, .int 0, .int 0, .int kn]) (rest := []) CF (m_looks l g L _ a k hk p0 t0 n0 hI hwh x 0 0 kn _) (cwV 4 hts gX7_found_X7_looks rfl rfl rfl (by decide +kernel) ⟨Nat.le_of_ble_eq_true rfl, Nat.le_of_ble_eq_true rfl⟩) (pm_preV hw hs (pm_recv hw (hk.q (i := 0) (by decide)) (hk.f (i := 0) (by decide)) rfl)) rfl rfl hl.1 rfl (lv_room (Nat.le_of_ble_eq_true rfl)) dX7_found_24 ⟨Nat.le_of_ble_eq_true rfl, Nat.le_of_ble_eq_true rfl⟩) (fun r L1 f1 H locs hp hw => ?_)
    rcases hp with ⟨t, ht, rfl, hu, hk⟩ | ⟨i, T, S, hi9, rfl, hy, ⟨hz, hkn⟩, rfl, R, C, hR, hC, hu, hk⟩
    · obtain rfl : _ = L1 := hu.symm
      have hk : MW g a (mT k t) _ f1 := hk
      refine lv_if_eq (tgt := 34) hx hb dX7_found_27 (by decide) (fun c_27 => ?_) (fun c_27 => ?_)
      · refine lv_iconst (v := 0) hx hb dX7_found_34 (by decide) ?_
        refine lv_istore (lv' := [(6, .int 0), (5, .int (b2i (knI k kn))), (4, .int (-1)), (0, .ref (a 0)), (1, .int x), (2, .int sg), (3, .int kn)]) hx hb dX7_found_35 hl (by decide) rfl (fun ls hl => ?_)
        refine lv_iconst (v := 0) hx hb dX7_found_37 (by decide) ?_
        refine lv_istore (lv' := [(7, .int 0), (6, .int 0), (5, .int (b2i (knI k kn))), (4, .int (-1)), (0, .ref (a 0)), (1, .int x), (2, .int sg), (3, .int kn)]) hx hb dX7_found_38 hl (by decide) rfl (fun ls hl => ?_)
        refine lv_iconst (v := 0) hx hb dX7_found_40 (by decide) ?_
        refine lv_istore (lv' := [(8, .int 0), (7, .int 0), (6, .int 0), (5, .int (b2i (knI k kn))), (4, .int (-1)), (0, .ref (a 0)), (1, .int x), (2, .int sg), (3, .int kn)]) hx hb dX7_found_41 hl (by decide) rfl (fun ls hl => ?_)
        refine lv_iload hx hb dX7_found_43 (lv_at hl 2 rfl) ?_
        refine lv_if_eq (tgt := 105) hx hb dX7_found_45 (by decide) (fun c_45 => ?_) (fun c_45 => ?_)
        · refine lv_aload_n hx hb dX7_found_105 rfl (lv_at hl 5 rfl) ?_
          refine lv_iload hx hb dX7_found_106 (lv_at hl 3 rfl) ?_
          refine lv_if_ne (tgt := 115) hx hb dX7_found_108 (by decide) (fun c_108 => ?_) (fun c_108 => ?_)
          · have hk9 : knI k kn := b2i_ne0 c_108
            refine lv_iload hx hb dX7_found_115 (lv_at hl 4 rfl) ?_
            refine lv_if_ge (tgt := 124) hx hb dX7_found_117 (by decide) (fun c_117 => ?_) (fun c_117 => ?_)
            · have h117 := c_117
              refine lv_iconst (v := 0) hx hb dX7_found_124 (by decide) ?_
              refine pm_put (ci := 9) (v := .int 0) (ty := .int) (C := RX7) (T := TX7) (N := 21) hx hb hts hin_X7 tyX7 tyX7_ok nmX7 hown hw (hk.q (i := 0) (by decide)) (hk.f (i := 0) (by decide)) rfl 20 (by decide) (hts (.fieldLink RX7 59 "BackdaterModel" "thrown" "I") (by decide +kernel)) (fun _ h9 => h9) rfl (by decide +kernel) rfl rfl (Nat.le_of_ble_eq_true rfl) dX7_found_125 (fun H locs hw => ?_)
              have hk := hk.s4 0
              refine lv_iload hx hb dX7_found_128 (lv_at hl 4 rfl) ?_
              exact pr_i (v := (-1)) hx hb hr hlocks hw rfl ⟨Nat.le_of_ble_eq_true rfl, Nat.le_of_ble_eq_true rfl⟩ ((absurd h117 (by decide))) dX7_found_130
            · have h117 := c_117
              refine lv_iconst (v := 2) hx hb dX7_found_120 (by decide) ?_
              refine lv_goto (tgt := 125) hx hb dX7_found_121 (by decide) ?_
              refine pm_put (ci := 9) (v := .int 2) (ty := .int) (C := RX7) (T := TX7) (N := 21) hx hb hts hin_X7 tyX7 tyX7_ok nmX7 hown hw (hk.q (i := 0) (by decide)) (hk.f (i := 0) (by decide)) rfl 20 (by decide) (hts (.fieldLink RX7 59 "BackdaterModel" "thrown" "I") (by decide +kernel)) (fun _ h9 => h9) rfl (by decide +kernel) rfl rfl (Nat.le_of_ble_eq_true rfl) dX7_found_125 (fun H locs hw => ?_)
              have hk := hk.s4 2
              refine lv_iload hx hb dX7_found_128 (lv_at hl 4 rfl) ?_
              exact pr_i (v := (-1)) hx hb hr hlocks hw rfl ⟨Nat.le_of_ble_eq_true rfl, Nat.le_of_ble_eq_true rfl⟩ (Or.inr (Or.inl ⟨hk9, (fun h9 => by rcases ht with ⟨h, -⟩ | ⟨-, ⟨h, -⟩ | ⟨-, h⟩⟩; exact h ⟨h9, by decide, by decide⟩; exact h ⟨⟨by decide, by decide⟩, hk9⟩; exact h.elim), rfl, rfl, (by have h9 : MW g a (mT (mT k t) 2) _ _ := hk; rw [mT_mT] at h9; exact h9)⟩)) dX7_found_130
          · have hk9 : ¬ knI k kn := b2i_eq0 c_108
            refine lv_iconst (v := 1) hx hb dX7_found_111 (by decide) ?_
            refine lv_goto (tgt := 125) hx hb dX7_found_112 (by decide) ?_
            refine pm_put (ci := 9) (v := .int 1) (ty := .int) (C := RX7) (T := TX7) (N := 21) hx hb hts hin_X7 tyX7 tyX7_ok nmX7 hown hw (hk.q (i := 0) (by decide)) (hk.f (i := 0) (by decide)) rfl 20 (by decide) (hts (.fieldLink RX7 59 "BackdaterModel" "thrown" "I") (by decide +kernel)) (fun _ h9 => h9) rfl (by decide +kernel) rfl rfl (Nat.le_of_ble_eq_true rfl) dX7_found_125 (fun H locs hw => ?_)
            have hk := hk.s4 1
            refine lv_iload hx hb dX7_found_128 (lv_at hl 4 rfl) ?_
            exact pr_i (v := (-1)) hx hb hr hlocks hw rfl ⟨Nat.le_of_ble_eq_true rfl, Nat.le_of_ble_eq_true rfl⟩ ((absurd hkn9 hk9)) dX7_found_130
        · exact absurd rfl c_45
      · exact absurd rfl c_27
    · obtain rfl : _ = L1 := hu.symm
      have hk : MW g a (gK (mT k 0) R C T S) _ f1 := hk
      refine lv_if_eq (tgt := 34) hx hb dX7_found_27 (by decide) (fun c_27 => ?_) (fun c_27 => ?_)
      · exact absurd c_27 (by decide)
      · refine lv_iconst (v := 1) hx hb dX7_found_30 (by decide) ?_
        refine lv_goto (tgt := 35) hx hb dX7_found_31 (by decide) ?_
        refine lv_istore (lv' := [(6, .int 1), (5, .int (b2i (knI k kn))), (4, .int (-1)), (0, .ref (a 0)), (1, .int (nI i)), (2, .int sg), (3, .int kn)]) hx hb dX7_found_35 hl (by decide) rfl (fun ls hl => ?_)
        refine lv_iconst (v := 0) hx hb dX7_found_37 (by decide) ?_
        refine lv_istore (lv' := [(7, .int 0), (6, .int 1), (5, .int (b2i (knI k kn))), (4, .int (-1)), (0, .ref (a 0)), (1, .int (nI i)), (2, .int sg), (3, .int kn)]) hx hb dX7_found_38 hl (by decide) rfl (fun ls hl => ?_)
        refine lv_iconst (v := 0) hx hb dX7_found_40 (by decide) ?_
        refine lv_istore (lv' := [(8, .int 0), (7, .int 0), (6, .int 1), (5, .int (b2i (knI k kn))), (4, .int (-1)), (0, .ref (a 0)), (1, .int (nI i)), (2, .int sg), (3, .int kn)]) hx hb dX7_found_41 hl (by decide) rfl (fun ls hl => ?_)
        refine W_loop (σ := Nat × Int32) (fun ⟨d, at9⟩ H locs ls => (d ≤ 365 ∧ fndM T sg at9 d) ∧ PW g A s H locs L _ ∧ lv_has ls 9 [(8, .int (nI d)), (7, .int (nI (cntS T d))), (6, .int 1), (5, .int (b2i (knI k kn))), (4, .int at9), (0, .ref (a 0)), (2, .int sg)]) (fun ⟨d, at9⟩ => 365 - d) (0, -1) ⟨⟨Nat.zero_le _, Or.inr ⟨fun d hd => absurd hd (Nat.not_lt_zero d), rfl⟩⟩, hw, lv_sub hl [0, 1, 2, 3, 4, 5, 7] rfl⟩ ?_
        rintro ⟨d, at9⟩ H locs ls ⟨⟨hd5, hfn⟩, hw, hl⟩ ih_43
        refine lv_iload hx hb dX7_found_43 (lv_at hl 2 rfl) ?_
        refine lv_if_eq (tgt := 105) hx hb dX7_found_45 (by decide) (fun c_45 => ?_) (fun c_45 => ?_)
        · exact absurd c_45 (by decide)
        · refine lv_iload hx hb dX7_found_48 (lv_at hl 0 rfl) ?_
          refine lv_sipush (v := 365) hx hb dX7_found_50 (by decide) ?_
          refine lv_icmp_ge (tgt := 105) hx hb dX7_found_53 (by decide) (fun c_53 => ?_) (fun c_53 => ?_)
          · have hdf := (nI_leI (b := d) (a := 365) (by omega) (by omega)).mp (show nI 365 ≤ nI d from c_53)
            refine lv_aload_n hx hb dX7_found_105 rfl (lv_at hl 5 rfl) ?_
            refine lv_iload hx hb dX7_found_106 (lv_at hl 3 rfl) ?_
            refine lv_if_ne (tgt := 115) hx hb dX7_found_108 (by decide) (fun c_108 => ?_) (fun c_108 => ?_)
            · have hk9 : knI k kn := b2i_ne0 c_108
              refine lv_iload hx hb dX7_found_115 (lv_at hl 4 rfl) ?_
              refine lv_if_ge (tgt := 124) hx hb dX7_found_117 (by decide) (fun c_117 => ?_) (fun c_117 => ?_)
              · have h117 := c_117
                refine lv_iconst (v := 0) hx hb dX7_found_124 (by decide) ?_
                refine pm_put (ci := 9) (v := .int 0) (ty := .int) (C := RX7) (T := TX7) (N := 21) hx hb hts hin_X7 tyX7 tyX7_ok nmX7 hown hw (hk.q (i := 0) (by decide)) (hk.f (i := 0) (by decide)) rfl 20 (by decide) (hts (.fieldLink RX7 59 "BackdaterModel" "thrown" "I") (by decide +kernel)) (fun _ h9 => h9) rfl (by decide +kernel) rfl rfl (Nat.le_of_ble_eq_true rfl) dX7_found_125 (fun H locs hw => ?_)
                have hk := hk.s4 0
                refine lv_iload hx hb dX7_found_128 (lv_at hl 4 rfl) ?_
                exact pr_i (v := at9) hx hb hr hlocks hw rfl ⟨Nat.le_of_ble_eq_true rfl, Nat.le_of_ble_eq_true rfl⟩ (Or.inr (Or.inr ⟨i, R, C, T, S, 0, hi9, rfl, hkn, (by rw [show d = 365 by omega] at hfn; exact hfn), Or.inr ⟨by rw [i32_le, i32_0] at h117; omega, rfl⟩, hC, rfl, hk⟩)) dX7_found_130
              · have h117 := c_117
                refine lv_iconst (v := 2) hx hb dX7_found_120 (by decide) ?_
                refine lv_goto (tgt := 125) hx hb dX7_found_121 (by decide) ?_
                refine pm_put (ci := 9) (v := .int 2) (ty := .int) (C := RX7) (T := TX7) (N := 21) hx hb hts hin_X7 tyX7 tyX7_ok nmX7 hown hw (hk.q (i := 0) (by decide)) (hk.f (i := 0) (by decide)) rfl 20 (by decide) (hts (.fieldLink RX7 59 "BackdaterModel" "thrown" "I") (by decide +kernel)) (fun _ h9 => h9) rfl (by decide +kernel) rfl rfl (Nat.le_of_ble_eq_true rfl) dX7_found_125 (fun H locs hw => ?_)
                have hk := hk.s4 2
                refine lv_iload hx hb dX7_found_128 (lv_at hl 4 rfl) ?_
                exact pr_i (v := at9) hx hb hr hlocks hw rfl ⟨Nat.le_of_ble_eq_true rfl, Nat.le_of_ble_eq_true rfl⟩ (Or.inr (Or.inr ⟨i, R, C, T, S, 2, hi9, rfl, hkn, (by rw [show d = 365 by omega] at hfn; exact hfn), Or.inl ⟨by rw [i32_le, i32_0] at h117; omega, rfl⟩, hC, rfl, hk⟩)) dX7_found_130
            · have hk9 : ¬ knI k kn := b2i_eq0 c_108
              refine lv_iconst (v := 1) hx hb dX7_found_111 (by decide) ?_
              refine lv_goto (tgt := 125) hx hb dX7_found_112 (by decide) ?_
              refine pm_put (ci := 9) (v := .int 1) (ty := .int) (C := RX7) (T := TX7) (N := 21) hx hb hts hin_X7 tyX7 tyX7_ok nmX7 hown hw (hk.q (i := 0) (by decide)) (hk.f (i := 0) (by decide)) rfl 20 (by decide) (hts (.fieldLink RX7 59 "BackdaterModel" "thrown" "I") (by decide +kernel)) (fun _ h9 => h9) rfl (by decide +kernel) rfl rfl (Nat.le_of_ble_eq_true rfl) dX7_found_125 (fun H locs hw => ?_)
              have hk := hk.s4 1
              refine lv_iload hx hb dX7_found_128 (lv_at hl 4 rfl) ?_
              exact pr_i (v := at9) hx hb hr hlocks hw rfl ⟨Nat.le_of_ble_eq_true rfl, Nat.le_of_ble_eq_true rfl⟩ ((absurd hkn9 hk9)) dX7_found_130
          · have hd9 : d < 365 := by
              rcases Nat.lt_or_ge d 365 with h9 | h9
              · exact h9
              · exact absurd ((nI_leI (b := d) (a := 365) (by omega) (by omega)).mpr h9) (show ¬ nI 365 ≤ nI d from c_53)
            refine lv_aload_n hx hb dX7_found_56 rfl (lv_at hl 5 rfl) ?_
            refine lv_iload hx hb dX7_found_57 (lv_at hl 0 rfl) ?_
            refine pc_i hw (va_runV (As := [.int (nI d)]) (rest := []) CF (m_begins l g L _ a (gK (mT k 0) R C T S) hk d hd9 _) (cwV 1 hts gX7_found_X7_begins rfl rfl rfl (by decide +kernel) ⟨Nat.le_of_ble_eq_true rfl, Nat.le_of_ble_eq_true rfl⟩) (pm_preV hw hs (pm_recv hw (hk.q (i := 0) (by decide)) (hk.f (i := 0) (by decide)) rfl)) rfl rfl hl.1 rfl (lv_room (Nat.le_of_ble_eq_true rfl)) dX7_found_59 ⟨Nat.le_of_ble_eq_true rfl, Nat.le_of_ble_eq_true rfl⟩) (fun r L1 f1 H locs hp hw => ?_)
            obtain ⟨hE_59, hu⟩ := hp
            obtain rfl : _ = L1 := (congrArg Prod.fst hu).symm
            obtain rfl : _ = f1 := (congrArg Prod.snd hu).symm
            have hE_59 : r = b2i (isSt T d) := hE_59
            generalize r = r_59 at hE_59 ⊢
            refine lv_if_eq (tgt := 76) hx hb dX7_found_62 (by decide) (fun c_62 => ?_) (fun c_62 => ?_)
            · have hst1 : ¬ isSt T d := b2i_eq0 (hE_59 ▸ c_62)
              have hmi : ¬ (isSt T d ∧ nI (cntS T d) = sg) := fun h9 => hst1 h9.1
              refine lv_iload hx hb dX7_found_76 (lv_at hl 4 rfl) ?_
              refine lv_istore (lv' := [(4, .int at9), (8, .int (nI d)), (7, .int (nI (cntS T d))), (6, .int 1), (5, .int (b2i (knI k kn))), (0, .ref (a 0)), (2, .int sg)]) hx hb dX7_found_78 hl (by decide) rfl (fun ls hl => ?_)
              refine lv_iload hx hb dX7_found_80 (lv_at hl 2 rfl) ?_
              refine lv_aload_n hx hb dX7_found_82 rfl (lv_at hl 5 rfl) ?_
              refine lv_iload hx hb dX7_found_83 (lv_at hl 1 rfl) ?_
              refine pc_i hw (va_runV (As := [.int (nI d)]) (rest := [.int (nI (cntS T d))]) CF (m_begins l g L _ a (gK (mT k 0) R C T S) hk d hd9 _) (cwV 1 hts gX7_found_X7_begins rfl rfl rfl (by decide +kernel) ⟨Nat.le_of_ble_eq_true rfl, Nat.le_of_ble_eq_true rfl⟩) (pm_preV hw hs (pm_recv hw (hk.q (i := 0) (by decide)) (hk.f (i := 0) (by decide)) rfl)) rfl rfl hl.1 rfl (lv_room (Nat.le_of_ble_eq_true rfl)) dX7_found_85 ⟨Nat.le_of_ble_eq_true rfl, Nat.le_of_ble_eq_true rfl⟩) (fun r L1 f1 H locs hp hw => ?_)
              obtain ⟨hE_85, hu⟩ := hp
              obtain rfl : _ = L1 := (congrArg Prod.fst hu).symm
              obtain rfl : _ = f1 := (congrArg Prod.snd hu).symm
              have hE_85 : r = b2i (isSt T d) := hE_85
              generalize r = r_85 at hE_85 ⊢
              refine lv_if_eq (tgt := 95) hx hb dX7_found_88 (by decide) (fun c_88 => ?_) (fun c_88 => ?_)
              · have hst : ¬ isSt T d := b2i_eq0 (hE_85 ▸ c_88)
                refine lv_iconst (v := 0) hx hb dX7_found_95 (by decide) ?_
                refine lv_iadd hx hb dX7_found_96 ?_
                rw [Int32.add_zero, ← cntS_f hst]
                refine lv_istore (lv' := [(7, .int (nI (cntS T (d + 1)))), (4, .int at9), (8, .int (nI d)), (6, .int 1), (5, .int (b2i (knI k kn))), (0, .ref (a 0)), (2, .int sg)]) hx hb dX7_found_97 hl (by decide) rfl (fun ls hl => ?_)
                refine lv_iinc (v := (nI (d + 1))) (lv' := [(8, .int (nI (d + 1))), (7, .int (nI (cntS T (d + 1)))), (4, .int at9), (6, .int 1), (5, .int (b2i (knI k kn))), (0, .ref (a 0)), (2, .int sg)]) hx hb dX7_found_99 hl (k := 2) rfl (nI_1 d) (by decide) rfl (fun ls hl => ?_)
                refine lv_goto (tgt := 43) hx hb dX7_found_102 (by decide) ?_
                exact ih_43 (d + 1, at9) _ _ _ (by dsimp only; omega) ⟨⟨by omega, hfn.miss hmi⟩, hw, lv_sub hl [0, 1, 3, 4, 2, 5, 6] rfl⟩
              · have hst : isSt T d := b2i_ne0 (hE_85 ▸ c_88)
                refine lv_iconst (v := 1) hx hb dX7_found_91 (by decide) ?_
                refine lv_goto (tgt := 96) hx hb dX7_found_92 (by decide) ?_
                refine lv_iadd hx hb dX7_found_96 ?_
                rw [show nI (cntS T d) + 1 = nI (cntS T d + 1) from nI_1 _, ← cntS_t hst]
                refine lv_istore (lv' := [(7, .int (nI (cntS T (d + 1)))), (4, .int at9), (8, .int (nI d)), (6, .int 1), (5, .int (b2i (knI k kn))), (0, .ref (a 0)), (2, .int sg)]) hx hb dX7_found_97 hl (by decide) rfl (fun ls hl => ?_)
                refine lv_iinc (v := (nI (d + 1))) (lv' := [(8, .int (nI (d + 1))), (7, .int (nI (cntS T (d + 1)))), (4, .int at9), (6, .int 1), (5, .int (b2i (knI k kn))), (0, .ref (a 0)), (2, .int sg)]) hx hb dX7_found_99 hl (k := 2) rfl (nI_1 d) (by decide) rfl (fun ls hl => ?_)
                refine lv_goto (tgt := 43) hx hb dX7_found_102 (by decide) ?_
                exact ih_43 (d + 1, at9) _ _ _ (by dsimp only; omega) ⟨⟨by omega, hfn.miss hmi⟩, hw, lv_sub hl [0, 1, 3, 4, 2, 5, 6] rfl⟩
            · have hst1 : isSt T d := b2i_ne0 (hE_59 ▸ c_62)
              refine lv_iload hx hb dX7_found_65 (lv_at hl 1 rfl) ?_
              refine lv_iload_n hx hb dX7_found_67 rfl (lv_at hl 6 rfl) ?_
              refine lv_icmp_ne (tgt := 76) hx hb dX7_found_68 (by decide) (fun c_68 => ?_) (fun c_68 => ?_)
              · have hmi : ¬ (isSt T d ∧ nI (cntS T d) = sg) := fun h9 => c_68 h9.2
                refine lv_iload hx hb dX7_found_76 (lv_at hl 4 rfl) ?_
                refine lv_istore (lv' := [(4, .int at9), (8, .int (nI d)), (7, .int (nI (cntS T d))), (6, .int 1), (5, .int (b2i (knI k kn))), (0, .ref (a 0)), (2, .int sg)]) hx hb dX7_found_78 hl (by decide) rfl (fun ls hl => ?_)
                refine lv_iload hx hb dX7_found_80 (lv_at hl 2 rfl) ?_
                refine lv_aload_n hx hb dX7_found_82 rfl (lv_at hl 5 rfl) ?_
                refine lv_iload hx hb dX7_found_83 (lv_at hl 1 rfl) ?_
                refine pc_i hw (va_runV (As := [.int (nI d)]) (rest := [.int (nI (cntS T d))]) CF (m_begins l g L _ a (gK (mT k 0) R C T S) hk d hd9 _) (cwV 1 hts gX7_found_X7_begins rfl rfl rfl (by decide +kernel) ⟨Nat.le_of_ble_eq_true rfl, Nat.le_of_ble_eq_true rfl⟩) (pm_preV hw hs (pm_recv hw (hk.q (i := 0) (by decide)) (hk.f (i := 0) (by decide)) rfl)) rfl rfl hl.1 rfl (lv_room (Nat.le_of_ble_eq_true rfl)) dX7_found_85 ⟨Nat.le_of_ble_eq_true rfl, Nat.le_of_ble_eq_true rfl⟩) (fun r L1 f1 H locs hp hw => ?_)
                obtain ⟨hE_85, hu⟩ := hp
                obtain rfl : _ = L1 := (congrArg Prod.fst hu).symm
                obtain rfl : _ = f1 := (congrArg Prod.snd hu).symm
                have hE_85 : r = b2i (isSt T d) := hE_85
                generalize r = r_85 at hE_85 ⊢
                refine lv_if_eq (tgt := 95) hx hb dX7_found_88 (by decide) (fun c_88 => ?_) (fun c_88 => ?_)
                · have hst : ¬ isSt T d := b2i_eq0 (hE_85 ▸ c_88)
                  refine lv_iconst (v := 0) hx hb dX7_found_95 (by decide) ?_
                  refine lv_iadd hx hb dX7_found_96 ?_
                  rw [Int32.add_zero, ← cntS_f hst]
                  refine lv_istore (lv' := [(7, .int (nI (cntS T (d + 1)))), (4, .int at9), (8, .int (nI d)), (6, .int 1), (5, .int (b2i (knI k kn))), (0, .ref (a 0)), (2, .int sg)]) hx hb dX7_found_97 hl (by decide) rfl (fun ls hl => ?_)
                  refine lv_iinc (v := (nI (d + 1))) (lv' := [(8, .int (nI (d + 1))), (7, .int (nI (cntS T (d + 1)))), (4, .int at9), (6, .int 1), (5, .int (b2i (knI k kn))), (0, .ref (a 0)), (2, .int sg)]) hx hb dX7_found_99 hl (k := 2) rfl (nI_1 d) (by decide) rfl (fun ls hl => ?_)
                  refine lv_goto (tgt := 43) hx hb dX7_found_102 (by decide) ?_
                  exact ih_43 (d + 1, at9) _ _ _ (by dsimp only; omega) ⟨⟨by omega, hfn.miss hmi⟩, hw, lv_sub hl [0, 1, 3, 4, 2, 5, 6] rfl⟩
                · have hst : isSt T d := b2i_ne0 (hE_85 ▸ c_88)
                  refine lv_iconst (v := 1) hx hb dX7_found_91 (by decide) ?_
                  refine lv_goto (tgt := 96) hx hb dX7_found_92 (by decide) ?_
                  refine lv_iadd hx hb dX7_found_96 ?_
                  rw [show nI (cntS T d) + 1 = nI (cntS T d + 1) from nI_1 _, ← cntS_t hst]
                  refine lv_istore (lv' := [(7, .int (nI (cntS T (d + 1)))), (4, .int at9), (8, .int (nI d)), (6, .int 1), (5, .int (b2i (knI k kn))), (0, .ref (a 0)), (2, .int sg)]) hx hb dX7_found_97 hl (by decide) rfl (fun ls hl => ?_)
                  refine lv_iinc (v := (nI (d + 1))) (lv' := [(8, .int (nI (d + 1))), (7, .int (nI (cntS T (d + 1)))), (4, .int at9), (6, .int 1), (5, .int (b2i (knI k kn))), (0, .ref (a 0)), (2, .int sg)]) hx hb dX7_found_99 hl (k := 2) rfl (nI_1 d) (by decide) rfl (fun ls hl => ?_)
                  refine lv_goto (tgt := 43) hx hb dX7_found_102 (by decide) ?_
                  exact ih_43 (d + 1, at9) _ _ _ (by dsimp only; omega) ⟨⟨by omega, hfn.miss hmi⟩, hw, lv_sub hl [0, 1, 3, 4, 2, 5, 6] rfl⟩
              · refine lv_iload hx hb dX7_found_71 (lv_at hl 0 rfl) ?_
                refine lv_goto (tgt := 78) hx hb dX7_found_73 (by decide) ?_
                refine lv_istore (lv' := [(4, .int (nI d)), (8, .int (nI d)), (7, .int (nI (cntS T d))), (6, .int 1), (5, .int (b2i (knI k kn))), (0, .ref (a 0)), (2, .int sg)]) hx hb dX7_found_78 hl (by decide) rfl (fun ls hl => ?_)
                refine lv_iload hx hb dX7_found_80 (lv_at hl 2 rfl) ?_
                refine lv_aload_n hx hb dX7_found_82 rfl (lv_at hl 5 rfl) ?_
                refine lv_iload hx hb dX7_found_83 (lv_at hl 1 rfl) ?_
                refine pc_i hw (va_runV (As := [.int (nI d)]) (rest := [.int (nI (cntS T d))]) CF (m_begins l g L _ a (gK (mT k 0) R C T S) hk d hd9 _) (cwV 1 hts gX7_found_X7_begins rfl rfl rfl (by decide +kernel) ⟨Nat.le_of_ble_eq_true rfl, Nat.le_of_ble_eq_true rfl⟩) (pm_preV hw hs (pm_recv hw (hk.q (i := 0) (by decide)) (hk.f (i := 0) (by decide)) rfl)) rfl rfl hl.1 rfl (lv_room (Nat.le_of_ble_eq_true rfl)) dX7_found_85 ⟨Nat.le_of_ble_eq_true rfl, Nat.le_of_ble_eq_true rfl⟩) (fun r L1 f1 H locs hp hw => ?_)
                obtain ⟨hE_85, hu⟩ := hp
                obtain rfl : _ = L1 := (congrArg Prod.fst hu).symm
                obtain rfl : _ = f1 := (congrArg Prod.snd hu).symm
                have hE_85 : r = b2i (isSt T d) := hE_85
                generalize r = r_85 at hE_85 ⊢
                refine lv_if_eq (tgt := 95) hx hb dX7_found_88 (by decide) (fun c_88 => ?_) (fun c_88 => ?_)
                · have hst : ¬ isSt T d := b2i_eq0 (hE_85 ▸ c_88)
                  refine lv_iconst (v := 0) hx hb dX7_found_95 (by decide) ?_
                  refine lv_iadd hx hb dX7_found_96 ?_
                  rw [Int32.add_zero, ← cntS_f hst]
                  refine lv_istore (lv' := [(7, .int (nI (cntS T (d + 1)))), (4, .int (nI d)), (8, .int (nI d)), (6, .int 1), (5, .int (b2i (knI k kn))), (0, .ref (a 0)), (2, .int sg)]) hx hb dX7_found_97 hl (by decide) rfl (fun ls hl => ?_)
                  refine lv_iinc (v := (nI (d + 1))) (lv' := [(8, .int (nI (d + 1))), (7, .int (nI (cntS T (d + 1)))), (4, .int (nI d)), (6, .int 1), (5, .int (b2i (knI k kn))), (0, .ref (a 0)), (2, .int sg)]) hx hb dX7_found_99 hl (k := 2) rfl (nI_1 d) (by decide) rfl (fun ls hl => ?_)
                  refine lv_goto (tgt := 43) hx hb dX7_found_102 (by decide) ?_
                  exact ih_43 (d + 1, (nI d)) _ _ _ (by dsimp only; omega) ⟨⟨by omega, fndM.hit hst1 c_68⟩, hw, lv_sub hl [0, 1, 3, 4, 2, 5, 6] rfl⟩
                · have hst : isSt T d := b2i_ne0 (hE_85 ▸ c_88)
                  refine lv_iconst (v := 1) hx hb dX7_found_91 (by decide) ?_
                  refine lv_goto (tgt := 96) hx hb dX7_found_92 (by decide) ?_
                  refine lv_iadd hx hb dX7_found_96 ?_
                  rw [show nI (cntS T d) + 1 = nI (cntS T d + 1) from nI_1 _, ← cntS_t hst]
                  refine lv_istore (lv' := [(7, .int (nI (cntS T (d + 1)))), (4, .int (nI d)), (8, .int (nI d)), (6, .int 1), (5, .int (b2i (knI k kn))), (0, .ref (a 0)), (2, .int sg)]) hx hb dX7_found_97 hl (by decide) rfl (fun ls hl => ?_)
                  refine lv_iinc (v := (nI (d + 1))) (lv' := [(8, .int (nI (d + 1))), (7, .int (nI (cntS T (d + 1)))), (4, .int (nI d)), (6, .int 1), (5, .int (b2i (knI k kn))), (0, .ref (a 0)), (2, .int sg)]) hx hb dX7_found_99 hl (k := 2) rfl (nI_1 d) (by decide) rfl (fun ls hl => ?_)
                  refine lv_goto (tgt := 43) hx hb dX7_found_102 (by decide) ?_
                  exact ih_43 (d + 1, (nI d)) _ _ _ (by dsimp only; omega) ⟨⟨by omega, fndM.hit hst1 c_68⟩, hw, lv_sub hl [0, 1, 3, 4, 2, 5, 6] rfl⟩

set_option maxHeartbeats 4000000 in
set_option maxRecDepth 100000 in
theorem m_segmentStart (l : Launch) (g : GE) (L : List Nat) (f : Nat → va_E) (a : Nat → Nat) (k : MS) (hk : MW g a k L f) (p0 t0 n0 : Nat) (hI : MInv k p0 t0 n0) (hwh : whP k n0) (x sg kn : Int32) : Mi l yX7_segmentStart wsX7_segmentStart (rmH 4 0 0) g L f [.ref (a 0), .int x, .int sg, .int kn] (fun r u => (¬ knI k kn ∧ ScM g a (mT k 1) L u) ∨ (knI k kn ∧ ¬ mPol k x ∧ ScM g a (mT k 2) L u) ∨ (∃ i R C T S, i < p0 ∧ x = nI i ∧ knI k kn ∧ (∀ d, d < 365 → isSt T d → nI (cntS T d) ≠ sg) ∧ gdC (mT k 0) i kn n0 t0 365 C T S ∧ ScM g a (mT (gK (mT k 0) R C T S) 2) L u) ∨ ∃ i R C T S d, i < p0 ∧ x = nI i ∧ knI k kn ∧ d < 365 ∧ isSt T d ∧ nI (cntS T d) = sg ∧ r = nI d ∧ gdC (mT k 0) i kn n0 t0 365 C T S ∧ ScM g a (mT (gK (mT k 0) R C T S) 0) L u) 0 0 := by
  intro sz
  refine Met.ofW (cc := cX7_segmentStart) (maxL := 5) (ret := (some .int)) (by decide) rfl ?_
  intro p e s m args below meth c s₁ B hml hv
  obtain ⟨rfl, hv⟩ := hv
  have hx := B.exec
  have hb := B.bytes
  have hr := B.returns
  have hts := atoms_spec (ws := wsX7_segmentStart) B.pre
  have hown : s.vm.findClass RX7 = some m.cls := findClass_of_methodNamed B.named
  have hlocks := B.notSynchronized
  obtain ⟨rfl, hw, hs⟩ := pm_begin hv
  generalize va_A (va_pl L f) s.heap.size = A at hw hs ⊢
  have CF := (⟨hx, hb, hml, hown, hts⟩ : CallFix p m c cX7_segmentStart 5 s _ wsX7_segmentStart RX7)
  have hin_X7 : ∀ w ∈ wsX70, w ∈ wsX7_segmentStart := by decide +kernel
  have hl := lv_entry ([.ref (a 0), .int x, .int sg, .int kn]) (n := 5) (Nat.le_of_ble_eq_true rfl)
  rw [lg_entry_eq]
  generalize (lg_sl ([.ref (a 0), .int x, .int sg, .int kn]) ++ List.replicate (5 - (lg_sl ([.ref (a 0), .int x, .int sg, .int kn])).length) Slot.unset).toArray = ls at hl ⊢
  have hl : lv_has ls 5 [(0, .ref (a 0)), (1, .int x), (2, .int sg), (3, .int kn)] := hl
  refine lv_aload_n hx hb dX7_segmentStart_0 rfl (lv_at hl 0 rfl) ?_
  refine lv_iload_n hx hb dX7_segmentStart_1 rfl (lv_at hl 1 rfl) ?_
  refine lv_iload_n hx hb dX7_segmentStart_2 rfl (lv_at hl 2 rfl) ?_
  refine lv_iload_n hx hb dX7_segmentStart_3 rfl (lv_at hl 3 rfl) ?_
  refine pc_i hw (va_runV (As := [.int x, .int sg, .int kn]) (rest := []) CF (m_found l g L _ a k hk p0 t0 n0 hI hwh x sg kn _) (cwV 3 hts gX7_segmentStart_X7_found rfl rfl rfl (by decide +kernel) ⟨Nat.le_of_ble_eq_true rfl, Nat.le_of_ble_eq_true rfl⟩) (pm_preV hw hs (pm_recv hw (hk.q (i := 0) (by decide)) (hk.f (i := 0) (by decide)) rfl)) rfl rfl hl.1 rfl (lv_room (Nat.le_of_ble_eq_true rfl)) dX7_segmentStart_4 ⟨Nat.le_of_ble_eq_true rfl, Nat.le_of_ble_eq_true rfl⟩) (fun r L1 f1 H locs hp hw => ?_)
  rcases hp with ⟨hk9, rfl, hu, hk⟩ | ⟨hk9, hpo, rfl, hu, hk⟩ | ⟨i, R, C, T, S, t, hi9, rfl, hk9, hfn, htt, hC, hu, hk⟩
  · obtain rfl : _ = L1 := hu.symm
    have hk : MW g a (mT k 1) _ f1 := hk
    refine lv_istore (lv' := [(4, .int (-1)), (0, .ref (a 0)), (1, .int x), (2, .int sg), (3, .int kn)]) hx hb dX7_segmentStart_7 hl (by decide) rfl (fun ls hl => ?_)
    refine lv_iload hx hb dX7_segmentStart_9 (lv_at hl 0 rfl) ?_
    refine lv_if_ge (tgt := 18) hx hb dX7_segmentStart_11 (by decide) (fun c_11 => ?_) (fun c_11 => ?_)
    · exact absurd c_11 (by decide)
    · refine lv_iconst (v := 0) hx hb dX7_segmentStart_14 (by decide) ?_
      refine lv_goto (tgt := 20) hx hb dX7_segmentStart_15 (by decide) ?_
      exact pr_i (v := 0) hx hb hr hlocks hw rfl ⟨Nat.le_of_ble_eq_true rfl, Nat.le_of_ble_eq_true rfl⟩ (Or.inl ⟨hk9, rfl, hk⟩) dX7_segmentStart_20
  · obtain rfl : _ = L1 := hu.symm
    have hk : MW g a (mT k 2) _ f1 := hk
    refine lv_istore (lv' := [(4, .int (-1)), (0, .ref (a 0)), (1, .int x), (2, .int sg), (3, .int kn)]) hx hb dX7_segmentStart_7 hl (by decide) rfl (fun ls hl => ?_)
    refine lv_iload hx hb dX7_segmentStart_9 (lv_at hl 0 rfl) ?_
    refine lv_if_ge (tgt := 18) hx hb dX7_segmentStart_11 (by decide) (fun c_11 => ?_) (fun c_11 => ?_)
    · exact absurd c_11 (by decide)
    · refine lv_iconst (v := 0) hx hb dX7_segmentStart_14 (by decide) ?_
      refine lv_goto (tgt := 20) hx hb dX7_segmentStart_15 (by decide) ?_
      exact pr_i (v := 0) hx hb hr hlocks hw rfl ⟨Nat.le_of_ble_eq_true rfl, Nat.le_of_ble_eq_true rfl⟩ (Or.inr (Or.inl ⟨hk9, hpo, rfl, hk⟩)) dX7_segmentStart_20
  · obtain rfl : _ = L1 := hu.symm
    rcases hfn with ⟨d, hd9, hst, hct, rfl⟩ | ⟨hno, rfl⟩
    · obtain rfl : t = 0 := by
        rcases htt with ⟨h, -⟩ | ⟨-, h⟩
        · rw [nI_toInt (by omega)] at h
          omega
        · exact h
      have hk : MW g a (mT (gK (mT k 0) R C T S) 0) _ f1 := hk
      refine lv_istore (lv' := [(4, .int (nI d)), (0, .ref (a 0)), (1, .int (nI i)), (2, .int sg), (3, .int kn)]) hx hb dX7_segmentStart_7 hl (by decide) rfl (fun ls hl => ?_)
      refine lv_iload hx hb dX7_segmentStart_9 (lv_at hl 0 rfl) ?_
      refine lv_if_ge (tgt := 18) hx hb dX7_segmentStart_11 (by decide) (fun c_11 => ?_) (fun c_11 => ?_)
      · refine lv_iload hx hb dX7_segmentStart_18 (lv_at hl 0 rfl) ?_
        exact pr_i (v := (nI d)) hx hb hr hlocks hw rfl ⟨Nat.le_of_ble_eq_true rfl, Nat.le_of_ble_eq_true rfl⟩ (Or.inr (Or.inr (Or.inr ⟨i, R, C, T, S, d, hi9, rfl, hk9, hd9, hst, hct, rfl, hC, rfl, hk⟩))) dX7_segmentStart_20
      · exact absurd (by rw [i32_le, i32_0, nI_toInt (by omega)]; omega) c_11
    · obtain rfl : t = 2 := by
        rcases htt with ⟨-, h⟩ | ⟨h, -⟩
        · exact h
        · exact absurd h (by decide)
      have hk : MW g a (mT (gK (mT k 0) R C T S) 2) _ f1 := hk
      refine lv_istore (lv' := [(4, .int (-1)), (0, .ref (a 0)), (1, .int (nI i)), (2, .int sg), (3, .int kn)]) hx hb dX7_segmentStart_7 hl (by decide) rfl (fun ls hl => ?_)
      refine lv_iload hx hb dX7_segmentStart_9 (lv_at hl 0 rfl) ?_
      refine lv_if_ge (tgt := 18) hx hb dX7_segmentStart_11 (by decide) (fun c_11 => ?_) (fun c_11 => ?_)
      · exact absurd c_11 (by decide)
      · refine lv_iconst (v := 0) hx hb dX7_segmentStart_14 (by decide) ?_
        refine lv_goto (tgt := 20) hx hb dX7_segmentStart_15 (by decide) ?_
        exact pr_i (v := 0) hx hb hr hlocks hw rfl ⟨Nat.le_of_ble_eq_true rfl, Nat.le_of_ble_eq_true rfl⟩ (Or.inr (Or.inr (Or.inl ⟨i, R, C, T, S, hi9, rfl, hk9, hno, hC, rfl, hk⟩))) dX7_segmentStart_20

set_option maxHeartbeats 4000000 in
set_option maxRecDepth 100000 in
theorem m_segmentPremium (l : Launch) (g : GE) (L : List Nat) (f : Nat → va_E) (a : Nat → Nat) (k : MS) (hk : MW g a k L f) (p0 t0 n0 : Nat) (hI : MInv k p0 t0 n0) (hwh : whP k n0) (x sg kn : Int32) : Mi l yX7_segmentPremium wsX7_segmentPremium (rmH 4 0 0) g L f [.ref (a 0), .int x, .int sg, .int kn] (fun r u => (¬ knI k kn ∧ ScM g a (mT k 1) L u) ∨ (knI k kn ∧ ¬ mPol k x ∧ ScM g a (mT k 2) L u) ∨ (∃ i R C T S, i < p0 ∧ x = nI i ∧ knI k kn ∧ (∀ d, d < 365 → isSt T d → nI (cntS T d) ≠ sg) ∧ gdC (mT k 0) i kn n0 t0 365 C T S ∧ ScM g a (mT (gK (mT k 0) R C T S) 2) L u) ∨ ∃ i R C T S d, i < p0 ∧ x = nI i ∧ knI k kn ∧ d < 365 ∧ isSt T d ∧ nI (cntS T d) = sg ∧ (∃ e9, e9 ≤ 365 ∧ d ≤ e9 ∧ (∀ j, d ≤ j → j < e9 → T j = T d) ∧ (e9 = 365 ∨ ¬ T e9 = T d) ∧ r = S e9 / 365 - S d / 365) ∧ gdC (mT k 0) i kn n0 t0 365 C T S ∧ ScM g a (mT (gK (mT k 0) R C T S) 0) L u) 0 0 := by
  intro sz
  refine Met.ofW (cc := cX7_segmentPremium) (maxL := 6) (ret := (some .int)) (by decide) rfl ?_
  intro p e s m args below meth c s₁ B hml hv
  obtain ⟨rfl, hv⟩ := hv
  have hx := B.exec
  have hb := B.bytes
  have hr := B.returns
  have hts := atoms_spec (ws := wsX7_segmentPremium) B.pre
  have hown : s.vm.findClass RX7 = some m.cls := findClass_of_methodNamed B.named
  have hlocks := B.notSynchronized
  obtain ⟨rfl, hw, hs⟩ := pm_begin hv
  generalize va_A (va_pl L f) s.heap.size = A at hw hs ⊢
  have CF := (⟨hx, hb, hml, hown, hts⟩ : CallFix p m c cX7_segmentPremium 6 s _ wsX7_segmentPremium RX7)
  have hin_X7 : ∀ w ∈ wsX70, w ∈ wsX7_segmentPremium := by decide +kernel
  have hl := lv_entry ([.ref (a 0), .int x, .int sg, .int kn]) (n := 6) (Nat.le_of_ble_eq_true rfl)
  rw [lg_entry_eq]
  generalize (lg_sl ([.ref (a 0), .int x, .int sg, .int kn]) ++ List.replicate (6 - (lg_sl ([.ref (a 0), .int x, .int sg, .int kn])).length) Slot.unset).toArray = ls at hl ⊢
  have hl : lv_has ls 6 [(0, .ref (a 0)), (1, .int x), (2, .int sg), (3, .int kn)] := hl
  refine lv_aload_n hx hb dX7_segmentPremium_0 rfl (lv_at hl 0 rfl) ?_
  refine lv_iload_n hx hb dX7_segmentPremium_1 rfl (lv_at hl 1 rfl) ?_
  refine lv_iload_n hx hb dX7_segmentPremium_2 rfl (lv_at hl 2 rfl) ?_
  refine lv_iload_n hx hb dX7_segmentPremium_3 rfl (lv_at hl 3 rfl) ?_
  refine pc_i hw (va_runV (As := [.int x, .int sg, .int kn]) (rest := []) CF (m_found l g L _ a k hk p0 t0 n0 hI hwh x sg kn _) (cwV 3 hts gX7_segmentPremium_X7_found rfl rfl rfl (by decide +kernel) ⟨Nat.le_of_ble_eq_true rfl, Nat.le_of_ble_eq_true rfl⟩) (pm_preV hw hs (pm_recv hw (hk.q (i := 0) (by decide)) (hk.f (i := 0) (by decide)) rfl)) rfl rfl hl.1 rfl (lv_room (Nat.le_of_ble_eq_true rfl)) dX7_segmentPremium_4 ⟨Nat.le_of_ble_eq_true rfl, Nat.le_of_ble_eq_true rfl⟩) (fun r L1 f1 H locs hp hw => ?_)
  rcases hp with ⟨hk9, rfl, hu, hk⟩ | ⟨hk9, hpo, rfl, hu, hk⟩ | ⟨i, R, C, T, S, t, hi9, rfl, hk9, hfn, htt, hC, hu, hk⟩
  · obtain rfl : _ = L1 := hu.symm
    have hk : MW g a (mT k 1) _ f1 := hk
    refine lv_istore (lv' := [(4, .int (-1)), (0, .ref (a 0)), (1, .int x), (2, .int sg), (3, .int kn)]) hx hb dX7_segmentPremium_7 hl (by decide) rfl (fun ls hl => ?_)
    refine lv_iload hx hb dX7_segmentPremium_9 (lv_at hl 0 rfl) ?_
    refine lv_if_ge (tgt := 16) hx hb dX7_segmentPremium_11 (by decide) (fun c_11 => ?_) (fun c_11 => ?_)
    · exact absurd c_11 (by decide)
    · refine lv_iconst (v := 0) hx hb dX7_segmentPremium_14 (by decide) ?_
      exact pr_i (v := 0) hx hb hr hlocks hw rfl ⟨Nat.le_of_ble_eq_true rfl, Nat.le_of_ble_eq_true rfl⟩ (Or.inl ⟨hk9, rfl, hk⟩) dX7_segmentPremium_15
  · obtain rfl : _ = L1 := hu.symm
    have hk : MW g a (mT k 2) _ f1 := hk
    refine lv_istore (lv' := [(4, .int (-1)), (0, .ref (a 0)), (1, .int x), (2, .int sg), (3, .int kn)]) hx hb dX7_segmentPremium_7 hl (by decide) rfl (fun ls hl => ?_)
    refine lv_iload hx hb dX7_segmentPremium_9 (lv_at hl 0 rfl) ?_
    refine lv_if_ge (tgt := 16) hx hb dX7_segmentPremium_11 (by decide) (fun c_11 => ?_) (fun c_11 => ?_)
    · exact absurd c_11 (by decide)
    · refine lv_iconst (v := 0) hx hb dX7_segmentPremium_14 (by decide) ?_
      exact pr_i (v := 0) hx hb hr hlocks hw rfl ⟨Nat.le_of_ble_eq_true rfl, Nat.le_of_ble_eq_true rfl⟩ (Or.inr (Or.inl ⟨hk9, hpo, rfl, hk⟩)) dX7_segmentPremium_15
  · obtain rfl : _ = L1 := hu.symm
    rcases hfn with ⟨d, hd9, hst, hct, rfl⟩ | ⟨hno, rfl⟩
    · obtain rfl : t = 0 := by
        rcases htt with ⟨h, -⟩ | ⟨-, h⟩
        · rw [nI_toInt (by omega)] at h
          omega
        · exact h
      have hk : MW g a (mT (gK (mT k 0) R C T S) 0) _ f1 := hk
      refine lv_istore (lv' := [(4, .int (nI d)), (0, .ref (a 0)), (1, .int (nI i)), (2, .int sg), (3, .int kn)]) hx hb dX7_segmentPremium_7 hl (by decide) rfl (fun ls hl => ?_)
      refine lv_iload hx hb dX7_segmentPremium_9 (lv_at hl 0 rfl) ?_
      refine lv_if_ge (tgt := 16) hx hb dX7_segmentPremium_11 (by decide) (fun c_11 => ?_) (fun c_11 => ?_)
      · refine lv_iload hx hb dX7_segmentPremium_16 (lv_at hl 0 rfl) ?_
        refine lv_istore (lv' := [(5, .int (nI d)), (4, .int (nI d)), (0, .ref (a 0)), (1, .int (nI i)), (2, .int sg), (3, .int kn)]) hx hb dX7_segmentPremium_18 hl (by decide) rfl (fun ls hl => ?_)
        refine W_loop (σ := Nat) (fun e9 H locs ls => (e9 ≤ 365 ∧ d ≤ e9 ∧ ∀ j, d ≤ j → j < e9 → T j = T d) ∧ PW g A s H locs L _ ∧ lv_has ls 6 [(5, .int (nI e9)), (4, .int (nI d)), (0, .ref (a 0))]) (fun e9 => 365 - e9) d ⟨⟨by omega, Nat.le_refl _, fun j h1 h2 => absurd h2 (by omega)⟩, hw, lv_sub hl [0, 1, 2] rfl⟩ ?_
        rintro e9 H locs ls ⟨⟨he5, hde, hrun⟩, hw, hl⟩ ih_20
        refine lv_iload hx hb dX7_segmentPremium_20 (lv_at hl 0 rfl) ?_
        refine lv_sipush (v := 365) hx hb dX7_segmentPremium_22 (by decide) ?_
        refine lv_icmp_ge (tgt := 51) hx hb dX7_segmentPremium_25 (by decide) (fun c_25 => ?_) (fun c_25 => ?_)
        · have hef := (nI_leI (b := e9) (a := 365) (by omega) (by omega)).mp (show nI 365 ≤ nI e9 from c_25)
          refine lv_aload_n hx hb dX7_segmentPremium_51 rfl (lv_at hl 2 rfl) ?_
          refine lv_iload hx hb dX7_segmentPremium_52 (lv_at hl 0 rfl) ?_
          refine pc_i hw (va_runV (As := [.int (nI e9)]) (rest := []) CF (m_charge l g L _ a (mT (gK (mT k 0) R C T S) 0) hk e9 he5 _) (cwV 1 hts gX7_segmentPremium_X7_charge rfl rfl rfl (by decide +kernel) ⟨Nat.le_of_ble_eq_true rfl, Nat.le_of_ble_eq_true rfl⟩) (pm_preV hw hs (pm_recv hw (hk.q (i := 0) (by decide)) (hk.f (i := 0) (by decide)) rfl)) rfl rfl hl.1 rfl (lv_room (Nat.le_of_ble_eq_true rfl)) dX7_segmentPremium_54 ⟨Nat.le_of_ble_eq_true rfl, Nat.le_of_ble_eq_true rfl⟩) (fun r L1 f1 H locs hp hw => ?_)
          obtain ⟨hE_54, hu⟩ := hp
          obtain rfl : _ = L1 := (congrArg Prod.fst hu).symm
          obtain rfl : _ = f1 := (congrArg Prod.snd hu).symm
          generalize r = r_54 at hE_54 ⊢
          subst hE_54
          refine lv_aload_n hx hb dX7_segmentPremium_57 rfl (lv_at hl 2 rfl) ?_
          refine lv_iload hx hb dX7_segmentPremium_58 (lv_at hl 1 rfl) ?_
          refine pc_i hw (va_runV (As := [.int (nI d)]) (rest := [.int (S e9 / 365)]) CF (m_charge l g L _ a (mT (gK (mT k 0) R C T S) 0) hk d (by omega) _) (cwV 1 hts gX7_segmentPremium_X7_charge rfl rfl rfl (by decide +kernel) ⟨Nat.le_of_ble_eq_true rfl, Nat.le_of_ble_eq_true rfl⟩) (pm_preV hw hs (pm_recv hw (hk.q (i := 0) (by decide)) (hk.f (i := 0) (by decide)) rfl)) rfl rfl hl.1 rfl (lv_room (Nat.le_of_ble_eq_true rfl)) dX7_segmentPremium_60 ⟨Nat.le_of_ble_eq_true rfl, Nat.le_of_ble_eq_true rfl⟩) (fun r L1 f1 H locs hp hw => ?_)
          obtain ⟨hE_60, hu⟩ := hp
          obtain rfl : _ = L1 := (congrArg Prod.fst hu).symm
          obtain rfl : _ = f1 := (congrArg Prod.snd hu).symm
          generalize r = r_60 at hE_60 ⊢
          subst hE_60
          refine lv_isub hx hb dX7_segmentPremium_63 ?_
          exact pr_i (v := ((S e9 / 365) - (S d / 365))) hx hb hr hlocks hw rfl ⟨Nat.le_of_ble_eq_true rfl, Nat.le_of_ble_eq_true rfl⟩ (Or.inr (Or.inr (Or.inr ⟨i, R, C, T, S, d, hi9, rfl, hk9, hd9, hst, hct, ⟨e9, he5, hde, hrun, Or.inl (by omega), rfl⟩, hC, rfl, hk⟩))) dX7_segmentPremium_64
        · have he9 : e9 < 365 := by
            rcases Nat.lt_or_ge e9 365 with h9 | h9
            · exact h9
            · exact absurd ((nI_leI (b := e9) (a := 365) (by omega) (by omega)).mpr h9) (show ¬ nI 365 ≤ nI e9 from c_25)
          refine lv_aload_n hx hb dX7_segmentPremium_28 rfl (lv_at hl 2 rfl) ?_
          refine pm_get (ci := 9) (v := .ref (a 15)) (C := RX7) (T := TX7) (N := 21) hx hb hts hin_X7 hown hw (hk.q (i := 0) (by decide)) (hk.f (i := 0) (by decide)) rfl 18 (by decide) (hts (.fieldLink RX7 53 "BackdaterModel" "rate" "[I") (by decide +kernel)) (fun _ h9 => h9) rfl dX7_segmentPremium_29 ?_
          refine lv_iload hx hb dX7_segmentPremium_32 (lv_at hl 0 rfl) ?_
          refine pm_iald (n := 365) (r := T) hx hb hw (hk.q (i := 15) (by decide)) (hk.f (i := 15) (by decide)) (j := e9) (nI_clamp (by omega)) (vp_in_nI (by omega) (by decide)) dX7_segmentPremium_34 ?_
          refine lv_aload_n hx hb dX7_segmentPremium_35 rfl (lv_at hl 2 rfl) ?_
          refine pm_get (ci := 9) (v := .ref (a 15)) (C := RX7) (T := TX7) (N := 21) hx hb hts hin_X7 hown hw (hk.q (i := 0) (by decide)) (hk.f (i := 0) (by decide)) rfl 18 (by decide) (hts (.fieldLink RX7 53 "BackdaterModel" "rate" "[I") (by decide +kernel)) (fun _ h9 => h9) rfl dX7_segmentPremium_36 ?_
          refine lv_iload hx hb dX7_segmentPremium_39 (lv_at hl 1 rfl) ?_
          refine pm_iald (n := 365) (r := T) hx hb hw (hk.q (i := 15) (by decide)) (hk.f (i := 15) (by decide)) (j := d) (nI_clamp (by omega)) (vp_in_nI (by omega) (by decide)) dX7_segmentPremium_41 ?_
          refine lv_icmp_ne (tgt := 51) hx hb dX7_segmentPremium_42 (by decide) (fun c_42 => ?_) (fun c_42 => ?_)
          · have hstop : e9 = 365 ∨ ¬ T e9 = T d := Or.inr c_42
            refine lv_aload_n hx hb dX7_segmentPremium_51 rfl (lv_at hl 2 rfl) ?_
            refine lv_iload hx hb dX7_segmentPremium_52 (lv_at hl 0 rfl) ?_
            refine pc_i hw (va_runV (As := [.int (nI e9)]) (rest := []) CF (m_charge l g L _ a (mT (gK (mT k 0) R C T S) 0) hk e9 he5 _) (cwV 1 hts gX7_segmentPremium_X7_charge rfl rfl rfl (by decide +kernel) ⟨Nat.le_of_ble_eq_true rfl, Nat.le_of_ble_eq_true rfl⟩) (pm_preV hw hs (pm_recv hw (hk.q (i := 0) (by decide)) (hk.f (i := 0) (by decide)) rfl)) rfl rfl hl.1 rfl (lv_room (Nat.le_of_ble_eq_true rfl)) dX7_segmentPremium_54 ⟨Nat.le_of_ble_eq_true rfl, Nat.le_of_ble_eq_true rfl⟩) (fun r L1 f1 H locs hp hw => ?_)
            obtain ⟨hE_54, hu⟩ := hp
            obtain rfl : _ = L1 := (congrArg Prod.fst hu).symm
            obtain rfl : _ = f1 := (congrArg Prod.snd hu).symm
            generalize r = r_54 at hE_54 ⊢
            subst hE_54
            refine lv_aload_n hx hb dX7_segmentPremium_57 rfl (lv_at hl 2 rfl) ?_
            refine lv_iload hx hb dX7_segmentPremium_58 (lv_at hl 1 rfl) ?_
            refine pc_i hw (va_runV (As := [.int (nI d)]) (rest := [.int (S e9 / 365)]) CF (m_charge l g L _ a (mT (gK (mT k 0) R C T S) 0) hk d (by omega) _) (cwV 1 hts gX7_segmentPremium_X7_charge rfl rfl rfl (by decide +kernel) ⟨Nat.le_of_ble_eq_true rfl, Nat.le_of_ble_eq_true rfl⟩) (pm_preV hw hs (pm_recv hw (hk.q (i := 0) (by decide)) (hk.f (i := 0) (by decide)) rfl)) rfl rfl hl.1 rfl (lv_room (Nat.le_of_ble_eq_true rfl)) dX7_segmentPremium_60 ⟨Nat.le_of_ble_eq_true rfl, Nat.le_of_ble_eq_true rfl⟩) (fun r L1 f1 H locs hp hw => ?_)
            obtain ⟨hE_60, hu⟩ := hp
            obtain rfl : _ = L1 := (congrArg Prod.fst hu).symm
            obtain rfl : _ = f1 := (congrArg Prod.snd hu).symm
            generalize r = r_60 at hE_60 ⊢
            subst hE_60
            refine lv_isub hx hb dX7_segmentPremium_63 ?_
            exact pr_i (v := ((S e9 / 365) - (S d / 365))) hx hb hr hlocks hw rfl ⟨Nat.le_of_ble_eq_true rfl, Nat.le_of_ble_eq_true rfl⟩ (Or.inr (Or.inr (Or.inr ⟨i, R, C, T, S, d, hi9, rfl, hk9, hd9, hst, hct, ⟨e9, he5, hde, hrun, hstop, rfl⟩, hC, rfl, hk⟩))) dX7_segmentPremium_64
          · refine lv_iinc (v := (nI (e9 + 1))) (lv' := [(5, .int (nI (e9 + 1))), (4, .int (nI d)), (0, .ref (a 0))]) hx hb dX7_segmentPremium_45 hl (k := 0) rfl (nI_1 e9) (by decide) rfl (fun ls hl => ?_)
            refine lv_goto (tgt := 20) hx hb dX7_segmentPremium_48 (by decide) ?_
            exact ih_20 (e9 + 1) _ _ _ (by omega) ⟨⟨by omega, by omega, fun j h1 h2 => by
                            by_cases e : j = e9
                            · rw [e]
                              exact c_42
                            · exact hrun j h1 (by omega)⟩, hw, lv_sub hl [0, 1, 2] rfl⟩
      · exact absurd (by rw [i32_le, i32_0, nI_toInt (by omega)]; omega) c_11
    · obtain rfl : t = 2 := by
        rcases htt with ⟨-, h⟩ | ⟨h, -⟩
        · exact h
        · exact absurd h (by decide)
      have hk : MW g a (mT (gK (mT k 0) R C T S) 2) _ f1 := hk
      refine lv_istore (lv' := [(4, .int (-1)), (0, .ref (a 0)), (1, .int (nI i)), (2, .int sg), (3, .int kn)]) hx hb dX7_segmentPremium_7 hl (by decide) rfl (fun ls hl => ?_)
      refine lv_iload hx hb dX7_segmentPremium_9 (lv_at hl 0 rfl) ?_
      refine lv_if_ge (tgt := 16) hx hb dX7_segmentPremium_11 (by decide) (fun c_11 => ?_) (fun c_11 => ?_)
      · exact absurd c_11 (by decide)
      · refine lv_iconst (v := 0) hx hb dX7_segmentPremium_14 (by decide) ?_
        exact pr_i (v := 0) hx hb hr hlocks hw rfl ⟨Nat.le_of_ble_eq_true rfl, Nat.le_of_ble_eq_true rfl⟩ (Or.inr (Or.inr (Or.inl ⟨i, R, C, T, S, hi9, rfl, hk9, hno, hC, rfl, hk⟩))) dX7_segmentPremium_15

end SEGM
