/-! the reference: changes, takeBack, laidAnew, weighs -/
section MLEAF2
theorem ixM {x m : Int32} {n : Nat} (hm : m = nI n) (hn : n ≤ 60) (h : inP x 0 (m - 1)) : ∃ c, c < n ∧ x = nI c := by
  subst hm
  obtain ⟨h1, h2⟩ := h
  rcases pk_ix x (n := n) (by omega) with q | q | ⟨c, hc, rfl⟩
  · rw [i32_lt] at q
    omega
  · rw [i32_le, nI_toInt (by omega)] at q
    rcases Nat.eq_zero_or_pos n with rfl | hp
    · have : (nI 0 - 1).toInt = -1 := by decide
      omega
    · rw [nI_i1 hp, nI_toInt (by omega)] at h2
      omega
  · exact ⟨c, hc, rfl⟩
theorem ixM' {m : Int32} {n c : Nat} (hm : m = nI n) (hn : n ≤ 60) (h : c < n) : inP (nI c) 0 (m - 1) := by
  subst hm
  rw [inP, nI_i1 (by omega), nI_toInt (by omega), nI_toInt (by omega), i32_0]
  omega
theorem mT_mT (k : MS) (s t : Int32) : mT (mT k s) t = mT k t := by
  show va_up (va_up k 0 (upd (k 0) 4 s)) 0 (upd (va_up k 0 (upd (k 0) 4 s) 0) 4 t) = va_up k 0 (upd (k 0) 4 t)
  rw [va_up_up, pu_s]
  congr 1
  funext i
  unfold upd
  by_cases h : i = 4
  · rw [if_pos h, if_pos h]
  · rw [if_neg h, if_neg h, if_neg h]
/-- change o counts for change j -/
abbrev laMB (k : MS) (j o : Nat) : Prop := k 6 o = k 6 j ∧ knM k o (k 0 1) ∧ (k 9 j).toInt < (k 9 o).toInt
def laM (k : MS) (j : Nat) : Nat → Nat
  | 0 => 0
  | q + 1 => laM k j q + if laMB k j q then 1 else 0
/-- which tariff weighs: the last one of those told latest -/
def bst (k : MS) (y d : Int32) : Nat → Option Nat
  | 0 => none
  | q + 1 => if (k 3 q = y ∧ (k 5 q).toInt ≤ d.toInt) ∧ ∀ b, bst k y d q = some b → (k 5 b).toInt ≤ (k 5 q).toInt then some q else bst k y d q
theorem bst_lt (k : MS) (y d : Int32) : ∀ q b, bst k y d q = some b → b < q
  | 0, _, h => by cases h
  | q + 1, b, h => by
    rw [bst] at h
    split at h
    · cases h
      exact Nat.lt_succ_self q
    · exact Nat.lt_succ_of_lt (bst_lt k y d q b h)
def bI : Option Nat → Int32
  | none => -1
  | some b => nI b
theorem bI_lt {o : Option Nat} (h : bI o < 0) (hb : ∀ b, o = some b → b < 100) : o = none := by
  cases o with
  | none => rfl
  | some b =>
    have := hb b rfl
    rw [i32_lt, i32_0] at h
    have h9 : (nI b).toInt < 0 := h
    rw [nI_toInt (by omega)] at h9
    omega
theorem bI_ge {o : Option Nat} (h : ¬ bI o < 0) : ∃ b, o = some b := by
  cases o with
  | none => exact absurd (by decide) h
  | some b => exact ⟨b, rfl⟩

set_option maxHeartbeats 4000000 in
set_option maxRecDepth 100000 in
theorem m_change (l : Launch) (g : GE) (L : List Nat) (f : Nat → va_E) (a : Nat → Nat) (k : MS) (hk : MW g a k L f) (p0 t0 n0 : Nat) (hI : MInv k p0 t0 n0) (x y z w : Int32) : Mi l yX7_change wsX7_change (rmH 3 0 0) g L f [.ref (a 0), .int x, .int y, .int z, .int w] (fun r u => (∃ t, exT [(1, mPol k x ∧ mFld y), (2, mDay z ∧ (b2i (inP w 0 20)) ≠ 0), (3, ¬ n0 = 60)] t ∧ ScM g a (mT k t) L u) ∨ ((mPol k x ∧ mFld y) ∧ (mDay z ∧ (b2i (inP w 0 20)) ≠ 0) ∧ ¬ n0 = 60 ∧ r = nI n0 ∧ ScM g a (mTell k n0 x 0 y z w) L u)) 0 0 := by
  intro sz
  refine Met.ofW (cc := cX7_change) (maxL := 5) (ret := (some .int)) (by decide) rfl ?_
  intro p e s m args below meth c s₁ B hml hv
  obtain ⟨rfl, hv⟩ := hv
  have hx := B.exec
  have hb := B.bytes
  have hr := B.returns
  have hts := atoms_spec (ws := wsX7_change) B.pre
  have hown : s.vm.findClass RX7 = some m.cls := findClass_of_methodNamed B.named
  have hlocks := B.notSynchronized
  obtain ⟨rfl, hw, hs⟩ := pm_begin hv
  generalize va_A (va_pl L f) s.heap.size = A at hw hs ⊢
  have CF := (⟨hx, hb, hml, hown, hts⟩ : CallFix p m c cX7_change 5 s _ wsX7_change RX7)
  have hin_X7 : ∀ w ∈ wsX70, w ∈ wsX7_change := by decide +kernel
  have hl := lv_entry ([.ref (a 0), .int x, .int y, .int z, .int w]) (n := 5) (Nat.le_of_ble_eq_true rfl)
  rw [lg_entry_eq]
  generalize (lg_sl ([.ref (a 0), .int x, .int y, .int z, .int w]) ++ List.replicate (5 - (lg_sl ([.ref (a 0), .int x, .int y, .int z, .int w])).length) Slot.unset).toArray = ls at hl ⊢
  have hl : lv_has ls 5 [(0, .ref (a 0)), (1, .int x), (2, .int y), (3, .int z), (4, .int w)] := hl
  refine lv_aload_n hx hb dX7_change_0 rfl (lv_at hl 0 rfl) ?_
  refine lv_iload_n hx hb dX7_change_1 rfl (lv_at hl 1 rfl) ?_
  refine lv_iconst (v := 0) hx hb dX7_change_2 (by decide) ?_
  refine lv_iload_n hx hb dX7_change_3 rfl (lv_at hl 2 rfl) ?_
  refine lv_iload_n hx hb dX7_change_4 rfl (lv_at hl 3 rfl) ?_
  refine lv_iload hx hb dX7_change_5 (lv_at hl 4 rfl) ?_
  refine lv_iload hx hb dX7_change_7 (lv_at hl 4 rfl) ?_
  refine lv_iconst (v := 0) hx hb dX7_change_9 (by decide) ?_
  refine lv_bipush (v := 20) hx hb dX7_change_10 (by decide) ?_
  refine pc_i hw (va_runS (As := [.int w, .int 0, .int 20]) (rest := [.int w, .int z, .int y, .int 0, .int x, .ref (a 0)]) CF (m_isIn l g L _ w 0 20 _) (va_cwS 3 hts gX7_change_X7_isIn rfl rfl rfl (by decide +kernel) ⟨Nat.le_of_ble_eq_true rfl, Nat.le_of_ble_eq_true rfl⟩) (pm_preS hw hs) rfl rfl hl.1 rfl (lv_room (Nat.le_of_ble_eq_true rfl)) dX7_change_12 ⟨Nat.le_of_ble_eq_true rfl, Nat.le_of_ble_eq_true rfl⟩) (fun r L1 f1 H locs hp hw => ?_)
  obtain ⟨hE_12, hu⟩ := hp
  obtain rfl : _ = L1 := (congrArg Prod.fst hu).symm
  obtain rfl : _ = f1 := (congrArg Prod.snd hu).symm
  generalize r = r_12 at hE_12 ⊢
  subst hE_12
  refine pc_i hw (va_runV (As := [.int x, .int 0, .int y, .int z, .int w, .int (b2i (inP w 0 20))]) (rest := []) CF (m_tells l g L _ a k hk p0 t0 n0 hI x 0 y z w (b2i (inP w 0 20)) _) (cwV 6 hts gX7_change_X7_tells rfl rfl rfl (by decide +kernel) ⟨Nat.le_of_ble_eq_true rfl, Nat.le_of_ble_eq_true rfl⟩) (pm_preV hw hs (pm_recv hw (hk.q (i := 0) (by decide)) (hk.f (i := 0) (by decide)) rfl)) rfl rfl hl.1 rfl (lv_room (Nat.le_of_ble_eq_true rfl)) dX7_change_15 ⟨Nat.le_of_ble_eq_true rfl, Nat.le_of_ble_eq_true rfl⟩) (fun r L1 f1 H locs hp hw => ?_)
  exact pr_i (v := r) hx hb hr hlocks hw rfl ⟨Nat.le_of_ble_eq_true rfl, Nat.le_of_ble_eq_true rfl⟩ (hp) dX7_change_18

set_option maxHeartbeats 4000000 in
set_option maxRecDepth 100000 in
theorem m_add (l : Launch) (g : GE) (L : List Nat) (f : Nat → va_E) (a : Nat → Nat) (k : MS) (hk : MW g a k L f) (p0 t0 n0 : Nat) (hI : MInv k p0 t0 n0) (x y z w : Int32) : Mi l yX7_add wsX7_add (rmH 3 0 0) g L f [.ref (a 0), .int x, .int y, .int z, .int w] (fun r u => (∃ t, exT [(1, mPol k x ∧ mFld y), (2, mDay z ∧ (b2i (inP w (-20) 20)) ≠ 0), (3, ¬ n0 = 60)] t ∧ ScM g a (mT k t) L u) ∨ ((mPol k x ∧ mFld y) ∧ (mDay z ∧ (b2i (inP w (-20) 20)) ≠ 0) ∧ ¬ n0 = 60 ∧ r = nI n0 ∧ ScM g a (mTell k n0 x 1 y z w) L u)) 0 0 := by
  intro sz
  refine Met.ofW (cc := cX7_add) (maxL := 5) (ret := (some .int)) (by decide) rfl ?_
  intro p e s m args below meth c s₁ B hml hv
  obtain ⟨rfl, hv⟩ := hv
  have hx := B.exec
  have hb := B.bytes
  have hr := B.returns
  have hts := atoms_spec (ws := wsX7_add) B.pre
  have hown : s.vm.findClass RX7 = some m.cls := findClass_of_methodNamed B.named
  have hlocks := B.notSynchronized
  obtain ⟨rfl, hw, hs⟩ := pm_begin hv
  generalize va_A (va_pl L f) s.heap.size = A at hw hs ⊢
  have CF := (⟨hx, hb, hml, hown, hts⟩ : CallFix p m c cX7_add 5 s _ wsX7_add RX7)
  have hin_X7 : ∀ w ∈ wsX70, w ∈ wsX7_add := by decide +kernel
  have hl := lv_entry ([.ref (a 0), .int x, .int y, .int z, .int w]) (n := 5) (Nat.le_of_ble_eq_true rfl)
  rw [lg_entry_eq]
  generalize (lg_sl ([.ref (a 0), .int x, .int y, .int z, .int w]) ++ List.replicate (5 - (lg_sl ([.ref (a 0), .int x, .int y, .int z, .int w])).length) Slot.unset).toArray = ls at hl ⊢
  have hl : lv_has ls 5 [(0, .ref (a 0)), (1, .int x), (2, .int y), (3, .int z), (4, .int w)] := hl
  refine lv_aload_n hx hb dX7_add_0 rfl (lv_at hl 0 rfl) ?_
  refine lv_iload_n hx hb dX7_add_1 rfl (lv_at hl 1 rfl) ?_
  refine lv_iconst (v := 1) hx hb dX7_add_2 (by decide) ?_
  refine lv_iload_n hx hb dX7_add_3 rfl (lv_at hl 2 rfl) ?_
  refine lv_iload_n hx hb dX7_add_4 rfl (lv_at hl 3 rfl) ?_
  refine lv_iload hx hb dX7_add_5 (lv_at hl 4 rfl) ?_
  refine lv_iload hx hb dX7_add_7 (lv_at hl 4 rfl) ?_
  refine lv_bipush (v := (-20)) hx hb dX7_add_9 (by decide) ?_
  refine lv_bipush (v := 20) hx hb dX7_add_11 (by decide) ?_
  refine pc_i hw (va_runS (As := [.int w, .int (-20), .int 20]) (rest := [.int w, .int z, .int y, .int 1, .int x, .ref (a 0)]) CF (m_isIn l g L _ w (-20) 20 _) (va_cwS 3 hts gX7_add_X7_isIn rfl rfl rfl (by decide +kernel) ⟨Nat.le_of_ble_eq_true rfl, Nat.le_of_ble_eq_true rfl⟩) (pm_preS hw hs) rfl rfl hl.1 rfl (lv_room (Nat.le_of_ble_eq_true rfl)) dX7_add_13 ⟨Nat.le_of_ble_eq_true rfl, Nat.le_of_ble_eq_true rfl⟩) (fun r L1 f1 H locs hp hw => ?_)
  obtain ⟨hE_13, hu⟩ := hp
  obtain rfl : _ = L1 := (congrArg Prod.fst hu).symm
  obtain rfl : _ = f1 := (congrArg Prod.snd hu).symm
  generalize r = r_13 at hE_13 ⊢
  subst hE_13
  refine pc_i hw (va_runV (As := [.int x, .int 1, .int y, .int z, .int w, .int (b2i (inP w (-20) 20))]) (rest := []) CF (m_tells l g L _ a k hk p0 t0 n0 hI x 1 y z w (b2i (inP w (-20) 20)) _) (cwV 6 hts gX7_add_X7_tells rfl rfl rfl (by decide +kernel) ⟨Nat.le_of_ble_eq_true rfl, Nat.le_of_ble_eq_true rfl⟩) (pm_preV hw hs (pm_recv hw (hk.q (i := 0) (by decide)) (hk.f (i := 0) (by decide)) rfl)) rfl rfl hl.1 rfl (lv_room (Nat.le_of_ble_eq_true rfl)) dX7_add_16 ⟨Nat.le_of_ble_eq_true rfl, Nat.le_of_ble_eq_true rfl⟩) (fun r L1 f1 H locs hp hw => ?_)
  exact pr_i (v := r) hx hb hr hlocks hw rfl ⟨Nat.le_of_ble_eq_true rfl, Nat.le_of_ble_eq_true rfl⟩ (hp) dX7_add_19

set_option maxHeartbeats 4000000 in
set_option maxRecDepth 100000 in
theorem m_cancel (l : Launch) (g : GE) (L : List Nat) (f : Nat → va_E) (a : Nat → Nat) (k : MS) (hk : MW g a k L f) (p0 t0 n0 : Nat) (hI : MInv k p0 t0 n0) (x z : Int32) : Mi l yX7_cancel wsX7_cancel (rmH 3 0 0) g L f [.ref (a 0), .int x, .int z] (fun r u => (∃ t, exT [(1, mPol k x ∧ mFld 0), (2, mDay z ∧ (1 : Int32) ≠ 0), (3, ¬ n0 = 60)] t ∧ ScM g a (mT k t) L u) ∨ ((mPol k x ∧ mFld 0) ∧ (mDay z ∧ (1 : Int32) ≠ 0) ∧ ¬ n0 = 60 ∧ r = nI n0 ∧ ScM g a (mTell k n0 x 2 0 z 0) L u)) 0 0 := by
  intro sz
  refine Met.ofW (cc := cX7_cancel) (maxL := 3) (ret := (some .int)) (by decide) rfl ?_
  intro p e s m args below meth c s₁ B hml hv
  obtain ⟨rfl, hv⟩ := hv
  have hx := B.exec
  have hb := B.bytes
  have hr := B.returns
  have hts := atoms_spec (ws := wsX7_cancel) B.pre
  have hown : s.vm.findClass RX7 = some m.cls := findClass_of_methodNamed B.named
  have hlocks := B.notSynchronized
  obtain ⟨rfl, hw, hs⟩ := pm_begin hv
  generalize va_A (va_pl L f) s.heap.size = A at hw hs ⊢
  have CF := (⟨hx, hb, hml, hown, hts⟩ : CallFix p m c cX7_cancel 3 s _ wsX7_cancel RX7)
  have hin_X7 : ∀ w ∈ wsX70, w ∈ wsX7_cancel := by decide +kernel
  have hl := lv_entry ([.ref (a 0), .int x, .int z]) (n := 3) (Nat.le_of_ble_eq_true rfl)
  rw [lg_entry_eq]
  generalize (lg_sl ([.ref (a 0), .int x, .int z]) ++ List.replicate (3 - (lg_sl ([.ref (a 0), .int x, .int z])).length) Slot.unset).toArray = ls at hl ⊢
  have hl : lv_has ls 3 [(0, .ref (a 0)), (1, .int x), (2, .int z)] := hl
  refine lv_aload_n hx hb dX7_cancel_0 rfl (lv_at hl 0 rfl) ?_
  refine lv_iload_n hx hb dX7_cancel_1 rfl (lv_at hl 1 rfl) ?_
  refine lv_iconst (v := 2) hx hb dX7_cancel_2 (by decide) ?_
  refine lv_iconst (v := 0) hx hb dX7_cancel_3 (by decide) ?_
  refine lv_iload_n hx hb dX7_cancel_4 rfl (lv_at hl 2 rfl) ?_
  refine lv_iconst (v := 0) hx hb dX7_cancel_5 (by decide) ?_
  refine lv_iconst (v := 1) hx hb dX7_cancel_6 (by decide) ?_
  refine pc_i hw (va_runV (As := [.int x, .int 2, .int 0, .int z, .int 0, .int 1]) (rest := []) CF (m_tells l g L _ a k hk p0 t0 n0 hI x 2 0 z 0 1 _) (cwV 6 hts gX7_cancel_X7_tells rfl rfl rfl (by decide +kernel) ⟨Nat.le_of_ble_eq_true rfl, Nat.le_of_ble_eq_true rfl⟩) (pm_preV hw hs (pm_recv hw (hk.q (i := 0) (by decide)) (hk.f (i := 0) (by decide)) rfl)) rfl rfl hl.1 rfl (lv_room (Nat.le_of_ble_eq_true rfl)) dX7_cancel_7 ⟨Nat.le_of_ble_eq_true rfl, Nat.le_of_ble_eq_true rfl⟩) (fun r L1 f1 H locs hp hw => ?_)
  exact pr_i (v := r) hx hb hr hlocks hw rfl ⟨Nat.le_of_ble_eq_true rfl, Nat.le_of_ble_eq_true rfl⟩ (hp) dX7_cancel_10

set_option maxHeartbeats 4000000 in
set_option maxRecDepth 100000 in
theorem m_reinstate (l : Launch) (g : GE) (L : List Nat) (f : Nat → va_E) (a : Nat → Nat) (k : MS) (hk : MW g a k L f) (p0 t0 n0 : Nat) (hI : MInv k p0 t0 n0) (x z : Int32) : Mi l yX7_reinstate wsX7_reinstate (rmH 3 0 0) g L f [.ref (a 0), .int x, .int z] (fun r u => (∃ t, exT [(1, mPol k x ∧ mFld 0), (2, mDay z ∧ (1 : Int32) ≠ 0), (3, ¬ n0 = 60)] t ∧ ScM g a (mT k t) L u) ∨ ((mPol k x ∧ mFld 0) ∧ (mDay z ∧ (1 : Int32) ≠ 0) ∧ ¬ n0 = 60 ∧ r = nI n0 ∧ ScM g a (mTell k n0 x 3 0 z 0) L u)) 0 0 := by
  intro sz
  refine Met.ofW (cc := cX7_reinstate) (maxL := 3) (ret := (some .int)) (by decide) rfl ?_
  intro p e s m args below meth c s₁ B hml hv
  obtain ⟨rfl, hv⟩ := hv
  have hx := B.exec
  have hb := B.bytes
  have hr := B.returns
  have hts := atoms_spec (ws := wsX7_reinstate) B.pre
  have hown : s.vm.findClass RX7 = some m.cls := findClass_of_methodNamed B.named
  have hlocks := B.notSynchronized
  obtain ⟨rfl, hw, hs⟩ := pm_begin hv
  generalize va_A (va_pl L f) s.heap.size = A at hw hs ⊢
  have CF := (⟨hx, hb, hml, hown, hts⟩ : CallFix p m c cX7_reinstate 3 s _ wsX7_reinstate RX7)
  have hin_X7 : ∀ w ∈ wsX70, w ∈ wsX7_reinstate := by decide +kernel
  have hl := lv_entry ([.ref (a 0), .int x, .int z]) (n := 3) (Nat.le_of_ble_eq_true rfl)
  rw [lg_entry_eq]
  generalize (lg_sl ([.ref (a 0), .int x, .int z]) ++ List.replicate (3 - (lg_sl ([.ref (a 0), .int x, .int z])).length) Slot.unset).toArray = ls at hl ⊢
  have hl : lv_has ls 3 [(0, .ref (a 0)), (1, .int x), (2, .int z)] := hl
  refine lv_aload_n hx hb dX7_reinstate_0 rfl (lv_at hl 0 rfl) ?_
  refine lv_iload_n hx hb dX7_reinstate_1 rfl (lv_at hl 1 rfl) ?_
  refine lv_iconst (v := 3) hx hb dX7_reinstate_2 (by decide) ?_
  refine lv_iconst (v := 0) hx hb dX7_reinstate_3 (by decide) ?_
  refine lv_iload_n hx hb dX7_reinstate_4 rfl (lv_at hl 2 rfl) ?_
  refine lv_iconst (v := 0) hx hb dX7_reinstate_5 (by decide) ?_
  refine lv_iconst (v := 1) hx hb dX7_reinstate_6 (by decide) ?_
  refine pc_i hw (va_runV (As := [.int x, .int 3, .int 0, .int z, .int 0, .int 1]) (rest := []) CF (m_tells l g L _ a k hk p0 t0 n0 hI x 3 0 z 0 1 _) (cwV 6 hts gX7_reinstate_X7_tells rfl rfl rfl (by decide +kernel) ⟨Nat.le_of_ble_eq_true rfl, Nat.le_of_ble_eq_true rfl⟩) (pm_preV hw hs (pm_recv hw (hk.q (i := 0) (by decide)) (hk.f (i := 0) (by decide)) rfl)) rfl rfl hl.1 rfl (lv_room (Nat.le_of_ble_eq_true rfl)) dX7_reinstate_7 ⟨Nat.le_of_ble_eq_true rfl, Nat.le_of_ble_eq_true rfl⟩) (fun r L1 f1 H locs hp hw => ?_)
  exact pr_i (v := r) hx hb hr hlocks hw rfl ⟨Nat.le_of_ble_eq_true rfl, Nat.le_of_ble_eq_true rfl⟩ (hp) dX7_reinstate_10

set_option maxHeartbeats 4000000 in
set_option maxRecDepth 100000 in
theorem m_isChange (l : Launch) (g : GE) (L : List Nat) (f : Nat → va_E) (a : Nat → Nat) (k : MS) (hk : MW g a k L f) (x : Int32) : Mi l yX7_isChange wsX7_isChange (rmH 1 0 0) g L f [.ref (a 0), .int x] (fun r u => (mChg k x ∧ r = 1 ∧ ScM g a (mT k 0) L u) ∨ (¬ mChg k x ∧ r = 0 ∧ ScM g a (mT k 1) L u)) 0 0 := by
  intro sz
  refine Met.ofW (cc := cX7_isChange) (maxL := 2) (ret := (some .boolean)) (by decide) rfl ?_
  intro p e s m args below meth c s₁ B hml hv
  obtain ⟨rfl, hv⟩ := hv
  have hx := B.exec
  have hb := B.bytes
  have hr := B.returns
  have hts := atoms_spec (ws := wsX7_isChange) B.pre
  have hown : s.vm.findClass RX7 = some m.cls := findClass_of_methodNamed B.named
  have hlocks := B.notSynchronized
  obtain ⟨rfl, hw, hs⟩ := pm_begin hv
  generalize va_A (va_pl L f) s.heap.size = A at hw hs ⊢
  have CF := (⟨hx, hb, hml, hown, hts⟩ : CallFix p m c cX7_isChange 2 s _ wsX7_isChange RX7)
  have hin_X7 : ∀ w ∈ wsX70, w ∈ wsX7_isChange := by decide +kernel
  have hl := lv_entry ([.ref (a 0), .int x]) (n := 2) (Nat.le_of_ble_eq_true rfl)
  rw [lg_entry_eq]
  generalize (lg_sl ([.ref (a 0), .int x]) ++ List.replicate (2 - (lg_sl ([.ref (a 0), .int x])).length) Slot.unset).toArray = ls at hl ⊢
  have hl : lv_has ls 2 [(0, .ref (a 0)), (1, .int x)] := hl
  refine lv_aload_n hx hb dX7_isChange_0 rfl (lv_at hl 0 rfl) ?_
  refine lv_iload_n hx hb dX7_isChange_1 rfl (lv_at hl 1 rfl) ?_
  refine lv_iconst (v := 0) hx hb dX7_isChange_2 (by decide) ?_
  refine lv_aload_n hx hb dX7_isChange_3 rfl (lv_at hl 0 rfl) ?_
  refine pm_get (ci := 9) (v := .int (k 0 3)) (C := RX7) (T := TX7) (N := 21) hx hb hts hin_X7 hown hw (hk.q (i := 0) (by decide)) (hk.f (i := 0) (by decide)) rfl 8 (by decide) (hts (.fieldLink RX7 86 "BackdaterModel" "changes" "I") (by decide +kernel)) (fun _ h9 => h9) rfl dX7_isChange_4 ?_
  refine lv_iconst (v := 1) hx hb dX7_isChange_7 (by decide) ?_
  refine lv_isub hx hb dX7_isChange_8 ?_
  refine pc_i hw (va_runS (As := [.int x, .int 0, .int ((k 0 3) - 1)]) (rest := [.ref (a 0)]) CF (m_isIn l g L _ x 0 ((k 0 3) - 1) _) (va_cwS 3 hts gX7_isChange_X7_isIn rfl rfl rfl (by decide +kernel) ⟨Nat.le_of_ble_eq_true rfl, Nat.le_of_ble_eq_true rfl⟩) (pm_preS hw hs) rfl rfl hl.1 rfl (lv_room (Nat.le_of_ble_eq_true rfl)) dX7_isChange_9 ⟨Nat.le_of_ble_eq_true rfl, Nat.le_of_ble_eq_true rfl⟩) (fun r L1 f1 H locs hp hw => ?_)
  obtain ⟨hE_9, hu⟩ := hp
  obtain rfl : _ = L1 := (congrArg Prod.fst hu).symm
  obtain rfl : _ = f1 := (congrArg Prod.snd hu).symm
  generalize r = r_9 at hE_9 ⊢
  refine lv_if_eq (tgt := 19) hx hb dX7_isChange_12 (by decide) (fun c_12 => ?_) (fun c_12 => ?_)
  · have h1 : ¬ mChg k x := b2i_eq0 (hE_9 ▸ c_12)
    refine lv_iconst (v := 1) hx hb dX7_isChange_19 (by decide) ?_
    refine pm_put (ci := 9) (v := .int 1) (ty := .int) (C := RX7) (T := TX7) (N := 21) hx hb hts hin_X7 tyX7 tyX7_ok nmX7 hown hw (hk.q (i := 0) (by decide)) (hk.f (i := 0) (by decide)) rfl 20 (by decide) (hts (.fieldLink RX7 59 "BackdaterModel" "thrown" "I") (by decide +kernel)) (fun _ h9 => h9) rfl (by decide +kernel) rfl rfl (Nat.le_of_ble_eq_true rfl) dX7_isChange_20 (fun H locs hw => ?_)
    have hk := hk.s4 1
    refine lv_aload_n hx hb dX7_isChange_23 rfl (lv_at hl 0 rfl) ?_
    refine pm_get (ci := 9) (v := .int 1) (C := RX7) (T := TX7) (N := 21) hx hb hts hin_X7 hown hw (hk.q (i := 0) (by decide)) (hk.f (i := 0) (by decide)) rfl 20 (by decide) (hts (.fieldLink RX7 59 "BackdaterModel" "thrown" "I") (by decide +kernel)) (fun _ h9 => h9) rfl dX7_isChange_24 ?_
    refine lv_if_ne (tgt := 34) hx hb dX7_isChange_27 (by decide) (fun c_27 => ?_) (fun c_27 => ?_)
    · refine lv_iconst (v := 0) hx hb dX7_isChange_34 (by decide) ?_
      exact pr_i (v := 0) hx hb hr hlocks hw rfl ⟨Nat.le_of_ble_eq_true rfl, Nat.le_of_ble_eq_true rfl⟩ (Or.inr ⟨h1, rfl, rfl, hk⟩) dX7_isChange_35
    · exact absurd c_27 (by decide)
  · have h1 : mChg k x := b2i_ne0 (hE_9 ▸ c_12)
    refine lv_iconst (v := 0) hx hb dX7_isChange_15 (by decide) ?_
    refine lv_goto (tgt := 20) hx hb dX7_isChange_16 (by decide) ?_
    refine pm_put (ci := 9) (v := .int 0) (ty := .int) (C := RX7) (T := TX7) (N := 21) hx hb hts hin_X7 tyX7 tyX7_ok nmX7 hown hw (hk.q (i := 0) (by decide)) (hk.f (i := 0) (by decide)) rfl 20 (by decide) (hts (.fieldLink RX7 59 "BackdaterModel" "thrown" "I") (by decide +kernel)) (fun _ h9 => h9) rfl (by decide +kernel) rfl rfl (Nat.le_of_ble_eq_true rfl) dX7_isChange_20 (fun H locs hw => ?_)
    have hk := hk.s4 0
    refine lv_aload_n hx hb dX7_isChange_23 rfl (lv_at hl 0 rfl) ?_
    refine pm_get (ci := 9) (v := .int 0) (C := RX7) (T := TX7) (N := 21) hx hb hts hin_X7 hown hw (hk.q (i := 0) (by decide)) (hk.f (i := 0) (by decide)) rfl 20 (by decide) (hts (.fieldLink RX7 59 "BackdaterModel" "thrown" "I") (by decide +kernel)) (fun _ h9 => h9) rfl dX7_isChange_24 ?_
    refine lv_if_ne (tgt := 34) hx hb dX7_isChange_27 (by decide) (fun c_27 => ?_) (fun c_27 => ?_)
    · exact absurd rfl c_27
    · refine lv_iconst (v := 1) hx hb dX7_isChange_30 (by decide) ?_
      refine lv_goto (tgt := 35) hx hb dX7_isChange_31 (by decide) ?_
      exact pr_i (v := 1) hx hb hr hlocks hw rfl ⟨Nat.le_of_ble_eq_true rfl, Nat.le_of_ble_eq_true rfl⟩ (Or.inl ⟨h1, rfl, rfl, hk⟩) dX7_isChange_35

set_option maxHeartbeats 4000000 in
set_option maxRecDepth 100000 in
theorem m_takeBack (l : Launch) (g : GE) (L : List Nat) (f : Nat → va_E) (a : Nat → Nat) (k : MS) (hk : MW g a k L f) (p0 t0 n0 : Nat) (hI : MInv k p0 t0 n0) (x : Int32) : Mi l yX7_takeBack wsX7_takeBack (rmH 2 0 0) g L f [.ref (a 0), .int x] (fun r u => (∃ t, exT [(1, mChg k x), (2, ∀ c, c < n0 → x = nI c → (k 12 c).toInt < 0)] t ∧ ScM g a (mT k t) L u) ∨ ∃ c, c < n0 ∧ x = nI c ∧ (k 12 c).toInt < 0 ∧ r = k 11 c ∧ ScM g a (mS (mT (mT k 0) 0) 12 c (k 0 1)) L u) 0 0 := by
  intro sz
  refine Met.ofW (cc := cX7_takeBack) (maxL := 2) (ret := (some .int)) (by decide) rfl ?_
  intro p e s m args below meth c s₁ B hml hv
  obtain ⟨rfl, hv⟩ := hv
  have hx := B.exec
  have hb := B.bytes
  have hr := B.returns
  have hts := atoms_spec (ws := wsX7_takeBack) B.pre
  have hown : s.vm.findClass RX7 = some m.cls := findClass_of_methodNamed B.named
  have hlocks := B.notSynchronized
  obtain ⟨rfl, hw, hs⟩ := pm_begin hv
  generalize va_A (va_pl L f) s.heap.size = A at hw hs ⊢
  have CF := (⟨hx, hb, hml, hown, hts⟩ : CallFix p m c cX7_takeBack 2 s _ wsX7_takeBack RX7)
  have hin_X7 : ∀ w ∈ wsX70, w ∈ wsX7_takeBack := by decide +kernel
  have hl := lv_entry ([.ref (a 0), .int x]) (n := 2) (Nat.le_of_ble_eq_true rfl)
  rw [lg_entry_eq]
  generalize (lg_sl ([.ref (a 0), .int x]) ++ List.replicate (2 - (lg_sl ([.ref (a 0), .int x])).length) Slot.unset).toArray = ls at hl ⊢
  have hl : lv_has ls 2 [(0, .ref (a 0)), (1, .int x)] := hl
  obtain ⟨⟨hp0, ht0, hn0⟩, hpl, htl, hnl⟩ := hI
  refine lv_aload_n hx hb dX7_takeBack_0 rfl (lv_at hl 0 rfl) ?_
  refine lv_iload_n hx hb dX7_takeBack_1 rfl (lv_at hl 1 rfl) ?_
  refine pc_i hw (va_runV (As := [.int x]) (rest := []) CF (m_isChange l g L _ a k hk x _) (cwV 1 hts gX7_takeBack_X7_isChange rfl rfl rfl (by decide +kernel) ⟨Nat.le_of_ble_eq_true rfl, Nat.le_of_ble_eq_true rfl⟩) (pm_preV hw hs (pm_recv hw (hk.q (i := 0) (by decide)) (hk.f (i := 0) (by decide)) rfl)) rfl rfl hl.1 rfl (lv_room (Nat.le_of_ble_eq_true rfl)) dX7_takeBack_2 ⟨Nat.le_of_ble_eq_true rfl, Nat.le_of_ble_eq_true rfl⟩) (fun r L1 f1 H locs hp hw => ?_)
  rcases hp with ⟨h1, rfl, hu, hk⟩ | ⟨h1, rfl, hu, hk⟩
  · obtain rfl : _ = L1 := hu.symm
    have hk : MW g a (mT k 0) _ f1 := hk
    obtain ⟨c0, hc0, rfl⟩ := ixM hn0 hnl h1
    refine lv_if_ne (tgt := 10) hx hb dX7_takeBack_5 (by decide) (fun c_5 => ?_) (fun c_5 => ?_)
    · refine lv_aload_n hx hb dX7_takeBack_10 rfl (lv_at hl 0 rfl) ?_
      refine lv_aload_n hx hb dX7_takeBack_11 rfl (lv_at hl 0 rfl) ?_
      refine pm_get (ci := 9) (v := .ref (a 12)) (C := RX7) (T := TX7) (N := 21) hx hb hts hin_X7 hown hw (hk.q (i := 0) (by decide)) (hk.f (i := 0) (by decide)) rfl 15 (by decide) (hts (.fieldLink RX7 43 "BackdaterModel" "taken" "[I") (by decide +kernel)) (fun _ h9 => h9) rfl dX7_takeBack_12 ?_
      refine lv_iload_n hx hb dX7_takeBack_15 rfl (lv_at hl 1 rfl) ?_
      refine pm_iald (n := 60) (r := (k 12)) hx hb hw (hk.q (i := 12) (by decide)) (hk.f (i := 12) (by decide)) (j := c0) (nI_clamp (by omega)) (vp_in_nI (by omega) (by decide)) dX7_takeBack_16 ?_
      refine lv_if_lt (tgt := 24) hx hb dX7_takeBack_17 (by decide) (fun c_17 => ?_) (fun c_17 => ?_)
      · have h2 : (k 12 c0).toInt < 0 := by rw [i32_lt, i32_0] at c_17; exact c_17
        refine lv_iconst (v := 0) hx hb dX7_takeBack_24 (by decide) ?_
        refine pm_put (ci := 9) (v := .int 0) (ty := .int) (C := RX7) (T := TX7) (N := 21) hx hb hts hin_X7 tyX7 tyX7_ok nmX7 hown hw (hk.q (i := 0) (by decide)) (hk.f (i := 0) (by decide)) rfl 20 (by decide) (hts (.fieldLink RX7 59 "BackdaterModel" "thrown" "I") (by decide +kernel)) (fun _ h9 => h9) rfl (by decide +kernel) rfl rfl (Nat.le_of_ble_eq_true rfl) dX7_takeBack_25 (fun H locs hw => ?_)
        have hk := hk.s4 0
        refine lv_aload_n hx hb dX7_takeBack_28 rfl (lv_at hl 0 rfl) ?_
        refine pm_get (ci := 9) (v := .int 0) (C := RX7) (T := TX7) (N := 21) hx hb hts hin_X7 hown hw (hk.q (i := 0) (by decide)) (hk.f (i := 0) (by decide)) rfl 20 (by decide) (hts (.fieldLink RX7 59 "BackdaterModel" "thrown" "I") (by decide +kernel)) (fun _ h9 => h9) rfl dX7_takeBack_29 ?_
        refine lv_if_le (tgt := 37) hx hb dX7_takeBack_32 (by decide) (fun c_32 => ?_) (fun c_32 => ?_)
        · refine lv_aload_n hx hb dX7_takeBack_37 rfl (lv_at hl 0 rfl) ?_
          refine pm_get (ci := 9) (v := .ref (a 12)) (C := RX7) (T := TX7) (N := 21) hx hb hts hin_X7 hown hw (hk.q (i := 0) (by decide)) (hk.f (i := 0) (by decide)) rfl 15 (by decide) (hts (.fieldLink RX7 43 "BackdaterModel" "taken" "[I") (by decide +kernel)) (fun _ h9 => h9) rfl dX7_takeBack_38 ?_
          refine lv_iload_n hx hb dX7_takeBack_41 rfl (lv_at hl 1 rfl) ?_
          refine lv_aload_n hx hb dX7_takeBack_42 rfl (lv_at hl 0 rfl) ?_
          refine pm_get (ci := 9) (v := .int (k 0 1)) (C := RX7) (T := TX7) (N := 21) hx hb hts hin_X7 hown hw (hk.q (i := 0) (by decide)) (hk.f (i := 0) (by decide)) rfl 3 (by decide) (hts (.fieldLink RX7 80 "BackdaterModel" "today" "I") (by decide +kernel)) (fun _ h9 => h9) rfl dX7_takeBack_43 ?_
          refine pm_iast (n := 60) (r := (k 12)) hx hb hw (hk.q (i := 12) (by decide)) (hk.f (i := 12) (by decide)) (j := c0) (nI_clamp (by omega)) (vp_in_nI (by omega) (by decide)) dX7_takeBack_46 (fun H locs hw => ?_)
          have hk := hk.a12 (upd (k 12) c0 (k 0 1))
          refine lv_aload_n hx hb dX7_takeBack_47 rfl (lv_at hl 0 rfl) ?_
          refine pm_get (ci := 9) (v := .ref (a 11)) (C := RX7) (T := TX7) (N := 21) hx hb hts hin_X7 hown hw (hk.q (i := 0) (by decide)) (hk.f (i := 0) (by decide)) rfl 14 (by decide) (hts (.fieldLink RX7 40 "BackdaterModel" "told" "[I") (by decide +kernel)) (fun _ h9 => h9) rfl dX7_takeBack_48 ?_
          refine lv_iload_n hx hb dX7_takeBack_51 rfl (lv_at hl 1 rfl) ?_
          refine pm_iald (n := 60) (r := (k 11)) hx hb hw (hk.q (i := 11) (by decide)) (hk.f (i := 11) (by decide)) (j := c0) (nI_clamp (by omega)) (vp_in_nI (by omega) (by decide)) dX7_takeBack_52 ?_
          exact pr_i (v := ((k 11) c0)) hx hb hr hlocks hw rfl ⟨Nat.le_of_ble_eq_true rfl, Nat.le_of_ble_eq_true rfl⟩ (Or.inr ⟨c0, hc0, rfl, h2, rfl, rfl, hk⟩) dX7_takeBack_53
        · exact absurd (by decide) c_32
      · have h2 : ¬ (k 12 c0).toInt < 0 := by rw [i32_lt, i32_0] at c_17; exact c_17
        refine lv_iconst (v := 2) hx hb dX7_takeBack_20 (by decide) ?_
        refine lv_goto (tgt := 25) hx hb dX7_takeBack_21 (by decide) ?_
        refine pm_put (ci := 9) (v := .int 2) (ty := .int) (C := RX7) (T := TX7) (N := 21) hx hb hts hin_X7 tyX7 tyX7_ok nmX7 hown hw (hk.q (i := 0) (by decide)) (hk.f (i := 0) (by decide)) rfl 20 (by decide) (hts (.fieldLink RX7 59 "BackdaterModel" "thrown" "I") (by decide +kernel)) (fun _ h9 => h9) rfl (by decide +kernel) rfl rfl (Nat.le_of_ble_eq_true rfl) dX7_takeBack_25 (fun H locs hw => ?_)
        have hk := hk.s4 2
        refine lv_aload_n hx hb dX7_takeBack_28 rfl (lv_at hl 0 rfl) ?_
        refine pm_get (ci := 9) (v := .int 2) (C := RX7) (T := TX7) (N := 21) hx hb hts hin_X7 hown hw (hk.q (i := 0) (by decide)) (hk.f (i := 0) (by decide)) rfl 20 (by decide) (hts (.fieldLink RX7 59 "BackdaterModel" "thrown" "I") (by decide +kernel)) (fun _ h9 => h9) rfl dX7_takeBack_29 ?_
        refine lv_if_le (tgt := 37) hx hb dX7_takeBack_32 (by decide) (fun c_32 => ?_) (fun c_32 => ?_)
        · exact absurd c_32 (by decide)
        · refine lv_iconst (v := 0) hx hb dX7_takeBack_35 (by decide) ?_
          exact pr_i (v := 0) hx hb hr hlocks hw rfl ⟨Nat.le_of_ble_eq_true rfl, Nat.le_of_ble_eq_true rfl⟩ (Or.inl ⟨2, Or.inr ⟨h1, Or.inl ⟨fun h9 => h2 (h9 c0 hc0 rfl), rfl⟩⟩, rfl, (by have h9 : MW g a (mT (mT k 0) 2) _ _ := hk; rw [mT_mT] at h9; exact h9)⟩) dX7_takeBack_36
    · exact absurd c_5 (by decide)
  · obtain rfl : _ = L1 := hu.symm
    have hk : MW g a (mT k 1) _ f1 := hk
    refine lv_if_ne (tgt := 10) hx hb dX7_takeBack_5 (by decide) (fun c_5 => ?_) (fun c_5 => ?_)
    · exact absurd c_5 (by decide)
    · refine lv_iconst (v := 0) hx hb dX7_takeBack_8 (by decide) ?_
      exact pr_i (v := 0) hx hb hr hlocks hw rfl ⟨Nat.le_of_ble_eq_true rfl, Nat.le_of_ble_eq_true rfl⟩ (Or.inl ⟨1, Or.inl ⟨h1, rfl⟩, rfl, hk⟩) dX7_takeBack_9

set_option maxHeartbeats 4000000 in
set_option maxRecDepth 100000 in
theorem m_laidAnew (l : Launch) (g : GE) (L : List Nat) (f : Nat → va_E) (a : Nat → Nat) (k : MS) (hk : MW g a k L f) (p0 t0 n0 : Nat) (hI : MInv k p0 t0 n0) (x : Int32) : Mi l yX7_laidAnew wsX7_laidAnew (rmH 2 0 0) g L f [.ref (a 0), .int x] (fun r u => (¬ mChg k x ∧ ScM g a (mT k 1) L u) ∨ ∃ c, c < n0 ∧ x = nI c ∧ r = nI (laM k c c) ∧ ScM g a (mT k 0) L u) 0 0 := by
  intro sz
  refine Met.ofW (cc := cX7_laidAnew) (maxL := 5) (ret := (some .int)) (by decide) rfl ?_
  intro p e s m args below meth c s₁ B hml hv
  obtain ⟨rfl, hv⟩ := hv
  have hx := B.exec
  have hb := B.bytes
  have hr := B.returns
  have hts := atoms_spec (ws := wsX7_laidAnew) B.pre
  have hown : s.vm.findClass RX7 = some m.cls := findClass_of_methodNamed B.named
  have hlocks := B.notSynchronized
  obtain ⟨rfl, hw, hs⟩ := pm_begin hv
  generalize va_A (va_pl L f) s.heap.size = A at hw hs ⊢
  have CF := (⟨hx, hb, hml, hown, hts⟩ : CallFix p m c cX7_laidAnew 5 s _ wsX7_laidAnew RX7)
  have hin_X7 : ∀ w ∈ wsX70, w ∈ wsX7_laidAnew := by decide +kernel
  have hl := lv_entry ([.ref (a 0), .int x]) (n := 5) (Nat.le_of_ble_eq_true rfl)
  rw [lg_entry_eq]
  generalize (lg_sl ([.ref (a 0), .int x]) ++ List.replicate (5 - (lg_sl ([.ref (a 0), .int x])).length) Slot.unset).toArray = ls at hl ⊢
  have hl : lv_has ls 5 [(0, .ref (a 0)), (1, .int x)] := hl
  obtain ⟨⟨hp0, ht0, hn0⟩, hpl, htl, hnl⟩ := hI
  refine lv_iconst (v := 0) hx hb dX7_laidAnew_0 (by decide) ?_
  refine lv_istore_n (lv' := [(2, .int 0), (0, .ref (a 0)), (1, .int x)]) hx hb dX7_laidAnew_1 rfl hl (by decide) rfl (fun ls hl => ?_)
  refine lv_aload_n hx hb dX7_laidAnew_2 rfl (lv_at hl 1 rfl) ?_
  refine lv_iload_n hx hb dX7_laidAnew_3 rfl (lv_at hl 2 rfl) ?_
  refine pc_i hw (va_runV (As := [.int x]) (rest := []) CF (m_isChange l g L _ a k hk x _) (cwV 1 hts gX7_laidAnew_X7_isChange rfl rfl rfl (by decide +kernel) ⟨Nat.le_of_ble_eq_true rfl, Nat.le_of_ble_eq_true rfl⟩) (pm_preV hw hs (pm_recv hw (hk.q (i := 0) (by decide)) (hk.f (i := 0) (by decide)) rfl)) rfl rfl hl.1 rfl (lv_room (Nat.le_of_ble_eq_true rfl)) dX7_laidAnew_4 ⟨Nat.le_of_ble_eq_true rfl, Nat.le_of_ble_eq_true rfl⟩) (fun r L1 f1 H locs hp hw => ?_)
  rcases hp with ⟨h1, rfl, hu, hk⟩ | ⟨h1, rfl, hu, hk⟩
  · obtain rfl : _ = L1 := hu.symm
    have hk : MW g a (mT k 0) _ f1 := hk
    obtain ⟨c0, hc0, rfl⟩ := ixM hn0 hnl h1
    refine lv_istore_n (lv' := [(3, .int 1), (2, .int 0), (0, .ref (a 0)), (1, .int (nI c0))]) hx hb dX7_laidAnew_7 rfl hl (by decide) rfl (fun ls hl => ?_)
    refine lv_iconst (v := 0) hx hb dX7_laidAnew_8 (by decide) ?_
    refine lv_istore (lv' := [(4, .int 0), (3, .int 1), (2, .int 0), (0, .ref (a 0)), (1, .int (nI c0))]) hx hb dX7_laidAnew_9 hl (by decide) rfl (fun ls hl => ?_)
    refine W_loop (σ := Nat × Nat) (fun ⟨q, n⟩ H locs ls => (q ≤ c0 ∧ n = laM k c0 q) ∧ PW g A s H locs L _ ∧ lv_has ls 5 [(4, .int (nI q)), (2, .int (nI n)), (0, .ref (a 0)), (1, .int (nI c0)), (3, .int 1)]) (fun ⟨q, n⟩ => c0 - q) (0, 0) ⟨⟨Nat.zero_le _, rfl⟩, hw, lv_sub hl [0, 2, 3, 4, 1] rfl⟩ ?_
    rintro ⟨q, n⟩ H locs ls ⟨⟨hql, hn⟩, hw, hl⟩ ih_11
    refine lv_iload_n hx hb dX7_laidAnew_11 rfl (lv_at hl 4 rfl) ?_
    refine lv_if_eq (tgt := 80) hx hb dX7_laidAnew_12 (by decide) (fun c_12 => ?_) (fun c_12 => ?_)
    · exact absurd c_12 (by decide)
    · refine lv_iload hx hb dX7_laidAnew_15 (lv_at hl 0 rfl) ?_
      refine lv_iload_n hx hb dX7_laidAnew_17 rfl (lv_at hl 3 rfl) ?_
      refine lv_icmp_ge (tgt := 80) hx hb dX7_laidAnew_18 (by decide) (fun c_18 => ?_) (fun c_18 => ?_)
      · have hfin : q = c0 := by rw [nI_leI (by omega) (by omega)] at c_18; omega
        refine lv_iload_n hx hb dX7_laidAnew_80 rfl (lv_at hl 1 rfl) ?_
        exact pr_i (v := (nI n)) hx hb hr hlocks hw rfl ⟨Nat.le_of_ble_eq_true rfl, Nat.le_of_ble_eq_true rfl⟩ (Or.inr ⟨c0, hc0, rfl, by rw [hn, hfin], rfl, hk⟩) dX7_laidAnew_81
      · have hqc : q < c0 := by rw [nI_leI (by omega) (by omega)] at c_18; omega
        refine lv_iload_n hx hb dX7_laidAnew_21 rfl (lv_at hl 1 rfl) ?_
        refine lv_aload_n hx hb dX7_laidAnew_22 rfl (lv_at hl 2 rfl) ?_
        refine pm_get (ci := 9) (v := .ref (a 6)) (C := RX7) (T := TX7) (N := 21) hx hb hts hin_X7 hown hw (hk.q (i := 0) (by decide)) (hk.f (i := 0) (by decide)) rfl 9 (by decide) (hts (.fieldLink RX7 25 "BackdaterModel" "of" "[I") (by decide +kernel)) (fun _ h9 => h9) rfl dX7_laidAnew_23 ?_
        refine lv_iload hx hb dX7_laidAnew_26 (lv_at hl 0 rfl) ?_
        refine pm_iald (n := 60) (r := (k 6)) hx hb hw (hk.q (i := 6) (by decide)) (hk.f (i := 6) (by decide)) (j := q) (nI_clamp (by omega)) (vp_in_nI (by omega) (by decide)) dX7_laidAnew_28 ?_
        refine lv_aload_n hx hb dX7_laidAnew_29 rfl (lv_at hl 2 rfl) ?_
        refine pm_get (ci := 9) (v := .ref (a 6)) (C := RX7) (T := TX7) (N := 21) hx hb hts hin_X7 hown hw (hk.q (i := 0) (by decide)) (hk.f (i := 0) (by decide)) rfl 9 (by decide) (hts (.fieldLink RX7 25 "BackdaterModel" "of" "[I") (by decide +kernel)) (fun _ h9 => h9) rfl dX7_laidAnew_30 ?_
        refine lv_iload_n hx hb dX7_laidAnew_33 rfl (lv_at hl 3 rfl) ?_
        refine pm_iald (n := 60) (r := (k 6)) hx hb hw (hk.q (i := 6) (by decide)) (hk.f (i := 6) (by decide)) (j := c0) (nI_clamp (by omega)) (vp_in_nI (by omega) (by decide)) dX7_laidAnew_34 ?_
        refine lv_icmp_ne (tgt := 71) hx hb dX7_laidAnew_35 (by decide) (fun c_35 => ?_) (fun c_35 => ?_)
        · have hno : ¬ laMB k c0 q := fun h9 => c_35 h9.1
          refine lv_iconst (v := 0) hx hb dX7_laidAnew_71 (by decide) ?_
          refine lv_iadd hx hb dX7_laidAnew_72 ?_
          rw [Int32.add_zero]
          refine lv_istore_n (lv' := [(2, .int (nI n)), (4, .int (nI q)), (0, .ref (a 0)), (1, .int (nI c0)), (3, .int 1)]) hx hb dX7_laidAnew_73 rfl hl (by decide) rfl (fun ls hl => ?_)
          refine lv_iinc (v := (nI (q + 1))) (lv' := [(4, .int (nI (q + 1))), (2, .int (nI n)), (0, .ref (a 0)), (1, .int (nI c0)), (3, .int 1)]) hx hb dX7_laidAnew_74 hl (k := 1) rfl (nI_1 q) (by decide) rfl (fun ls hl => ?_)
          refine lv_goto (tgt := 11) hx hb dX7_laidAnew_77 (by decide) ?_
          exact ih_11 (q + 1, n) _ _ _ (by dsimp only; omega) ⟨⟨by omega, by rw [laM, if_neg hno, Nat.add_zero]; exact hn⟩, hw, lv_sub hl [0, 1, 2, 3, 4] rfl⟩
        · have h35 : k 6 q = k 6 c0 := c_35
          refine lv_aload_n hx hb dX7_laidAnew_38 rfl (lv_at hl 2 rfl) ?_
          refine lv_iload hx hb dX7_laidAnew_39 (lv_at hl 0 rfl) ?_
          refine lv_aload_n hx hb dX7_laidAnew_41 rfl (lv_at hl 2 rfl) ?_
          refine pm_get (ci := 9) (v := .int (k 0 1)) (C := RX7) (T := TX7) (N := 21) hx hb hts hin_X7 hown hw (hk.q (i := 0) (by decide)) (hk.f (i := 0) (by decide)) rfl 3 (by decide) (hts (.fieldLink RX7 80 "BackdaterModel" "today" "I") (by decide +kernel)) (fun _ h9 => h9) rfl dX7_laidAnew_42 ?_
          refine pc_i hw (va_runV (As := [.int (nI q), .int (k 0 1)]) (rest := [.int (nI n)]) CF (m_isKnown l g L _ a (mT k 0) hk q (by omega) (k 0 1) _) (cwV 2 hts gX7_laidAnew_X7_isKnown rfl rfl rfl (by decide +kernel) ⟨Nat.le_of_ble_eq_true rfl, Nat.le_of_ble_eq_true rfl⟩) (pm_preV hw hs (pm_recv hw (hk.q (i := 0) (by decide)) (hk.f (i := 0) (by decide)) rfl)) rfl rfl hl.1 rfl (lv_room (Nat.le_of_ble_eq_true rfl)) dX7_laidAnew_45 ⟨Nat.le_of_ble_eq_true rfl, Nat.le_of_ble_eq_true rfl⟩) (fun r L1 f1 H locs hp hw => ?_)
          obtain ⟨hE_45, hu⟩ := hp
          obtain rfl : _ = L1 := (congrArg Prod.fst hu).symm
          obtain rfl : _ = f1 := (congrArg Prod.snd hu).symm
          have hE_45 : r = b2i (knM k q (k 0 1)) := hE_45
          generalize r = r_45 at hE_45 ⊢
          refine lv_if_eq (tgt := 71) hx hb dX7_laidAnew_48 (by decide) (fun c_48 => ?_) (fun c_48 => ?_)
          · have hno : ¬ laMB k c0 q := fun h9 => b2i_eq0 (hE_45 ▸ c_48) h9.2.1
            refine lv_iconst (v := 0) hx hb dX7_laidAnew_71 (by decide) ?_
            refine lv_iadd hx hb dX7_laidAnew_72 ?_
            rw [Int32.add_zero]
            refine lv_istore_n (lv' := [(2, .int (nI n)), (4, .int (nI q)), (0, .ref (a 0)), (1, .int (nI c0)), (3, .int 1)]) hx hb dX7_laidAnew_73 rfl hl (by decide) rfl (fun ls hl => ?_)
            refine lv_iinc (v := (nI (q + 1))) (lv' := [(4, .int (nI (q + 1))), (2, .int (nI n)), (0, .ref (a 0)), (1, .int (nI c0)), (3, .int 1)]) hx hb dX7_laidAnew_74 hl (k := 1) rfl (nI_1 q) (by decide) rfl (fun ls hl => ?_)
            refine lv_goto (tgt := 11) hx hb dX7_laidAnew_77 (by decide) ?_
            exact ih_11 (q + 1, n) _ _ _ (by dsimp only; omega) ⟨⟨by omega, by rw [laM, if_neg hno, Nat.add_zero]; exact hn⟩, hw, lv_sub hl [0, 1, 2, 3, 4] rfl⟩
          · have h48 : knM k q (k 0 1) := b2i_ne0 (hE_45 ▸ c_48)
            refine lv_aload_n hx hb dX7_laidAnew_51 rfl (lv_at hl 2 rfl) ?_
            refine pm_get (ci := 9) (v := .ref (a 9)) (C := RX7) (T := TX7) (N := 21) hx hb hts hin_X7 hown hw (hk.q (i := 0) (by decide)) (hk.f (i := 0) (by decide)) rfl 12 (by decide) (hts (.fieldLink RX7 34 "BackdaterModel" "from" "[I") (by decide +kernel)) (fun _ h9 => h9) rfl dX7_laidAnew_52 ?_
            refine lv_iload hx hb dX7_laidAnew_55 (lv_at hl 0 rfl) ?_
            refine pm_iald (n := 60) (r := (k 9)) hx hb hw (hk.q (i := 9) (by decide)) (hk.f (i := 9) (by decide)) (j := q) (nI_clamp (by omega)) (vp_in_nI (by omega) (by decide)) dX7_laidAnew_57 ?_
            refine lv_aload_n hx hb dX7_laidAnew_58 rfl (lv_at hl 2 rfl) ?_
            refine pm_get (ci := 9) (v := .ref (a 9)) (C := RX7) (T := TX7) (N := 21) hx hb hts hin_X7 hown hw (hk.q (i := 0) (by decide)) (hk.f (i := 0) (by decide)) rfl 12 (by decide) (hts (.fieldLink RX7 34 "BackdaterModel" "from" "[I") (by decide +kernel)) (fun _ h9 => h9) rfl dX7_laidAnew_59 ?_
            refine lv_iload_n hx hb dX7_laidAnew_62 rfl (lv_at hl 3 rfl) ?_
            refine pm_iald (n := 60) (r := (k 9)) hx hb hw (hk.q (i := 9) (by decide)) (hk.f (i := 9) (by decide)) (j := c0) (nI_clamp (by omega)) (vp_in_nI (by omega) (by decide)) dX7_laidAnew_63 ?_
            refine lv_icmp_le (tgt := 71) hx hb dX7_laidAnew_64 (by decide) (fun c_64 => ?_) (fun c_64 => ?_)
            · have hno : ¬ laMB k c0 q := fun h9 => by rw [i32_le] at c_64; have := h9.2.2; omega
              refine lv_iconst (v := 0) hx hb dX7_laidAnew_71 (by decide) ?_
              refine lv_iadd hx hb dX7_laidAnew_72 ?_
              rw [Int32.add_zero]
              refine lv_istore_n (lv' := [(2, .int (nI n)), (4, .int (nI q)), (0, .ref (a 0)), (1, .int (nI c0)), (3, .int 1)]) hx hb dX7_laidAnew_73 rfl hl (by decide) rfl (fun ls hl => ?_)
              refine lv_iinc (v := (nI (q + 1))) (lv' := [(4, .int (nI (q + 1))), (2, .int (nI n)), (0, .ref (a 0)), (1, .int (nI c0)), (3, .int 1)]) hx hb dX7_laidAnew_74 hl (k := 1) rfl (nI_1 q) (by decide) rfl (fun ls hl => ?_)
              refine lv_goto (tgt := 11) hx hb dX7_laidAnew_77 (by decide) ?_
              exact ih_11 (q + 1, n) _ _ _ (by dsimp only; omega) ⟨⟨by omega, by rw [laM, if_neg hno, Nat.add_zero]; exact hn⟩, hw, lv_sub hl [0, 1, 2, 3, 4] rfl⟩
            · have h64 : (k 9 c0).toInt < (k 9 q).toInt := by rw [i32_le] at c_64; omega
              refine lv_iconst (v := 1) hx hb dX7_laidAnew_67 (by decide) ?_
              refine lv_goto (tgt := 72) hx hb dX7_laidAnew_68 (by decide) ?_
              refine lv_iadd hx hb dX7_laidAnew_72 ?_
              rw [nI_1]
              refine lv_istore_n (lv' := [(2, .int (nI (n + 1))), (4, .int (nI q)), (0, .ref (a 0)), (1, .int (nI c0)), (3, .int 1)]) hx hb dX7_laidAnew_73 rfl hl (by decide) rfl (fun ls hl => ?_)
              refine lv_iinc (v := (nI (q + 1))) (lv' := [(4, .int (nI (q + 1))), (2, .int (nI (n + 1))), (0, .ref (a 0)), (1, .int (nI c0)), (3, .int 1)]) hx hb dX7_laidAnew_74 hl (k := 1) rfl (nI_1 q) (by decide) rfl (fun ls hl => ?_)
              refine lv_goto (tgt := 11) hx hb dX7_laidAnew_77 (by decide) ?_
              exact ih_11 (q + 1, n + 1) _ _ _ (by dsimp only; omega) ⟨⟨by omega, by rw [laM, if_pos ⟨h35, h48, h64⟩, hn]⟩, hw, lv_sub hl [0, 1, 2, 3, 4] rfl⟩
  · obtain rfl : _ = L1 := hu.symm
    have hk : MW g a (mT k 1) _ f1 := hk
    refine lv_istore_n (lv' := [(3, .int 0), (2, .int 0), (0, .ref (a 0)), (1, .int x)]) hx hb dX7_laidAnew_7 rfl hl (by decide) rfl (fun ls hl => ?_)
    refine lv_iconst (v := 0) hx hb dX7_laidAnew_8 (by decide) ?_
    refine lv_istore (lv' := [(4, .int 0), (3, .int 0), (2, .int 0), (0, .ref (a 0)), (1, .int x)]) hx hb dX7_laidAnew_9 hl (by decide) rfl (fun ls hl => ?_)
    refine lv_iload_n hx hb dX7_laidAnew_11 rfl (lv_at hl 1 rfl) ?_
    refine lv_if_eq (tgt := 80) hx hb dX7_laidAnew_12 (by decide) (fun c_12 => ?_) (fun c_12 => ?_)
    · refine lv_iload_n hx hb dX7_laidAnew_80 rfl (lv_at hl 2 rfl) ?_
      exact pr_i (v := 0) hx hb hr hlocks hw rfl ⟨Nat.le_of_ble_eq_true rfl, Nat.le_of_ble_eq_true rfl⟩ (Or.inl ⟨h1, rfl, hk⟩) dX7_laidAnew_81
    · exact absurd rfl c_12

set_option maxHeartbeats 4000000 in
set_option maxRecDepth 100000 in
theorem m_weighs (l : Launch) (g : GE) (L : List Nat) (f : Nat → va_E) (a : Nat → Nat) (k : MS) (hk : MW g a k L f) (p0 t0 n0 : Nat) (hI : MInv k p0 t0 n0) (y d : Int32) : Mi l yX7_weighs wsX7_weighs (rmH 0 0 0) g L f [.ref (a 0), .int y, .int d] (fun r u => r = (match bst k y d t0 with | none => 1 | some b => k 4 b) ∧ u = (L, f)) 0 0 := by
  intro sz
  refine Met.ofW (cc := cX7_weighs) (maxL := 6) (ret := (some .int)) (by decide) rfl ?_
  intro p e s m args below meth c s₁ B hml hv
  obtain ⟨rfl, hv⟩ := hv
  have hx := B.exec
  have hb := B.bytes
  have hr := B.returns
  have hts := atoms_spec (ws := wsX7_weighs) B.pre
  have hown : s.vm.findClass RX7 = some m.cls := findClass_of_methodNamed B.named
  have hlocks := B.notSynchronized
  obtain ⟨rfl, hw, hs⟩ := pm_begin hv
  generalize va_A (va_pl L f) s.heap.size = A at hw hs ⊢
  have CF := (⟨hx, hb, hml, hown, hts⟩ : CallFix p m c cX7_weighs 6 s _ wsX7_weighs RX7)
  have hin_X7 : ∀ w ∈ wsX70, w ∈ wsX7_weighs := by decide +kernel
  have hl := lv_entry ([.ref (a 0), .int y, .int d]) (n := 6) (Nat.le_of_ble_eq_true rfl)
  rw [lg_entry_eq]
  generalize (lg_sl ([.ref (a 0), .int y, .int d]) ++ List.replicate (6 - (lg_sl ([.ref (a 0), .int y, .int d])).length) Slot.unset).toArray = ls at hl ⊢
  have hl : lv_has ls 6 [(0, .ref (a 0)), (1, .int y), (2, .int d)] := hl
  obtain ⟨⟨hp0, ht0, hn0⟩, hpl, htl, hnl⟩ := hI
  refine lv_iconst (v := (-1)) hx hb dX7_weighs_0 (by decide) ?_
  refine lv_istore_n (lv' := [(3, .int (-1)), (0, .ref (a 0)), (1, .int y), (2, .int d)]) hx hb dX7_weighs_1 rfl hl (by decide) rfl (fun ls hl => ?_)
  refine lv_iconst (v := 0) hx hb dX7_weighs_2 (by decide) ?_
  refine lv_istore (lv' := [(4, .int 0), (3, .int (-1)), (0, .ref (a 0)), (1, .int y), (2, .int d)]) hx hb dX7_weighs_3 hl (by decide) rfl (fun ls hl => ?_)
  refine W_loop (σ := Nat × Option Nat) (fun ⟨q, o⟩ H locs ls => (q ≤ t0 ∧ o = bst k y d q) ∧ PW g A s H locs L _ ∧ lv_has ls 6 [(4, .int (nI q)), (3, .int (bI o)), (0, .ref (a 0)), (1, .int y), (2, .int d)]) (fun ⟨q, o⟩ => t0 - q) (0, none) ⟨⟨Nat.zero_le _, rfl⟩, hw, lv_sub hl [0, 1, 2, 3, 4] rfl⟩ ?_
  rintro ⟨q, o⟩ H locs ls ⟨⟨hql, ho⟩, hw, hl⟩ ih_5
  refine lv_iload hx hb dX7_weighs_5 (lv_at hl 0 rfl) ?_
  refine lv_aload_n hx hb dX7_weighs_7 rfl (lv_at hl 2 rfl) ?_
  refine pm_get (ci := 9) (v := .int (k 0 2)) (C := RX7) (T := TX7) (N := 21) hx hb hts hin_X7 hown hw (hk.q (i := 0) (by decide)) (hk.f (i := 0) (by decide)) rfl 4 (by decide) (hts (.fieldLink RX7 77 "BackdaterModel" "tariffs" "I") (by decide +kernel)) (fun _ h9 => h9) rfl dX7_weighs_8 ?_
  refine lv_icmp_ge (tgt := 81) hx hb dX7_weighs_11 (by decide) (fun c_11 => ?_) (fun c_11 => ?_)
  · have hfin : q = t0 := by rw [ht0, nI_leI (by omega) (by omega)] at c_11; omega
    refine lv_iload_n hx hb dX7_weighs_81 rfl (lv_at hl 1 rfl) ?_
    refine lv_if_ge (tgt := 89) hx hb dX7_weighs_82 (by decide) (fun c_82 => ?_) (fun c_82 => ?_)
    · obtain ⟨b, hob⟩ := bI_ge (o := o) (fun h9 => by rw [i32_lt] at h9; rw [i32_le] at c_82; omega)
      have hbq := bst_lt k y d q b (ho ▸ hob)
      refine lv_aload_n hx hb dX7_weighs_89 rfl (lv_at hl 2 rfl) ?_
      refine pm_get (ci := 9) (v := .ref (a 4)) (C := RX7) (T := TX7) (N := 21) hx hb hts hin_X7 hown hw (hk.q (i := 0) (by decide)) (hk.f (i := 0) (by decide)) rfl 6 (by decide) (hts (.fieldLink RX7 19 "BackdaterModel" "weight" "[I") (by decide +kernel)) (fun _ h9 => h9) rfl dX7_weighs_90 ?_
      refine lv_iload_n hx hb dX7_weighs_93 rfl (lv_at hl 1 rfl) ?_
      refine pm_iald (n := 20) (r := (k 4)) hx hb hw (hk.q (i := 4) (by decide)) (hk.f (i := 4) (by decide)) (j := b) (by rw [(show bI o = nI b by rw [hob]; rfl)]; exact nI_clamp (by omega)) (by rw [(show bI o = nI b by rw [hob]; rfl)]; exact vp_in_nI (by omega) (by decide)) dX7_weighs_94 ?_
      exact pr_i (v := ((k 4) b)) hx hb hr hlocks hw rfl ⟨Nat.le_of_ble_eq_true rfl, Nat.le_of_ble_eq_true rfl⟩ (⟨by rw [← hfin, ← ho, hob], rfl⟩) dX7_weighs_95
    · have h82 := c_82
      refine lv_iconst (v := 1) hx hb dX7_weighs_85 (by decide) ?_
      refine lv_goto (tgt := 95) hx hb dX7_weighs_86 (by decide) ?_
      exact pr_i (v := 1) hx hb hr hlocks hw rfl ⟨Nat.le_of_ble_eq_true rfl, Nat.le_of_ble_eq_true rfl⟩ (⟨by rw [← hfin, ← ho, bI_lt (o := o) (by rw [i32_lt]; rw [i32_le] at c_82; omega) (fun b hb => by have := bst_lt k y d q b (ho ▸ hb); omega)], rfl⟩) dX7_weighs_95
  · have hqt : q < t0 := by rw [ht0, nI_leI (by omega) (by omega)] at c_11; omega
    refine lv_aload_n hx hb dX7_weighs_14 rfl (lv_at hl 2 rfl) ?_
    refine pm_get (ci := 9) (v := .ref (a 3)) (C := RX7) (T := TX7) (N := 21) hx hb hts hin_X7 hown hw (hk.q (i := 0) (by decide)) (hk.f (i := 0) (by decide)) rfl 5 (by decide) (hts (.fieldLink RX7 16 "BackdaterModel" "field" "[I") (by decide +kernel)) (fun _ h9 => h9) rfl dX7_weighs_15 ?_
    refine lv_iload hx hb dX7_weighs_18 (lv_at hl 0 rfl) ?_
    refine pm_iald (n := 20) (r := (k 3)) hx hb hw (hk.q (i := 3) (by decide)) (hk.f (i := 3) (by decide)) (j := q) (nI_clamp (by omega)) (vp_in_nI (by omega) (by decide)) dX7_weighs_20 ?_
    refine lv_iload_n hx hb dX7_weighs_21 rfl (lv_at hl 3 rfl) ?_
    refine lv_icmp_ne (tgt := 40) hx hb dX7_weighs_22 (by decide) (fun c_22 => ?_) (fun c_22 => ?_)
    · have hno : ¬ ((k 3 q = y ∧ (k 5 q).toInt ≤ d.toInt) ∧ ∀ b, bst k y d q = some b → (k 5 b).toInt ≤ (k 5 q).toInt) := fun h9 => c_22 h9.1.1
      refine lv_iconst (v := 0) hx hb dX7_weighs_40 (by decide) ?_
      refine lv_istore (lv' := [(5, .int 0), (4, .int (nI q)), (3, .int (bI o)), (0, .ref (a 0)), (1, .int y), (2, .int d)]) hx hb dX7_weighs_41 hl (by decide) rfl (fun ls hl => ?_)
      refine lv_iload hx hb dX7_weighs_43 (lv_at hl 0 rfl) ?_
      refine lv_if_eq (tgt := 73) hx hb dX7_weighs_45 (by decide) (fun c_45 => ?_) (fun c_45 => ?_)
      · refine lv_iload_n hx hb dX7_weighs_73 rfl (lv_at hl 2 rfl) ?_
        refine lv_istore_n (lv' := [(3, .int (bI o)), (5, .int 0), (4, .int (nI q)), (0, .ref (a 0)), (1, .int y), (2, .int d)]) hx hb dX7_weighs_74 rfl hl (by decide) rfl (fun ls hl => ?_)
        refine lv_iinc (v := (nI (q + 1))) (lv' := [(4, .int (nI (q + 1))), (3, .int (bI o)), (5, .int 0), (0, .ref (a 0)), (1, .int y), (2, .int d)]) hx hb dX7_weighs_75 hl (k := 2) rfl (nI_1 q) (by decide) rfl (fun ls hl => ?_)
        refine lv_goto (tgt := 5) hx hb dX7_weighs_78 (by decide) ?_
        exact ih_5 (q + 1, o) _ _ _ (by dsimp only; omega) ⟨⟨by omega, by rw [bst, if_neg hno]; exact ho⟩, hw, lv_sub hl [0, 1, 3, 4, 5] rfl⟩
      · exact absurd rfl c_45
    · refine lv_aload_n hx hb dX7_weighs_25 rfl (lv_at hl 2 rfl) ?_
      refine pm_get (ci := 9) (v := .ref (a 5)) (C := RX7) (T := TX7) (N := 21) hx hb hts hin_X7 hown hw (hk.q (i := 0) (by decide)) (hk.f (i := 0) (by decide)) rfl 7 (by decide) (hts (.fieldLink RX7 22 "BackdaterModel" "since" "[I") (by decide +kernel)) (fun _ h9 => h9) rfl dX7_weighs_26 ?_
      refine lv_iload hx hb dX7_weighs_29 (lv_at hl 0 rfl) ?_
      refine pm_iald (n := 20) (r := (k 5)) hx hb hw (hk.q (i := 5) (by decide)) (hk.f (i := 5) (by decide)) (j := q) (nI_clamp (by omega)) (vp_in_nI (by omega) (by decide)) dX7_weighs_31 ?_
      refine lv_iload_n hx hb dX7_weighs_32 rfl (lv_at hl 4 rfl) ?_
      refine lv_icmp_gt (tgt := 40) hx hb dX7_weighs_33 (by decide) (fun c_33 => ?_) (fun c_33 => ?_)
      · have hno : ¬ ((k 3 q = y ∧ (k 5 q).toInt ≤ d.toInt) ∧ ∀ b, bst k y d q = some b → (k 5 b).toInt ≤ (k 5 q).toInt) := fun h9 => by rw [i32_lt] at c_33; have := h9.1.2; omega
        refine lv_iconst (v := 0) hx hb dX7_weighs_40 (by decide) ?_
        refine lv_istore (lv' := [(5, .int 0), (4, .int (nI q)), (3, .int (bI o)), (0, .ref (a 0)), (1, .int y), (2, .int d)]) hx hb dX7_weighs_41 hl (by decide) rfl (fun ls hl => ?_)
        refine lv_iload hx hb dX7_weighs_43 (lv_at hl 0 rfl) ?_
        refine lv_if_eq (tgt := 73) hx hb dX7_weighs_45 (by decide) (fun c_45 => ?_) (fun c_45 => ?_)
        · refine lv_iload_n hx hb dX7_weighs_73 rfl (lv_at hl 2 rfl) ?_
          refine lv_istore_n (lv' := [(3, .int (bI o)), (5, .int 0), (4, .int (nI q)), (0, .ref (a 0)), (1, .int y), (2, .int d)]) hx hb dX7_weighs_74 rfl hl (by decide) rfl (fun ls hl => ?_)
          refine lv_iinc (v := (nI (q + 1))) (lv' := [(4, .int (nI (q + 1))), (3, .int (bI o)), (5, .int 0), (0, .ref (a 0)), (1, .int y), (2, .int d)]) hx hb dX7_weighs_75 hl (k := 2) rfl (nI_1 q) (by decide) rfl (fun ls hl => ?_)
          refine lv_goto (tgt := 5) hx hb dX7_weighs_78 (by decide) ?_
          exact ih_5 (q + 1, o) _ _ _ (by dsimp only; omega) ⟨⟨by omega, by rw [bst, if_neg hno]; exact ho⟩, hw, lv_sub hl [0, 1, 3, 4, 5] rfl⟩
        · exact absurd rfl c_45
      · have hcan : k 3 q = y ∧ (k 5 q).toInt ≤ d.toInt := ⟨c_22, by rw [i32_lt] at c_33; omega⟩
        refine lv_iconst (v := 1) hx hb dX7_weighs_36 (by decide) ?_
        refine lv_goto (tgt := 41) hx hb dX7_weighs_37 (by decide) ?_
        refine lv_istore (lv' := [(5, .int 1), (4, .int (nI q)), (3, .int (bI o)), (0, .ref (a 0)), (1, .int y), (2, .int d)]) hx hb dX7_weighs_41 hl (by decide) rfl (fun ls hl => ?_)
        refine lv_iload hx hb dX7_weighs_43 (lv_at hl 0 rfl) ?_
        refine lv_if_eq (tgt := 73) hx hb dX7_weighs_45 (by decide) (fun c_45 => ?_) (fun c_45 => ?_)
        · exact absurd c_45 (by decide)
        · refine lv_iload_n hx hb dX7_weighs_48 rfl (lv_at hl 2 rfl) ?_
          refine lv_if_lt (tgt := 68) hx hb dX7_weighs_49 (by decide) (fun c_49 => ?_) (fun c_49 => ?_)
          · have hle9 : ∀ b, bst k y d q = some b → (k 5 b).toInt ≤ (k 5 q).toInt := by
              have h9 := bI_lt c_49 (fun b hb => by have := bst_lt k y d q b (ho ▸ hb); omega)
              rw [ho] at h9
              intro b hb
              rw [h9] at hb
              cases hb
            refine lv_iload hx hb dX7_weighs_68 (lv_at hl 1 rfl) ?_
            refine lv_goto (tgt := 74) hx hb dX7_weighs_70 (by decide) ?_
            refine lv_istore_n (lv' := [(3, .int (nI q)), (5, .int 1), (4, .int (nI q)), (0, .ref (a 0)), (1, .int y), (2, .int d)]) hx hb dX7_weighs_74 rfl hl (by decide) rfl (fun ls hl => ?_)
            refine lv_iinc (v := (nI (q + 1))) (lv' := [(4, .int (nI (q + 1))), (3, .int (nI q)), (5, .int 1), (0, .ref (a 0)), (1, .int y), (2, .int d)]) hx hb dX7_weighs_75 hl (k := 2) rfl (nI_1 q) (by decide) rfl (fun ls hl => ?_)
            refine lv_goto (tgt := 5) hx hb dX7_weighs_78 (by decide) ?_
            exact ih_5 (q + 1, some q) _ _ _ (by dsimp only; omega) ⟨⟨by omega, by rw [bst, if_pos ⟨hcan, hle9⟩]⟩, hw, lv_sub hl [0, 1, 3, 4, 5] rfl⟩
          · obtain ⟨b, hob⟩ := bI_ge c_49
            have hbq := bst_lt k y d q b (ho ▸ hob)
            refine lv_aload_n hx hb dX7_weighs_52 rfl (lv_at hl 3 rfl) ?_
            refine pm_get (ci := 9) (v := .ref (a 5)) (C := RX7) (T := TX7) (N := 21) hx hb hts hin_X7 hown hw (hk.q (i := 0) (by decide)) (hk.f (i := 0) (by decide)) rfl 7 (by decide) (hts (.fieldLink RX7 22 "BackdaterModel" "since" "[I") (by decide +kernel)) (fun _ h9 => h9) rfl dX7_weighs_53 ?_
            refine lv_iload hx hb dX7_weighs_56 (lv_at hl 1 rfl) ?_
            refine pm_iald (n := 20) (r := (k 5)) hx hb hw (hk.q (i := 5) (by decide)) (hk.f (i := 5) (by decide)) (j := q) (nI_clamp (by omega)) (vp_in_nI (by omega) (by decide)) dX7_weighs_58 ?_
            refine lv_aload_n hx hb dX7_weighs_59 rfl (lv_at hl 3 rfl) ?_
            refine pm_get (ci := 9) (v := .ref (a 5)) (C := RX7) (T := TX7) (N := 21) hx hb hts hin_X7 hown hw (hk.q (i := 0) (by decide)) (hk.f (i := 0) (by decide)) rfl 7 (by decide) (hts (.fieldLink RX7 22 "BackdaterModel" "since" "[I") (by decide +kernel)) (fun _ h9 => h9) rfl dX7_weighs_60 ?_
            refine lv_iload_n hx hb dX7_weighs_63 rfl (lv_at hl 2 rfl) ?_
            refine pm_iald (n := 20) (r := (k 5)) hx hb hw (hk.q (i := 5) (by decide)) (hk.f (i := 5) (by decide)) (j := b) (by rw [(show bI o = nI b by rw [hob]; rfl)]; exact nI_clamp (by omega)) (by rw [(show bI o = nI b by rw [hob]; rfl)]; exact vp_in_nI (by omega) (by decide)) dX7_weighs_64 ?_
            refine lv_icmp_lt (tgt := 73) hx hb dX7_weighs_65 (by decide) (fun c_65 => ?_) (fun c_65 => ?_)
            · have hno : ¬ ((k 3 q = y ∧ (k 5 q).toInt ≤ d.toInt) ∧ ∀ b, bst k y d q = some b → (k 5 b).toInt ≤ (k 5 q).toInt) := fun h9 => by rw [i32_lt] at c_65; have := h9.2 b (ho ▸ hob); omega
              refine lv_iload_n hx hb dX7_weighs_73 rfl (lv_at hl 2 rfl) ?_
              refine lv_istore_n (lv' := [(3, .int (bI o)), (5, .int 1), (4, .int (nI q)), (0, .ref (a 0)), (1, .int y), (2, .int d)]) hx hb dX7_weighs_74 rfl hl (by decide) rfl (fun ls hl => ?_)
              refine lv_iinc (v := (nI (q + 1))) (lv' := [(4, .int (nI (q + 1))), (3, .int (bI o)), (5, .int 1), (0, .ref (a 0)), (1, .int y), (2, .int d)]) hx hb dX7_weighs_75 hl (k := 2) rfl (nI_1 q) (by decide) rfl (fun ls hl => ?_)
              refine lv_goto (tgt := 5) hx hb dX7_weighs_78 (by decide) ?_
              exact ih_5 (q + 1, o) _ _ _ (by dsimp only; omega) ⟨⟨by omega, by rw [bst, if_neg hno]; exact ho⟩, hw, lv_sub hl [0, 1, 3, 4, 5] rfl⟩
            · have hle9 : ∀ b, bst k y d q = some b → (k 5 b).toInt ≤ (k 5 q).toInt := by
                intro b9 hb9
                rw [← ho, hob] at hb9
                cases hb9
                rw [i32_lt] at c_65
                omega
              refine lv_iload hx hb dX7_weighs_68 (lv_at hl 1 rfl) ?_
              refine lv_goto (tgt := 74) hx hb dX7_weighs_70 (by decide) ?_
              refine lv_istore_n (lv' := [(3, .int (nI q)), (5, .int 1), (4, .int (nI q)), (0, .ref (a 0)), (1, .int y), (2, .int d)]) hx hb dX7_weighs_74 rfl hl (by decide) rfl (fun ls hl => ?_)
              refine lv_iinc (v := (nI (q + 1))) (lv' := [(4, .int (nI (q + 1))), (3, .int (nI q)), (5, .int 1), (0, .ref (a 0)), (1, .int y), (2, .int d)]) hx hb dX7_weighs_75 hl (k := 2) rfl (nI_1 q) (by decide) rfl (fun ls hl => ?_)
              refine lv_goto (tgt := 5) hx hb dX7_weighs_78 (by decide) ?_
              exact ih_5 (q + 1, some q) _ _ _ (by dsimp only; omega) ⟨⟨by omega, by rw [bst, if_pos ⟨hcan, hle9⟩]⟩, hw, lv_sub hl [0, 1, 3, 4, 5] rfl⟩

end MLEAF2
